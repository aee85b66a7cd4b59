/-! the reference: choose -/
section M25
variable {sh : ASh} {I : AIn} {P : APt}
def chF (I H : AIn) : Prop := ∀ r, r ≠ 0 → r ≠ 29 → r ≠ 30 → r ≠ 31 → r ≠ 36 → r ≠ 37 → r ≠ 41 → r ≠ 42 → H r = I r
theorem chF_up {H : AIn} {r : Nat} {g : Nat → Int32} (h : chF I H) (hr : r = 0 ∨ r = 29 ∨ r = 30 ∨ r = 31 ∨ r = 36 ∨ r = 37 ∨ r = 41 ∨ r = 42) : chF I (va_up H r g) := fun t a b c d e k l m => by
  rw [va_up_ne _ _ (by omega)]
  exact h t a b c d e k l m
theorem chF_rs {H : AIn} (h : chF I H) : rs H = rs I := by
  funext r
  unfold rs
  by_cases hm : mrow r = true
  · rw [if_pos hm, if_pos hm]
    exact h r (by rintro rfl; exact absurd hm (by decide)) (by rintro rfl; exact absurd hm (by decide)) (by rintro rfl; exact absurd hm (by decide)) (by rintro rfl; exact absurd hm (by decide)) (by rintro rfl; exact absurd hm (by decide)) (by rintro rfl; exact absurd hm (by decide)) (by rintro rfl; exact absurd hm (by decide)) (by rintro rfl; exact absurd hm (by decide))
  · rw [if_neg hm, if_neg hm]
theorem chF_hi {H : AIn} (h : chF I H) : hi H I := fun r hr => h r (by omega) (by omega) (by omega) (by omega) (by omega) (by omega) (by omega) (by omega)
def bR (pl n : Nat) (f : Nat → Nat) (s : CS) (H : AIn) : Prop := H 0 39 = nI (pl - s.1) ∧ s.1 ≤ pl ∧ H 0 40 = nI s.2.1 ∧ s.2.1 ≤ 2 ∧ (1 ≤ s.2.1 → ∃ a, a < n ∧ H 41 0 = nI a ∧ f a = s.2.2.1) ∧ (2 ≤ s.2.1 → ∃ b, b < n ∧ H 41 1 = nI b ∧ f b = s.2.2.2)
theorem rwA_at {F : Nat → Int32} {v i : Nat} (h : rwA F 0 v) (hv : wOk v) (hi : i < 5) : (i ≤ lnv v → F i = rwF v i) ∧ (¬ i ≤ lnv v → nI 0 = rwF v i) := by
  unfold rwF
  by_cases h0 : i = 0
  · subst h0
    exact ⟨fun _ => h.1, fun h9 => absurd (Nat.zero_le _) h9⟩
  · rw [if_neg h0]
    refine ⟨fun h1 => ?_, fun h1 => ?_⟩
    · have h2 := h.2 (i - 1) (by omega)
      rw [show 5 * 0 + 1 + (i - 1) = i by omega] at h2
      exact h2
    · rw [hv.dg0 (k := i - 1) (by omega) (by omega)]
theorem fo_stay {α : Type} {f : α → Nat → α} {s : α} {b : Nat} : ∀ (d : Nat), (∀ j, b ≤ j → j < b + d → f (fo f s b) j = fo f s b) → fo f s (b + d) = fo f s b
  | 0, _ => rfl
  | d + 1, h => by
    have ih := fo_stay d (fun j h1 h2 => h j h1 (by omega))
    show f (fo f s (b + d)) (b + d) = _
    rw [ih]
    exact h _ (by omega) (by omega)
def c4F (s : CS) (g : Nat → Int32) (k : Nat) : Nat → Int32 := fun j => if j < k then rw2 s.2.2.1 s.2.2.2 j else g j
theorem c4F_upd {s : CS} {g : Nat → Int32} {k : Nat} : upd (c4F s g k) k (rw2 s.2.2.1 s.2.2.2 k) = c4F s g (k + 1) := by
  funext j
  unfold c4F
  by_cases h : j = k
  · subst h
    rw [pk_us, if_pos (Nat.lt_succ_self j)]
  · rw [pk_un h]
    by_cases h2 : j < k
    · rw [if_pos h2, if_pos (by omega)]
    · rw [if_neg h2, if_neg (by omega)]
theorem l_X11_ch4i (S : St_m sh P) {s : CS} {x1 x2 way x4 : Int32} {x5 : Option Value} {post : APo} {v r : Nat} (hr : r ≤ 1) (hv : wOk v) (hsv : ∀ i, i < 5 → rw2 s.2.2.1 s.2.2.2 (5 * r + i) = rwF v i) {g : Nat → Int32} (hF : rwA (I 29) 0 v) (K : ∀ x7, am_R mX11_choose post 4 99 0 0 380 [some (.ref 0), some (.int x1), some (.int x2), some (.int way), some (.int x4), x5, some (.int (nI r)), x7] [] sh (va_up I 25 (c4F s g (5 * r + 5))) P) : ∀ (m i : Nat), i + m = 5 → am_R mX11_choose post 4 99 0 0 334 [some (.ref 0), some (.int x1), some (.int x2), some (.int way), some (.int x4), x5, some (.int (nI r)), some (.int (nI i))] [] sh (va_up I 25 (c4F s g (5 * r + i))) P := by
  have h29 : I 29 0 = nI (lnv v) := hF.1
  have hln := hv.ln
  intro m
  induction m with
  | zero =>
    intro i hi
    have e : i = 5 := by omega
    subst e
    refine r_iload dX11_choose_334 rfl ?_
    refine r_iconst dX11_choose_336 (v := nI 5) kc_5 ?_
    refine r_icmp_geN 380 dX11_choose_337 (by decide) (by omega) (by omega) (fun h337 => ?_) (fun h337 => ?_)
    · exact K _
    · exact absurd h337 (by omega)
  | succ m ih =>
    intro i hi
    obtain ⟨q1, q2⟩ := rwA_at hF hv (show i < 5 by omega)
    have hs1 := hsv i (by omega)
    have st : am_R mX11_choose post 4 99 0 0 334 [some (.ref 0), some (.int x1), some (.int x2), some (.int way), some (.int x4), x5, some (.int (nI r)), some (.int (nI (i + 1)))] [] sh (va_up I 25 (c4F s g (5 * r + (i + 1)))) P := ih (i + 1) (by omega)
    refine r_iload dX11_choose_334 rfl ?_
    refine r_iconst dX11_choose_336 (v := nI 5) kc_5 ?_
    refine r_icmp_geN 380 dX11_choose_337 (by decide) (by omega) (by omega) (fun h337 => ?_) (fun h337 => ?_)
    · exact absurd h337 (by omega)
    · refine r_aload_n dX11_choose_340 rfl ?_
      refine r_getP dX11_choose_341 g_X11_82 (S.1 _ _ rfl) rfl (S.2 _ _ _ rfl) ?_
      refine r_iconst dX11_choose_344 (v := nI 5) kc_5 ?_
      refine r_iload dX11_choose_345 rfl ?_
      first | refine r_imulN dX11_choose_347 ?_ | refine r_imul dX11_choose_347 ?_
      refine r_iload dX11_choose_348 rfl ?_
      first | refine r_iaddN dX11_choose_350 ?_ | refine r_iadd dX11_choose_350 ?_
      refine r_iload dX11_choose_351 rfl ?_
      refine r_aload_n dX11_choose_353 rfl ?_
      refine r_getP dX11_choose_354 g_X11_91 (S.1 _ _ rfl) rfl (S.2 _ _ _ rfl) ?_
      refine r_iconst dX11_choose_357 (v := nI 0) kc_0 ?_
      refine r_iaload _ dX11_choose_358 (S.1 _ _ rfl) rfl (by first | decide | omega) (by decide) ?_
      simp (decide := true) only [va_up_ne, va_up_self]
      rw [h29]
      refine r_icmp_gtN 372 dX11_choose_359 (by decide) (by omega) (by omega) (fun h359 => ?_) (fun h359 => ?_)
      · rw [show (va_up I 25 (c4F s g (5 * r + i))) = va_up I 25 (c4F s g (5 * r + i)) from rfl]
        refine r_iconst dX11_choose_372 (v := nI 0) kc_0 ?_
        try rw [q2 (by omega)]
        rw [← hs1]
        refine r_iastore (5 * r + i) dX11_choose_373 (S.1 _ _ rfl) rfl (by first | decide | omega) (by decide) ?_
        rw [va_up_self, bx_uu, c4F_upd]
        first | refine r_iincN dX11_choose_374 rfl kc_1 ?_ | refine r_iinc dX11_choose_374 rfl rfl ?_
        dsimp only [List.set]
        refine r_goto 334 dX11_choose_377 (by decide) ?_
        exact st
      · refine r_aload_n dX11_choose_362 rfl ?_
        refine r_getP dX11_choose_363 g_X11_91 (S.1 _ _ rfl) rfl (S.2 _ _ _ rfl) ?_
        refine r_iload dX11_choose_366 rfl ?_
        refine r_iaload _ dX11_choose_368 (S.1 _ _ rfl) rfl (by first | decide | omega) (by decide) ?_
        simp (decide := true) only [va_up_ne, va_up_self]
        rw [q1 (by omega)]
        refine r_goto 373 dX11_choose_369 (by decide) ?_
        try rw [q2 (by omega)]
        rw [← hs1]
        refine r_iastore (5 * r + i) dX11_choose_373 (S.1 _ _ rfl) rfl (by first | decide | omega) (by decide) ?_
        rw [va_up_self, bx_uu, c4F_upd]
        first | refine r_iincN dX11_choose_374 rfl kc_1 ?_ | refine r_iinc dX11_choose_374 rfl rfl ?_
        dsimp only [List.set]
        refine r_goto 334 dX11_choose_377 (by decide) ?_
        exact st
theorem l_X11_ch4 (S : St_m sh P) {s : CS} {x1 x2 way x4 : Int32} {x5 : Option Value} {n : Nat} {f : Nat → Nat} (hn : n ≤ 360) (hW : ∀ j, j < n → wOk (f j)) (hc : s.1 ≤ pl (rs I) way) (hm : s.2.1 ≤ 2) : ∀ (m r : Nat), r + m = s.2.1 → ∀ H x7, chF (va_up (va_up I 24 (upd (I 24) 0 (nI s.2.1))) 25 (c4F s (I 25) (5 * r))) H → fnd H n f → bR (pl (rs I) way) n f s H → am_R mX11_choose (mpo sh P I (nI (pl (rs I) way - s.1)) (ch_row (rs I) s)) 4 99 0 0 305 [some (.ref 0), some (.int x1), some (.int x2), some (.int way), some (.int x4), x5, some (.int (nI r)), x7] [] sh H P := by
  intro m
  induction m with
  | zero =>
    intro r hr H x7 hH hf hB
    have e : r = s.2.1 := by omega
    subst e
    refine r_iload dX11_choose_305 rfl ?_
    refine r_aload_n dX11_choose_307 rfl ?_
    refine r_getI dX11_choose_308 g_X11_223 (S.1 _ _ rfl) rfl ?_
    rw [hB.2.2.1]
    refine r_icmp_geN 386 dX11_choose_311 (by decide) (by omega) (by omega) (fun h311 => ?_) (fun h311 => ?_)
    · refine r_aload_n dX11_choose_386 rfl ?_
      refine r_getI dX11_choose_387 g_X11_220 (S.1 _ _ rfl) rfl ?_
      rw [hB.1]
      refine r_ireturn dX11_choose_390 .int rfl rfl ?_
      refine ⟨_, rfl, rfl, ?_, fun r hr => ?_, rfl, rfl⟩
      · rw [chF_rs hH, rs_up rfl, rs_up rfl]
        rfl
      · rw [chF_hi hH r hr, va_up_ne _ _ (by omega), va_up_ne _ _ (by omega)]
    · exact absurd h311 (by omega)
  | succ m ih =>
    intro r hr H x7 hH hf hB
    obtain ⟨b, hbn, hb41, hbv⟩ : ∃ b, b < n ∧ H 41 r = nI b ∧ ∀ i, i < 5 → rw2 s.2.2.1 s.2.2.2 (5 * r + i) = rwF (f b) i := by
      have hr2 : r = 0 ∨ r = 1 := by omega
      rcases hr2 with rfl | rfl
      · obtain ⟨a, h1, h2, h3⟩ := hB.2.2.2.2.1 (by omega)
        refine ⟨a, h1, h2, fun i hi => ?_⟩
        rw [h3]
        show (if 5 * 0 + i < 5 then rwF s.2.2.1 (5 * 0 + i) else _) = _
        rw [if_pos (by omega), show 5 * 0 + i = i by omega]
      · obtain ⟨a, h1, h2, h3⟩ := hB.2.2.2.2.2 (by omega)
        refine ⟨a, h1, h2, fun i hi => ?_⟩
        rw [h3]
        show (if 5 * 1 + i < 5 then _ else rwF s.2.2.2 (5 * 1 + i - 5)) = _
        rw [if_neg (by omega), show 5 * 1 + i - 5 = i by omega]
    have ef := hf.2.1 b hbn
    have hwb := hW b hbn
    have hlt := hwb.lt
    obtain ⟨t1, t2⟩ := tr_rw (a := 0) hwb (H 29)
    have e25 : H 25 = c4F s (I 25) (5 * r) := hH 25 (by decide) (by decide) (by decide) (by decide) (by decide) (by decide) (by decide) (by decide)
    refine r_iload dX11_choose_305 rfl ?_
    refine r_aload_n dX11_choose_307 rfl ?_
    refine r_getI dX11_choose_308 g_X11_223 (S.1 _ _ rfl) rfl ?_
    rw [hB.2.2.1]
    refine r_icmp_geN 386 dX11_choose_311 (by decide) (by omega) (by omega) (fun h311 => ?_) (fun h311 => ?_)
    · exact absurd h311 (by omega)
    · refine r_aload_n dX11_choose_314 rfl ?_
      refine r_iconst dX11_choose_315 (v := nI 0) kc_0 ?_
      refine r_aload_n dX11_choose_316 rfl ?_
      refine r_getP dX11_choose_317 g_X11_113 (S.1 _ _ rfl) rfl (S.2 _ _ _ rfl) ?_
      refine r_aload_n dX11_choose_320 rfl ?_
      refine r_getP dX11_choose_321 g_X11_119 (S.1 _ _ rfl) rfl (S.2 _ _ _ rfl) ?_
      refine r_iload dX11_choose_324 rfl ?_
      refine r_iaload _ dX11_choose_326 (S.1 _ _ rfl) rfl (by first | decide | omega) (by decide) ?_
      rw [hb41]
      refine r_iaload _ dX11_choose_327 (S.1 _ _ rfl) rfl (by first | decide | omega) (by decide) ?_
      rw [ef]
      refine r_callV2 (fr' := 0) (lo' := 0) (mc' := 0) (ms' := 0) dX11_choose_328 mm_X11_tryRow mv_X11_tryRow l_X11_217 (S.1 _ _ rfl) mc_X11_tryRow (by decide) ⟨by decide, by decide⟩ (Nat.zero_le _) (Nat.zero_le _) (Nat.le_of_ble_eq_true rfl) (c_X11_tryRow S (by decide) (by omega)) (am_kv ?_)
      rintro _ _ _ ⟨rfl, rfl, rfl⟩
      refine r_iconst dX11_choose_331 (v := nI 0) kc_0 ?_
      refine r_istore dX11_choose_332 (Nat.le_of_ble_eq_true rfl) ?_
      dsimp only [List.set]
      have e9 : va_up H 29 (upd (trR 0 (f b) (H 29)).2.2 (5 * 0) (nI (trR 0 (f b) (H 29)).1)) = va_up (va_up H 29 (upd (trR 0 (f b) (H 29)).2.2 (5 * 0) (nI (trR 0 (f b) (H 29)).1))) 25 (c4F s (I 25) (5 * r + 0)) := up_id 25 _ (by rw [va_up_ne _ _ (by decide)]; exact e25.symm)
      have h9 := l_X11_ch4i (I := va_up H 29 (upd (trR 0 (f b) (H 29)).2.2 (5 * 0) (nI (trR 0 (f b) (H 29)).1))) (s := s) (x1 := x1) (x2 := x2) (way := way) (x4 := x4) (x5 := x5) (g := I 25) (post := (mpo sh P I (nI (pl (rs I) way - s.1)) (ch_row (rs I) s))) S (show r ≤ 1 by omega) hwb hbv (by rw [va_up_self]; exact t1) (fun y7 => ?_) 5 0 rfl
      · rw [← e9] at h9
        exact h9
      · refine r_iincN dX11_choose_380 rfl kc_1 ?_
        dsimp only [List.set]
        refine r_goto 305 dX11_choose_383 (by decide) ?_
        refine ih (r + 1) (by omega) _ _ (fun t a b2 c d e k l m2 => ?_) ⟨hf.1, hf.2.1, hf.2.2⟩ ⟨hB.1, hB.2.1, hB.2.2.1, hB.2.2.2.1, hB.2.2.2.2.1, hB.2.2.2.2.2⟩
        by_cases h25 : t = 25
        · subst h25; rw [va_up_self, va_up_self]; rfl
        · rw [va_up_ne _ _ h25, va_up_ne _ _ b2, va_up_ne _ _ h25, hH t a b2 c d e k l m2, va_up_ne _ _ h25]
theorem l_X11_ch4s (S : St_m sh P) {s : CS} {x1 x2 way x4 : Int32} {x5 x6 x7 : Option Value} {n : Nat} {f : Nat → Nat} (hn : n ≤ 360) (hW : ∀ j, j < n → wOk (f j)) (H : AIn) (hH : chF I H) (hf : fnd H n f) (hB : bR (pl (rs I) way) n f s H) : am_R mX11_choose (mpo sh P I (nI (pl (rs I) way - s.1)) (ch_row (rs I) s)) 4 99 0 0 292 [some (.ref 0), some (.int x1), some (.int x2), some (.int way), some (.int x4), x5, x6, x7] [] sh H P := by
  refine r_aload_n dX11_choose_292 rfl ?_
  refine r_getP dX11_choose_293 g_X11_79 (S.1 _ _ rfl) rfl (S.2 _ _ _ rfl) ?_
  refine r_iconst dX11_choose_296 (v := nI 0) kc_0 ?_
  refine r_aload_n dX11_choose_297 rfl ?_
  refine r_getI dX11_choose_298 g_X11_223 (S.1 _ _ rfl) rfl ?_
  rw [hB.2.2.1]
  refine r_iastore 0 dX11_choose_301 (S.1 _ _ rfl) rfl (by first | decide | omega) (by decide) ?_
  refine r_iconst dX11_choose_302 (v := nI 0) kc_0 ?_
  refine r_istore dX11_choose_303 (Nat.le_of_ble_eq_true rfl) ?_
  dsimp only [List.set]
  refine l_X11_ch4 S hn hW hB.2.1 hB.2.2.2.1 s.2.1 0 (Nat.zero_add _) _ _ (fun t a b2 c d e k l m2 => ?_) ⟨hf.1, hf.2.1, hf.2.2⟩ ⟨hB.1, hB.2.1, hB.2.2.1, hB.2.2.2.1, hB.2.2.2.2.1, hB.2.2.2.2.2⟩
  have e24 : H 24 = I 24 := hH 24 (by decide) (by decide) (by decide) (by decide) (by decide) (by decide) (by decide) (by decide)
  by_cases h25 : t = 25
  · subst h25; rw [va_up_self, va_up_ne _ _ (by decide), hH 25 a b2 c d e k l m2]; funext j; unfold c4F; rw [if_neg (by omega)]
  · rw [va_up_ne _ _ h25]
    by_cases h24 : t = 24
    · subst h24; rw [va_up_self, va_up_self, e24]
    · rw [va_up_ne _ _ h24, va_up_ne _ _ h24, hH t a b2 c d e k l m2]
end M25
