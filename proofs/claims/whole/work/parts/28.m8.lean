/-! the reference: cost -/
section M8
variable {sh : ASh} {I : AIn} {P : APt}
def tjH (I : AIn) (m k : Nat) : AIn := va_up (va_up I 0 (upd (I 0) 28 (nI m))) 29 (fun j => if j < k then I 7 j else I 29 j)
theorem l_X11_takeJoins (S : St_m sh P) {n : Nat} (hn : n ≤ 6) : ∀ (m k : Nat), k + m = 5 * n → ∀ H, H = tjH I n k → am_R mX11_takeJoins (po_v (fun sh' I' P' => I' = tjH I n (5 * n) ∧ sh = sh' ∧ P = P')) 0 0 0 0 12 [some (.ref 0), some (.int (nI k))] [] sh H P := by
  intro m
  induction m with
  | zero =>
    intro k hk H hH
    have h28 : H 0 28 = nI n := by rw [hH]; rfl
    refine r_iload_n dX11_takeJoins_12 rfl ?_
    refine r_iconst dX11_takeJoins_13 (v := nI 5) kc_5 ?_
    refine r_aload_n dX11_takeJoins_14 rfl ?_
    refine r_getI dX11_takeJoins_15 g_X11_170 (S.1 _ _ rfl) rfl ?_
    rw [h28]
    first | refine r_imulN dX11_takeJoins_18 ?_ | refine r_imul dX11_takeJoins_18 ?_
    refine r_icmp_geN 40 dX11_takeJoins_19 (by decide) (by omega) (by omega) (fun h19 => ?_) (fun h19 => ?_)
    · refine r_return dX11_takeJoins_40 rfl ?_
      have e : k = 5 * n := by omega
      subst e
      exact ⟨rfl, hH, rfl, rfl⟩
    · exact absurd h19 (by omega)
  | succ m ih =>
    intro k hk H hH
    have h28 : H 0 28 = nI n := by rw [hH]; rfl
    have e29 : H 29 = fun j => if j < k then I 7 j else I 29 j := by rw [hH]; rfl
    have e7 : H 7 k = I 7 k := by rw [hH]; rfl
    refine r_iload_n dX11_takeJoins_12 rfl ?_
    refine r_iconst dX11_takeJoins_13 (v := nI 5) kc_5 ?_
    refine r_aload_n dX11_takeJoins_14 rfl ?_
    refine r_getI dX11_takeJoins_15 g_X11_170 (S.1 _ _ rfl) rfl ?_
    rw [h28]
    first | refine r_imulN dX11_takeJoins_18 ?_ | refine r_imul dX11_takeJoins_18 ?_
    refine r_icmp_geN 40 dX11_takeJoins_19 (by decide) (by omega) (by omega) (fun h19 => ?_) (fun h19 => ?_)
    · exact absurd h19 (by omega)
    · refine r_aload_n dX11_takeJoins_22 rfl ?_
      refine r_getP dX11_takeJoins_23 g_X11_91 (S.1 _ _ rfl) rfl (S.2 _ _ _ rfl) ?_
      refine r_iload_n dX11_takeJoins_26 rfl ?_
      refine r_aload_n dX11_takeJoins_27 rfl ?_
      refine r_getP dX11_takeJoins_28 g_X11_28 (S.1 _ _ rfl) rfl (S.2 _ _ _ rfl) ?_
      refine r_iload_n dX11_takeJoins_31 rfl ?_
      refine r_iaload _ dX11_takeJoins_32 (S.1 _ _ rfl) rfl (by first | decide | omega) (by decide) ?_
      refine r_iastore _ dX11_takeJoins_33 (S.1 _ _ rfl) rfl (by first | decide | omega) (by decide) ?_
      first | refine r_iincN dX11_takeJoins_34 rfl kc_1 ?_ | refine r_iinc dX11_takeJoins_34 rfl rfl ?_
      dsimp only [List.set]
      refine r_goto 12 dX11_takeJoins_37 (by decide) ?_
      refine ih (k + 1) (by omega) _ ?_
      rw [e29, e7, fl0_step, hH, tjH, tjH, bx_uu]
theorem c_X11_takeJoins (S : St_m sh P) (h6 : isN (I 6 0) 6) : am_R mX11_takeJoins (po_v (fun sh' I' P' => I' = tjH I (nj (rs I)) (5 * nj (rs I)) ∧ sh = sh' ∧ P = P')) 0 0 0 0 0 [some (.ref 0), none] [] sh I P := by
  have e6 : I 6 0 = nI (nj (rs I)) := h6.1
  have b6 : nj (rs I) ≤ 6 := h6.2
  refine r_aload_n dX11_takeJoins_0 rfl ?_
  refine r_aload_n dX11_takeJoins_1 rfl ?_
  refine r_getP dX11_takeJoins_2 g_X11_25 (S.1 _ _ rfl) rfl (S.2 _ _ _ rfl) ?_
  refine r_iconst dX11_takeJoins_5 (v := nI 0) kc_0 ?_
  refine r_iaload _ dX11_takeJoins_6 (S.1 _ _ rfl) rfl (by first | decide | omega) (by decide) ?_
  rw [e6]
  refine r_putI dX11_takeJoins_7 f_X11_170 (S.1 _ _ rfl) rfl rfl rfl ?_
  refine r_iconst dX11_takeJoins_10 (v := nI 0) kc_0 ?_
  refine r_istore_n dX11_takeJoins_11 (Nat.le_of_ble_eq_true rfl) ?_
  dsimp only [List.set]
  refine l_X11_takeJoins S b6 (5 * nj (rs I)) 0 (Nat.zero_add _) _ ?_
  funext r
  by_cases hr : r = 29
  · subst hr; funext j; simp [tjH, va_up]
  · simp [tjH, va_up, hr]
theorem fr2_rs {I' : AIn} (h : ∀ r, r ≠ 30 → r ≠ 31 → I' r = I r) : rs I' = rs I ∧ hi I' I := by
  refine ⟨?_, fun r hr => h r (by omega) (by omega)⟩
  funext r
  by_cases h1 : r = 30
  · subst h1; rfl
  · by_cases h2 : r = 31
    · subst h2; rfl
    · unfold rs
      rw [h r h1 h2]
theorem l_X11_costOf (S : St_m sh P) (V : iP (rs I)) {F : Nat → Int32} {m : Nat} {way : Int32} (hF : I 29 = F) (h28 : I 0 28 = nI m) (hR : rOk F m) : ∀ (k q : Nat), q + k = np (rs I) → ∀ H, (∀ r, r ≠ 30 → r ≠ 31 → H r = I r) → am_R mX11_costOf (po_i (fun v sh' I' P' => v = nI (csum (fun p => lsp (rs I) F m p way 0) (np (rs I))) ∧ (∀ r, r ≠ 30 → r ≠ 31 → I' r = I r) ∧ sh = sh' ∧ P = P')) 2 52 0 0 4 [some (.ref 0), some (.int way), some (.int (nI (csum (fun p => lsp (rs I) F m p way 0) q))), some (.int (nI q))] [] sh H P := by
  obtain ⟨e1, b1⟩ := V.np
  have e1 : I 1 0 = nI (np (rs I)) := e1
  intro k
  induction k with
  | zero =>
    intro q hq H hH
    have h1 : H 1 0 = nI (np (rs I)) := by rw [hH 1 (by decide) (by decide)]; exact e1
    refine r_iload_n dX11_costOf_4 rfl ?_
    refine r_aload_n dX11_costOf_5 rfl ?_
    refine r_getP dX11_costOf_6 g_X11_7 (S.1 _ _ rfl) rfl (S.2 _ _ _ rfl) ?_
    refine r_iconst dX11_costOf_9 (v := nI 0) kc_0 ?_
    refine r_iaload _ dX11_costOf_10 (S.1 _ _ rfl) rfl (by first | decide | omega) (by decide) ?_
    rw [h1]
    refine r_icmp_geN 35 dX11_costOf_11 (by decide) (by omega) (by omega) (fun h11 => ?_) (fun h11 => ?_)
    · refine r_iload_n dX11_costOf_35 rfl ?_
      refine r_ireturn dX11_costOf_36 .int rfl rfl ?_
      have e : q = np (rs I) := by omega
      exact ⟨_, rfl, by rw [e], hH, rfl, rfl⟩
    · exact absurd h11 (by omega)
  | succ k ih =>
    intro q hq H hH
    have h1 : H 1 0 = nI (np (rs I)) := by rw [hH 1 (by decide) (by decide)]; exact e1
    have hrs : rs H = rs I := (fr2_rs hH).1
    have hF2 : H 29 = F := by rw [hH 29 (by decide) (by decide)]; exact hF
    have h282 : H 0 28 = nI m := by rw [hH 0 (by decide) (by decide)]; exact h28
    refine r_iload_n dX11_costOf_4 rfl ?_
    refine r_aload_n dX11_costOf_5 rfl ?_
    refine r_getP dX11_costOf_6 g_X11_7 (S.1 _ _ rfl) rfl (S.2 _ _ _ rfl) ?_
    refine r_iconst dX11_costOf_9 (v := nI 0) kc_0 ?_
    refine r_iaload _ dX11_costOf_10 (S.1 _ _ rfl) rfl (by first | decide | omega) (by decide) ?_
    rw [h1]
    refine r_icmp_geN 35 dX11_costOf_11 (by decide) (by omega) (by omega) (fun h11 => ?_) (fun h11 => ?_)
    · exact absurd h11 (by omega)
    · refine r_aload_n dX11_costOf_14 rfl ?_
      refine r_iload_n dX11_costOf_15 rfl ?_
      refine r_iload_n dX11_costOf_16 rfl ?_
      refine r_callV2 (fr' := 1) (lo' := 25) (mc' := 0) (ms' := 0) dX11_costOf_17 mm_X11_findLeast mv_X11_findLeast l_X11_176 (S.1 _ _ rfl) mc_X11_findLeast (by decide) ⟨by decide, by decide⟩ (Nat.zero_le _) (Nat.zero_le _) (Nat.le_of_ble_eq_true rfl) (c_X11_findLeast S (by rw [hrs]; exact V) (by omega) hF2 h282 hR) (am_kv ?_)
      rintro _ _ _ ⟨⟨L, G, rfl, hL, hG⟩, rfl, rfl⟩
      have hG0 := hG 0 (Nat.zero_le _)
      rw [hrs] at hG0
      refine r_iload_n dX11_costOf_20 rfl ?_
      refine r_aload_n dX11_costOf_21 rfl ?_
      refine r_getP dX11_costOf_22 g_X11_98 (S.1 _ _ rfl) rfl (S.2 _ _ _ rfl) ?_
      refine r_iconst dX11_costOf_25 (v := nI 0) kc_0 ?_
      refine r_iaload _ dX11_costOf_26 (S.1 _ _ rfl) rfl (by first | decide | omega) (by decide) ?_
      simp (decide := true) only [va_up_ne, va_up_self]
      rw [hG0]
      first | refine r_iaddN dX11_costOf_27 ?_ | refine r_iadd dX11_costOf_27 ?_
      refine r_istore_n dX11_costOf_28 (Nat.le_of_ble_eq_true rfl) ?_
      dsimp only [List.set]
      first | refine r_iincN dX11_costOf_29 rfl kc_1 ?_ | refine r_iinc dX11_costOf_29 rfl rfl ?_
      dsimp only [List.set]
      refine r_goto 4 dX11_costOf_32 (by decide) ?_
      refine ih (q + 1) (by omega) _ (fun r h30 h31 => ?_)
      rw [va_up_ne _ _ h31, va_up_ne _ _ h30]
      exact hH r h30 h31
theorem c_X11_costOf (S : St_m sh P) (V : iP (rs I)) {F : Nat → Int32} {m : Nat} {way : Int32} (hF : I 29 = F) (h28 : I 0 28 = nI m) (hR : rOk F m) : am_R mX11_costOf (po_i (fun v sh' I' P' => v = nI (csum (fun p => lsp (rs I) F m p way 0) (np (rs I))) ∧ (∀ r, r ≠ 30 → r ≠ 31 → I' r = I r) ∧ sh = sh' ∧ P = P')) 2 52 0 0 0 [some (.ref 0), some (.int way), none, none] [] sh I P := by
  refine r_iconst dX11_costOf_0 (v := nI 0) kc_0 ?_
  refine r_istore_n dX11_costOf_1 (Nat.le_of_ble_eq_true rfl) ?_
  dsimp only [List.set]
  refine r_iconst dX11_costOf_2 (v := nI 0) kc_0 ?_
  refine r_istore_n dX11_costOf_3 (Nat.le_of_ble_eq_true rfl) ?_
  dsimp only [List.set]
  exact l_X11_costOf S V hF h28 hR (np (rs I)) 0 (Nat.zero_add _) I (fun _ _ _ => rfl)
theorem tj_rs (m k : Nat) : rs (tjH I m k) = rs I ∧ hi (tjH I m k) I := by
  unfold tjH
  rw [rs_no rfl, rs_no rfl]
  exact ⟨rfl, hi_up (hi_up (hi_rf _) (by decide)) (by decide)⟩
theorem iJ.rOk {σ : AIn} (h : iJ σ) {F : Nat → Int32} (hF : ∀ j, j < 5 * nj σ → F j = σ 7 j) : rOk F (nj σ) := by
  refine ⟨h.1.2, fun r hr => ?_⟩
  have hO := h.2.1 r hr
  have e : ∀ i, i < 5 → F (5 * r + i) = σ 7 (5 * r + i) := fun i hi => hF _ (by omega)
  have e0 : F (5 * r) = σ 7 (5 * r) := e 0 (by decide)
  obtain ⟨⟨h1, h2⟩, h3, h4⟩ := hO
  have b2 := h2.2
  exact ⟨⟨by rw [e0]; exact h1, by rw [e0]; exact h2⟩, trivial⟩
theorem csum_lsp {σ : AIn} (hJ : iJ σ) {F : Nat → Int32} (hF : ∀ j, j < 5 * nj σ → F j = σ 7 j) (way : Int32) (n : Nat) : csum (fun p => lsp σ F (nj σ) p way 0) n = csum (fun p => lsp σ (σ 7) (nj σ) p way 0) n :=
  csum_congr (fun k _ => lsp_congr (hJ.rOk hF) hF 0 (Nat.zero_le _))
theorem b_X11_cost (S : St_m sh P) (V : Inv (rs I))  (x : Int32): am_R mX11_cost (mpo sh P I (co_res (rs I) (if x = 0 then nI 0 else nI 1)) (rs I)) 3 75 0 0 5 [some (.ref 0), some (.int x)] [] sh I P := by
  obtain ⟨q1, q2⟩ := tj_rs (I := I) (nj (rs I)) (5 * nj (rs I))
  have hF : ∀ j, j < 5 * nj (rs I) → tjH I (nj (rs I)) (5 * nj (rs I)) 29 j = rs I 7 j := fun j hj => by show (if j < 5 * nj (rs I) then I 7 j else I 29 j) = I 7 j; rw [if_pos hj]
  refine r_aload_n dX11_cost_5 rfl ?_
  refine r_callV0 (fr' := 0) (lo' := 0) (mc' := 0) (ms' := 0) dX11_cost_6 mm_X11_takeJoins mv_X11_takeJoins l_X11_180 (S.1 _ _ rfl) mc_X11_takeJoins (by decide) ⟨by decide, by decide⟩ (Nat.zero_le _) (Nat.zero_le _) (Nat.le_of_ble_eq_true rfl) (c_X11_takeJoins S V.2.1.1) (am_kv ?_)
  rintro _ _ _ ⟨rfl, rfl, rfl⟩
  refine r_aload_n dX11_cost_9 rfl ?_
  refine r_iload_n dX11_cost_10 rfl ?_
  refine r_if_eq 18 dX11_cost_11 (by decide) (fun h11 => ?_) (fun h11 => ?_)
  · refine r_iconst dX11_cost_18 (v := nI 0) kc_0 ?_
    refine r_callV1 (fr' := 2) (lo' := 52) (mc' := 0) (ms' := 0) dX11_cost_19 mm_X11_costOf mv_X11_costOf l_X11_208 (S.1 _ _ rfl) mc_X11_costOf (by decide) ⟨by decide, by decide⟩ (Nat.zero_le _) (Nat.zero_le _) (Nat.le_of_ble_eq_true rfl) (c_X11_costOf S (by rw [q1]; exact V.1) (F := tjH I (nj (rs I)) (5 * nj (rs I)) 29) (m := nj (rs I)) rfl rfl (V.2.1.rOk hF)) (am_ki ?_)
    rintro v _ H _ ⟨hv, hH, rfl, rfl⟩
    refine r_ireturn dX11_cost_22 .int rfl rfl ?_
    obtain ⟨q3, q4⟩ := fr2_rs hH
    refine ⟨_, rfl, ?_, q3.trans q1, fun r hr => (q4 r hr).trans (q2 r hr), rfl, rfl⟩
    rw [hv, q1, csum_lsp V.2.1 hF, co_res]
    first | rw [if_pos h11] | rw [if_neg h11]
  · refine r_iconst dX11_cost_14 (v := nI 1) kc_1 ?_
    refine r_goto 19 dX11_cost_15 (by decide) ?_
    refine r_callV1 (fr' := 2) (lo' := 52) (mc' := 0) (ms' := 0) dX11_cost_19 mm_X11_costOf mv_X11_costOf l_X11_208 (S.1 _ _ rfl) mc_X11_costOf (by decide) ⟨by decide, by decide⟩ (Nat.zero_le _) (Nat.zero_le _) (Nat.le_of_ble_eq_true rfl) (c_X11_costOf S (by rw [q1]; exact V.1) (F := tjH I (nj (rs I)) (5 * nj (rs I)) 29) (m := nj (rs I)) rfl rfl (V.2.1.rOk hF)) (am_ki ?_)
    rintro v _ H _ ⟨hv, hH, rfl, rfl⟩
    refine r_ireturn dX11_cost_22 .int rfl rfl ?_
    obtain ⟨q3, q4⟩ := fr2_rs hH
    refine ⟨_, rfl, ?_, q3.trans q1, fun r hr => (q4 r hr).trans (q2 r hr), rfl, rfl⟩
    rw [hv, q1, csum_lsp V.2.1 hF, co_res]
    first | rw [if_pos h11] | rw [if_neg h11]
theorem c_X11_cost (S : St_m sh P) (V : Inv (rs I))  (x : Int32): am_R mX11_cost (mpo sh P I (co_res (rs I) (if x = 0 then nI 0 else nI 1)) (rs I)) 3 75 0 0 0 [some (.ref 0), some (.int x)] [] sh I P := by
  refine r_aload_n dX11_cost_0 rfl ?_
  refine r_iconst dX11_cost_1 (v := nI 0) kc_0 ?_
  refine r_putI dX11_cost_2 f_X11_134 (S.1 _ _ rfl) rfl rfl rfl ?_
  have e : rs (va_up I 0 (upd (I 0) 0 (nI 0))) = rs I := rs_no rfl
  have h := b_X11_cost (I := va_up I 0 (upd (I 0) 0 (nI 0))) S (by rw [e]; exact V) x
  rw [e] at h
  exact mpo_z h
end M8
