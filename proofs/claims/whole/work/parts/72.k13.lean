/-! the class: one order of a run -/
def mcR (s : MS) (H : AIn) : Prop := (H 130 4 = nI s.1 ∧ H 130 6 = nI s.2.1) ∧ (∀ k, k < s.1 → H 131 k = s.2.2.1 k) ∧ (∀ k, k < s.2.1 → H 132 k = s.2.2.2.1 k) ∧ ∀ k, k < 8 → H 133 k = s.2.2.2.2 k
def mF (I H : AIn) : Prop := (∀ r, r ≠ 130 → r ≠ 131 → r ≠ 132 → r ≠ 133 → H r = I r) ∧ ∀ f, f ≠ 4 → f ≠ 6 → H 130 f = I 130 f
theorem mF_rf (I : AIn) : mF I I := ⟨fun _ _ _ _ _ => rfl, fun _ _ _ => rfl⟩
theorem mF.tr {I H J : AIn} (h : mF I H) (g : mF H J) : mF I J := ⟨fun r a b c d => by rw [g.1 r a b c d]; exact h.1 r a b c d, fun f a b => by rw [g.2 f a b]; exact h.2 f a b⟩
section K13
variable {sh : ASh} {I σ : AIn} {P : APt}
def mvP (sh : ASh) (P : APt) (I : AIn) (s : MS) : APo := po_v (fun sh' I' P' => mF I I' ∧ mcR s I' ∧ sh = sh' ∧ P = P')
theorem mcR_sh {s : MS} (h : mcR s I) (x : Int32) : mcR (psh s x) (va_up (va_up I 131 (upd (I 131) s.1 x)) 130 (upd (I 130) 4 (nI (s.1 + 1)))) := by
  obtain ⟨⟨a1, a2⟩, b, c, d⟩ := h
  refine ⟨⟨?_, ?_⟩, fun k hk => ?_, fun k hk => ?_, fun k hk => ?_⟩
  · rw [va_up_self]; exact pk_us
  · rw [va_up_self, pk_un (by decide)]; exact a2
  · have hk : k < s.1 + 1 := hk
    rw [va_up_ne _ _ (by decide), va_up_self]
    show _ = upd s.2.2.1 s.1 x k
    by_cases e : k = s.1
    · rw [e, pk_us, pk_us]
    · rw [pk_un e, pk_un e]; exact b k (by omega)
  · rw [va_up_ne _ _ (by decide), va_up_ne _ _ (by decide)]; exact c k hk
  · rw [va_up_ne _ _ (by decide), va_up_ne _ _ (by decide)]; exact d k hk
theorem mcR_pd {s : MS} (h : mcR s I) : mcR (ppd s) (va_up I 130 (upd (I 130) 4 (nI (s.1 - 1)))) := by
  obtain ⟨⟨a1, a2⟩, b, c, d⟩ := h
  refine ⟨⟨?_, ?_⟩, fun k hk => ?_, fun k hk => ?_, fun k hk => ?_⟩
  · rw [va_up_self]; exact pk_us
  · rw [va_up_self, pk_un (by decide)]; exact a2
  · have hk : k < s.1 - 1 := hk
    rw [va_up_ne _ _ (by decide)]; exact b k (by omega)
  · rw [va_up_ne _ _ (by decide)]; exact c k hk
  · rw [va_up_ne _ _ (by decide)]; exact d k hk
theorem mcR_sr {s : MS} (h : mcR s I) (i : Nat) (v : Int32) : mcR (sreg s i v) (va_up I 133 (upd (I 133) i v)) := by
  obtain ⟨⟨a1, a2⟩, b, c, d⟩ := h
  refine ⟨⟨?_, ?_⟩, fun k hk => ?_, fun k hk => ?_, fun k hk => ?_⟩
  · rw [va_up_ne _ _ (by decide)]; exact a1
  · rw [va_up_ne _ _ (by decide)]; exact a2
  · rw [va_up_ne _ _ (by decide)]; exact b k hk
  · rw [va_up_ne _ _ (by decide)]; exact c k hk
  · rw [va_up_self]
    show _ = upd s.2.2.2.2 i v k
    by_cases e : k = i
    · rw [e, pk_us, pk_us]
    · rw [pk_un e, pk_un e]; exact d k hk
theorem mcR_so {s : MS} (h : mcR s I) (v : Int32) : mcR (sout s v) (va_up (va_up I 132 (upd (I 132) s.2.1 v)) 130 (upd (I 130) 6 (nI (s.2.1 + 1)))) := by
  obtain ⟨⟨a1, a2⟩, b, c, d⟩ := h
  refine ⟨⟨?_, ?_⟩, fun k hk => ?_, fun k hk => ?_, fun k hk => ?_⟩
  · rw [va_up_self, pk_un (by decide)]; exact a1
  · rw [va_up_self]; exact pk_us
  · rw [va_up_ne _ _ (by decide), va_up_ne _ _ (by decide)]; exact b k hk
  · have hk : k < s.2.1 + 1 := hk
    rw [va_up_ne _ _ (by decide), va_up_self]
    show _ = upd s.2.2.2.1 s.2.1 v k
    by_cases e : k = s.2.1
    · rw [e, pk_us, pk_us]
    · rw [pk_un e, pk_un e]; exact c k (by omega)
  · rw [va_up_ne _ _ (by decide), va_up_ne _ _ (by decide)]; exact d k hk
theorem mF_30 {f : Nat} {x : Int32} (hf : f = 4 ∨ f = 6) : mF I (va_up I 130 (upd (I 130) f x)) := ⟨fun r a _ _ _ => va_up_ne _ _ a, fun g a b => by rw [va_up_self, pk_un (by omega)]⟩
theorem mF_31 {r : Nat} {g : Nat → Int32} (hr : r = 131 ∨ r = 132 ∨ r = 133) : mF I (va_up I r g) := ⟨fun t a b c d => va_up_ne _ _ (by omega), fun f _ _ => by rw [va_up_ne _ _ (by omega)]⟩
theorem c_X6_lay (S : St_c sh P) {s : MS} (h : mcR s I) (hs : s.1 < 24) (x : Int32) : am_R mX6_lay (mvP sh P I (psh s x)) 0 0 0 0 0 [some (.ref 130), some (.int x)] [] sh I P := by
  have h4 := h.1.1
  refine r_aload_n dX6_lay_0 rfl ?_
  refine r_getP dX6_lay_1 g_X6_9 (by first | assumption | exact S.1 _ _ rfl) rfl (by first | assumption | exact S.2 _ _ _ rfl) ?_
  refine r_aload_n dX6_lay_4 rfl ?_
  refine r_getI dX6_lay_5 g_X6_55 (by first | assumption | exact S.1 _ _ rfl) rfl ?_
  rw [h4]
  refine r_iload_n dX6_lay_8 rfl ?_
  refine r_iastore s.1 dX6_lay_9 (by first | assumption | exact S.1 _ _ rfl) rfl (by first | decide | omega) (by decide) ?_
  refine r_aload_n dX6_lay_10 rfl ?_
  refine r_dup dX6_lay_11 ?_
  refine r_getI dX6_lay_12 g_X6_55 (by first | assumption | exact S.1 _ _ rfl) rfl ?_
  rw [va_up_ne _ _ (by decide), h4]
  refine r_iconst dX6_lay_15 (v := nI 1) kc_1 ?_
  first | refine r_iaddN dX6_lay_16 ?_ | refine r_iadd dX6_lay_16 ?_
  refine r_putI dX6_lay_17 f_X6_55 (by first | assumption | exact S.1 _ _ rfl) rfl rfl rfl ?_
  rw [va_up_ne (k := 131) (j := 130) _ _ (by decide)]
  refine r_return dX6_lay_20 rfl ?_
  refine ⟨rfl, ⟨fun r a b c d => ?_, fun f a b => ?_⟩, mcR_sh h x, rfl, rfl⟩
  · rw [va_up_ne _ _ a, va_up_ne _ _ b]
  · rw [va_up_self, pk_un a]
theorem c_X6_lift (S : St_c sh P) {s : MS} (h : mcR s I) (hs : 1 ≤ s.1) (hs2 : s.1 ≤ 24) : am_R mX6_lift (po_i (fun v sh' I' P' => v = mtop s ∧ mF I I' ∧ mcR (ppd s) I' ∧ sh = sh' ∧ P = P')) 0 0 0 0 0 [some (.ref 130)] [] sh I P := by
  have h4 := h.1.1
  have ht : I 131 (s.1 - 1) = mtop s := h.2.1 (s.1 - 1) (by omega)
  refine r_aload_n dX6_lift_0 rfl ?_
  refine r_dup dX6_lift_1 ?_
  refine r_getI dX6_lift_2 g_X6_55 (by first | assumption | exact S.1 _ _ rfl) rfl ?_
  rw [h4]
  refine r_iconst dX6_lift_5 (v := nI 1) kc_1 ?_
  first | refine r_isubN dX6_lift_6 (by omega) ?_ | refine r_isub dX6_lift_6 ?_
  refine r_putI dX6_lift_7 f_X6_55 (by first | assumption | exact S.1 _ _ rfl) rfl rfl rfl ?_
  refine r_aload_n dX6_lift_10 rfl ?_
  refine r_getP dX6_lift_11 g_X6_9 (by first | assumption | exact S.1 _ _ rfl) rfl (by first | assumption | exact S.2 _ _ _ rfl) ?_
  refine r_aload_n dX6_lift_14 rfl ?_
  refine r_getI dX6_lift_15 g_X6_55 (by first | assumption | exact S.1 _ _ rfl) rfl ?_
  rw [va_up_self, pk_us]
  refine r_iaload (s.1 - 1) dX6_lift_18 (by first | assumption | exact S.1 _ _ rfl) rfl (by first | decide | omega) (by decide) ?_
  rw [va_up_ne _ _ (by decide), ht]
  refine r_ireturn dX6_lift_19 .int rfl rfl ?_
  exact ⟨_, rfl, rfl, mF_30 (Or.inl rfl), mcR_pd h, rfl, rfl⟩
theorem c_X6_layOneForTwo (S : St_c sh P) {s : MS} (h : mcR s I) (hs : 2 ≤ s.1) (hs2 : s.1 ≤ 24) {k : Nat} (hk : k = 1 ∨ k = 2 ∨ k = 3 ∨ k = 11) : am_R mX6_layOneForTwo (mvP sh P I (psh (ppd (ppd s)) (wk k (mtop (ppd s)) (mtop s)))) 1 21 0 0 0 [some (.ref 130), some (.int (nI k)), none, none] [] sh I P := by
  have g1 : 1 ≤ (ppd s).1 := by show 1 ≤ s.1 - 1; omega
  have g2 : (ppd s).1 ≤ 24 := by show s.1 - 1 ≤ 24; omega
  have g3 : (ppd (ppd s)).1 < 24 := by show s.1 - 1 - 1 < 24; omega
  refine r_aload_n dX6_layOneForTwo_0 rfl ?_
  refine r_callV0 (fr' := 0) (lo' := 0) (mc' := 0) (ms' := 0) dX6_layOneForTwo_1 mm_X6_lift mv_X6_lift l_X6_101 (by first | assumption | exact S.1 _ _ rfl) mc_X6_lift (by decide) ⟨by decide, by decide⟩ (Nat.zero_le _) (Nat.zero_le _) (Nat.le_of_ble_eq_true rfl) (c_X6_lift S h (by omega) hs2) (am_ki ?_)
  rintro v1 _ H1 _ ⟨rfl, f1, m1, rfl, rfl⟩
  refine r_istore_n dX6_layOneForTwo_4 (Nat.le_of_ble_eq_true rfl) ?_
  dsimp only [List.set]
  refine r_aload_n dX6_layOneForTwo_5 rfl ?_
  refine r_callV0 (fr' := 0) (lo' := 0) (mc' := 0) (ms' := 0) dX6_layOneForTwo_6 mm_X6_lift mv_X6_lift l_X6_101 (by first | assumption | exact S.1 _ _ rfl) mc_X6_lift (by decide) ⟨by decide, by decide⟩ (Nat.zero_le _) (Nat.zero_le _) (Nat.le_of_ble_eq_true rfl) (c_X6_lift S m1 g1 g2) (am_ki ?_)
  rintro v6 _ H2 _ ⟨rfl, f2, m2, rfl, rfl⟩
  refine r_istore_n dX6_layOneForTwo_9 (Nat.le_of_ble_eq_true rfl) ?_
  dsimp only [List.set]
  refine r_iload_n dX6_layOneForTwo_10 rfl ?_
  rcases hk with rfl | rfl | rfl | rfl
  · refine r_tabIn (off := 25) 36 dX6_layOneForTwo_11 (by decide) (by decide) (by decide) (by decide) ?_
    refine r_aload_n dX6_layOneForTwo_36 rfl ?_
    refine r_iload_n dX6_layOneForTwo_37 rfl ?_
    refine r_iload_n dX6_layOneForTwo_38 rfl ?_
    refine r_iadd dX6_layOneForTwo_39 ?_
    refine r_callV1 (fr' := 0) (lo' := 0) (mc' := 0) (ms' := 0) dX6_layOneForTwo_40 mm_X6_lay mv_X6_lay l_X6_91 (by first | assumption | exact S.1 _ _ rfl) mc_X6_lay (by decide) ⟨by decide, by decide⟩ (Nat.zero_le _) (Nat.zero_le _) (Nat.le_of_ble_eq_true rfl) (c_X6_lay S m2 g3 _) (am_kv ?_)
    rintro _ H3 _ ⟨f3, m3, rfl, rfl⟩
    refine r_goto 80 dX6_layOneForTwo_43 (by decide) ?_
    refine r_return dX6_layOneForTwo_80 rfl ?_
    exact ⟨rfl, (f1.tr f2).tr f3, m3, rfl, rfl⟩
  · refine r_tabIn (off := 35) 46 dX6_layOneForTwo_11 (by decide) (by decide) (by decide) (by decide) ?_
    refine r_aload_n dX6_layOneForTwo_46 rfl ?_
    refine r_iload_n dX6_layOneForTwo_47 rfl ?_
    refine r_iload_n dX6_layOneForTwo_48 rfl ?_
    refine r_isub dX6_layOneForTwo_49 ?_
    refine r_callV1 (fr' := 0) (lo' := 0) (mc' := 0) (ms' := 0) dX6_layOneForTwo_50 mm_X6_lay mv_X6_lay l_X6_91 (by first | assumption | exact S.1 _ _ rfl) mc_X6_lay (by decide) ⟨by decide, by decide⟩ (Nat.zero_le _) (Nat.zero_le _) (Nat.le_of_ble_eq_true rfl) (c_X6_lay S m2 g3 _) (am_kv ?_)
    rintro _ H3 _ ⟨f3, m3, rfl, rfl⟩
    refine r_goto 80 dX6_layOneForTwo_53 (by decide) ?_
    refine r_return dX6_layOneForTwo_80 rfl ?_
    exact ⟨rfl, (f1.tr f2).tr f3, m3, rfl, rfl⟩
  · refine r_tabIn (off := 45) 56 dX6_layOneForTwo_11 (by decide) (by decide) (by decide) (by decide) ?_
    refine r_aload_n dX6_layOneForTwo_56 rfl ?_
    refine r_iload_n dX6_layOneForTwo_57 rfl ?_
    refine r_iload_n dX6_layOneForTwo_58 rfl ?_
    refine r_imul dX6_layOneForTwo_59 ?_
    refine r_callV1 (fr' := 0) (lo' := 0) (mc' := 0) (ms' := 0) dX6_layOneForTwo_60 mm_X6_lay mv_X6_lay l_X6_91 (by first | assumption | exact S.1 _ _ rfl) mc_X6_lay (by decide) ⟨by decide, by decide⟩ (Nat.zero_le _) (Nat.zero_le _) (Nat.le_of_ble_eq_true rfl) (c_X6_lay S m2 g3 _) (am_kv ?_)
    rintro _ H3 _ ⟨f3, m3, rfl, rfl⟩
    refine r_goto 80 dX6_layOneForTwo_63 (by decide) ?_
    refine r_return dX6_layOneForTwo_80 rfl ?_
    exact ⟨rfl, (f1.tr f2).tr f3, m3, rfl, rfl⟩
  · refine r_tabOut 66 dX6_layOneForTwo_11 (by decide) (by decide) ?_
    refine r_aload_n dX6_layOneForTwo_66 rfl ?_
    refine r_iload_n dX6_layOneForTwo_67 rfl ?_
    refine r_iload_n dX6_layOneForTwo_68 rfl ?_
    refine r_icmp_ge 76 dX6_layOneForTwo_69 (by decide) (fun h69 => ?_) (fun h69 => ?_)
    · have e9 : wk 11 (mtop (ppd s)) (mtop s) = nI 0 := if_neg (Int32.not_lt.mpr h69)
      rw [e9]
      refine r_iconst dX6_layOneForTwo_76 (v := nI 0) kc_0 ?_
      refine r_callV1 (fr' := 0) (lo' := 0) (mc' := 0) (ms' := 0) dX6_layOneForTwo_77 mm_X6_lay mv_X6_lay l_X6_91 (by first | assumption | exact S.1 _ _ rfl) mc_X6_lay (by decide) ⟨by decide, by decide⟩ (Nat.zero_le _) (Nat.zero_le _) (Nat.le_of_ble_eq_true rfl) (c_X6_lay S m2 g3 _) (am_kv ?_)
      rintro _ H3 _ ⟨f3, m3, rfl, rfl⟩
      refine r_return dX6_layOneForTwo_80 rfl ?_
      exact ⟨rfl, (f1.tr f2).tr f3, m3, rfl, rfl⟩
    · have e9 : wk 11 (mtop (ppd s)) (mtop s) = nI 1 := if_pos (Int32.not_le.mp h69)
      rw [e9]
      refine r_iconst dX6_layOneForTwo_72 (v := nI 1) kc_1 ?_
      refine r_goto 77 dX6_layOneForTwo_73 (by decide) ?_
      refine r_callV1 (fr' := 0) (lo' := 0) (mc' := 0) (ms' := 0) dX6_layOneForTwo_77 mm_X6_lay mv_X6_lay l_X6_91 (by first | assumption | exact S.1 _ _ rfl) mc_X6_lay (by decide) ⟨by decide, by decide⟩ (Nat.zero_le _) (Nat.zero_le _) (Nat.le_of_ble_eq_true rfl) (c_X6_lay S m2 g3 _) (am_kv ?_)
      rintro _ H3 _ ⟨f3, m3, rfl, rfl⟩
      refine r_return dX6_layOneForTwo_80 rfl ?_
      exact ⟨rfl, (f1.tr f2).tr f3, m3, rfl, rfl⟩
theorem c_X6_turnUpperTwo (S : St_c sh P) {s : MS} (h : mcR s I) (hs : 2 ≤ s.1) (hs2 : s.1 ≤ 24) : am_R mX6_turnUpperTwo (mvP sh P I (psh (psh (ppd (ppd s)) (mtop s)) (mtop (ppd s)))) 1 21 0 0 0 [some (.ref 130), none, none] [] sh I P := by
  have g1 : 1 ≤ (ppd s).1 := by show 1 ≤ s.1 - 1; omega
  have g2 : (ppd s).1 ≤ 24 := by show s.1 - 1 ≤ 24; omega
  have g3 : (ppd (ppd s)).1 < 24 := by show s.1 - 1 - 1 < 24; omega
  have g4 : (psh (ppd (ppd s)) (mtop s)).1 < 24 := by show s.1 - 1 - 1 + 1 < 24; omega
  refine r_aload_n dX6_turnUpperTwo_0 rfl ?_
  refine r_callV0 (fr' := 0) (lo' := 0) (mc' := 0) (ms' := 0) dX6_turnUpperTwo_1 mm_X6_lift mv_X6_lift l_X6_101 (by first | assumption | exact S.1 _ _ rfl) mc_X6_lift (by decide) ⟨by decide, by decide⟩ (Nat.zero_le _) (Nat.zero_le _) (Nat.le_of_ble_eq_true rfl) (c_X6_lift S h (by omega) hs2) (am_ki ?_)
  rintro v1 _ H1 _ ⟨rfl, f1, m1, rfl, rfl⟩
  refine r_istore_n dX6_turnUpperTwo_4 (Nat.le_of_ble_eq_true rfl) ?_
  dsimp only [List.set]
  refine r_aload_n dX6_turnUpperTwo_5 rfl ?_
  refine r_callV0 (fr' := 0) (lo' := 0) (mc' := 0) (ms' := 0) dX6_turnUpperTwo_6 mm_X6_lift mv_X6_lift l_X6_101 (by first | assumption | exact S.1 _ _ rfl) mc_X6_lift (by decide) ⟨by decide, by decide⟩ (Nat.zero_le _) (Nat.zero_le _) (Nat.le_of_ble_eq_true rfl) (c_X6_lift S m1 g1 g2) (am_ki ?_)
  rintro v6 _ H2 _ ⟨rfl, f2, m2, rfl, rfl⟩
  refine r_istore_n dX6_turnUpperTwo_9 (Nat.le_of_ble_eq_true rfl) ?_
  dsimp only [List.set]
  refine r_aload_n dX6_turnUpperTwo_10 rfl ?_
  refine r_iload_n dX6_turnUpperTwo_11 rfl ?_
  refine r_callV1 (fr' := 0) (lo' := 0) (mc' := 0) (ms' := 0) dX6_turnUpperTwo_12 mm_X6_lay mv_X6_lay l_X6_91 (by first | assumption | exact S.1 _ _ rfl) mc_X6_lay (by decide) ⟨by decide, by decide⟩ (Nat.zero_le _) (Nat.zero_le _) (Nat.le_of_ble_eq_true rfl) (c_X6_lay S m2 g3 _) (am_kv ?_)
  rintro _ H3 _ ⟨f3, m3, rfl, rfl⟩
  refine r_aload_n dX6_turnUpperTwo_15 rfl ?_
  refine r_iload_n dX6_turnUpperTwo_16 rfl ?_
  refine r_callV1 (fr' := 0) (lo' := 0) (mc' := 0) (ms' := 0) dX6_turnUpperTwo_17 mm_X6_lay mv_X6_lay l_X6_91 (by first | assumption | exact S.1 _ _ rfl) mc_X6_lay (by decide) ⟨by decide, by decide⟩ (Nat.zero_le _) (Nat.zero_le _) (Nat.le_of_ble_eq_true rfl) (c_X6_lay S m3 g4 _) (am_kv ?_)
  rintro _ H4 _ ⟨f4, m4, rfl, rfl⟩
  refine r_return dX6_turnUpperTwo_20 rfl ?_
  exact ⟨rfl, ((f1.tr f2).tr f3).tr f4, m4, rfl, rfl⟩
def coP (sh : ASh) (P : APt) (I : AIn) (r : Nat × MS) : APo := po_v (fun sh' I' P' => (∀ r, r ≠ 130 → r ≠ 131 → r ≠ 132 → r ≠ 133 → I' r = I r) ∧ (∀ f, f ≠ 3 → f ≠ 4 → f ≠ 6 → I' 130 f = I 130 f) ∧ I' 130 3 = nI r.1 ∧ mcR r.2 I' ∧ sh = sh' ∧ P = P')
theorem mcR_3 {s : MS} {x : Int32} (h : mcR s I) : mcR s (va_up I 130 (upd (I 130) 3 x)) := by
  obtain ⟨⟨a1, a2⟩, b, c, d⟩ := h
  refine ⟨⟨?_, ?_⟩, fun k hk => ?_, fun k hk => ?_, fun k hk => ?_⟩
  · rw [va_up_self, pk_un (by decide)]; exact a1
  · rw [va_up_self, pk_un (by decide)]; exact a2
  · rw [va_up_ne _ _ (by decide)]; exact b k hk
  · rw [va_up_ne _ _ (by decide)]; exact c k hk
  · rw [va_up_ne _ _ (by decide)]; exact d k hk
theorem l_X6_co (S : St_c sh P) {s' : MS} {u : Nat} {x1 x2 : Option Value} {H : AIn} (f : mF I H) (m : mcR s' H) : am_R mX6_carryOut (coP sh P I (u, s')) 2 44 0 0 223 [some (.ref 130), x1, x2, some (.int (nI u))] [] sh H P := by
  refine r_aload_n dX6_carryOut_223 rfl ?_
  refine r_iload_n dX6_carryOut_224 rfl ?_
  refine r_putI dX6_carryOut_225 f_X6_31 (by first | assumption | exact S.1 _ _ rfl) rfl rfl rfl ?_
  refine r_return dX6_carryOut_228 rfl ?_
  refine ⟨rfl, fun r a b c d => ?_, fun g a b c => ?_, ?_, mcR_3 m, rfl, rfl⟩
  · rw [va_up_ne _ _ a]; exact f.1 r a b c d
  · rw [va_up_self, pk_un a]; exact f.2 g b c
  · rw [va_up_self]; exact pk_us
theorem aOk_7 {k : Nat} {a : Int32} (h : aOk k a) (hk : k = 7 ∨ k = 8 ∨ k = 15) : ∃ t, t < 8 ∧ a = nI t := by
  have h2 : nI 0 ≤ a ∧ a ≤ nI 7 := by
    rcases hk with rfl | rfl | rfl <;> exact h
  obtain ⟨t, ht, e⟩ := (in_iff (by decide)).mp h2
  exact ⟨t, by omega, e⟩
theorem c_X6_carryOut (S : St_c sh P) {s : MS} {k t : Nat} {a : Int32} (h : mcR s I) (hp : s.1 ≤ 24) (ho : s.2.1 ≤ 40) (hk : k < 16) (ha : aOk k a) (hw : wants k ≤ s.1) (hh : ¬ high k s) (ht : I 130 3 = nI t) (ht4 : t < 40) : am_R mX6_carryOut (coP sh P I (dos k a t s)) 2 44 0 0 0 [some (.ref 130), some (.int (nI k)), some (.int a), none] [] sh I P := by
  refine r_aload_n dX6_carryOut_0 rfl ?_
  refine r_getI dX6_carryOut_1 g_X6_31 (by first | assumption | exact S.1 _ _ rfl) rfl ?_
  rw [ht]
  refine r_iconst dX6_carryOut_4 (v := nI 1) kc_1 ?_
  first | refine r_iaddN dX6_carryOut_5 ?_ | refine r_iadd dX6_carryOut_5 ?_
  refine r_istore_n dX6_carryOut_6 (Nat.le_of_ble_eq_true rfl) ?_
  dsimp only [List.set]
  refine r_iload_n dX6_carryOut_7 rfl ?_
  rcases (show k = 0 ∨ k = 1 ∨ k = 2 ∨ k = 3 ∨ k = 4 ∨ k = 5 ∨ k = 6 ∨ k = 7 ∨ k = 8 ∨ k = 9 ∨ k = 10 ∨ k = 11 ∨ k = 12 ∨ k = 13 ∨ k = 14 ∨ k = 15 by omega) with rfl | rfl | rfl | rfl | rfl | rfl | rfl | rfl | rfl | rfl | rfl | rfl | rfl | rfl | rfl | rfl
  · have h9 : s.1 < 24 := by
      rcases Nat.lt_or_ge s.1 24 with g | g
      · exact g
      · exact absurd (Or.inl ⟨by omega, Or.inl rfl⟩) hh
    rw [show dos 0 a t s = (t + 1, psh s a) from rfl]
    refine r_tabIn (off := 80) 88 dX6_carryOut_8 (by decide) (by decide) (by decide) (by decide) ?_
    refine r_aload_n dX6_carryOut_88 rfl ?_
    refine r_iload_n dX6_carryOut_89 rfl ?_
    refine r_callV1 (fr' := 0) (lo' := 0) (mc' := 0) (ms' := 0) dX6_carryOut_90 mm_X6_lay mv_X6_lay l_X6_91 (by first | assumption | exact S.1 _ _ rfl) mc_X6_lay (by decide) ⟨by decide, by decide⟩ (Nat.zero_le _) (Nat.zero_le _) (Nat.le_of_ble_eq_true rfl) (c_X6_lay S h h9 _) (am_kv ?_)
    rintro _ H1 _ ⟨f1, m1, rfl, rfl⟩
    refine r_goto 223 dX6_carryOut_93 (by decide) ?_
    first | exact l_X6_co S f2 m2 | exact l_X6_co S f1 m1 | exact l_X6_co S (mF_rf I) h
  · have w2 : 2 ≤ s.1 := hw
    rw [show dos 1 a t s = (t + 1, psh (ppd (ppd s)) (wk 1 (mtop (ppd s)) (mtop s))) from rfl]
    refine r_tabIn (off := 88) 96 dX6_carryOut_8 (by decide) (by decide) (by decide) (by decide) ?_
    refine r_aload_n dX6_carryOut_96 rfl ?_
    refine r_iload_n dX6_carryOut_97 rfl ?_
    refine r_callV1 (fr' := 1) (lo' := 21) (mc' := 0) (ms' := 0) dX6_carryOut_98 mm_X6_layOneForTwo mv_X6_layOneForTwo l_X6_95 (by first | assumption | exact S.1 _ _ rfl) mc_X6_layOneForTwo (by decide) ⟨by decide, by decide⟩ (Nat.zero_le _) (Nat.zero_le _) (Nat.le_of_ble_eq_true rfl) (c_X6_layOneForTwo S h w2 hp (by decide)) (am_kv ?_)
    rintro _ H1 _ ⟨f1, m1, rfl, rfl⟩
    refine r_goto 223 dX6_carryOut_101 (by decide) ?_
    first | exact l_X6_co S f2 m2 | exact l_X6_co S f1 m1 | exact l_X6_co S (mF_rf I) h
  · have w2 : 2 ≤ s.1 := hw
    rw [show dos 2 a t s = (t + 1, psh (ppd (ppd s)) (wk 2 (mtop (ppd s)) (mtop s))) from rfl]
    refine r_tabIn (off := 88) 96 dX6_carryOut_8 (by decide) (by decide) (by decide) (by decide) ?_
    refine r_aload_n dX6_carryOut_96 rfl ?_
    refine r_iload_n dX6_carryOut_97 rfl ?_
    refine r_callV1 (fr' := 1) (lo' := 21) (mc' := 0) (ms' := 0) dX6_carryOut_98 mm_X6_layOneForTwo mv_X6_layOneForTwo l_X6_95 (by first | assumption | exact S.1 _ _ rfl) mc_X6_layOneForTwo (by decide) ⟨by decide, by decide⟩ (Nat.zero_le _) (Nat.zero_le _) (Nat.le_of_ble_eq_true rfl) (c_X6_layOneForTwo S h w2 hp (by decide)) (am_kv ?_)
    rintro _ H1 _ ⟨f1, m1, rfl, rfl⟩
    refine r_goto 223 dX6_carryOut_101 (by decide) ?_
    first | exact l_X6_co S f2 m2 | exact l_X6_co S f1 m1 | exact l_X6_co S (mF_rf I) h
  · have w2 : 2 ≤ s.1 := hw
    rw [show dos 3 a t s = (t + 1, psh (ppd (ppd s)) (wk 3 (mtop (ppd s)) (mtop s))) from rfl]
    refine r_tabIn (off := 88) 96 dX6_carryOut_8 (by decide) (by decide) (by decide) (by decide) ?_
    refine r_aload_n dX6_carryOut_96 rfl ?_
    refine r_iload_n dX6_carryOut_97 rfl ?_
    refine r_callV1 (fr' := 1) (lo' := 21) (mc' := 0) (ms' := 0) dX6_carryOut_98 mm_X6_layOneForTwo mv_X6_layOneForTwo l_X6_95 (by first | assumption | exact S.1 _ _ rfl) mc_X6_layOneForTwo (by decide) ⟨by decide, by decide⟩ (Nat.zero_le _) (Nat.zero_le _) (Nat.le_of_ble_eq_true rfl) (c_X6_layOneForTwo S h w2 hp (by decide)) (am_kv ?_)
    rintro _ H1 _ ⟨f1, m1, rfl, rfl⟩
    refine r_goto 223 dX6_carryOut_101 (by decide) ?_
    first | exact l_X6_co S f2 m2 | exact l_X6_co S f1 m1 | exact l_X6_co S (mF_rf I) h
  · have w1 : 1 ≤ s.1 := hw
    have h9 : s.1 < 24 := by
      rcases Nat.lt_or_ge s.1 24 with g | g
      · exact g
      · exact absurd (Or.inl ⟨by omega, Or.inr (Or.inl rfl)⟩) hh
    have htp : I 131 (s.1 - 1) = mtop s := h.2.1 (s.1 - 1) (by omega)
    rw [show dos 4 a t s = (t + 1, psh s (mtop s)) from rfl]
    refine r_tabIn (off := 96) 104 dX6_carryOut_8 (by decide) (by decide) (by decide) (by decide) ?_
    refine r_aload_n dX6_carryOut_104 rfl ?_
    refine r_aload_n dX6_carryOut_105 rfl ?_
    refine r_getP dX6_carryOut_106 g_X6_9 (by first | assumption | exact S.1 _ _ rfl) rfl (by first | assumption | exact S.2 _ _ _ rfl) ?_
    refine r_aload_n dX6_carryOut_109 rfl ?_
    refine r_getI dX6_carryOut_110 g_X6_55 (by first | assumption | exact S.1 _ _ rfl) rfl ?_
    rw [h.1.1]
    refine r_iconst dX6_carryOut_113 (v := nI 1) kc_1 ?_
    first | refine r_isubN dX6_carryOut_114 (by omega) ?_ | refine r_isub dX6_carryOut_114 ?_
    refine r_iaload (s.1 - 1) dX6_carryOut_115 (by first | assumption | exact S.1 _ _ rfl) rfl (by first | decide | omega) (by decide) ?_
    rw [htp]
    refine r_callV1 (fr' := 0) (lo' := 0) (mc' := 0) (ms' := 0) dX6_carryOut_116 mm_X6_lay mv_X6_lay l_X6_91 (by first | assumption | exact S.1 _ _ rfl) mc_X6_lay (by decide) ⟨by decide, by decide⟩ (Nat.zero_le _) (Nat.zero_le _) (Nat.le_of_ble_eq_true rfl) (c_X6_lay S h h9 _) (am_kv ?_)
    rintro _ H1 _ ⟨f1, m1, rfl, rfl⟩
    refine r_goto 223 dX6_carryOut_119 (by decide) ?_
    first | exact l_X6_co S f2 m2 | exact l_X6_co S f1 m1 | exact l_X6_co S (mF_rf I) h
  · have w2 : 2 ≤ s.1 := hw
    rw [show dos 5 a t s = (t + 1, psh (psh (ppd (ppd s)) (mtop s)) (mtop (ppd s))) from rfl]
    refine r_tabIn (off := 114) 122 dX6_carryOut_8 (by decide) (by decide) (by decide) (by decide) ?_
    refine r_aload_n dX6_carryOut_122 rfl ?_
    refine r_callV0 (fr' := 1) (lo' := 21) (mc' := 0) (ms' := 0) dX6_carryOut_123 mm_X6_turnUpperTwo mv_X6_turnUpperTwo l_X6_98 (by first | assumption | exact S.1 _ _ rfl) mc_X6_turnUpperTwo (by decide) ⟨by decide, by decide⟩ (Nat.zero_le _) (Nat.zero_le _) (Nat.le_of_ble_eq_true rfl) (c_X6_turnUpperTwo S h w2 hp) (am_kv ?_)
    rintro _ H1 _ ⟨f1, m1, rfl, rfl⟩
    refine r_goto 223 dX6_carryOut_126 (by decide) ?_
    first | exact l_X6_co S f2 m2 | exact l_X6_co S f1 m1 | exact l_X6_co S (mF_rf I) h
  · have w1 : 1 ≤ s.1 := hw
    rw [show dos 6 a t s = (t + 1, ppd s) from rfl]
    refine r_tabIn (off := 121) 129 dX6_carryOut_8 (by decide) (by decide) (by decide) (by decide) ?_
    refine r_aload_n dX6_carryOut_129 rfl ?_
    refine r_callV0 (fr' := 0) (lo' := 0) (mc' := 0) (ms' := 0) dX6_carryOut_130 mm_X6_lift mv_X6_lift l_X6_101 (by first | assumption | exact S.1 _ _ rfl) mc_X6_lift (by decide) ⟨by decide, by decide⟩ (Nat.zero_le _) (Nat.zero_le _) (Nat.le_of_ble_eq_true rfl) (c_X6_lift S h (by omega) hp) (am_ki ?_)
    rintro v _ H1 _ ⟨rfl, f1, m1, rfl, rfl⟩
    refine r_pop dX6_carryOut_133 ?_
    refine r_goto 223 dX6_carryOut_134 (by decide) ?_
    first | exact l_X6_co S f2 m2 | exact l_X6_co S f1 m1 | exact l_X6_co S (mF_rf I) h
  · obtain ⟨u, hu, rfl⟩ := aOk_7 ha (by omega)
    have h9 : s.1 < 24 := by
      rcases Nat.lt_or_ge s.1 24 with g | g
      · exact g
      · exact absurd (Or.inl ⟨by omega, Or.inr (Or.inr rfl)⟩) hh
    have hrg : I 133 u = s.2.2.2.2 u := h.2.2.2 u hu
    have enu : nv (nI u) = u := nv_nI (by omega)
    rw [show dos 7 (nI u) t s = (t + 1, psh s (s.2.2.2.2 (nv (nI u)))) from rfl]
    rw [enu]
    refine r_tabIn (off := 129) 137 dX6_carryOut_8 (by decide) (by decide) (by decide) (by decide) ?_
    refine r_aload_n dX6_carryOut_137 rfl ?_
    refine r_aload_n dX6_carryOut_138 rfl ?_
    refine r_getP dX6_carryOut_139 g_X6_16 (by first | assumption | exact S.1 _ _ rfl) rfl (by first | assumption | exact S.2 _ _ _ rfl) ?_
    refine r_iload_n dX6_carryOut_142 rfl ?_
    refine r_iaload u dX6_carryOut_143 (by first | assumption | exact S.1 _ _ rfl) rfl (by first | decide | omega) (by decide) ?_
    rw [hrg]
    refine r_callV1 (fr' := 0) (lo' := 0) (mc' := 0) (ms' := 0) dX6_carryOut_144 mm_X6_lay mv_X6_lay l_X6_91 (by first | assumption | exact S.1 _ _ rfl) mc_X6_lay (by decide) ⟨by decide, by decide⟩ (Nat.zero_le _) (Nat.zero_le _) (Nat.le_of_ble_eq_true rfl) (c_X6_lay S h h9 _) (am_kv ?_)
    rintro _ H1 _ ⟨f1, m1, rfl, rfl⟩
    refine r_goto 223 dX6_carryOut_147 (by decide) ?_
    first | exact l_X6_co S f2 m2 | exact l_X6_co S f1 m1 | exact l_X6_co S (mF_rf I) h
  · have w1 : 1 ≤ s.1 := hw
    obtain ⟨u, hu, rfl⟩ := aOk_7 ha (by omega)
    have enu : nv (nI u) = u := nv_nI (by omega)
    rw [show dos 8 (nI u) t s = (t + 1, sreg (ppd s) (nv (nI u)) (mtop s)) from rfl]
    rw [enu]
    refine r_tabIn (off := 142) 150 dX6_carryOut_8 (by decide) (by decide) (by decide) (by decide) ?_
    refine r_aload_n dX6_carryOut_150 rfl ?_
    refine r_getP dX6_carryOut_151 g_X6_16 (by first | assumption | exact S.1 _ _ rfl) rfl (by first | assumption | exact S.2 _ _ _ rfl) ?_
    refine r_iload_n dX6_carryOut_154 rfl ?_
    refine r_aload_n dX6_carryOut_155 rfl ?_
    refine r_callV0 (fr' := 0) (lo' := 0) (mc' := 0) (ms' := 0) dX6_carryOut_156 mm_X6_lift mv_X6_lift l_X6_101 (by first | assumption | exact S.1 _ _ rfl) mc_X6_lift (by decide) ⟨by decide, by decide⟩ (Nat.zero_le _) (Nat.zero_le _) (Nat.le_of_ble_eq_true rfl) (c_X6_lift S h (by omega) hp) (am_ki ?_)
    rintro v _ H1 _ ⟨rfl, f1, m1, rfl, rfl⟩
    refine r_iastore u dX6_carryOut_159 (by first | assumption | exact S.1 _ _ rfl) rfl (by first | decide | omega) (by decide) ?_
    have f2 := f1.tr (mF_31 (I := H1) (r := 133) (g := upd (H1 133) u (mtop s)) (by omega))
    have m2 := mcR_sr m1 u (mtop s)
    refine r_goto 223 dX6_carryOut_160 (by decide) ?_
    first | exact l_X6_co S f2 m2 | exact l_X6_co S f1 m1 | exact l_X6_co S (mF_rf I) h
  · obtain ⟨u, hu, rfl⟩ := aOk_39 ha (by omega)
    have enu : nv (nI u) = u := nv_nI (by omega)
    rw [show dos 9 (nI u) t s = (nv (nI u), s) from rfl]
    rw [enu]
    refine r_tabIn (off := 155) 163 dX6_carryOut_8 (by decide) (by decide) (by decide) (by decide) ?_
    refine r_iload_n dX6_carryOut_163 rfl ?_
    refine r_istore_n dX6_carryOut_164 (Nat.le_of_ble_eq_true rfl) ?_
    dsimp only [List.set]
    refine r_goto 223 dX6_carryOut_165 (by decide) ?_
    first | exact l_X6_co S f2 m2 | exact l_X6_co S f1 m1 | exact l_X6_co S (mF_rf I) h
  · have w1 : 1 ≤ s.1 := hw
    obtain ⟨u, hu, rfl⟩ := aOk_39 ha (by omega)
    have enu : nv (nI u) = u := nv_nI (by omega)
    rw [show dos 10 (nI u) t s = (if mtop s = 0 then nv (nI u) else t + 1, ppd s) from rfl]
    rw [enu]
    refine r_tabIn (off := 160) 168 dX6_carryOut_8 (by decide) (by decide) (by decide) (by decide) ?_
    refine r_aload_n dX6_carryOut_168 rfl ?_
    refine r_callV0 (fr' := 0) (lo' := 0) (mc' := 0) (ms' := 0) dX6_carryOut_169 mm_X6_lift mv_X6_lift l_X6_101 (by first | assumption | exact S.1 _ _ rfl) mc_X6_lift (by decide) ⟨by decide, by decide⟩ (Nat.zero_le _) (Nat.zero_le _) (Nat.le_of_ble_eq_true rfl) (c_X6_lift S h (by omega) hp) (am_ki ?_)
    rintro v _ H1 _ ⟨rfl, f1, m1, rfl, rfl⟩
    refine r_if_ne 179 dX6_carryOut_172 (by decide) (fun h172 => ?_) (fun h172 => ?_)
    · rw [if_neg h172]
      refine r_iload_n dX6_carryOut_179 rfl ?_
      refine r_istore_n dX6_carryOut_180 (Nat.le_of_ble_eq_true rfl) ?_
      dsimp only [List.set]
      refine r_goto 223 dX6_carryOut_181 (by decide) ?_
      first | exact l_X6_co S f2 m2 | exact l_X6_co S f1 m1 | exact l_X6_co S (mF_rf I) h
    · rw [if_pos h172]
      refine r_iload_n dX6_carryOut_175 rfl ?_
      refine r_goto 180 dX6_carryOut_176 (by decide) ?_
      refine r_istore_n dX6_carryOut_180 (Nat.le_of_ble_eq_true rfl) ?_
      dsimp only [List.set]
      refine r_goto 223 dX6_carryOut_181 (by decide) ?_
      first | exact l_X6_co S f2 m2 | exact l_X6_co S f1 m1 | exact l_X6_co S (mF_rf I) h
  · have w2 : 2 ≤ s.1 := hw
    rw [show dos 11 a t s = (t + 1, psh (ppd (ppd s)) (wk 11 (mtop (ppd s)) (mtop s))) from rfl]
    refine r_tabIn (off := 88) 96 dX6_carryOut_8 (by decide) (by decide) (by decide) (by decide) ?_
    refine r_aload_n dX6_carryOut_96 rfl ?_
    refine r_iload_n dX6_carryOut_97 rfl ?_
    refine r_callV1 (fr' := 1) (lo' := 21) (mc' := 0) (ms' := 0) dX6_carryOut_98 mm_X6_layOneForTwo mv_X6_layOneForTwo l_X6_95 (by first | assumption | exact S.1 _ _ rfl) mc_X6_layOneForTwo (by decide) ⟨by decide, by decide⟩ (Nat.zero_le _) (Nat.zero_le _) (Nat.le_of_ble_eq_true rfl) (c_X6_layOneForTwo S h w2 hp (by decide)) (am_kv ?_)
    rintro _ H1 _ ⟨f1, m1, rfl, rfl⟩
    refine r_goto 223 dX6_carryOut_101 (by decide) ?_
    first | exact l_X6_co S f2 m2 | exact l_X6_co S f1 m1 | exact l_X6_co S (mF_rf I) h
  · have w1 : 1 ≤ s.1 := hw
    have h9 : s.2.1 < 40 := by
      rcases Nat.lt_or_ge s.2.1 40 with g | g
      · exact g
      · exact absurd (Or.inr ⟨by omega, rfl⟩) hh
    rw [show dos 12 a t s = (t + 1, sout (ppd s) (mtop s)) from rfl]
    refine r_tabIn (off := 176) 184 dX6_carryOut_8 (by decide) (by decide) (by decide) (by decide) ?_
    refine r_aload_n dX6_carryOut_184 rfl ?_
    refine r_getP dX6_carryOut_185 g_X6_13 (by first | assumption | exact S.1 _ _ rfl) rfl (by first | assumption | exact S.2 _ _ _ rfl) ?_
    refine r_aload_n dX6_carryOut_188 rfl ?_
    refine r_getI dX6_carryOut_189 g_X6_58 (by first | assumption | exact S.1 _ _ rfl) rfl ?_
    rw [h.1.2]
    refine r_aload_n dX6_carryOut_192 rfl ?_
    refine r_callV0 (fr' := 0) (lo' := 0) (mc' := 0) (ms' := 0) dX6_carryOut_193 mm_X6_lift mv_X6_lift l_X6_101 (by first | assumption | exact S.1 _ _ rfl) mc_X6_lift (by decide) ⟨by decide, by decide⟩ (Nat.zero_le _) (Nat.zero_le _) (Nat.le_of_ble_eq_true rfl) (c_X6_lift S h (by omega) hp) (am_ki ?_)
    rintro v _ H1 _ ⟨rfl, f1, m1, rfl, rfl⟩
    have e6 : H1 130 6 = nI s.2.1 := m1.1.2
    refine r_iastore s.2.1 dX6_carryOut_196 (by first | assumption | exact S.1 _ _ rfl) rfl (by first | decide | omega) (by decide) ?_
    refine r_aload_n dX6_carryOut_197 rfl ?_
    refine r_dup dX6_carryOut_198 ?_
    refine r_getI dX6_carryOut_199 g_X6_58 (by first | assumption | exact S.1 _ _ rfl) rfl ?_
    rw [va_up_ne _ _ (by decide), e6]
    refine r_iconst dX6_carryOut_202 (v := nI 1) kc_1 ?_
    first | refine r_iaddN dX6_carryOut_203 ?_ | refine r_iadd dX6_carryOut_203 ?_
    refine r_putI dX6_carryOut_204 f_X6_58 (by first | assumption | exact S.1 _ _ rfl) rfl rfl rfl ?_
    rw [va_up_ne (k := 132) (j := 130) _ _ (by decide)]
    have f2 : mF I (va_up (va_up H1 132 (upd (H1 132) s.2.1 (mtop s))) 130 (upd (H1 130) 6 (nI (s.2.1 + 1)))) := f1.tr ⟨fun r a b c d => by rw [va_up_ne _ _ a, va_up_ne _ _ c], fun f a b => by rw [va_up_self, pk_un b]⟩
    have m2 := mcR_so m1 (mtop s)
    refine r_goto 223 dX6_carryOut_207 (by decide) ?_
    first | exact l_X6_co S f2 m2 | exact l_X6_co S f1 m1 | exact l_X6_co S (mF_rf I) h
  · rw [show dos 13 a t s = (t + 1, s) from rfl]
    refine r_tabIn (off := 215) 223 dX6_carryOut_8 (by decide) (by decide) (by decide) (by decide) ?_
    first | exact l_X6_co S f2 m2 | exact l_X6_co S f1 m1 | exact l_X6_co S (mF_rf I) h
  · rw [show dos 14 a t s = (t + 1, s) from rfl]
    refine r_tabIn (off := 215) 223 dX6_carryOut_8 (by decide) (by decide) (by decide) (by decide) ?_
    first | exact l_X6_co S f2 m2 | exact l_X6_co S f1 m1 | exact l_X6_co S (mF_rf I) h
  · obtain ⟨u, hu, rfl⟩ := aOk_7 ha (by omega)
    have hrg : I 133 u = s.2.2.2.2 u := h.2.2.2 u hu
    have enu : nv (nI u) = u := nv_nI (by omega)
    rw [show dos 15 (nI u) t s = (t + 1, sreg s (nv (nI u)) (s.2.2.2.2 (nv (nI u)) + nI 1)) from rfl]
    rw [enu]
    refine r_tabIn (off := 202) 210 dX6_carryOut_8 (by decide) (by decide) (by decide) (by decide) ?_
    refine r_aload_n dX6_carryOut_210 rfl ?_
    refine r_getP dX6_carryOut_211 g_X6_16 (by first | assumption | exact S.1 _ _ rfl) rfl (by first | assumption | exact S.2 _ _ _ rfl) ?_
    refine r_iload_n dX6_carryOut_214 rfl ?_
    refine r_dup2 dX6_carryOut_215 ?_
    refine r_iaload u dX6_carryOut_216 (by first | assumption | exact S.1 _ _ rfl) rfl (by first | decide | omega) (by decide) ?_
    rw [hrg]
    refine r_iconst dX6_carryOut_217 (v := nI 1) kc_1 ?_
    refine r_iadd dX6_carryOut_218 ?_
    refine r_iastore u dX6_carryOut_219 (by first | assumption | exact S.1 _ _ rfl) rfl (by first | decide | omega) (by decide) ?_
    have f2 := (mF_rf I).tr (mF_31 (I := I) (r := 133) (g := upd (I 133) u (s.2.2.2.2 u + nI 1)) (by omega))
    have m2 := mcR_sr h u (s.2.2.2.2 u + nI 1)
    refine r_goto 223 dX6_carryOut_220 (by decide) ?_
    first | exact l_X6_co S f2 m2 | exact l_X6_co S f1 m1 | exact l_X6_co S (mF_rf I) h
end K13
