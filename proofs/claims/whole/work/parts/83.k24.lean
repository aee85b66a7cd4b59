/-! the class: the search over what is gathered -/
def czF (I H : AIn) : Prop := (∀ r, r ≠ 66 → r ≠ 69 → r ≠ 70 → r ≠ 75 → r ≠ 76 → H r = I r) ∧ ∀ f, f < 12 → H 66 f = I 66 f
theorem czF_rf (I : AIn) : czF I I := ⟨fun _ _ _ _ _ _ => rfl, fun _ _ => rfl⟩
theorem czF_a {I H : AIn} {r : Nat} {g : Nat → Int32} (h : czF I H) (hr : r = 69 ∨ r = 70 ∨ r = 75 ∨ r = 76) : czF I (va_up H r g) := ⟨fun t a b c d e => by rw [va_up_ne _ _ (by omega)]; exact h.1 t a b c d e, fun f hf => by rw [va_up_ne _ _ (by omega)]; exact h.2 f hf⟩
theorem czF_f {I H : AIn} {f : Nat} {x : Int32} (h : czF I H) (hf : 12 ≤ f) : czF I (va_up H 66 (upd (H 66) f x)) := ⟨fun t a b c d e => by rw [va_up_ne _ _ a]; exact h.1 t a b c d e, fun g hg => by rw [va_up_self, pk_un (by omega)]; exact h.2 g hg⟩
theorem czF_m {I H J : AIn} (h : czF I H) (hJ : ∀ r, r ≠ 75 → r ≠ 76 → J r = H r) : czF I J := ⟨fun t a b c d e => by rw [hJ t d e]; exact h.1 t a b c d e, fun g hg => by rw [hJ 66 (by decide) (by decide)]; exact h.2 g hg⟩
def chR (n : Nat) (s : CS) (H : AIn) : Prop := (H 66 12 = nI s.1 ∧ s.1 ≤ 4000000) ∧ ((s.2.1 = 0 ∧ H 66 13 = -1 ∧ H 66 14 = -1) ∨ (s.2.1 = 1 ∧ s.2.2.1 < n ∧ H 66 13 = nI s.2.2.1 ∧ H 66 14 = -1) ∨ (s.2.1 = 2 ∧ s.2.2.1 < n ∧ s.2.2.2 < n ∧ H 66 13 = nI s.2.2.1 ∧ H 66 14 = nI s.2.2.2))
theorem chR_66 {n : Nat} {s : CS} {H J : AIn} (h : chR n s H) (e : J 66 = H 66) : chR n s J := by
  unfold chR
  rw [e]
  exact h
/-- what was gathered, and what each row or two save -/
def czH (n : Nat) (E : Nat → Nat) (D : Nat → Nat → Nat → Nat → Prop) (g : Nat → Nat) (h : Nat → Nat → Nat) (I : AIn) : Prop := n ≤ 360 ∧ (∃ c lsv pl en sv rw, rwS n E lsv I ∧ gsS c lsv pl en sv rw D I) ∧ (∀ k, k < n → ∃ T, tOk (D (E k)) (fun _ _ _ => False) T ∧ T 0 = g k) ∧ ∀ i j, i < j → j < n → ∃ T, tOk (D (E i)) (D (E j)) T ∧ T 0 = h i j
theorem gs_ch {I H : AIn} {c : Nat} {lsv : Nat → Int32} {pl en sv rw : Nat → Nat} {D : Nat → Nat → Nat → Nat → Prop} (h : gsS c lsv pl en sv rw D I) (hF : czF I H) (u : Nat) : stA pl en sv c H ∧ chH (idx c rw u) (D u) pl en sv c H := by
  obtain ⟨h1, ⟨h2, h3⟩, h4, h5⟩ := h
  refine ⟨⟨h2, fun i hi => ?_⟩, fun i hi => ?_⟩
  · rw [hF.1 71 (by decide) (by decide) (by decide) (by decide) (by decide), hF.1 72 (by decide) (by decide) (by decide) (by decide) (by decide), hF.1 73 (by decide) (by decide) (by decide) (by decide) (by decide)]
    exact h3 i hi
  · obtain ⟨a, rfl⟩ := hi
    rw [hF.1 74 (by decide) (by decide) (by decide) (by decide) (by decide)]
    exact ⟨a, h4 i a⟩
theorem ch_no {pl en sv : Nat → Nat} {c : Nat} {H : AIn} : chH (fun _ => False) (fun _ _ _ => False) pl en sv c H := fun i h => h.elim
section K24
variable {sh : ASh} {I σ : AIn} {P : APt} {n : Nat} {E : Nat → Nat} {D : Nat → Nat → Nat → Nat → Prop} {g : Nat → Nat} {h : Nat → Nat → Nat}
theorem g_le (Z : czH n E D g h I) {k : Nat} (hk : k < n) : g k ≤ 4000000 := by
  obtain ⟨T, h1, h2⟩ := Z.2.2.1 k hk
  rw [← h2]
  exact h1.2.2.2.2.2.1 0
theorem h_le (Z : czH n E D g h I) {i j : Nat} (hi : i < j) (hj : j < n) : h i j ≤ 4000000 := by
  obtain ⟨T, h1, h2⟩ := Z.2.2.2 i j hi hj
  rw [← h2]
  exact h1.2.2.2.2.2.1 0
theorem c_ms1 (S : St_c sh P) (Z : czH n E D g h I) {H : AIn} (hF : czF I H) {k : Nat} (hk : k < n) : am_R mX0_mostSaved (po_i (fun v sh' I' P' => v = nI (g k) ∧ (∀ r, r ≠ 75 → r ≠ 76 → I' r = H r) ∧ sh = sh' ∧ P = P')) 1 23 0 0 0 [some (.ref 66), some (.int (H 68 k)), some (.int (-1)), none, none, none, none, none, none] [] sh H P := by
  obtain ⟨c, lsv, pl, en, sv, rw, hr, hg⟩ := Z.2.1
  obtain ⟨T, t1, t2⟩ := Z.2.2.1 k hk
  obtain ⟨a1, a2⟩ := gs_ch hg hF (E k)
  have e68 : H 68 k = lsv (E k) := by rw [hF.1 68 (by decide) (by decide) (by decide) (by decide) (by decide)]; exact (hr.2.1 k hk).2.2
  rw [← t2, e68]
  exact c_X0_mostSaved S a1 a2 ch_no t1 (hg.2.2.2 (E k)) (Or.inl ⟨rfl, fun _ _ _ _ h => h⟩)
theorem c_ms2 (S : St_c sh P) (Z : czH n E D g h I) {H : AIn} (hF : czF I H) {i j : Nat} (hi : i < j) (hj : j < n) : am_R mX0_mostSaved (po_i (fun v sh' I' P' => v = nI (h i j) ∧ (∀ r, r ≠ 75 → r ≠ 76 → I' r = H r) ∧ sh = sh' ∧ P = P')) 1 23 0 0 0 [some (.ref 66), some (.int (H 68 i)), some (.int (H 68 j)), none, none, none, none, none, none] [] sh H P := by
  obtain ⟨c, lsv, pl, en, sv, rw, hr, hg⟩ := Z.2.1
  obtain ⟨T, t1, t2⟩ := Z.2.2.2 i j hi hj
  obtain ⟨a1, a2⟩ := gs_ch hg hF (E i)
  obtain ⟨-, a3⟩ := gs_ch hg hF (E j)
  have e1 : H 68 i = lsv (E i) := by rw [hF.1 68 (by decide) (by decide) (by decide) (by decide) (by decide)]; exact (hr.2.1 i (by omega)).2.2
  have e2 : H 68 j = lsv (E j) := by rw [hF.1 68 (by decide) (by decide) (by decide) (by decide) (by decide)]; exact (hr.2.1 j hj).2.2
  rw [← t2, e1, e2]
  exact c_X0_mostSaved S a1 a2 a3 t1 (hg.2.2.2 (E i)) (hg.2.2.2 (E j))
theorem n_of (Z : czH n E D g h I) {H : AIn} (hF : czF I H) : H 66 0 = nI n := by
  obtain ⟨c, lsv, pl, en, sv, rw, hr, hg⟩ := Z.2.1
  rw [hF.2 0 (by decide)]
  exact hr.1
theorem fo1_c (g : Nat → Nat) : ∀ k, (fo (sg1 g) (0, 0, 0, 0) k).2.1 ≤ 1
  | 0 => Nat.zero_le _
  | k + 1 => by
    show (sg1 g (fo (sg1 g) (0, 0, 0, 0) k) k).2.1 ≤ 1
    unfold sg1
    split
    · exact Nat.le_refl _
    · exact fo1_c g k
theorem chR_14 {n : Nat} {s : CS} {H : AIn} (hC : chR n s H) (hs : s.2.1 ≤ 1) : H 66 14 = -1 := by
  rcases hC.2 with a | a | a
  · exact a.2.2
  · exact a.2.2.2
  · have := a.1; omega
theorem l_X0_chooseOne (S : St_c sh P) (Z : czH n E D g h I) : ∀ (m k : Nat) (H : AIn), k + m = n → czF I H → chR n (fo (sg1 g) (0, 0, 0, 0) k) H → (∀ i, i < k → H 69 i = nI (g i)) → am_R mX0_chooseOne (po_v (fun sh' I' P' => czF I I' ∧ chR n (fo (sg1 g) (0, 0, 0, 0) n) I' ∧ (∀ i, i < n → I' 69 i = nI (g i)) ∧ sh = sh' ∧ P = P')) 2 51 0 0 17 [some (.ref 66), some (.int (nI k))] [] sh H P := by
  have hn := Z.1
  intro m
  induction m with
  | zero =>
    intro k H hk hF hC h69
    have e : k = n := by omega
    subst e
    have e0 := n_of Z hF
    refine r_iload_n dX0_chooseOne_17 rfl ?_
    refine r_aload_n dX0_chooseOne_18 rfl ?_
    refine r_getI dX0_chooseOne_19 g_X0_79 (by first | assumption | exact S.1 _ _ rfl) rfl ?_
    rw [e0]
    refine r_icmp_geN 76 dX0_chooseOne_22 (by decide) (by omega) (by omega) (fun h22 => ?_) (fun h22 => ?_)
    · refine r_return dX0_chooseOne_76 rfl ?_
      exact ⟨rfl, hF, hC, h69, rfl, rfl⟩
    · exact absurd h22 (by omega)
  | succ m ih =>
    intro k H hk hF hC h69
    have hkn : k < n := by omega
    have e0 := n_of Z hF
    have gk := g_le Z hkn
    have estp : fo (sg1 g) (0, 0, 0, 0) (k + 1) = sg1 g (fo (sg1 g) (0, 0, 0, 0) k) k := rfl
    have ih1 := fun H' => ih (k + 1) H' (by omega)
    rw [estp] at ih1
    have hs1 := fo1_c g k
    generalize hs : fo (sg1 g) (0, 0, 0, 0) k = s at hC ih1 hs1
    have hsb := hC.1.2
    refine r_iload_n dX0_chooseOne_17 rfl ?_
    refine r_aload_n dX0_chooseOne_18 rfl ?_
    refine r_getI dX0_chooseOne_19 g_X0_79 (by first | assumption | exact S.1 _ _ rfl) rfl ?_
    rw [e0]
    refine r_icmp_geN 76 dX0_chooseOne_22 (by decide) (by omega) (by omega) (fun h22 => ?_) (fun h22 => ?_)
    · exact absurd h22 (by omega)
    · refine r_aload_n dX0_chooseOne_25 rfl ?_
      refine r_getP dX0_chooseOne_26 g_X0_22 (by first | assumption | exact S.1 _ _ rfl) rfl (by first | assumption | exact S.2 _ _ _ rfl) ?_
      refine r_iload_n dX0_chooseOne_29 rfl ?_
      refine r_aload_n dX0_chooseOne_30 rfl ?_
      refine r_aload_n dX0_chooseOne_31 rfl ?_
      refine r_getP dX0_chooseOne_32 g_X0_19 (by first | assumption | exact S.1 _ _ rfl) rfl (by first | assumption | exact S.2 _ _ _ rfl) ?_
      refine r_iload_n dX0_chooseOne_35 rfl ?_
      refine r_iaload k dX0_chooseOne_36 (by first | assumption | exact S.1 _ _ rfl) rfl (by first | decide | omega) (by decide) ?_
      refine r_iconst dX0_chooseOne_37 (v := (-1)) kc_m1 ?_
      refine r_callV2 (fr' := 1) (lo' := 23) (mc' := 0) (ms' := 0) dX0_chooseOne_38 mm_X0_mostSaved mv_X0_mostSaved l_X0_127 (by first | assumption | exact S.1 _ _ rfl) mc_X0_mostSaved (by decide) ⟨by decide, by decide⟩ (Nat.zero_le _) (Nat.zero_le _) (Nat.le_of_ble_eq_true rfl) (c_ms1 S Z hF hkn) (am_ki ?_)
      rintro v38 _ J _ ⟨rfl, hJ, rfl, rfl⟩
      have hF2 : czF I (va_up J 69 (upd (J 69) k (nI (g k)))) := czF_a (czF_m hF hJ) (by omega)
      have hC2 : chR n s (va_up J 69 (upd (J 69) k (nI (g k)))) := chR_66 hC (by rw [va_up_ne _ _ (by decide), hJ 66 (by decide) (by decide)])
      have h692 : ∀ i, i < k + 1 → va_up J 69 (upd (J 69) k (nI (g k))) 69 i = nI (g i) := fun i hi => by
        rw [va_up_self]
        by_cases e : i = k
        · rw [e, pk_us]
        · rw [pk_un e, hJ 69 (by decide) (by decide)]; exact h69 i (by omega)
      refine r_iastore k dX0_chooseOne_41 (by first | assumption | exact S.1 _ _ rfl) rfl (by first | decide | omega) (by decide) ?_
      refine r_aload_n dX0_chooseOne_42 rfl ?_
      refine r_getP dX0_chooseOne_43 g_X0_22 (by first | assumption | exact S.1 _ _ rfl) rfl (by first | assumption | exact S.2 _ _ _ rfl) ?_
      refine r_iload_n dX0_chooseOne_46 rfl ?_
      refine r_iaload k dX0_chooseOne_47 (by first | assumption | exact S.1 _ _ rfl) rfl (by first | decide | omega) (by decide) ?_
      rw [h692 k (by omega)]
      refine r_aload_n dX0_chooseOne_48 rfl ?_
      refine r_getI dX0_chooseOne_49 g_X0_76 (by first | assumption | exact S.1 _ _ rfl) rfl ?_
      rw [hC2.1.1]
      refine r_icmp_leN 70 dX0_chooseOne_52 (by decide) (by omega) (by omega) (fun h52 => ?_) (fun h52 => ?_)
      · first | refine r_iincN dX0_chooseOne_70 rfl kc_1 ?_ | refine r_iinc dX0_chooseOne_70 rfl rfl ?_
        dsimp only [List.set]
        refine r_goto 17 dX0_chooseOne_73 (by decide) ?_
        first
          | exact ih1 _ hF2 (by rw [show sg1 g s k = s from if_neg (by omega)]; exact hC2) h692
          | (refine ih1 _ (czF_f (czF_f hF2 (by decide)) (by decide)) ?_ (fun i hi => ?_)
             · rw [show sg1 g s k = (g k, 1, k, 0) from if_pos (by omega)]
               refine ⟨⟨?_, gk⟩, Or.inr (Or.inl ⟨rfl, hkn, ?_, ?_⟩)⟩
               · rw [va_up_self, pk_un (by decide), va_up_self]; exact pk_us
               · rw [va_up_self]; exact pk_us
               · rw [va_up_self, pk_un (by decide), va_up_self, pk_un (by decide)]
                 exact chR_14 hC2 hs1
             · rw [va_up_ne _ _ (by decide), va_up_ne _ _ (by decide)]; exact h692 i hi)
      · refine r_aload_n dX0_chooseOne_55 rfl ?_
        refine r_aload_n dX0_chooseOne_56 rfl ?_
        refine r_getP dX0_chooseOne_57 g_X0_22 (by first | assumption | exact S.1 _ _ rfl) rfl (by first | assumption | exact S.2 _ _ _ rfl) ?_
        refine r_iload_n dX0_chooseOne_60 rfl ?_
        refine r_iaload k dX0_chooseOne_61 (by first | assumption | exact S.1 _ _ rfl) rfl (by first | decide | omega) (by decide) ?_
        rw [h692 k (by omega)]
        refine r_putI dX0_chooseOne_62 f_X0_76 (by first | assumption | exact S.1 _ _ rfl) rfl rfl rfl ?_
        refine r_aload_n dX0_chooseOne_65 rfl ?_
        refine r_iload_n dX0_chooseOne_66 rfl ?_
        refine r_putI dX0_chooseOne_67 f_X0_66 (by first | assumption | exact S.1 _ _ rfl) rfl rfl rfl ?_
        first | refine r_iincN dX0_chooseOne_70 rfl kc_1 ?_ | refine r_iinc dX0_chooseOne_70 rfl rfl ?_
        dsimp only [List.set]
        refine r_goto 17 dX0_chooseOne_73 (by decide) ?_
        first
          | exact ih1 _ hF2 (by rw [show sg1 g s k = s from if_neg (by omega)]; exact hC2) h692
          | (refine ih1 _ (czF_f (czF_f hF2 (by decide)) (by decide)) ?_ (fun i hi => ?_)
             · rw [show sg1 g s k = (g k, 1, k, 0) from if_pos (by omega)]
               refine ⟨⟨?_, gk⟩, Or.inr (Or.inl ⟨rfl, hkn, ?_, ?_⟩)⟩
               · rw [va_up_self, pk_un (by decide), va_up_self]; exact pk_us
               · rw [va_up_self]; exact pk_us
               · rw [va_up_self, pk_un (by decide), va_up_self, pk_un (by decide)]
                 exact chR_14 hC2 hs1
             · rw [va_up_ne _ _ (by decide), va_up_ne _ _ (by decide)]; exact h692 i hi)
theorem c_X0_chooseOne (S : St_c sh P) (Z : czH n E D g h I) : am_R mX0_chooseOne (po_v (fun sh' I' P' => czF I I' ∧ chR n (fo (sg1 g) (0, 0, 0, 0) n) I' ∧ (∀ i, i < n → I' 69 i = nI (g i)) ∧ sh = sh' ∧ P = P')) 2 51 0 0 0 [some (.ref 66), none] [] sh I P := by
  refine r_aload_n dX0_chooseOne_0 rfl ?_
  refine r_iconst dX0_chooseOne_1 (v := nI 0) kc_0 ?_
  refine r_putI dX0_chooseOne_2 f_X0_76 (by first | assumption | exact S.1 _ _ rfl) rfl rfl rfl ?_
  refine r_aload_n dX0_chooseOne_5 rfl ?_
  refine r_iconst dX0_chooseOne_6 (v := (-1)) kc_m1 ?_
  refine r_putI dX0_chooseOne_7 f_X0_66 (by first | assumption | exact S.1 _ _ rfl) rfl rfl rfl ?_
  rw [va_up_self, bx_uu]
  refine r_aload_n dX0_chooseOne_10 rfl ?_
  refine r_iconst dX0_chooseOne_11 (v := (-1)) kc_m1 ?_
  refine r_putI dX0_chooseOne_12 f_X0_73 (by first | assumption | exact S.1 _ _ rfl) rfl rfl rfl ?_
  rw [va_up_self, bx_uu]
  refine r_iconst dX0_chooseOne_15 (v := nI 0) kc_0 ?_
  refine r_istore_n dX0_chooseOne_16 (Nat.le_of_ble_eq_true rfl) ?_
  dsimp only [List.set]
  refine l_X0_chooseOne S Z n 0 _ (Nat.zero_add _) ⟨fun r a b c d e => va_up_ne _ _ a, fun f hf => ?_⟩ ⟨⟨?_, Nat.zero_le _⟩, Or.inl ⟨rfl, ?_, ?_⟩⟩ (fun i hi => absurd hi (Nat.not_lt_zero i))
  · rw [va_up_self, pk_un (by omega), pk_un (by omega), pk_un (by omega)]
  · rw [va_up_self, pk_un (by decide), pk_un (by decide)]; exact pk_us
  · rw [va_up_self, pk_un (by decide)]; exact pk_us
  · rw [va_up_self]; exact pk_us
theorem c_X0_tryTwo (S : St_c sh P) (Z : czH n E D g h I) {H : AIn} (hF : czF I H) {i j : Nat} (hi : i < j) (hj : j < n) {s : CS} (hC : chR n s H) : am_R mX0_tryTwo (po_v (fun sh' I' P' => czF I I' ∧ chR n (if s.1 < h i j then (h i j, 2, i, j) else s) I' ∧ I' 69 = H 69 ∧ I' 70 = H 70 ∧ sh = sh' ∧ P = P')) 2 51 0 0 0 [some (.ref 66), some (.int (nI i)), some (.int (nI j)), none] [] sh H P := by
  have hn := Z.1
  have hl := h_le Z hi hj
  have hsb := hC.1.2
  refine r_aload_n dX0_tryTwo_0 rfl ?_
  refine r_aload_n dX0_tryTwo_1 rfl ?_
  refine r_getP dX0_tryTwo_2 g_X0_19 (by first | assumption | exact S.1 _ _ rfl) rfl (by first | assumption | exact S.2 _ _ _ rfl) ?_
  refine r_iload_n dX0_tryTwo_5 rfl ?_
  refine r_iaload i dX0_tryTwo_6 (by first | assumption | exact S.1 _ _ rfl) rfl (by first | decide | omega) (by decide) ?_
  refine r_aload_n dX0_tryTwo_7 rfl ?_
  refine r_getP dX0_tryTwo_8 g_X0_19 (by first | assumption | exact S.1 _ _ rfl) rfl (by first | assumption | exact S.2 _ _ _ rfl) ?_
  refine r_iload_n dX0_tryTwo_11 rfl ?_
  refine r_iaload j dX0_tryTwo_12 (by first | assumption | exact S.1 _ _ rfl) rfl (by first | decide | omega) (by decide) ?_
  refine r_callV2 (fr' := 1) (lo' := 23) (mc' := 0) (ms' := 0) dX0_tryTwo_13 mm_X0_mostSaved mv_X0_mostSaved l_X0_127 (by first | assumption | exact S.1 _ _ rfl) mc_X0_mostSaved (by decide) ⟨by decide, by decide⟩ (Nat.zero_le _) (Nat.zero_le _) (Nat.le_of_ble_eq_true rfl) (c_ms2 S Z hF hi hj) (am_ki ?_)
  rintro v13 _ J _ ⟨rfl, hJ, rfl, rfl⟩
  have hF2 : czF I J := czF_m hF hJ
  have hC2 : chR n s J := chR_66 hC (hJ 66 (by decide) (by decide))
  refine r_istore_n dX0_tryTwo_16 (Nat.le_of_ble_eq_true rfl) ?_
  dsimp only [List.set]
  refine r_iload_n dX0_tryTwo_17 rfl ?_
  refine r_aload_n dX0_tryTwo_18 rfl ?_
  refine r_getI dX0_tryTwo_19 g_X0_76 (by first | assumption | exact S.1 _ _ rfl) rfl ?_
  rw [hC2.1.1]
  refine r_icmp_leN 40 dX0_tryTwo_22 (by decide) (by omega) (by omega) (fun h22 => ?_) (fun h22 => ?_)
  · refine r_return dX0_tryTwo_40 rfl ?_
    first
      | exact ⟨rfl, hF2, by rw [if_neg (by omega)]; exact hC2, hJ 69 (by decide) (by decide), hJ 70 (by decide) (by decide), rfl, rfl⟩
      | (refine ⟨rfl, czF_f (czF_f (czF_f hF2 (by decide)) (by decide)) (by decide), ?_, ?_, ?_, rfl, rfl⟩
         · rw [if_pos (by omega)]
           refine ⟨⟨?_, hl⟩, Or.inr (Or.inr ⟨rfl, (show i < n by omega), hj, ?_, ?_⟩)⟩
           · rw [va_up_self, pk_un (by decide), va_up_self, pk_un (by decide), va_up_self]; exact pk_us
           · rw [va_up_self, pk_un (by decide), va_up_self]; exact pk_us
           · rw [va_up_self]; exact pk_us
         · rw [va_up_ne _ _ (by decide), va_up_ne _ _ (by decide), va_up_ne _ _ (by decide)]; exact hJ 69 (by decide) (by decide)
         · rw [va_up_ne _ _ (by decide), va_up_ne _ _ (by decide), va_up_ne _ _ (by decide)]; exact hJ 70 (by decide) (by decide))
  · refine r_aload_n dX0_tryTwo_25 rfl ?_
    refine r_iload_n dX0_tryTwo_26 rfl ?_
    refine r_putI dX0_tryTwo_27 f_X0_76 (by first | assumption | exact S.1 _ _ rfl) rfl rfl rfl ?_
    refine r_aload_n dX0_tryTwo_30 rfl ?_
    refine r_iload_n dX0_tryTwo_31 rfl ?_
    refine r_putI dX0_tryTwo_32 f_X0_66 (by first | assumption | exact S.1 _ _ rfl) rfl rfl rfl ?_
    refine r_aload_n dX0_tryTwo_35 rfl ?_
    refine r_iload_n dX0_tryTwo_36 rfl ?_
    refine r_putI dX0_tryTwo_37 f_X0_73 (by first | assumption | exact S.1 _ _ rfl) rfl rfl rfl ?_
    refine r_return dX0_tryTwo_40 rfl ?_
    first
      | exact ⟨rfl, hF2, by rw [if_neg (by omega)]; exact hC2, hJ 69 (by decide) (by decide), hJ 70 (by decide) (by decide), rfl, rfl⟩
      | (refine ⟨rfl, czF_f (czF_f (czF_f hF2 (by decide)) (by decide)) (by decide), ?_, ?_, ?_, rfl, rfl⟩
         · rw [if_pos (by omega)]
           refine ⟨⟨?_, hl⟩, Or.inr (Or.inr ⟨rfl, (show i < n by omega), hj, ?_, ?_⟩)⟩
           · rw [va_up_self, pk_un (by decide), va_up_self, pk_un (by decide), va_up_self]; exact pk_us
           · rw [va_up_self, pk_un (by decide), va_up_self]; exact pk_us
           · rw [va_up_self]; exact pk_us
         · rw [va_up_ne _ _ (by decide), va_up_ne _ _ (by decide), va_up_ne _ _ (by decide)]; exact hJ 69 (by decide) (by decide)
         · rw [va_up_ne _ _ (by decide), va_up_ne _ _ (by decide), va_up_ne _ _ (by decide)]; exact hJ 70 (by decide) (by decide))
theorem l_X0_ct2 (S : St_c sh P) (Z : czH n E D g h I) {s0 s1 : CS} {i : Nat} (hi : i < n) {m7 : Nat → Nat} (hm7 : ∀ a b, a ≤ b → b < n → g b ≤ m7 a ∧ m7 a ≤ 4000000) (K : ∀ H x2, czF I H → chR n (fo (sg2 g h i) s1 n) H → (∀ k, k < n → H 69 k = nI (g k)) → (∀ k, k < n → H 70 k = nI (m7 k)) → am_R mX0_chooseTwo (po_v (fun sh' I' P' => czF I I' ∧ chR n (fo (fun s i => fo (sg2 g h i) s n) s0 n) I' ∧ sh = sh' ∧ P = P')) 3 74 0 0 124 [some (.ref 66), some (.int (nI i)), x2] [] sh H P) : ∀ (m j : Nat) (H : AIn), j + m = n → i < j → czF I H → chR n (fo (sg2 g h i) s1 j) H → (∀ k, k < n → H 69 k = nI (g k)) → (∀ k, k < n → H 70 k = nI (m7 k)) → am_R mX0_chooseTwo (po_v (fun sh' I' P' => czF I I' ∧ chR n (fo (fun s i => fo (sg2 g h i) s n) s0 n) I' ∧ sh = sh' ∧ P = P')) 3 74 0 0 64 [some (.ref 66), some (.int (nI i)), some (.int (nI j))] [] sh H P := by
  have hn := Z.1
  intro m
  induction m with
  | zero =>
    intro j H hj hij hF hC w69 w70
    have e : j = n := by omega
    subst e
    have e0 := n_of Z hF
    refine r_iload_n dX0_chooseTwo_64 rfl ?_
    refine r_aload_n dX0_chooseTwo_65 rfl ?_
    refine r_getI dX0_chooseTwo_66 g_X0_79 (by first | assumption | exact S.1 _ _ rfl) rfl ?_
    rw [e0]
    refine r_icmp_geN 124 dX0_chooseTwo_69 (by decide) (by omega) (by omega) (fun h69 => ?_) (fun h69 => ?_)
    · exact K _ _ hF hC w69 w70
    · exact absurd h69 (by omega)
  | succ m ih =>
    intro j H hj hij hF hC w69 w70
    have hjn : j < n := by omega
    have e0 := n_of Z hF
    have gi := g_le Z hi
    have gj := g_le Z hjn
    have m1 := (hm7 j j (Nat.le_refl _) hjn).2
    have estp : fo (sg2 g h i) s1 (j + 1) = sg2 g h i (fo (sg2 g h i) s1 j) j := rfl
    have ih1 := fun H' => ih (j + 1) H' (by omega) (by omega)
    rw [estp] at ih1
    have hst : n = j + (n - j) := by omega
    generalize hs : fo (sg2 g h i) s1 j = s at hC ih1
    have hC1 := hC.1.1
    have hC2 := hC.1.2
    refine r_iload_n dX0_chooseTwo_64 rfl ?_
    refine r_aload_n dX0_chooseTwo_65 rfl ?_
    refine r_getI dX0_chooseTwo_66 g_X0_79 (by first | assumption | exact S.1 _ _ rfl) rfl ?_
    rw [e0]
    refine r_icmp_geN 124 dX0_chooseTwo_69 (by decide) (by omega) (by omega) (fun h69 => ?_) (fun h69 => ?_)
    · exact absurd h69 (by omega)
    · refine r_aload_n dX0_chooseTwo_72 rfl ?_
      refine r_getP dX0_chooseTwo_73 g_X0_22 (by first | assumption | exact S.1 _ _ rfl) rfl (by first | assumption | exact S.2 _ _ _ rfl) ?_
      refine r_iload_n dX0_chooseTwo_76 rfl ?_
      refine r_iaload i dX0_chooseTwo_77 (by first | assumption | exact S.1 _ _ rfl) rfl (by first | decide | omega) (by decide) ?_
      rw [w69 i hi]
      refine r_aload_n dX0_chooseTwo_78 rfl ?_
      refine r_getP dX0_chooseTwo_79 g_X0_25 (by first | assumption | exact S.1 _ _ rfl) rfl (by first | assumption | exact S.2 _ _ _ rfl) ?_
      refine r_iload_n dX0_chooseTwo_82 rfl ?_
      refine r_iaload j dX0_chooseTwo_83 (by first | assumption | exact S.1 _ _ rfl) rfl (by first | decide | omega) (by decide) ?_
      rw [w70 j hjn]
      first | refine r_iaddN dX0_chooseTwo_84 ?_ | refine r_iadd dX0_chooseTwo_84 ?_
      refine r_aload_n dX0_chooseTwo_85 rfl ?_
      refine r_getI dX0_chooseTwo_86 g_X0_76 (by first | assumption | exact S.1 _ _ rfl) rfl ?_
      rw [hC1]
      refine r_icmp_leN 124 dX0_chooseTwo_89 (by decide) (by omega) (by omega) (fun h89 => ?_) (fun h89 => ?_)
      · have e2 : fo (sg2 g h i) s1 n = s := by
          rw [hst, fo_stay (n - j) (fun k p q => ?_), hs]
          rw [hs]
          have := (hm7 j k p (by omega)).1
          unfold sg2
          exact if_neg (fun h9 => by omega)
        exact K _ _ hF (by rw [e2]; exact hC) w69 w70
      · refine r_aload_n dX0_chooseTwo_92 rfl ?_
        refine r_getP dX0_chooseTwo_93 g_X0_22 (by first | assumption | exact S.1 _ _ rfl) rfl (by first | assumption | exact S.2 _ _ _ rfl) ?_
        refine r_iload_n dX0_chooseTwo_96 rfl ?_
        refine r_iaload i dX0_chooseTwo_97 (by first | assumption | exact S.1 _ _ rfl) rfl (by first | decide | omega) (by decide) ?_
        rw [w69 i hi]
        refine r_aload_n dX0_chooseTwo_98 rfl ?_
        refine r_getP dX0_chooseTwo_99 g_X0_22 (by first | assumption | exact S.1 _ _ rfl) rfl (by first | assumption | exact S.2 _ _ _ rfl) ?_
        refine r_iload_n dX0_chooseTwo_102 rfl ?_
        refine r_iaload j dX0_chooseTwo_103 (by first | assumption | exact S.1 _ _ rfl) rfl (by first | decide | omega) (by decide) ?_
        rw [w69 j hjn]
        first | refine r_iaddN dX0_chooseTwo_104 ?_ | refine r_iadd dX0_chooseTwo_104 ?_
        refine r_aload_n dX0_chooseTwo_105 rfl ?_
        refine r_getI dX0_chooseTwo_106 g_X0_76 (by first | assumption | exact S.1 _ _ rfl) rfl ?_
        rw [hC1]
        refine r_icmp_leN 118 dX0_chooseTwo_109 (by decide) (by omega) (by omega) (fun h109 => ?_) (fun h109 => ?_)
        · have e2 : sg2 g h i s j = s := by
            unfold sg2
            exact if_neg (fun h9 => by omega)
          exact r_iincN dX0_chooseTwo_118 rfl kc_1 (r_goto 64 dX0_chooseTwo_121 (by decide) (ih1 _ hF (by rw [e2]; exact hC) w69 w70))
        · refine r_aload_n dX0_chooseTwo_112 rfl ?_
          refine r_iload_n dX0_chooseTwo_113 rfl ?_
          refine r_iload_n dX0_chooseTwo_114 rfl ?_
          refine r_callV2 (fr' := 2) (lo' := 51) (mc' := 0) (ms' := 0) dX0_chooseTwo_115 mm_X0_tryTwo mv_X0_tryTwo l_X0_136 (by first | assumption | exact S.1 _ _ rfl) mc_X0_tryTwo (by decide) ⟨by decide, by decide⟩ (Nat.zero_le _) (Nat.zero_le _) (Nat.le_of_ble_eq_true rfl) (c_X0_tryTwo S Z hF hij hjn hC) (am_kv ?_)
          rintro _ J _ ⟨hF2, hC9, e69, e70, rfl, rfl⟩
          first | refine r_iincN dX0_chooseTwo_118 rfl kc_1 ?_ | refine r_iinc dX0_chooseTwo_118 rfl rfl ?_
          dsimp only [List.set]
          refine r_goto 64 dX0_chooseTwo_121 (by decide) ?_
          refine ih1 J hF2 ?_ (fun k hk => by rw [e69]; exact w69 k hk) (fun k hk => by rw [e70]; exact w70 k hk)
          unfold sg2
          by_cases h9 : s.1 < h i j
          · rw [if_pos ⟨hij, by omega, h9⟩]
            rw [if_pos h9] at hC9
            exact hC9
          · rw [if_neg (fun q => h9 q.2.2)]
            rw [if_neg h9] at hC9
            exact hC9
theorem l_X0_ct1 (S : St_c sh P) (Z : czH n E D g h I) {s0 : CS} {m7 : Nat → Nat} (hm7 : ∀ a b, a ≤ b → b < n → g b ≤ m7 a ∧ m7 a ≤ 4000000) : ∀ (m i : Nat) (H : AIn) (x2 : Option Value), i + m = n → czF I H → chR n (fo (fun s i => fo (sg2 g h i) s n) s0 i) H → (∀ k, k < n → H 69 k = nI (g k)) → (∀ k, k < n → H 70 k = nI (m7 k)) → am_R mX0_chooseTwo (po_v (fun sh' I' P' => czF I I' ∧ chR n (fo (fun s i => fo (sg2 g h i) s n) s0 n) I' ∧ sh = sh' ∧ P = P')) 3 74 0 0 52 [some (.ref 66), some (.int (nI i)), x2] [] sh H P := by
  have hn := Z.1
  intro m
  induction m with
  | zero =>
    intro i H x2 hi hF hC w69 w70
    have e : i = n := by omega
    subst e
    have e0 := n_of Z hF
    refine r_iload_n dX0_chooseTwo_52 rfl ?_
    refine r_aload_n dX0_chooseTwo_53 rfl ?_
    refine r_getI dX0_chooseTwo_54 g_X0_79 (by first | assumption | exact S.1 _ _ rfl) rfl ?_
    rw [e0]
    refine r_icmp_geN 130 dX0_chooseTwo_57 (by decide) (by omega) (by omega) (fun h57 => ?_) (fun h57 => ?_)
    · refine r_return dX0_chooseTwo_130 rfl ?_
      exact ⟨rfl, hF, hC, rfl, rfl⟩
    · exact absurd h57 (by omega)
  | succ m ih =>
    intro i H x2 hi hF hC w69 w70
    have e0 := n_of Z hF
    refine r_iload_n dX0_chooseTwo_52 rfl ?_
    refine r_aload_n dX0_chooseTwo_53 rfl ?_
    refine r_getI dX0_chooseTwo_54 g_X0_79 (by first | assumption | exact S.1 _ _ rfl) rfl ?_
    rw [e0]
    refine r_icmp_geN 130 dX0_chooseTwo_57 (by decide) (by omega) (by omega) (fun h57 => ?_) (fun h57 => ?_)
    · exact absurd h57 (by omega)
    · refine r_iload_n dX0_chooseTwo_60 rfl ?_
      refine r_iconst dX0_chooseTwo_61 (v := nI 1) kc_1 ?_
      first | refine r_iaddN dX0_chooseTwo_62 ?_ | refine r_iadd dX0_chooseTwo_62 ?_
      refine r_istore_n dX0_chooseTwo_63 (Nat.le_of_ble_eq_true rfl) ?_
      dsimp only [List.set]
      refine l_X0_ct2 S Z (s1 := fo (fun s i => fo (sg2 g h i) s n) s0 i) (show i < n by omega) hm7 (fun H2 y2 q1 q2 q3 q4 => ?_) (n - (i + 1)) (i + 1) H (by omega) (Nat.lt_succ_self i) hF ?_ w69 w70
      · exact r_iincN dX0_chooseTwo_124 rfl kc_1 (r_goto 52 dX0_chooseTwo_127 (by decide) (ih (i + 1) H2 y2 (by omega) q1 q2 q3 q4))
      · have e1 := fo_stay (f := sg2 g h i) (s := fo (fun s i => fo (sg2 g h i) s n) s0 i) (b := 0) (i + 1) (fun k p q => if_neg (fun h9 => by omega))
        rw [Nat.zero_add] at e1
        rw [e1]
        exact hC
theorem l_X0_ct0 (S : St_c sh P) (Z : czH n E D g h I) {s0 : CS} : ∀ (j : Nat) (H : AIn) (m7 : Nat → Nat), j ≤ n → czF I H → chR n s0 H → (∀ k, k < n → H 69 k = nI (g k)) → (∀ k, j ≤ k → k ≤ n → H 70 k = nI (m7 k) ∧ m7 k ≤ 4000000) → (∀ a b, j ≤ a → a ≤ b → b < n → g b ≤ m7 a) → am_R mX0_chooseTwo (po_v (fun sh' I' P' => czF I I' ∧ chR n (fo (fun s i => fo (sg2 g h i) s n) s0 n) I' ∧ sh = sh' ∧ P = P')) 3 74 0 0 17 [some (.ref 66), some (.int (nI j - nI 1)), none] [] sh H P := by
  have hn := Z.1
  intro j
  induction j with
  | zero =>
    intro H m7 hj hF hC w69 w70 hb
    refine r_iload_n dX0_chooseTwo_17 rfl ?_
    refine r_if_lt 50 dX0_chooseTwo_18 (by decide) (fun h18 => ?_) (fun h18 => ?_)
    · refine r_iconst dX0_chooseTwo_50 (v := nI 0) kc_0 ?_
      refine r_istore_n dX0_chooseTwo_51 (Nat.le_of_ble_eq_true rfl) ?_
      dsimp only [List.set]
      exact l_X0_ct1 S Z (m7 := m7) (fun a b p q => ⟨hb a b (Nat.zero_le _) p q, (w70 a (Nat.zero_le _) (by omega)).2⟩) n 0 H _ (Nat.zero_add _) hF hC w69 (fun k hk => (w70 k (Nat.zero_le _) (by omega)).1)
    · exact absurd (by decide) h18
  | succ j ih =>
    intro H m7 hj hF hC w69 w70 hb
    have gj := g_le Z (show j < n by omega)
    obtain ⟨a1, a2⟩ := w70 (j + 1) (Nat.le_refl _) hj
    rw [pk_sub (by omega), Nat.add_sub_cancel]
    refine r_iload_n dX0_chooseTwo_17 rfl ?_
    refine r_if_lt 50 dX0_chooseTwo_18 (by decide) (fun h18 => ?_) (fun h18 => ?_)
    · exact absurd h18 (nI_pos (by omega))
    · refine r_aload_n dX0_chooseTwo_21 rfl ?_
      refine r_getP dX0_chooseTwo_22 g_X0_25 (by first | assumption | exact S.1 _ _ rfl) rfl (by first | assumption | exact S.2 _ _ _ rfl) ?_
      refine r_iload_n dX0_chooseTwo_25 rfl ?_
      refine r_aload_n dX0_chooseTwo_26 rfl ?_
      refine r_getP dX0_chooseTwo_27 g_X0_22 (by first | assumption | exact S.1 _ _ rfl) rfl (by first | assumption | exact S.2 _ _ _ rfl) ?_
      refine r_iload_n dX0_chooseTwo_30 rfl ?_
      refine r_iaload j dX0_chooseTwo_31 (by first | assumption | exact S.1 _ _ rfl) rfl (by first | decide | omega) (by decide) ?_
      rw [w69 j (by omega)]
      refine r_aload_n dX0_chooseTwo_32 rfl ?_
      refine r_getP dX0_chooseTwo_33 g_X0_25 (by first | assumption | exact S.1 _ _ rfl) rfl (by first | assumption | exact S.2 _ _ _ rfl) ?_
      refine r_iload_n dX0_chooseTwo_36 rfl ?_
      refine r_iconst dX0_chooseTwo_37 (v := nI 1) kc_1 ?_
      first | refine r_iaddN dX0_chooseTwo_38 ?_ | refine r_iadd dX0_chooseTwo_38 ?_
      refine r_iaload (j + 1) dX0_chooseTwo_39 (by first | assumption | exact S.1 _ _ rfl) rfl (by first | decide | omega) (by decide) ?_
      rw [a1]
      refine r_max dX0_chooseTwo_40 lm_X0_131 ⟨by decide, Nat.le_of_ble_eq_true rfl⟩ ?_
      rw [nI_max (by omega) (by omega)]
      refine r_iastore j dX0_chooseTwo_43 (by first | assumption | exact S.1 _ _ rfl) rfl (by first | decide | omega) (by decide) ?_
      refine r_iinc dX0_chooseTwo_44 rfl (v := nI j - nI 1) (by rw [show Int32.ofInt (-1) = -1 from rfl, Int32.sub_eq_add_neg]; rfl) ?_
      dsimp only [List.set]
      refine r_goto 17 dX0_chooseTwo_47 (by decide) ?_
      have hmx : max (g j) (m7 (j + 1)) ≤ 4000000 := Nat.max_le.mpr ⟨gj, a2⟩
      refine ih _ (va1 m7 j (max (g j) (m7 (j + 1)))) (by omega) (czF_a hF (by omega)) (chR_66 hC (va_up_ne _ _ (by decide))) (fun k hk => by rw [va_up_ne _ _ (by decide)]; exact w69 k hk) (fun k p q => ?_) (fun a b p q r => ?_)
      · rw [va_up_self]
        by_cases e : k = j
        · rw [e, pk_us, va1_c]; exact ⟨rfl, hmx⟩
        · rw [pk_un e, va1_n e]; exact w70 k (by omega) q
      · by_cases e : a = j
        · rw [e, va1_c]
          by_cases e2 : b = j
          · rw [e2]; exact Nat.le_max_left _ _
          · exact Nat.le_trans (hb (j + 1) b (Nat.le_refl _) (by omega) r) (Nat.le_max_right _ _)
        · rw [va1_n e]; exact hb a b (by omega) q r
theorem c_X0_chooseTwo (S : St_c sh P) (Z : czH n E D g h I) {H : AIn} (hF : czF I H) {s0 : CS} (hC : chR n s0 H) (w69 : ∀ k, k < n → H 69 k = nI (g k)) : am_R mX0_chooseTwo (po_v (fun sh' I' P' => czF I I' ∧ chR n (fo (fun s i => fo (sg2 g h i) s n) s0 n) I' ∧ sh = sh' ∧ P = P')) 3 74 0 0 0 [some (.ref 66), none, none] [] sh H P := by
  have hn := Z.1
  have e0 := n_of Z hF
  refine r_aload_n dX0_chooseTwo_0 rfl ?_
  refine r_getP dX0_chooseTwo_1 g_X0_25 (by first | assumption | exact S.1 _ _ rfl) rfl (by first | assumption | exact S.2 _ _ _ rfl) ?_
  refine r_aload_n dX0_chooseTwo_4 rfl ?_
  refine r_getI dX0_chooseTwo_5 g_X0_79 (by first | assumption | exact S.1 _ _ rfl) rfl ?_
  rw [e0]
  refine r_iconst dX0_chooseTwo_8 (v := nI 0) kc_0 ?_
  refine r_iastore n dX0_chooseTwo_9 (by first | assumption | exact S.1 _ _ rfl) rfl (by first | decide | omega) (by decide) ?_
  refine r_aload_n dX0_chooseTwo_10 rfl ?_
  refine r_getI dX0_chooseTwo_11 g_X0_79 (by first | assumption | exact S.1 _ _ rfl) rfl ?_
  rw [va_up_ne _ _ (by decide), e0]
  refine r_iconst dX0_chooseTwo_14 (v := nI 1) kc_1 ?_
  refine r_isub dX0_chooseTwo_15 ?_
  refine r_istore_n dX0_chooseTwo_16 (Nat.le_of_ble_eq_true rfl) ?_
  dsimp only [List.set]
  refine l_X0_ct0 S Z n _ (fun _ => 0) (Nat.le_refl _) (czF_a hF (by omega)) (chR_66 hC (va_up_ne _ _ (by decide))) (fun k hk => by rw [va_up_ne _ _ (by decide)]; exact w69 k hk) (fun k p q => ?_) (fun a b p q r => absurd r (by omega))
  have e : k = n := by omega
  rw [e, va_up_self, pk_us]
  exact ⟨rfl, Nat.zero_le _⟩
end K24
