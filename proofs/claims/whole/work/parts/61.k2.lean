/-! the class: rows told, and rows of them -/
def pick (a b c d : Int32) (k : Nat) : Int32 := if k = 0 then a else if k = 1 then b else if k = 2 then c else d
def rokP (n a b c d : Int32) : Prop := (2 ≤ nv n ∧ inR n 5) ∧ ∀ k, k < nv n → inR (pick a b c d k) 16 ∧ (k + 1 < nv n → ¬ isLs (nv (pick a b c d k)))
theorem fa_ltt {a b c : Int32} (h : a < b) (h2 : b ≤ c) : a < c := Int32.lt_iff_toInt_lt.mpr (Int.lt_of_lt_of_le (Int32.lt_iff_toInt_lt.mp h) (Int32.le_iff_toInt_le.mp h2))
def rowN (a b c d : Int32) (n : Nat) : Nat := e5 (fun k => nv (pick a b c d k)) n
section K2
variable {sh : ASh} {I : AIn} {P : APt}
theorem c_X4_with2 {κ : Nat → Nat} {k r j : Nat} (hk : k < 4) (h : ∀ i, i ≤ k → κ i ≤ 15) (hr : r = e5 κ k) (hj : j = κ k) : am_R mX4_with (po_i (fun v sh' I' P' => v = nI (e5 κ (k + 1)) ∧ sh = sh' ∧ I = I' ∧ P = P')) 0 0 0 0 0 [some (.int (nI r)), some (.int (nI k)), some (.int (nI j))] [] sh I P := by
  subst hr hj
  exact c_X4_with hk h
theorem l_X4_of {N : Nat} (h2 : 2 ≤ N) (h4 : N ≤ 4) {a b c d : Int32} : ∀ (m k : Nat), k + m = N → (∀ i, i < k → inR (pick a b c d i) 16 ∧ (i + 1 < N → ¬ isLs (nv (pick a b c d i)))) → ∀ x7, am_R mX4_of (po_i (fun v sh' I' P' => v = cif (rokP (nI N) a b c d) (nI (rowN a b c d N)) (nI 0) ∧ sh = sh' ∧ I = I' ∧ P = P')) 2 40 0 0 18 [some (.int (nI N)), some (.int a), some (.int b), some (.int c), some (.int d), some (.int (nI (rowN a b c d k))), some (.int (nI k)), x7] [] sh I P := by
  have eN : nv (nI N) = N := nv_nI (by omega)
  intro m
  induction m with
  | zero =>
    intro k hk hA x7
    have e : k = N := by omega
    subst e
    have hr : rokP (nI k) a b c d := ⟨⟨by rw [eN]; exact h2, inR_nI (by omega)⟩, by rw [eN]; exact hA⟩
    rw [cif_t hr]
    refine r_iload dX4_of_18 rfl ?_
    refine r_iload_n dX4_of_20 rfl ?_
    refine r_icmp_geN 100 dX4_of_21 (by decide) (by omega) (by omega) (fun h21 => ?_) (fun h21 => ?_)
    · refine r_iload dX4_of_100 rfl ?_
      refine r_ireturn dX4_of_102 .int rfl rfl ?_
      exact ⟨_, rfl, rfl, rfl, rfl, rfl⟩
    · exact absurd h21 (by omega)
  | succ m ih =>
    intro k hk hA x7
    have st : ∀ x, x = pick a b c d k → am_R mX4_of (po_i (fun v sh' I' P' => v = cif (rokP (nI N) a b c d) (nI (rowN a b c d N)) (nI 0) ∧ sh = sh' ∧ I = I' ∧ P = P')) 2 40 0 0 55 [some (.int (nI N)), some (.int a), some (.int b), some (.int c), some (.int d), some (.int (nI (rowN a b c d k))), some (.int (nI k)), x7] [.int x] sh I P := by
      intro x hx
      have st2 : ∀ j, j < 16 → nI j = pick a b c d k → (k + 1 < N → ¬ isLs j) → am_R mX4_of (po_i (fun v sh' I' P' => v = cif (rokP (nI N) a b c d) (nI (rowN a b c d N)) (nI 0) ∧ sh = sh' ∧ I = I' ∧ P = P')) 2 40 0 0 83 [some (.int (nI N)), some (.int a), some (.int b), some (.int c), some (.int d), some (.int (nI (rowN a b c d k))), some (.int (nI k)), some (.int (nI j))] [] sh I P := by
        intro j hj hx hl
        have ej : j = nv (pick a b c d k) := by rw [← hx, nv_nI (by omega)]
        have hA' : ∀ i, i < k + 1 → inR (pick a b c d i) 16 ∧ (i + 1 < N → ¬ isLs (nv (pick a b c d i))) := fun i hi => by
          rcases Nat.lt_or_ge i k with g | g
          · exact hA i g
          · have e : i = k := by omega
            subst e
            rw [← ej]
            exact ⟨hx ▸ inR_nI hj, hl⟩
        have hle : ∀ i, i ≤ k → nv (pick a b c d i) ≤ 15 := fun i hi => by
          have := ((hA' i (by omega)).1.nv (by decide)).2
          omega
        refine r_iload dX4_of_83 rfl ?_
        refine r_iload dX4_of_85 rfl ?_
        refine r_iload dX4_of_87 rfl ?_
        refine r_callS3 (fr' := 0) (lo' := 0) (mc' := 0) (ms' := 0) dX4_of_89 mm_X4_with ms_X4_with l_X4_18 (by decide) ⟨by decide, by decide⟩ (Nat.zero_le _) (Nat.zero_le _) (Nat.le_of_ble_eq_true rfl) (c_X4_with2 (κ := fun k => nv (pick a b c d k)) (by omega) hle rfl ej) (am_ki ?_)
        rintro v _ _ _ ⟨rfl, rfl, rfl, rfl⟩
        refine r_istore dX4_of_92 (Nat.le_of_ble_eq_true rfl) ?_
        dsimp only [List.set]
        first | refine r_iincN dX4_of_94 rfl kc_1 ?_ | refine r_iinc dX4_of_94 rfl rfl ?_
        dsimp only [List.set]
        refine r_goto 18 dX4_of_97 (by decide) ?_
        exact ih (k + 1) (by omega) hA' _
      have no : ¬ (inR x 16 ∧ (k + 1 < N → ¬ isLs (nv x))) → cif (rokP (nI N) a b c d) (nI (rowN a b c d N)) (nI 0) = nI 0 := fun h => cif_f (fun hr => h (by
        have := hr.2 k (by rw [eN]; omega)
        rw [eN] at this
        rw [hx]
        exact this))
      refine r_istore dX4_of_55 (Nat.le_of_ble_eq_true rfl) ?_
      dsimp only [List.set]
      refine r_iload dX4_of_57 rfl ?_
      refine r_callS1 (fr' := 0) (lo' := 0) (mc' := 0) (ms' := 0) dX4_of_59 mm_X1_isOne ms_X1_isOne l_X4_9 (by decide) ⟨by decide, by decide⟩ (Nat.zero_le _) (Nat.zero_le _) (Nat.le_of_ble_eq_true rfl) (c_X1_isOne _) (am_ki ?_)
      rintro v59 _ _ _ ⟨hb59, rfl, rfl, rfl⟩
      refine r_if_eq 81 dX4_of_62 (by decide) (fun h62 => ?_) (fun h62 => ?_)
      · replace h62 := hb59.f h62
        rw [no (fun h => h62 h.1)]
        refine r_iconst dX4_of_81 (v := nI 0) kc_0 ?_
        refine r_ireturn dX4_of_82 .int rfl rfl ?_
        exact ⟨_, rfl, rfl, rfl, rfl, rfl⟩
      · replace h62 := hb59.t h62
        obtain ⟨j, hj, rfl⟩ := h62
        have enj : nv (nI j) = j := nv_nI (by omega)
        refine r_iload dX4_of_65 rfl ?_
        refine r_iload_n dX4_of_67 rfl ?_
        refine r_iconst dX4_of_68 (v := nI 1) kc_1 ?_
        first | refine r_isubN dX4_of_69 (by omega) ?_ | refine r_isub dX4_of_69 ?_
        refine r_icmp_geN 83 dX4_of_70 (by decide) (by omega) (by omega) (fun h70 => ?_) (fun h70 => ?_)
        · exact st2 j hj hx (by first | (intro h9; exact absurd h9 (by omega)) | (intro _; exact h78))
        · refine r_iload dX4_of_73 rfl ?_
          refine r_callS1 (fr' := 1) (lo' := 20) (mc' := 0) (ms' := 0) dX4_of_75 mm_X1_isLastAlone ms_X1_isLastAlone l_X4_15 (by decide) ⟨by decide, by decide⟩ (Nat.zero_le _) (Nat.zero_le _) (Nat.le_of_ble_eq_true rfl) (c_X1_isLastAlone (by omega)) (am_ki ?_)
          rintro v75 _ _ _ ⟨hb75, rfl, rfl, rfl⟩
          refine r_if_eq 83 dX4_of_78 (by decide) (fun h78 => ?_) (fun h78 => ?_)
          · replace h78 := hb75.f h78
            exact st2 j hj hx (by first | (intro h9; exact absurd h9 (by omega)) | (intro _; exact h78))
          · replace h78 := hb75.t h78
            rw [no (fun h => h.2 (by omega) (by rw [enj]; exact h78))]
            refine r_iconst dX4_of_81 (v := nI 0) kc_0 ?_
            refine r_ireturn dX4_of_82 .int rfl rfl ?_
            exact ⟨_, rfl, rfl, rfl, rfl, rfl⟩
    refine r_iload dX4_of_18 rfl ?_
    refine r_iload_n dX4_of_20 rfl ?_
    refine r_icmp_geN 100 dX4_of_21 (by decide) (by omega) (by omega) (fun h21 => ?_) (fun h21 => ?_)
    · exact absurd h21 (by omega)
    · refine r_iload dX4_of_24 rfl ?_
      refine r_if_neN 33 dX4_of_26 (by decide) (by omega) (fun h26 => ?_) (fun h26 => ?_)
      · refine r_iload dX4_of_33 rfl ?_
        refine r_iconst dX4_of_35 (v := nI 1) kc_1 ?_
        refine r_icmp_neN 43 dX4_of_36 (by decide) (by omega) (by omega) (fun h36 => ?_) (fun h36 => ?_)
        · refine r_iload dX4_of_43 rfl ?_
          refine r_iconst dX4_of_45 (v := nI 2) kc_2 ?_
          refine r_icmp_neN 53 dX4_of_46 (by decide) (by omega) (by omega) (fun h46 => ?_) (fun h46 => ?_)
          · refine r_iload dX4_of_53 rfl ?_
            exact st _ (by unfold pick; first | rw [if_pos (by omega)] | rw [if_neg (by omega), if_pos (by omega)] | rw [if_neg (by omega), if_neg (by omega), if_pos (by omega)] | rw [if_neg (by omega), if_neg (by omega), if_neg (by omega)])
          · refine r_iload_n dX4_of_49 rfl ?_
            refine r_goto 55 dX4_of_50 (by decide) ?_
            exact st _ (by unfold pick; first | rw [if_pos (by omega)] | rw [if_neg (by omega), if_pos (by omega)] | rw [if_neg (by omega), if_neg (by omega), if_pos (by omega)] | rw [if_neg (by omega), if_neg (by omega), if_neg (by omega)])
        · refine r_iload_n dX4_of_39 rfl ?_
          refine r_goto 55 dX4_of_40 (by decide) ?_
          exact st _ (by unfold pick; first | rw [if_pos (by omega)] | rw [if_neg (by omega), if_pos (by omega)] | rw [if_neg (by omega), if_neg (by omega), if_pos (by omega)] | rw [if_neg (by omega), if_neg (by omega), if_neg (by omega)])
      · refine r_iload_n dX4_of_29 rfl ?_
        refine r_goto 55 dX4_of_30 (by decide) ?_
        exact st _ (by unfold pick; first | rw [if_pos (by omega)] | rw [if_neg (by omega), if_pos (by omega)] | rw [if_neg (by omega), if_neg (by omega), if_pos (by omega)] | rw [if_neg (by omega), if_neg (by omega), if_neg (by omega)])
theorem c_X4_of (n a b c d : Int32) : am_R mX4_of (po_i (fun v sh' I' P' => v = cif (rokP n a b c d) (nI (rowN a b c d (nv n))) (nI 0) ∧ sh = sh' ∧ I = I' ∧ P = P')) 2 40 0 0 0 [some (.int n), some (.int a), some (.int b), some (.int c), some (.int d), none, none, none] [] sh I P := by
  have no : ¬ (2 ≤ nv n ∧ inR n 5) → cif (rokP n a b c d) (nI (rowN a b c d (nv n))) (nI 0) = nI 0 := fun h => cif_f (fun hr => h hr.1)
  have n2 : n < nI 2 → ¬ (2 ≤ nv n ∧ inR n 5) := fun h h2 => by
    obtain ⟨h3, j, hj, rfl⟩ := h2
    rw [nv_nI (by omega)] at h3
    have := (nI_ltI (by omega) (by decide)).mp h
    omega
  refine r_iload_n dX4_of_0 rfl ?_
  refine r_iconst dX4_of_1 (v := nI 2) kc_2 ?_
  refine r_icmp_lt 10 dX4_of_2 (by decide) (fun h2 => ?_) (fun h2 => ?_)
  · rw [no (n2 h2)]
    refine r_iconst dX4_of_10 (v := nI 0) kc_0 ?_
    refine r_ireturn dX4_of_11 .int rfl rfl ?_
    exact ⟨_, rfl, rfl, rfl, rfl, rfl⟩
  · refine r_iload_n dX4_of_5 rfl ?_
    refine r_iconst dX4_of_6 (v := nI 4) kc_4 ?_
    refine r_icmp_le 12 dX4_of_7 (by decide) (fun h7 => ?_) (fun h7 => ?_)
    · have h0 : ¬ n < 0 := fun h => h2 (fa_ltt h (by decide))
      obtain ⟨N, hN, rfl⟩ := nI_of h0
      have hN4 := (nI_leI hN (by decide)).mp h7
      have hN2 : ¬ N < 2 := fun h => h2 ((nI_ltI hN (by decide)).mpr h)
      rw [nv_nI hN]
      refine r_iconst dX4_of_12 (v := nI 0) kc_0 ?_
      refine r_istore dX4_of_13 (Nat.le_of_ble_eq_true rfl) ?_
      dsimp only [List.set]
      refine r_iconst dX4_of_15 (v := nI 0) kc_0 ?_
      refine r_istore dX4_of_16 (Nat.le_of_ble_eq_true rfl) ?_
      dsimp only [List.set]
      exact l_X4_of (by omega) hN4 N 0 (Nat.zero_add _) (fun i hi => absurd hi (Nat.not_lt_zero i)) _
    · rw [no (fun h => by obtain ⟨h3, j, hj, rfl⟩ := h; exact h7 (nI_le (by omega) (by decide)))]
      refine r_iconst dX4_of_10 (v := nI 0) kc_0 ?_
      refine r_ireturn dX4_of_11 .int rfl rfl ?_
      exact ⟨_, rfl, rfl, rfl, rfl, rfl⟩
/-! rows in their order: at r, their numbers at r + 1 -/
def SRw (sh : ASh) (P : APt) (r : Nat) : Prop := sh r = (1, 3) ∧ sh (r + 1) = (2, 6) ∧ P r 1 = some (r + 1)
/-- m rows, E j their numbers -/
def RwR (I : AIn) (r m : Nat) (E : Nat → Nat) : Prop := I r 0 = nI m ∧ m ≤ 6 ∧ ∀ j, j < m → I (r + 1) j = nI (E j) ∧ E j < 1048576
theorem c_X5_append {r m : Nat} (R : SRw sh P r) (hm : I r 0 = nI m) (hm6 : m ≤ 6) (x : Int32) : am_R mX5_append (po_i (fun v sh' I' P' => bo v (m < 6) ∧ (m < 6 → I' = va_up (va_up I (r + 1) (upd (I (r + 1)) m x)) r (upd (I r) 0 (nI (m + 1)))) ∧ (¬ m < 6 → I' = I) ∧ sh = sh' ∧ P = P')) 0 0 0 0 0 [some (.ref r), some (.int x)] [] sh I P := by
  obtain ⟨s0, s1, p1⟩ := R
  refine r_aload_n dX5_append_0 rfl ?_
  refine r_getI dX5_append_1 g_X5_15 (by assumption) rfl ?_
  rw [hm]
  refine r_bipush dX5_append_4 (v := nI 6) (by decide) ?_
  refine r_icmp_ltN 11 dX5_append_6 (by decide) (by omega) (by omega) (fun h6 => ?_) (fun h6 => ?_)
  · refine r_aload_n dX5_append_11 rfl ?_
    refine r_getP dX5_append_12 g_X5_11 (by assumption) rfl (by assumption) ?_
    refine r_aload_n dX5_append_15 rfl ?_
    refine r_getI dX5_append_16 g_X5_15 (by assumption) rfl ?_
    rw [hm]
    refine r_iload_n dX5_append_19 rfl ?_
    refine r_iastore _ dX5_append_20 (by assumption) rfl (by first | decide | omega) (by decide) ?_
    refine r_aload_n dX5_append_21 rfl ?_
    refine r_dup dX5_append_22 ?_
    refine r_getI dX5_append_23 g_X5_15 (by assumption) rfl ?_
    rw [va_up_ne _ _ (by omega), hm]
    refine r_iconst dX5_append_26 (v := nI 1) kc_1 ?_
    first | refine r_iaddN dX5_append_27 ?_ | refine r_iadd dX5_append_27 ?_
    refine r_putI dX5_append_28 f_X5_15 (by assumption) rfl rfl rfl ?_
    rw [va_up_ne _ _ (show r ≠ r + 1 by omega)]
    refine r_iconst dX5_append_31 (v := nI 1) kc_1 ?_
    refine r_ireturn dX5_append_32 .boolean rfl (by decide) ?_
    exact ⟨_, rfl, bo_1 h6, fun _ => rfl, fun h => absurd h6 h, rfl, rfl⟩
  · refine r_iconst dX5_append_9 (v := nI 0) kc_0 ?_
    refine r_ireturn dX5_append_10 .boolean rfl (by decide) ?_
    exact ⟨_, rfl, bo_0 h6, fun h => absurd h h6, fun _ => rfl, rfl, rfl⟩
theorem l_X5_indexOf {r m e : Nat} {E : Nat → Nat} (R : SRw sh P r) (hR : RwR I r m E) (he : e < 1048576) : ∀ (n k : Nat), k + n = m → (∀ i, i < k → E i ≠ e) → am_R mX5_indexOf (po_i (fun v sh' I' P' => ((∃ j, j < m ∧ E j = e ∧ v = nI j) ∨ ((∀ j, j < m → E j ≠ e) ∧ v = -1)) ∧ sh = sh' ∧ I = I' ∧ P = P')) 0 0 0 0 2 [some (.ref r), some (.int (nI e)), some (.int (nI k))] [] sh I P := by
  obtain ⟨s0, s1, p1⟩ := R
  have hm := hR.1
  have h6 := hR.2.1
  intro n
  induction n with
  | zero =>
    intro k hk hE
    have e9 : k = m := by omega
    subst e9
    refine r_iload_n dX5_indexOf_2 rfl ?_
    refine r_aload_n dX5_indexOf_3 rfl ?_
    refine r_getI dX5_indexOf_4 g_X5_15 (by assumption) rfl ?_
    rw [hm]
    refine r_icmp_geN 28 dX5_indexOf_7 (by decide) (by omega) (by omega) (fun h7 => ?_) (fun h7 => ?_)
    · refine r_iconst dX5_indexOf_28 (v := (-1)) kc_m1 ?_
      refine r_ireturn dX5_indexOf_29 .int rfl rfl ?_
      exact ⟨_, rfl, Or.inr ⟨hE, rfl⟩, rfl, rfl, rfl⟩
    · exact absurd h7 (by omega)
  | succ n ih =>
    intro k hk hE
    obtain ⟨ek, bk⟩ := hR.2.2 k (by omega)
    refine r_iload_n dX5_indexOf_2 rfl ?_
    refine r_aload_n dX5_indexOf_3 rfl ?_
    refine r_getI dX5_indexOf_4 g_X5_15 (by assumption) rfl ?_
    rw [hm]
    refine r_icmp_geN 28 dX5_indexOf_7 (by decide) (by omega) (by omega) (fun h7 => ?_) (fun h7 => ?_)
    · exact absurd h7 (by omega)
    · refine r_aload_n dX5_indexOf_10 rfl ?_
      refine r_getP dX5_indexOf_11 g_X5_11 (by assumption) rfl (by assumption) ?_
      refine r_iload_n dX5_indexOf_14 rfl ?_
      refine r_iaload k dX5_indexOf_15 (by assumption) rfl (by first | decide | omega) (by decide) ?_
      rw [ek]
      refine r_iload_n dX5_indexOf_16 rfl ?_
      refine r_icmp_neN 22 dX5_indexOf_17 (by decide) (by omega) (by omega) (fun h17 => ?_) (fun h17 => ?_)
      · first | refine r_iincN dX5_indexOf_22 rfl kc_1 ?_ | refine r_iinc dX5_indexOf_22 rfl rfl ?_
        dsimp only [List.set]
        refine r_goto 2 dX5_indexOf_25 (by decide) ?_
        exact ih (k + 1) (by omega) (fun i hi => by
          rcases Nat.lt_or_ge i k with g | g
          · exact hE i g
          · have e9 : i = k := by omega
            subst e9; exact h17)
      · refine r_iload_n dX5_indexOf_20 rfl ?_
        refine r_ireturn dX5_indexOf_21 .int rfl rfl ?_
        exact ⟨_, rfl, Or.inl ⟨k, by omega, h17, rfl⟩, rfl, rfl, rfl⟩
theorem c_X5_indexOf {r m e : Nat} {E : Nat → Nat} (R : SRw sh P r) (hR : RwR I r m E) (he : e < 1048576) : am_R mX5_indexOf (po_i (fun v sh' I' P' => ((∃ j, j < m ∧ E j = e ∧ v = nI j) ∨ ((∀ j, j < m → E j ≠ e) ∧ v = -1)) ∧ sh = sh' ∧ I = I' ∧ P = P')) 0 0 0 0 0 [some (.ref r), some (.int (nI e)), none] [] sh I P := by
  refine r_iconst dX5_indexOf_0 (v := nI 0) kc_0 ?_
  refine r_istore_n dX5_indexOf_1 (Nat.le_of_ble_eq_true rfl) ?_
  dsimp only [List.set]
  exact l_X5_indexOf R hR he m 0 (Nat.zero_add _) (fun i hi => absurd hi (Nat.not_lt_zero i))
theorem c_X5_kind {r m : Nat} {κ : Nat → Nat → Nat} {L : Nat → Nat} (R : SRw sh P r) (hR : RwR I r m (fun j => e5 (κ j) (L j))) (hL : ∀ j, j < m → L j ≤ 4 ∧ ∀ i, i < L j → κ j i ≤ 15) (x y : Int32) : am_R mX5_kind (po_i (fun v sh' I' P' => v = cif (inR x m ∧ inR y (L (nv x))) (nI (κ (nv x) (nv y))) (-1) ∧ sh = sh' ∧ I = I' ∧ P = P')) 1 21 0 0 0 [some (.ref r), some (.int x), some (.int y)] [] sh I P := by
  obtain ⟨s0, s1, p1⟩ := R
  have hm := hR.1
  have h6 := hR.2.1
  have no : ¬ (inR x m ∧ inR y 4) → cif (inR x m ∧ inR y (L (nv x))) (nI (κ (nv x) (nv y))) (-1) = -1 := fun h => cif_f (fun h2 => h ⟨h2.1, by
    obtain ⟨⟨j, hj, rfl⟩, ⟨i, hi, rfl⟩⟩ := h2
    rw [nv_nI (by omega)] at hi
    exact inR_nI (by have := (hL j hj).1; omega)⟩)
  refine r_iload_n dX5_kind_0 rfl ?_
  refine r_if_lt 21 dX5_kind_1 (by decide) (fun h1 => ?_) (fun h1 => ?_)
  · rw [no (fun h => inR_n0 (by omega) h1 h.1)]
    refine r_iconst dX5_kind_21 (v := (-1)) kc_m1 ?_
    refine r_ireturn dX5_kind_22 .int rfl rfl ?_
    exact ⟨_, rfl, rfl, rfl, rfl, rfl⟩
  · refine r_iload_n dX5_kind_4 rfl ?_
    refine r_aload_n dX5_kind_5 rfl ?_
    refine r_getI dX5_kind_6 g_X5_15 (by assumption) rfl ?_
    rw [hm]
    refine r_icmp_ge 21 dX5_kind_9 (by decide) (fun h9 => ?_) (fun h9 => ?_)
    · rw [no (fun h => inR_n1 (by omega) h9 h.1)]
      refine r_iconst dX5_kind_21 (v := (-1)) kc_m1 ?_
      refine r_ireturn dX5_kind_22 .int rfl rfl ?_
      exact ⟨_, rfl, rfl, rfl, rfl, rfl⟩
    · refine r_iload_n dX5_kind_12 rfl ?_
      refine r_if_lt 21 dX5_kind_13 (by decide) (fun h13 => ?_) (fun h13 => ?_)
      · rw [no (fun h => inR_n0 (by decide) h13 h.2)]
        refine r_iconst dX5_kind_21 (v := (-1)) kc_m1 ?_
        refine r_ireturn dX5_kind_22 .int rfl rfl ?_
        exact ⟨_, rfl, rfl, rfl, rfl, rfl⟩
      · refine r_iload_n dX5_kind_16 rfl ?_
        refine r_iconst dX5_kind_17 (v := nI 4) kc_4 ?_
        refine r_icmp_lt 23 dX5_kind_18 (by decide) (fun h18 => ?_) (fun h18 => ?_)
        · obtain ⟨j, hj, rfl⟩ := inR_of (show m < 2147483648 by omega) h1 h9
          obtain ⟨i, hi, rfl⟩ := inR_of (show 4 < 2147483648 by decide) h13 (fun h => Int32.not_lt.mpr h h18)
          obtain ⟨ej, bj⟩ := hR.2.2 j hj
          obtain ⟨hl4, hκ⟩ := hL j hj
          have enj : nv (nI j) = j := nv_nI (by omega)
          have eni : nv (nI i) = i := nv_nI (by omega)
          rw [enj, eni]
          refine r_aload_n dX5_kind_23 rfl ?_
          refine r_getP dX5_kind_24 g_X5_11 (by assumption) rfl (by assumption) ?_
          refine r_iload_n dX5_kind_27 rfl ?_
          refine r_iaload j dX5_kind_28 (by assumption) rfl (by first | decide | omega) (by decide) ?_
          rw [ej]
          refine r_iload_n dX5_kind_29 rfl ?_
          refine r_callS2 (fr' := 0) (lo' := 0) (mc' := 0) (ms' := 0) dX5_kind_30 mm_X4_kind ms_X4_kind l_X5_21 (by decide) ⟨by decide, by decide⟩ (Nat.zero_le _) (Nat.zero_le _) (Nat.le_of_ble_eq_true rfl) (c_X4_kind hl4 hκ hi) (am_ki ?_)
          rintro v _ _ _ ⟨rfl, rfl, rfl, rfl⟩
          refine r_ireturn dX5_kind_33 .int rfl rfl ?_
          refine ⟨_, rfl, ?_, rfl, rfl, rfl⟩
          by_cases h : i < L j
          · rw [if_pos h, cif_t ⟨inR_nI hj, inR_nI h⟩]
          · rw [if_neg h, cif_f (fun h2 => h ?_)]
            obtain ⟨-, i2, hi2, e⟩ := h2
            rw [(nI_eq (by omega) (by omega)).mp e]
            exact hi2
        · rw [no (fun h => inR_n1 (by decide) (Int32.not_lt.mp h18) h.2)]
          refine r_iconst dX5_kind_21 (v := (-1)) kc_m1 ?_
          refine r_ireturn dX5_kind_22 .int rfl rfl ?_
          exact ⟨_, rfl, rfl, rfl, rfl, rfl⟩
theorem c_X5_copyFrom {r r' : Nat} (R : SRw sh P r) (R' : SRw sh P r') (hd : r' ≠ r) (hd1 : r' + 1 ≠ r) (hd2 : r' ≠ r + 1) : am_R mX5_copyFrom (po_v (fun sh' I' P' => I' = va_up (va_up I r (upd (I r) 0 (I r' 0))) (r + 1) (va_cpy (I (r' + 1)) (I (r + 1)) 0 0 6) ∧ sh = sh' ∧ P = P')) 1 30 0 0 0 [some (.ref r), some (.ref r')] [] sh I P := by
  obtain ⟨s0, s1, p1⟩ := R
  obtain ⟨t0, t1, q1⟩ := R'
  refine r_aload_n dX5_copyFrom_0 rfl ?_
  refine r_aload_n dX5_copyFrom_1 rfl ?_
  refine r_getI dX5_copyFrom_2 g_X5_15 (by assumption) rfl ?_
  refine r_putI dX5_copyFrom_5 f_X5_15 (by assumption) rfl rfl rfl ?_
  refine r_aload_n dX5_copyFrom_8 rfl ?_
  refine r_getP dX5_copyFrom_9 g_X5_11 (by assumption) rfl (by assumption) ?_
  refine r_iconst dX5_copyFrom_12 (v := nI 0) kc_0 ?_
  refine r_aload_n dX5_copyFrom_13 rfl ?_
  refine r_getP dX5_copyFrom_14 g_X5_11 (by assumption) rfl (by assumption) ?_
  refine r_iconst dX5_copyFrom_17 (v := nI 0) kc_0 ?_
  refine r_bipush dX5_copyFrom_18 (v := nI 6) (by decide) ?_
  refine r_copy 0 0 6 dX5_copyFrom_20 la_X5_25 (by assumption) (by assumption) rfl rfl rfl (by first | decide | omega) (by first | decide | omega) (by decide) (by decide) ⟨by decide, Nat.le_of_ble_eq_true rfl⟩ ?_
  rw [va_up_ne _ _ hd1, va_up_ne _ _ (show r + 1 ≠ r by omega)]
  refine r_return dX5_copyFrom_23 rfl ?_
  exact ⟨rfl, rfl, rfl, rfl⟩
end K2
