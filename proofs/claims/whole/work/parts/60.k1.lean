/-! the class: kinds, rows as numbers -/
theorem fa_or (a b : Nat) : nI a ||| nI b = nI (a ||| b) := by
  apply Int32.toBitVec_inj.1
  show BitVec.ofNat 32 a ||| BitVec.ofNat 32 b = BitVec.ofNat 32 (a ||| b)
  apply BitVec.eq_of_getLsbD_eq
  intro i hi
  simp [hi]
theorem fa_or_sum {a k : Nat} (b : Nat) (h : a < 2 ^ k) : nI (2 ^ k * b) ||| nI a = nI (2 ^ k * b + a) := by rw [fa_or, Nat.two_pow_add_eq_or_of_lt h]
theorem inR_of {x : Int32} {n : Nat} (hn : n < 2147483648) (h0 : ¬ x < 0) (h1 : ¬ nI n ≤ x) : inR x n := by
  rcases pk_ix x hn with h | h | h
  · exact absurd h h0
  · exact absurd h h1
  · exact h
theorem inR_n0 {x : Int32} {n : Nat} (hn : n < 2147483648) (h : x < 0) : ¬ inR x n := by
  rintro ⟨j, hj, rfl⟩
  exact nI_pos (by omega) h
theorem inR_n1 {x : Int32} {n : Nat} (hn : n < 2147483648) (h : nI n ≤ x) : ¬ inR x n := by
  rintro ⟨j, hj, rfl⟩
  have := (nI_leI hn (by omega)).mp h
  omega
theorem c16 {Q : Nat → Prop} (h0 : Q 0) (h1 : Q 1) (h2 : Q 2) (h3 : Q 3) (h4 : Q 4) (h5 : Q 5) (h6 : Q 6) (h7 : Q 7) (h8 : Q 8) (h9 : Q 9) (h10 : Q 10) (h11 : Q 11) (h12 : Q 12) (h13 : Q 13) (h14 : Q 14) (h15 : Q 15) (k : Nat) (hk : k < 16) : Q k := by
  rcases (show k = 0 ∨ k = 1 ∨ k = 2 ∨ k = 3 ∨ k = 4 ∨ k = 5 ∨ k = 6 ∨ k = 7 ∨ k = 8 ∨ k = 9 ∨ k = 10 ∨ k = 11 ∨ k = 12 ∨ k = 13 ∨ k = 14 ∨ k = 15 by omega) with rfl | rfl | rfl | rfl | rfl | rfl | rfl | rfl | rfl | rfl | rfl | rfl | rfl | rfl | rfl | rfl <;> assumption
theorem tb_ha {k : Nat} (hk : k < 16) : (¬ am_st 3 k ≤ 0) ↔ hasA k := by
  refine c16 (Q := fun k => (¬ am_st 3 k ≤ 0) ↔ hasA k) ?_ ?_ ?_ ?_ ?_ ?_ ?_ ?_ ?_ ?_ ?_ ?_ ?_ ?_ ?_ ?_ k hk <;> (unfold hasA; decide)
theorem z_le {a : Int32} : (0 ≤ a ∧ a ≤ 0) ↔ a = 0 := ⟨fun h => Int32.le_antisymm h.2 h.1, fun h => by rw [h]; decide⟩
theorem tb_fit {k : Nat} (hk : k < 16) {a : Int32} : (am_st 2 k ≤ a ∧ a ≤ am_st 3 k) ↔ aOk k a := by
  refine c16 (Q := fun k => (am_st 2 k ≤ a ∧ a ≤ am_st 3 k) ↔ aOk k a) ?_ ?_ ?_ ?_ ?_ ?_ ?_ ?_ ?_ ?_ ?_ ?_ ?_ ?_ ?_ ?_ k hk <;> first | exact z_le | exact Iff.rfl
section K1
variable {sh : ASh} {I : AIn} {P : APt}
theorem c_X1_isOne (x : Int32) : am_R mX1_isOne (po_i (fun v sh' I' P' => bo v (inR x 16) ∧ sh = sh' ∧ I = I' ∧ P = P')) 0 0 0 0 0 [some (.int x)] [] sh I P := by
  refine r_iload_n dX1_isOne_0 rfl ?_
  refine r_if_lt 14 dX1_isOne_1 (by decide) (fun h1 => ?_) (fun h1 => ?_)
  · have hf := inR_n0 (n := 16) (by decide) h1
    refine r_iconst dX1_isOne_14 (v := nI 0) kc_0 ?_
    refine r_ireturn dX1_isOne_15 .boolean rfl (by decide) ?_
    first | exact ⟨_, rfl, bo_1 ht, rfl, rfl, rfl⟩ | exact ⟨_, rfl, bo_0 hf, rfl, rfl, rfl⟩
  · refine r_iload_n dX1_isOne_4 rfl ?_
    refine r_bipush dX1_isOne_5 (v := nI 16) (by decide) ?_
    refine r_icmp_ge 14 dX1_isOne_7 (by decide) (fun h7 => ?_) (fun h7 => ?_)
    · have hf := inR_n1 (n := 16) (by decide) h7
      refine r_iconst dX1_isOne_14 (v := nI 0) kc_0 ?_
      refine r_ireturn dX1_isOne_15 .boolean rfl (by decide) ?_
      first | exact ⟨_, rfl, bo_1 ht, rfl, rfl, rfl⟩ | exact ⟨_, rfl, bo_0 hf, rfl, rfl, rfl⟩
    · have ht := inR_of (n := 16) (by decide) h1 h7
      refine r_iconst dX1_isOne_10 (v := nI 1) kc_1 ?_
      refine r_goto 15 dX1_isOne_11 (by decide) ?_
      refine r_ireturn dX1_isOne_15 .boolean rfl (by decide) ?_
      first | exact ⟨_, rfl, bo_1 ht, rfl, rfl, rfl⟩ | exact ⟨_, rfl, bo_0 hf, rfl, rfl, rfl⟩
theorem c_X1_hasArgument {k : Nat} (hk : k < 16) : am_R mX1_hasArgument (po_i (fun v sh' I' P' => bo v (hasA k) ∧ sh = sh' ∧ I = I' ∧ P = P')) 0 0 0 0 0 [some (.int (nI k))] [] sh I P := by
  refine r_tab 3 _ (by decide) dX1_hasArgument_0 dX1_hasArgument_3 dX1_hasArgument_4 fs_X1_9 rfl rfl (by first | decide | omega) ?_
  refine r_if_le 12 dX1_hasArgument_5 (by decide) (fun h5 => ?_) (fun h5 => ?_)
  · have hf : ¬ hasA k := fun h => (tb_ha hk).mpr h h5
    refine r_iconst dX1_hasArgument_12 (v := nI 0) kc_0 ?_
    refine r_ireturn dX1_hasArgument_13 .boolean rfl (by decide) ?_
    first | exact ⟨_, rfl, bo_1 ht, rfl, rfl, rfl⟩ | exact ⟨_, rfl, bo_0 hf, rfl, rfl, rfl⟩
  · have ht := (tb_ha hk).mp h5
    refine r_iconst dX1_hasArgument_8 (v := nI 1) kc_1 ?_
    refine r_goto 13 dX1_hasArgument_9 (by decide) ?_
    refine r_ireturn dX1_hasArgument_13 .boolean rfl (by decide) ?_
    first | exact ⟨_, rfl, bo_1 ht, rfl, rfl, rfl⟩ | exact ⟨_, rfl, bo_0 hf, rfl, rfl, rfl⟩
theorem c_X1_fits {k : Nat} (hk : k < 16) (a : Int32) : am_R mX1_fits (po_i (fun v sh' I' P' => bo v (aOk k a) ∧ sh = sh' ∧ I = I' ∧ P = P')) 0 0 0 0 0 [some (.int (nI k)), some (.int a)] [] sh I P := by
  refine r_iload_n dX1_fits_0 rfl ?_
  refine r_tab 2 _ (by decide) dX1_fits_1 dX1_fits_4 dX1_fits_5 fs_X1_13 rfl rfl (by first | decide | omega) ?_
  refine r_icmp_lt 22 dX1_fits_6 (by decide) (fun h6 => ?_) (fun h6 => ?_)
  · have hf : ¬ aOk k a := fun h => Int32.not_lt.mpr ((tb_fit hk).mpr h).1 h6
    refine r_iconst dX1_fits_22 (v := nI 0) kc_0 ?_
    refine r_ireturn dX1_fits_23 .boolean rfl (by decide) ?_
    first | exact ⟨_, rfl, bo_1 ht, rfl, rfl, rfl⟩ | exact ⟨_, rfl, bo_0 hf, rfl, rfl, rfl⟩
  · refine r_iload_n dX1_fits_9 rfl ?_
    refine r_tab 3 _ (by decide) dX1_fits_10 dX1_fits_13 dX1_fits_14 fs_X1_9 rfl rfl (by first | decide | omega) ?_
    refine r_icmp_gt 22 dX1_fits_15 (by decide) (fun h15 => ?_) (fun h15 => ?_)
    · have hf : ¬ aOk k a := fun h => Int32.not_lt.mpr ((tb_fit hk).mpr h).2 h15
      refine r_iconst dX1_fits_22 (v := nI 0) kc_0 ?_
      refine r_ireturn dX1_fits_23 .boolean rfl (by decide) ?_
      first | exact ⟨_, rfl, bo_1 ht, rfl, rfl, rfl⟩ | exact ⟨_, rfl, bo_0 hf, rfl, rfl, rfl⟩
    · have ht : aOk k a := (tb_fit hk).mp ⟨Int32.not_lt.mp h6, Int32.not_lt.mp h15⟩
      refine r_iconst dX1_fits_18 (v := nI 1) kc_1 ?_
      refine r_goto 23 dX1_fits_19 (by decide) ?_
      refine r_ireturn dX1_fits_23 .boolean rfl (by decide) ?_
      first | exact ⟨_, rfl, bo_1 ht, rfl, rfl, rfl⟩ | exact ⟨_, rfl, bo_0 hf, rfl, rfl, rfl⟩
theorem c_X1_leads {k : Nat} (hk : k < 16) : am_R mX1_leads (po_i (fun v sh' I' P' => bo v (k = 9 ∨ k = 10) ∧ sh = sh' ∧ I = I' ∧ P = P')) 0 0 0 0 0 [some (.int (nI k))] [] sh I P := by
  refine r_iload_n dX1_leads_0 rfl ?_
  refine r_bipush dX1_leads_1 (v := nI 9) (by decide) ?_
  refine r_icmp_eqN 12 dX1_leads_3 (by decide) (by omega) (by omega) (fun h3 => ?_) (fun h3 => ?_)
  · refine r_iconst dX1_leads_12 (v := nI 1) kc_1 ?_
    refine r_goto 17 dX1_leads_13 (by decide) ?_
    refine r_ireturn dX1_leads_17 .boolean rfl (by decide) ?_
    first | exact ⟨_, rfl, bo_1 (by omega), rfl, rfl, rfl⟩ | exact ⟨_, rfl, bo_0 (by omega), rfl, rfl, rfl⟩
  · refine r_iload_n dX1_leads_6 rfl ?_
    refine r_bipush dX1_leads_7 (v := nI 10) (by decide) ?_
    refine r_icmp_neN 16 dX1_leads_9 (by decide) (by omega) (by omega) (fun h9 => ?_) (fun h9 => ?_)
    · refine r_iconst dX1_leads_16 (v := nI 0) kc_0 ?_
      refine r_ireturn dX1_leads_17 .boolean rfl (by decide) ?_
      first | exact ⟨_, rfl, bo_1 (by omega), rfl, rfl, rfl⟩ | exact ⟨_, rfl, bo_0 (by omega), rfl, rfl, rfl⟩
    · refine r_iconst dX1_leads_12 (v := nI 1) kc_1 ?_
      refine r_goto 17 dX1_leads_13 (by decide) ?_
      refine r_ireturn dX1_leads_17 .boolean rfl (by decide) ?_
      first | exact ⟨_, rfl, bo_1 (by omega), rfl, rfl, rfl⟩ | exact ⟨_, rfl, bo_0 (by omega), rfl, rfl, rfl⟩
theorem c_X1_isLastAlone {k : Nat} (hk : k < 16) : am_R mX1_isLastAlone (po_i (fun v sh' I' P' => bo v (isLs k) ∧ sh = sh' ∧ I = I' ∧ P = P')) 1 20 0 0 0 [some (.int (nI k))] [] sh I P := by
  refine r_iload_n dX1_isLastAlone_0 rfl ?_
  refine r_callS1 (fr' := 0) (lo' := 0) (mc' := 0) (ms' := 0) dX1_isLastAlone_1 mm_X1_leads ms_X1_leads l_X1_16 (by decide) ⟨by decide, by decide⟩ (Nat.zero_le _) (Nat.zero_le _) (Nat.le_of_ble_eq_true rfl) (c_X1_leads (by omega)) (am_ki ?_)
  rintro v1 _ _ _ ⟨hb1, rfl, rfl, rfl⟩
  refine r_if_ne 13 dX1_isLastAlone_4 (by decide) (fun h4 => ?_) (fun h4 => ?_)
  · replace h4 := hb1.t h4
    refine r_iconst dX1_isLastAlone_13 (v := nI 1) kc_1 ?_
    refine r_goto 18 dX1_isLastAlone_14 (by decide) ?_
    refine r_ireturn dX1_isLastAlone_18 .boolean rfl (by decide) ?_
    first | exact ⟨_, rfl, bo_1 (by unfold isLs; omega), rfl, rfl, rfl⟩ | exact ⟨_, rfl, bo_0 (by unfold isLs; omega), rfl, rfl, rfl⟩
  · replace h4 := hb1.f h4
    refine r_iload_n dX1_isLastAlone_7 rfl ?_
    refine r_bipush dX1_isLastAlone_8 (v := nI 13) (by decide) ?_
    refine r_icmp_neN 17 dX1_isLastAlone_10 (by decide) (by omega) (by omega) (fun h10 => ?_) (fun h10 => ?_)
    · refine r_iconst dX1_isLastAlone_17 (v := nI 0) kc_0 ?_
      refine r_ireturn dX1_isLastAlone_18 .boolean rfl (by decide) ?_
      first | exact ⟨_, rfl, bo_1 (by unfold isLs; omega), rfl, rfl, rfl⟩ | exact ⟨_, rfl, bo_0 (by unfold isLs; omega), rfl, rfl, rfl⟩
    · refine r_iconst dX1_isLastAlone_13 (v := nI 1) kc_1 ?_
      refine r_goto 18 dX1_isLastAlone_14 (by decide) ?_
      refine r_ireturn dX1_isLastAlone_18 .boolean rfl (by decide) ?_
      first | exact ⟨_, rfl, bo_1 (by unfold isLs; omega), rfl, rfl, rfl⟩ | exact ⟨_, rfl, bo_0 (by unfold isLs; omega), rfl, rfl, rfl⟩
theorem l_J7_fill {q n : Nat} (hs : sh q = (2, n)) (hn : n < 2147483648) (x : Int32) : ∀ (m i : Nat), i + m = n → am_R mJ7_fill_53178 (po_v (fun sh' I' P' => I' = va_up I q (fun j => if j < n then x else I q j) ∧ sh = sh' ∧ P = P')) 0 0 0 0 5 [some (.ref q), some (.int x), some (.int (nI i)), some (.int (nI n))] [] sh (va_up I q (fun j => if j < i then x else I q j)) P := by
  intro m
  induction m with
  | zero =>
    intro i hi
    have e : i = n := by omega
    subst e
    refine r_iload_n dJ7_fill_53178_5 rfl ?_
    refine r_iload_n dJ7_fill_53178_6 rfl ?_
    refine r_icmp_geN 20 dJ7_fill_53178_7 (by decide) (by omega) (by omega) (fun h7 => ?_) (fun h7 => ?_)
    · refine r_return dJ7_fill_53178_20 rfl ?_
      exact ⟨rfl, rfl, rfl, rfl⟩
    · exact absurd h7 (by omega)
  | succ m ih =>
    intro i hi
    refine r_iload_n dJ7_fill_53178_5 rfl ?_
    refine r_iload_n dJ7_fill_53178_6 rfl ?_
    refine r_icmp_geN 20 dJ7_fill_53178_7 (by decide) (by omega) (by omega) (fun h7 => ?_) (fun h7 => ?_)
    · exact absurd h7 (by omega)
    · refine r_aload_n dJ7_fill_53178_10 rfl ?_
      refine r_iload_n dJ7_fill_53178_11 rfl ?_
      refine r_iload_n dJ7_fill_53178_12 rfl ?_
      refine r_iastore i dJ7_fill_53178_13 hs rfl (by omega) hn ?_
      rw [va_up_self, bx_uu, show upd (fun j => if j < i then x else I q j) i x = fun j => if j < i + 1 then x else I q j from ?_]
      rotate_left
      · funext j
        by_cases h : j = i
        · subst h; rw [pk_us, if_pos (Nat.lt_succ_self j)]
        · rw [pk_un h]
          by_cases h2 : j < i
          · rw [if_pos h2, if_pos (by omega)]
          · rw [if_neg h2, if_neg (by omega)]
      first | refine r_iincN dJ7_fill_53178_14 rfl kc_1 ?_ | refine r_iinc dJ7_fill_53178_14 rfl rfl ?_
      dsimp only [List.set]
      refine r_goto 5 dJ7_fill_53178_17 (by decide) ?_
      exact ih (i + 1) (by omega)
theorem c_J7_fill {q n : Nat} (hs : sh q = (2, n)) (hn : n < 2147483648) (x : Int32) : am_R mJ7_fill_53178 (po_v (fun sh' I' P' => I' = va_up I q (fun j => if j < n then x else I q j) ∧ sh = sh' ∧ P = P')) 0 0 0 0 0 [some (.ref q), some (.int x), none, none] [] sh I P := by
  refine r_iconst dJ7_fill_53178_0 (v := nI 0) kc_0 ?_
  refine r_istore_n dJ7_fill_53178_1 (Nat.le_of_ble_eq_true rfl) ?_
  dsimp only [List.set]
  refine r_aload_n dJ7_fill_53178_2 rfl ?_
  refine r_alen dJ7_fill_53178_3 hs ?_
  refine r_istore_n dJ7_fill_53178_4 (Nat.le_of_ble_eq_true rfl) ?_
  dsimp only [List.set]
  have h := l_J7_fill (I := I) (P := P) hs hn x n 0 (Nat.zero_add _)
  rw [show va_up I q (fun j => if j < 0 then x else I q j) = I from ?_] at h
  · exact h
  · funext r
    by_cases e : r = q
    · subst e; rw [va_up_self]; rfl
    · rw [va_up_ne _ _ e]
/-! a row of kinds as one number, five bits a kind -/
def u5 (k : Nat) : Nat := if k = 0 then 32768 else if k = 1 then 1024 else if k = 2 then 32 else 1
def e5 (κ : Nat → Nat) : Nat → Nat
  | 0 => 0
  | n + 1 => e5 κ n + (κ n + 1) * u5 n
theorem e5_1 (κ : Nat → Nat) : e5 κ 1 = (κ 0 + 1) * 32768 := Nat.zero_add _
theorem e5_2 (κ : Nat → Nat) : e5 κ 2 = (κ 0 + 1) * 32768 + (κ 1 + 1) * 1024 := by show e5 κ 1 + (κ 1 + 1) * 1024 = _; rw [e5_1]
theorem e5_3 (κ : Nat → Nat) : e5 κ 3 = (κ 0 + 1) * 32768 + (κ 1 + 1) * 1024 + (κ 2 + 1) * 32 := by show e5 κ 2 + (κ 2 + 1) * 32 = _; rw [e5_2]
theorem e5_4 (κ : Nat → Nat) : e5 κ 4 = (κ 0 + 1) * 32768 + (κ 1 + 1) * 1024 + (κ 2 + 1) * 32 + (κ 3 + 1) := by show e5 κ 3 + (κ 3 + 1) * 1 = _; rw [e5_3]; omega
theorem e5_congr {κ κ' : Nat → Nat} : ∀ {n : Nat}, (∀ i, i < n → κ i = κ' i) → e5 κ n = e5 κ' n
  | 0, _ => rfl
  | n + 1, h => by
    show e5 κ n + (κ n + 1) * u5 n = e5 κ' n + (κ' n + 1) * u5 n
    rw [e5_congr (n := n) (fun i hi => h i (by omega)), h n (by omega)]
theorem e5_lt {κ : Nat → Nat} {n : Nat} (hn : n ≤ 4) (h : ∀ i, i < n → κ i ≤ 15) : e5 κ n < 1048576 := by
  rcases (show n = 0 ∨ n = 1 ∨ n = 2 ∨ n = 3 ∨ n = 4 by omega) with rfl | rfl | rfl | rfl | rfl
  · show 0 < 1048576; decide
  · have h0 := h 0 (by decide); rw [e5_1]; omega
  · have h0 := h 0 (by decide); have h1 := h 1 (by decide); rw [e5_2]; omega
  · have h0 := h 0 (by decide); have h1 := h 1 (by decide); have h2 := h 2 (by decide); rw [e5_3]; omega
  · have h0 := h 0 (by decide); have h1 := h 1 (by decide); have h2 := h 2 (by decide); have h3 := h 3 (by decide); rw [e5_4]; omega
theorem e5_w {κ : Nat → Nat} {k : Nat} (hk : k < 4) (h : ∀ i, i ≤ k → κ i ≤ 15) : nI (e5 κ k) ||| (nI (κ k + 1) <<< ((nI 5 * (nI 3 - nI k)) &&& 31)) = nI (e5 κ (k + 1)) := by
  rcases (show k = 0 ∨ k = 1 ∨ k = 2 ∨ k = 3 by omega) with rfl | rfl | rfl | rfl
  · have h0 := h 0 (by decide)
    rw [pk_shlN ((nI 5 * (nI 3 - nI 0)) &&& 31) 15 (by decide) (by omega), e5_1]
    have := fa_or_sum (a := (κ 0 + 1) * 2 ^ 15) (k := 20) 0 (by omega)
    rw [show e5 κ 0 = 2 ^ 20 * 0 from rfl, this]
    congr 1; omega
  · have h0 := h 0 (by decide)
    have h1 := h 1 (by decide)
    rw [pk_shlN ((nI 5 * (nI 3 - nI 1)) &&& 31) 10 (by decide) (by omega), e5_1, e5_2]
    have := fa_or_sum (a := (κ 1 + 1) * 2 ^ 10) (k := 15) (κ 0 + 1) (by omega)
    rw [show (κ 0 + 1) * 32768 = 2 ^ 15 * (κ 0 + 1) by omega, this]
  · have h0 := h 0 (by decide)
    have h1 := h 1 (by decide)
    have h2 := h 2 (by decide)
    rw [pk_shlN ((nI 5 * (nI 3 - nI 2)) &&& 31) 5 (by decide) (by omega), e5_2, e5_3]
    have := fa_or_sum (a := (κ 2 + 1) * 2 ^ 5) (k := 10) ((κ 0 + 1) * 32 + (κ 1 + 1)) (by omega)
    rw [show (κ 0 + 1) * 32768 + (κ 1 + 1) * 1024 = 2 ^ 10 * ((κ 0 + 1) * 32 + (κ 1 + 1)) by omega, this]
  · have h0 := h 0 (by decide)
    have h1 := h 1 (by decide)
    have h2 := h 2 (by decide)
    have h3 := h 3 (by decide)
    rw [pk_shlN ((nI 5 * (nI 3 - nI 3)) &&& 31) 0 (by decide) (by omega), e5_3, e5_4]
    have := fa_or_sum (a := (κ 3 + 1) * 2 ^ 0) (k := 5) ((κ 0 + 1) * 1024 + (κ 1 + 1) * 32 + (κ 2 + 1)) (by omega)
    rw [show (κ 0 + 1) * 32768 + (κ 1 + 1) * 1024 + (κ 2 + 1) * 32 = 2 ^ 5 * ((κ 0 + 1) * 1024 + (κ 1 + 1) * 32 + (κ 2 + 1)) by omega, this]
    congr 1; omega
theorem e5_d {κ : Nat → Nat} {n : Nat} (hn : n ≤ 4) (h : ∀ i, i < n → κ i ≤ 15) {k : Nat} (hk : k < 4) : e5 κ n / u5 k % 32 = if k < n then κ k + 1 else 0 := by
  rcases (show n = 0 ∨ n = 1 ∨ n = 2 ∨ n = 3 ∨ n = 4 by omega) with rfl | rfl | rfl | rfl | rfl
  · rw [if_neg (Nat.not_lt_zero k)]
    show 0 / u5 k % 32 = 0
    rw [Nat.zero_div]
  · have h0 := h 0 (by decide)
    rw [e5_1]
    rcases (show k = 0 ∨ k = 1 ∨ k = 2 ∨ k = 3 by omega) with rfl | rfl | rfl | rfl
    · rw [if_pos (by decide)]; show _ / 32768 % 32 = _; omega
    · rw [if_neg (by decide)]; show _ / 1024 % 32 = _; omega
    · rw [if_neg (by decide)]; show _ / 32 % 32 = _; omega
    · rw [if_neg (by decide)]; show _ / 1 % 32 = _; omega
  · have h0 := h 0 (by decide)
    have h1 := h 1 (by decide)
    rw [e5_2]
    rcases (show k = 0 ∨ k = 1 ∨ k = 2 ∨ k = 3 by omega) with rfl | rfl | rfl | rfl
    · rw [if_pos (by decide)]; show _ / 32768 % 32 = _; omega
    · rw [if_pos (by decide)]; show _ / 1024 % 32 = _; omega
    · rw [if_neg (by decide)]; show _ / 32 % 32 = _; omega
    · rw [if_neg (by decide)]; show _ / 1 % 32 = _; omega
  · have h0 := h 0 (by decide)
    have h1 := h 1 (by decide)
    have h2 := h 2 (by decide)
    rw [e5_3]
    rcases (show k = 0 ∨ k = 1 ∨ k = 2 ∨ k = 3 by omega) with rfl | rfl | rfl | rfl
    · rw [if_pos (by decide)]; show _ / 32768 % 32 = _; omega
    · rw [if_pos (by decide)]; show _ / 1024 % 32 = _; omega
    · rw [if_pos (by decide)]; show _ / 32 % 32 = _; omega
    · rw [if_neg (by decide)]; show _ / 1 % 32 = _; omega
  · have h0 := h 0 (by decide)
    have h1 := h 1 (by decide)
    have h2 := h 2 (by decide)
    have h3 := h 3 (by decide)
    rw [e5_4]
    rcases (show k = 0 ∨ k = 1 ∨ k = 2 ∨ k = 3 by omega) with rfl | rfl | rfl | rfl
    · rw [if_pos (by decide)]; show _ / 32768 % 32 = _; omega
    · rw [if_pos (by decide)]; show _ / 1024 % 32 = _; omega
    · rw [if_pos (by decide)]; show _ / 32 % 32 = _; omega
    · rw [if_pos (by decide)]; show _ / 1 % 32 = _; omega
/-- rows are alike if their numbers are -/
theorem e5_inj {κ κ' : Nat → Nat} {n n' : Nat} (hn : n ≤ 4) (h : ∀ i, i < n → κ i ≤ 15) (hn' : n' ≤ 4) (h' : ∀ i, i < n' → κ' i ≤ 15) (e : e5 κ n = e5 κ' n') : n = n' ∧ ∀ i, i < n → κ i = κ' i := by
  have key : ∀ k, k < 4 → (if k < n then κ k + 1 else 0) = if k < n' then κ' k + 1 else 0 := fun k hk => by rw [← e5_d hn h hk, ← e5_d hn' h' hk, e]
  have key2 : ∀ k, k < 4 → (k < n ↔ k < n') := fun k hk => by
    have := key k hk
    by_cases h1 : k < n
    · rw [if_pos h1] at this
      by_cases h2 : k < n'
      · exact ⟨fun _ => h2, fun _ => h1⟩
      · rw [if_neg h2] at this; omega
    · rw [if_neg h1] at this
      by_cases h2 : k < n'
      · rw [if_pos h2] at this; omega
      · exact ⟨fun h => absurd h h1, fun h => absurd h h2⟩
  have e1 : n = n' := by
    rcases Nat.lt_trichotomy n n' with g | g | g
    · have := (key2 n (by omega)).mpr g; omega
    · exact g
    · have := (key2 n' (by omega)).mp g; omega
  subst e1
  refine ⟨rfl, fun i hi => ?_⟩
  have := key i (by omega)
  rw [if_pos hi, if_pos hi] at this
  omega
theorem c_X4_with {κ : Nat → Nat} {k : Nat} (hk : k < 4) (h : ∀ i, i ≤ k → κ i ≤ 15) : am_R mX4_with (po_i (fun v sh' I' P' => v = nI (e5 κ (k + 1)) ∧ sh = sh' ∧ I = I' ∧ P = P')) 0 0 0 0 0 [some (.int (nI (e5 κ k))), some (.int (nI k)), some (.int (nI (κ k)))] [] sh I P := by
  refine r_iload_n dX4_with_0 rfl ?_
  refine r_iload_n dX4_with_1 rfl ?_
  refine r_iconst dX4_with_2 (v := nI 1) kc_1 ?_
  first | refine r_iaddN dX4_with_3 ?_ | refine r_iadd dX4_with_3 ?_
  refine r_iconst dX4_with_4 (v := nI 5) kc_5 ?_
  refine r_iconst dX4_with_5 (v := nI 3) kc_3 ?_
  refine r_iload_n dX4_with_6 rfl ?_
  refine r_isub dX4_with_7 ?_
  refine r_imul dX4_with_8 ?_
  refine r_ishl dX4_with_9 ?_
  refine r_ior dX4_with_10 ?_
  rw [e5_w hk h]
  refine r_ireturn dX4_with_11 .int rfl rfl ?_
  exact ⟨_, rfl, rfl, rfl, rfl, rfl⟩
theorem e5_k {κ : Nat → Nat} {n : Nat} (hn : n ≤ 4) (h : ∀ i, i < n → κ i ≤ 15) {k : Nat} (hk : k < 4) : (((nI (e5 κ n)).toUInt32 >>> ((nI 5 * (nI 3 - nI k)).toUInt32 &&& Int32.toUInt32 31)).toInt32 &&& nI 31) - nI 1 = if k < n then nI (κ k) else -1 := by
  have hl := e5_lt hn h
  have hd := e5_d hn h hk
  have fin : ∀ s, 2 ^ s = u5 k → (nI (e5 κ n / 2 ^ s) &&& nI 31) - nI 1 = if k < n then nI (κ k) else -1 := fun s hs => by
    rw [pk_andN (Nat.lt_of_le_of_lt (Nat.div_le_self _ _) (by omega)) 5 (by decide), hs, show 2 ^ 5 = 32 from rfl, hd]
    by_cases h2 : k < n
    · rw [if_pos h2, if_pos h2, pk_sub (by omega), Nat.add_sub_cancel]
    · rw [if_neg h2, if_neg h2]; decide
  rcases (show k = 0 ∨ k = 1 ∨ k = 2 ∨ k = 3 by omega) with rfl | rfl | rfl | rfl
  · rw [pk_ushrN (by omega) (nI 5 * (nI 3 - nI 0)) 15 (by decide)]; exact fin 15 rfl
  · rw [pk_ushrN (by omega) (nI 5 * (nI 3 - nI 1)) 10 (by decide)]; exact fin 10 rfl
  · rw [pk_ushrN (by omega) (nI 5 * (nI 3 - nI 2)) 5 (by decide)]; exact fin 5 rfl
  · rw [pk_ushrN (by omega) (nI 5 * (nI 3 - nI 3)) 0 (by decide)]; exact fin 0 rfl
theorem c_X4_kind {κ : Nat → Nat} {n : Nat} (hn : n ≤ 4) (h : ∀ i, i < n → κ i ≤ 15) {k : Nat} (hk : k < 4) : am_R mX4_kind (po_i (fun v sh' I' P' => v = (if k < n then nI (κ k) else -1) ∧ sh = sh' ∧ I = I' ∧ P = P')) 0 0 0 0 0 [some (.int (nI (e5 κ n))), some (.int (nI k))] [] sh I P := by
  refine r_iload_n dX4_kind_0 rfl ?_
  refine r_iconst dX4_kind_1 (v := nI 5) kc_5 ?_
  refine r_iconst dX4_kind_2 (v := nI 3) kc_3 ?_
  refine r_iload_n dX4_kind_3 rfl ?_
  refine r_isub dX4_kind_4 ?_
  refine r_imul dX4_kind_5 ?_
  refine r_iushr dX4_kind_6 ?_
  refine r_bipush dX4_kind_7 (v := nI 31) (by decide) ?_
  refine r_iand dX4_kind_9 ?_
  refine r_iconst dX4_kind_10 (v := nI 1) kc_1 ?_
  refine r_isub dX4_kind_11 ?_
  rw [e5_k hn h hk]
  refine r_ireturn dX4_kind_12 .int rfl rfl ?_
  exact ⟨_, rfl, rfl, rfl, rfl, rfl⟩
end K1
