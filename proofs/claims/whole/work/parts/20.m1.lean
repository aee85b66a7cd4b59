/-! the reference: small methods -/
def bo (r : Int32) (c : Prop) : Prop := (c ∧ r = nI 1) ∨ (¬ c ∧ r = nI 0)
theorem bo.t {r : Int32} {c : Prop} (h : bo r c) (h0 : ¬ r = 0) : c := by
  rcases h with h | h
  · exact h.1
  · exact absurd h.2 h0
theorem bo.f {r : Int32} {c : Prop} (h : bo r c) (h0 : r = 0) : ¬ c := by
  rcases h with h | h
  · rw [h.2] at h0
    exact absurd h0 (by decide)
  · exact h.1
theorem bo.nar {r : Int32} {c : Prop} (h : bo r c) : narrow .boolean (.int r) = .int r := by
  rcases h with ⟨_, rfl⟩ | ⟨_, rfl⟩ <;> decide
theorem bo.of {r : Int32} {c c' : Prop} (h : bo r c) (e : c ↔ c') : bo r c' := by
  rcases h with ⟨a, b⟩ | ⟨a, b⟩
  · exact Or.inl ⟨e.mp a, b⟩
  · exact Or.inr ⟨fun z => a (e.mpr z), b⟩
theorem bo_1 {c : Prop} (h : c) : bo (nI 1) c := Or.inl ⟨h, rfl⟩
theorem bo_0 {c : Prop} (h : ¬ c) : bo (nI 0) c := Or.inr ⟨h, rfl⟩
/-- an int between 0 and a number -/
theorem in_iff {x : Int32} {n : Nat} (hn : n < 2147483648) : (nI 0 ≤ x ∧ x ≤ nI n) ↔ ∃ j : Nat, j ≤ n ∧ x = nI j := by
  constructor
  · rintro ⟨h1, h2⟩
    have h0 : ¬ x < 0 := by
      rw [nI_0] at h1
      exact Int32.not_lt.mpr h1
    obtain ⟨j, hj, rfl⟩ := nI_of h0
    exact ⟨j, (nI_leI hj hn).mp h2, rfl⟩
  · rintro ⟨j, hj, rfl⟩
    exact ⟨nI_le (Nat.zero_le _) (by omega), nI_le hj hn⟩
theorem in_iff1 {x : Int32} {n : Nat} (hn : n < 2147483648) : (nI 0 ≤ x ∧ x ≤ nI n - nI 1) ↔ ∃ j : Nat, j < n ∧ x = nI j := by
  rcases Nat.eq_zero_or_pos n with rfl | h
  · constructor
    · rintro ⟨h1, h2⟩
      exfalso
      have h3 : nI 0 - nI 1 = -1 := by decide
      rw [h3] at h2
      have h4 := Int32.le_trans h1 h2
      exact absurd h4 (by decide)
    · rintro ⟨j, hj, -⟩
      omega
  · rw [pk_sub h, in_iff (by omega)]
    constructor
    · rintro ⟨j, hj, rfl⟩
      exact ⟨j, by omega, rfl⟩
    · rintro ⟨j, hj, rfl⟩
      exact ⟨j, by omega, rfl⟩
section M1
variable {sh : ASh} {I : AIn} {P : APt}
theorem c_X11_in (x y z : Int32) : am_R mX11_in (po_i (fun v sh' I' P' => bo v (y ≤ x ∧ x ≤ z) ∧ sh = sh' ∧ I = I' ∧ P = P')) 0 0 0 0 0 [some (.int x), some (.int y), some (.int z)] [] sh I P := by
  refine r_iload_n dX11_in_0 rfl ?_
  refine r_iload_n dX11_in_1 rfl ?_
  refine r_icmp_lt 14 dX11_in_2 (by decide) (fun h2 => ?_) (fun h2 => ?_)
  · have hf : ¬ (y ≤ x ∧ x ≤ z) := fun h => absurd h2 (Int32.not_lt.mpr h.1)
    refine r_iconst dX11_in_14 (v := nI 0) kc_0 ?_
    refine r_ireturn dX11_in_15 .boolean rfl (by decide) ?_
    first | exact ⟨_, rfl, bo_1 ht, rfl, rfl, rfl⟩ | exact ⟨_, rfl, bo_0 hf, rfl, rfl, rfl⟩
  · refine r_iload_n dX11_in_5 rfl ?_
    refine r_iload_n dX11_in_6 rfl ?_
    refine r_icmp_gt 14 dX11_in_7 (by decide) (fun h7 => ?_) (fun h7 => ?_)
    · have hf : ¬ (y ≤ x ∧ x ≤ z) := fun h => absurd h7 (Int32.not_lt.mpr h.2)
      refine r_iconst dX11_in_14 (v := nI 0) kc_0 ?_
      refine r_ireturn dX11_in_15 .boolean rfl (by decide) ?_
      first | exact ⟨_, rfl, bo_1 ht, rfl, rfl, rfl⟩ | exact ⟨_, rfl, bo_0 hf, rfl, rfl, rfl⟩
    · have ht : y ≤ x ∧ x ≤ z := ⟨Int32.not_lt.mp h2, Int32.not_lt.mp h7⟩
      refine r_iconst dX11_in_10 (v := nI 1) kc_1 ?_
      refine r_goto 15 dX11_in_11 (by decide) ?_
      refine r_ireturn dX11_in_15 .boolean rfl (by decide) ?_
      first | exact ⟨_, rfl, bo_1 ht, rfl, rfl, rfl⟩ | exact ⟨_, rfl, bo_0 hf, rfl, rfl, rfl⟩
theorem c_X11_isProgram (S : St_m sh P) (x : Int32) {np : Nat} (hn : I 1 0 = nI np) (hnp : np ≤ 3) : am_R mX11_isProgram (po_i (fun v sh' I' P' => bo v (∃ j : Nat, j < np ∧ x = nI j) ∧ sh = sh' ∧ I = I' ∧ P = P')) 1 22 0 0 0 [some (.ref 0), some (.int x)] [] sh I P := by
  refine r_iload_n dX11_isProgram_0 rfl ?_
  refine r_iconst dX11_isProgram_1 (v := nI 0) kc_0 ?_
  refine r_aload_n dX11_isProgram_2 rfl ?_
  refine r_getP dX11_isProgram_3 g_X11_7 (S.1 _ _ rfl) rfl (S.2 _ _ _ rfl) ?_
  refine r_iconst dX11_isProgram_6 (v := nI 0) kc_0 ?_
  refine r_iaload _ dX11_isProgram_7 (S.1 _ _ rfl) rfl (by first | decide | omega) (by decide) ?_
  rw [hn]
  refine r_iconst dX11_isProgram_8 (v := nI 1) kc_1 ?_
  refine r_isub dX11_isProgram_9 ?_
  refine r_callS3 (fr' := 0) (lo' := 0) (mc' := 0) (ms' := 0) dX11_isProgram_10 mm_X11_in ms_X11_in l_X11_142 (by decide) ⟨by decide, by decide⟩ (Nat.zero_le _) (Nat.zero_le _) (Nat.le_of_ble_eq_true rfl) (c_X11_in _ _ _) (am_ki ?_)
  rintro v10 _ _ _ ⟨hb10, rfl, rfl, rfl⟩
  refine r_ireturn dX11_isProgram_13 .boolean rfl hb10.nar ?_
  exact ⟨_, rfl, hb10.of (in_iff1 (by omega)), rfl, rfl, rfl⟩
theorem c_X11_hasArgument {k : Nat} (hk : k < 16) : am_R mX11_hasArgument (po_i (fun v sh' I' P' => bo v (hasA k) ∧ sh = sh' ∧ I = I' ∧ P = P')) 0 0 0 0 0 [some (.int (nI k))] [] sh I P := by
  refine r_iload_n dX11_hasArgument_0 rfl ?_
  first | refine r_if_eqN 34 dX11_hasArgument_1 (by decide) (by omega) (fun h1 => ?_) (fun h1 => ?_) | refine r_if_eq 34 dX11_hasArgument_1 (by decide) (fun h1 => ?_) (fun h1 => ?_)
  · refine r_iconst dX11_hasArgument_34 (v := nI 1) kc_1 ?_
    refine r_goto 39 dX11_hasArgument_35 (by decide) ?_
    refine r_ireturn dX11_hasArgument_39 .boolean rfl (by decide) ?_
    first | exact ⟨_, rfl, bo_1 (by unfold hasA; omega), rfl, rfl, rfl⟩ | exact ⟨_, rfl, bo_0 (by unfold hasA; omega), rfl, rfl, rfl⟩
  · refine r_iload_n dX11_hasArgument_4 rfl ?_
    refine r_bipush dX11_hasArgument_5 (v := nI 7) (by decide) ?_
    first | refine r_icmp_eqN 34 dX11_hasArgument_7 (by decide) (by omega) (by omega) (fun h7 => ?_) (fun h7 => ?_) | refine r_icmp_eq 34 dX11_hasArgument_7 (by decide) (fun h7 => ?_) (fun h7 => ?_)
    · refine r_iconst dX11_hasArgument_34 (v := nI 1) kc_1 ?_
      refine r_goto 39 dX11_hasArgument_35 (by decide) ?_
      refine r_ireturn dX11_hasArgument_39 .boolean rfl (by decide) ?_
      first | exact ⟨_, rfl, bo_1 (by unfold hasA; omega), rfl, rfl, rfl⟩ | exact ⟨_, rfl, bo_0 (by unfold hasA; omega), rfl, rfl, rfl⟩
    · refine r_iload_n dX11_hasArgument_10 rfl ?_
      refine r_bipush dX11_hasArgument_11 (v := nI 8) (by decide) ?_
      first | refine r_icmp_eqN 34 dX11_hasArgument_13 (by decide) (by omega) (by omega) (fun h13 => ?_) (fun h13 => ?_) | refine r_icmp_eq 34 dX11_hasArgument_13 (by decide) (fun h13 => ?_) (fun h13 => ?_)
      · refine r_iconst dX11_hasArgument_34 (v := nI 1) kc_1 ?_
        refine r_goto 39 dX11_hasArgument_35 (by decide) ?_
        refine r_ireturn dX11_hasArgument_39 .boolean rfl (by decide) ?_
        first | exact ⟨_, rfl, bo_1 (by unfold hasA; omega), rfl, rfl, rfl⟩ | exact ⟨_, rfl, bo_0 (by unfold hasA; omega), rfl, rfl, rfl⟩
      · refine r_iload_n dX11_hasArgument_16 rfl ?_
        refine r_bipush dX11_hasArgument_17 (v := nI 9) (by decide) ?_
        first | refine r_icmp_eqN 34 dX11_hasArgument_19 (by decide) (by omega) (by omega) (fun h19 => ?_) (fun h19 => ?_) | refine r_icmp_eq 34 dX11_hasArgument_19 (by decide) (fun h19 => ?_) (fun h19 => ?_)
        · refine r_iconst dX11_hasArgument_34 (v := nI 1) kc_1 ?_
          refine r_goto 39 dX11_hasArgument_35 (by decide) ?_
          refine r_ireturn dX11_hasArgument_39 .boolean rfl (by decide) ?_
          first | exact ⟨_, rfl, bo_1 (by unfold hasA; omega), rfl, rfl, rfl⟩ | exact ⟨_, rfl, bo_0 (by unfold hasA; omega), rfl, rfl, rfl⟩
        · refine r_iload_n dX11_hasArgument_22 rfl ?_
          refine r_bipush dX11_hasArgument_23 (v := nI 10) (by decide) ?_
          first | refine r_icmp_eqN 34 dX11_hasArgument_25 (by decide) (by omega) (by omega) (fun h25 => ?_) (fun h25 => ?_) | refine r_icmp_eq 34 dX11_hasArgument_25 (by decide) (fun h25 => ?_) (fun h25 => ?_)
          · refine r_iconst dX11_hasArgument_34 (v := nI 1) kc_1 ?_
            refine r_goto 39 dX11_hasArgument_35 (by decide) ?_
            refine r_ireturn dX11_hasArgument_39 .boolean rfl (by decide) ?_
            first | exact ⟨_, rfl, bo_1 (by unfold hasA; omega), rfl, rfl, rfl⟩ | exact ⟨_, rfl, bo_0 (by unfold hasA; omega), rfl, rfl, rfl⟩
          · refine r_iload_n dX11_hasArgument_28 rfl ?_
            refine r_bipush dX11_hasArgument_29 (v := nI 15) (by decide) ?_
            first | refine r_icmp_neN 38 dX11_hasArgument_31 (by decide) (by omega) (by omega) (fun h31 => ?_) (fun h31 => ?_) | refine r_icmp_ne 38 dX11_hasArgument_31 (by decide) (fun h31 => ?_) (fun h31 => ?_)
            · refine r_iconst dX11_hasArgument_38 (v := nI 0) kc_0 ?_
              refine r_ireturn dX11_hasArgument_39 .boolean rfl (by decide) ?_
              first | exact ⟨_, rfl, bo_1 (by unfold hasA; omega), rfl, rfl, rfl⟩ | exact ⟨_, rfl, bo_0 (by unfold hasA; omega), rfl, rfl, rfl⟩
            · refine r_iconst dX11_hasArgument_34 (v := nI 1) kc_1 ?_
              refine r_goto 39 dX11_hasArgument_35 (by decide) ?_
              refine r_ireturn dX11_hasArgument_39 .boolean rfl (by decide) ?_
              first | exact ⟨_, rfl, bo_1 (by unfold hasA; omega), rfl, rfl, rfl⟩ | exact ⟨_, rfl, bo_0 (by unfold hasA; omega), rfl, rfl, rfl⟩
theorem c_X11_isLast {k : Nat} (hk : k < 16) : am_R mX11_isLast (po_i (fun v sh' I' P' => bo v (isLs k) ∧ sh = sh' ∧ I = I' ∧ P = P')) 0 0 0 0 0 [some (.int (nI k))] [] sh I P := by
  refine r_iload_n dX11_isLast_0 rfl ?_
  refine r_bipush dX11_isLast_1 (v := nI 9) (by decide) ?_
  first | refine r_icmp_eqN 18 dX11_isLast_3 (by decide) (by omega) (by omega) (fun h3 => ?_) (fun h3 => ?_) | refine r_icmp_eq 18 dX11_isLast_3 (by decide) (fun h3 => ?_) (fun h3 => ?_)
  · refine r_iconst dX11_isLast_18 (v := nI 1) kc_1 ?_
    refine r_goto 23 dX11_isLast_19 (by decide) ?_
    refine r_ireturn dX11_isLast_23 .boolean rfl (by decide) ?_
    first | exact ⟨_, rfl, bo_1 (by unfold isLs; omega), rfl, rfl, rfl⟩ | exact ⟨_, rfl, bo_0 (by unfold isLs; omega), rfl, rfl, rfl⟩
  · refine r_iload_n dX11_isLast_6 rfl ?_
    refine r_bipush dX11_isLast_7 (v := nI 10) (by decide) ?_
    first | refine r_icmp_eqN 18 dX11_isLast_9 (by decide) (by omega) (by omega) (fun h9 => ?_) (fun h9 => ?_) | refine r_icmp_eq 18 dX11_isLast_9 (by decide) (fun h9 => ?_) (fun h9 => ?_)
    · refine r_iconst dX11_isLast_18 (v := nI 1) kc_1 ?_
      refine r_goto 23 dX11_isLast_19 (by decide) ?_
      refine r_ireturn dX11_isLast_23 .boolean rfl (by decide) ?_
      first | exact ⟨_, rfl, bo_1 (by unfold isLs; omega), rfl, rfl, rfl⟩ | exact ⟨_, rfl, bo_0 (by unfold isLs; omega), rfl, rfl, rfl⟩
    · refine r_iload_n dX11_isLast_12 rfl ?_
      refine r_bipush dX11_isLast_13 (v := nI 13) (by decide) ?_
      first | refine r_icmp_neN 22 dX11_isLast_15 (by decide) (by omega) (by omega) (fun h15 => ?_) (fun h15 => ?_) | refine r_icmp_ne 22 dX11_isLast_15 (by decide) (fun h15 => ?_) (fun h15 => ?_)
      · refine r_iconst dX11_isLast_22 (v := nI 0) kc_0 ?_
        refine r_ireturn dX11_isLast_23 .boolean rfl (by decide) ?_
        first | exact ⟨_, rfl, bo_1 (by unfold isLs; omega), rfl, rfl, rfl⟩ | exact ⟨_, rfl, bo_0 (by unfold isLs; omega), rfl, rfl, rfl⟩
      · refine r_iconst dX11_isLast_18 (v := nI 1) kc_1 ?_
        refine r_goto 23 dX11_isLast_19 (by decide) ?_
        refine r_ireturn dX11_isLast_23 .boolean rfl (by decide) ?_
        first | exact ⟨_, rfl, bo_1 (by unfold isLs; omega), rfl, rfl, rfl⟩ | exact ⟨_, rfl, bo_0 (by unfold isLs; omega), rfl, rfl, rfl⟩
theorem c_X11_isArgument {k : Nat} (hk : k < 16) (x : Int32) : am_R mX11_isArgument (po_i (fun v sh' I' P' => bo v (aOk k x) ∧ sh = sh' ∧ I = I' ∧ P = P')) 1 22 0 0 0 [some (.int (nI k)), some (.int x)] [] sh I P := by
  refine r_iload_n dX11_isArgument_0 rfl ?_
  rcases (show k = 0 ∨ k = 1 ∨ k = 2 ∨ k = 3 ∨ k = 4 ∨ k = 5 ∨ k = 6 ∨ k = 7 ∨ k = 8 ∨ k = 9 ∨ k = 10 ∨ k = 11 ∨ k = 12 ∨ k = 13 ∨ k = 14 ∨ k = 15 by omega) with rfl | rfl | rfl | rfl | rfl | rfl | rfl | rfl | rfl | rfl | rfl | rfl | rfl | rfl | rfl | rfl
  · refine r_tabIn (off := 79) 80 dX11_isArgument_1 (by decide) (by decide) (by decide) (by decide) ?_
    refine r_iload_n dX11_isArgument_80 rfl ?_
    refine r_bipush dX11_isArgument_81 (v := (-128)) (by decide) ?_
    refine r_bipush dX11_isArgument_83 (v := nI 127) (by decide) ?_
    refine r_callS3 (fr' := 0) (lo' := 0) (mc' := 0) (ms' := 0) dX11_isArgument_85 mm_X11_in ms_X11_in l_X11_142 (by decide) ⟨by decide, by decide⟩ (Nat.zero_le _) (Nat.zero_le _) (Nat.le_of_ble_eq_true rfl) (c_X11_in _ _ _) (am_ki ?_)
    rintro v85 _ _ _ ⟨hb85, rfl, rfl, rfl⟩
    refine r_ireturn dX11_isArgument_88 .boolean rfl hb85.nar ?_
    exact ⟨_, rfl, hb85, rfl, rfl, rfl⟩
  · refine r_tabIn (off := 104) 105 dX11_isArgument_1 (by decide) (by decide) (by decide) (by decide) ?_
    refine r_iload_n dX11_isArgument_105 rfl ?_
    refine r_if_ne 113 dX11_isArgument_106 (by decide) (fun h106 => ?_) (fun h106 => ?_)
    · refine r_iconst dX11_isArgument_113 (v := nI 0) kc_0 ?_
      refine r_ireturn dX11_isArgument_114 .boolean rfl (by decide) ?_
      first | exact ⟨_, rfl, bo_1 h106, rfl, rfl, rfl⟩ | exact ⟨_, rfl, bo_0 h106, rfl, rfl, rfl⟩
    · refine r_iconst dX11_isArgument_109 (v := nI 1) kc_1 ?_
      refine r_goto 114 dX11_isArgument_110 (by decide) ?_
      refine r_ireturn dX11_isArgument_114 .boolean rfl (by decide) ?_
      first | exact ⟨_, rfl, bo_1 h106, rfl, rfl, rfl⟩ | exact ⟨_, rfl, bo_0 h106, rfl, rfl, rfl⟩
  · refine r_tabIn (off := 104) 105 dX11_isArgument_1 (by decide) (by decide) (by decide) (by decide) ?_
    refine r_iload_n dX11_isArgument_105 rfl ?_
    refine r_if_ne 113 dX11_isArgument_106 (by decide) (fun h106 => ?_) (fun h106 => ?_)
    · refine r_iconst dX11_isArgument_113 (v := nI 0) kc_0 ?_
      refine r_ireturn dX11_isArgument_114 .boolean rfl (by decide) ?_
      first | exact ⟨_, rfl, bo_1 h106, rfl, rfl, rfl⟩ | exact ⟨_, rfl, bo_0 h106, rfl, rfl, rfl⟩
    · refine r_iconst dX11_isArgument_109 (v := nI 1) kc_1 ?_
      refine r_goto 114 dX11_isArgument_110 (by decide) ?_
      refine r_ireturn dX11_isArgument_114 .boolean rfl (by decide) ?_
      first | exact ⟨_, rfl, bo_1 h106, rfl, rfl, rfl⟩ | exact ⟨_, rfl, bo_0 h106, rfl, rfl, rfl⟩
  · refine r_tabIn (off := 104) 105 dX11_isArgument_1 (by decide) (by decide) (by decide) (by decide) ?_
    refine r_iload_n dX11_isArgument_105 rfl ?_
    refine r_if_ne 113 dX11_isArgument_106 (by decide) (fun h106 => ?_) (fun h106 => ?_)
    · refine r_iconst dX11_isArgument_113 (v := nI 0) kc_0 ?_
      refine r_ireturn dX11_isArgument_114 .boolean rfl (by decide) ?_
      first | exact ⟨_, rfl, bo_1 h106, rfl, rfl, rfl⟩ | exact ⟨_, rfl, bo_0 h106, rfl, rfl, rfl⟩
    · refine r_iconst dX11_isArgument_109 (v := nI 1) kc_1 ?_
      refine r_goto 114 dX11_isArgument_110 (by decide) ?_
      refine r_ireturn dX11_isArgument_114 .boolean rfl (by decide) ?_
      first | exact ⟨_, rfl, bo_1 h106, rfl, rfl, rfl⟩ | exact ⟨_, rfl, bo_0 h106, rfl, rfl, rfl⟩
  · refine r_tabIn (off := 104) 105 dX11_isArgument_1 (by decide) (by decide) (by decide) (by decide) ?_
    refine r_iload_n dX11_isArgument_105 rfl ?_
    refine r_if_ne 113 dX11_isArgument_106 (by decide) (fun h106 => ?_) (fun h106 => ?_)
    · refine r_iconst dX11_isArgument_113 (v := nI 0) kc_0 ?_
      refine r_ireturn dX11_isArgument_114 .boolean rfl (by decide) ?_
      first | exact ⟨_, rfl, bo_1 h106, rfl, rfl, rfl⟩ | exact ⟨_, rfl, bo_0 h106, rfl, rfl, rfl⟩
    · refine r_iconst dX11_isArgument_109 (v := nI 1) kc_1 ?_
      refine r_goto 114 dX11_isArgument_110 (by decide) ?_
      refine r_ireturn dX11_isArgument_114 .boolean rfl (by decide) ?_
      first | exact ⟨_, rfl, bo_1 h106, rfl, rfl, rfl⟩ | exact ⟨_, rfl, bo_0 h106, rfl, rfl, rfl⟩
  · refine r_tabIn (off := 104) 105 dX11_isArgument_1 (by decide) (by decide) (by decide) (by decide) ?_
    refine r_iload_n dX11_isArgument_105 rfl ?_
    refine r_if_ne 113 dX11_isArgument_106 (by decide) (fun h106 => ?_) (fun h106 => ?_)
    · refine r_iconst dX11_isArgument_113 (v := nI 0) kc_0 ?_
      refine r_ireturn dX11_isArgument_114 .boolean rfl (by decide) ?_
      first | exact ⟨_, rfl, bo_1 h106, rfl, rfl, rfl⟩ | exact ⟨_, rfl, bo_0 h106, rfl, rfl, rfl⟩
    · refine r_iconst dX11_isArgument_109 (v := nI 1) kc_1 ?_
      refine r_goto 114 dX11_isArgument_110 (by decide) ?_
      refine r_ireturn dX11_isArgument_114 .boolean rfl (by decide) ?_
      first | exact ⟨_, rfl, bo_1 h106, rfl, rfl, rfl⟩ | exact ⟨_, rfl, bo_0 h106, rfl, rfl, rfl⟩
  · refine r_tabIn (off := 104) 105 dX11_isArgument_1 (by decide) (by decide) (by decide) (by decide) ?_
    refine r_iload_n dX11_isArgument_105 rfl ?_
    refine r_if_ne 113 dX11_isArgument_106 (by decide) (fun h106 => ?_) (fun h106 => ?_)
    · refine r_iconst dX11_isArgument_113 (v := nI 0) kc_0 ?_
      refine r_ireturn dX11_isArgument_114 .boolean rfl (by decide) ?_
      first | exact ⟨_, rfl, bo_1 h106, rfl, rfl, rfl⟩ | exact ⟨_, rfl, bo_0 h106, rfl, rfl, rfl⟩
    · refine r_iconst dX11_isArgument_109 (v := nI 1) kc_1 ?_
      refine r_goto 114 dX11_isArgument_110 (by decide) ?_
      refine r_ireturn dX11_isArgument_114 .boolean rfl (by decide) ?_
      first | exact ⟨_, rfl, bo_1 h106, rfl, rfl, rfl⟩ | exact ⟨_, rfl, bo_0 h106, rfl, rfl, rfl⟩
  · refine r_tabIn (off := 88) 89 dX11_isArgument_1 (by decide) (by decide) (by decide) (by decide) ?_
    refine r_iload_n dX11_isArgument_89 rfl ?_
    refine r_iconst dX11_isArgument_90 (v := nI 0) kc_0 ?_
    refine r_bipush dX11_isArgument_91 (v := nI 7) (by decide) ?_
    refine r_callS3 (fr' := 0) (lo' := 0) (mc' := 0) (ms' := 0) dX11_isArgument_93 mm_X11_in ms_X11_in l_X11_142 (by decide) ⟨by decide, by decide⟩ (Nat.zero_le _) (Nat.zero_le _) (Nat.le_of_ble_eq_true rfl) (c_X11_in _ _ _) (am_ki ?_)
    rintro v93 _ _ _ ⟨hb93, rfl, rfl, rfl⟩
    refine r_ireturn dX11_isArgument_96 .boolean rfl hb93.nar ?_
    exact ⟨_, rfl, hb93, rfl, rfl, rfl⟩
  · refine r_tabIn (off := 88) 89 dX11_isArgument_1 (by decide) (by decide) (by decide) (by decide) ?_
    refine r_iload_n dX11_isArgument_89 rfl ?_
    refine r_iconst dX11_isArgument_90 (v := nI 0) kc_0 ?_
    refine r_bipush dX11_isArgument_91 (v := nI 7) (by decide) ?_
    refine r_callS3 (fr' := 0) (lo' := 0) (mc' := 0) (ms' := 0) dX11_isArgument_93 mm_X11_in ms_X11_in l_X11_142 (by decide) ⟨by decide, by decide⟩ (Nat.zero_le _) (Nat.zero_le _) (Nat.le_of_ble_eq_true rfl) (c_X11_in _ _ _) (am_ki ?_)
    rintro v93 _ _ _ ⟨hb93, rfl, rfl, rfl⟩
    refine r_ireturn dX11_isArgument_96 .boolean rfl hb93.nar ?_
    exact ⟨_, rfl, hb93, rfl, rfl, rfl⟩
  · refine r_tabIn (off := 96) 97 dX11_isArgument_1 (by decide) (by decide) (by decide) (by decide) ?_
    refine r_iload_n dX11_isArgument_97 rfl ?_
    refine r_iconst dX11_isArgument_98 (v := nI 0) kc_0 ?_
    refine r_bipush dX11_isArgument_99 (v := nI 39) (by decide) ?_
    refine r_callS3 (fr' := 0) (lo' := 0) (mc' := 0) (ms' := 0) dX11_isArgument_101 mm_X11_in ms_X11_in l_X11_142 (by decide) ⟨by decide, by decide⟩ (Nat.zero_le _) (Nat.zero_le _) (Nat.le_of_ble_eq_true rfl) (c_X11_in _ _ _) (am_ki ?_)
    rintro v101 _ _ _ ⟨hb101, rfl, rfl, rfl⟩
    refine r_ireturn dX11_isArgument_104 .boolean rfl hb101.nar ?_
    exact ⟨_, rfl, hb101, rfl, rfl, rfl⟩
  · refine r_tabIn (off := 96) 97 dX11_isArgument_1 (by decide) (by decide) (by decide) (by decide) ?_
    refine r_iload_n dX11_isArgument_97 rfl ?_
    refine r_iconst dX11_isArgument_98 (v := nI 0) kc_0 ?_
    refine r_bipush dX11_isArgument_99 (v := nI 39) (by decide) ?_
    refine r_callS3 (fr' := 0) (lo' := 0) (mc' := 0) (ms' := 0) dX11_isArgument_101 mm_X11_in ms_X11_in l_X11_142 (by decide) ⟨by decide, by decide⟩ (Nat.zero_le _) (Nat.zero_le _) (Nat.le_of_ble_eq_true rfl) (c_X11_in _ _ _) (am_ki ?_)
    rintro v101 _ _ _ ⟨hb101, rfl, rfl, rfl⟩
    refine r_ireturn dX11_isArgument_104 .boolean rfl hb101.nar ?_
    exact ⟨_, rfl, hb101, rfl, rfl, rfl⟩
  · refine r_tabIn (off := 104) 105 dX11_isArgument_1 (by decide) (by decide) (by decide) (by decide) ?_
    refine r_iload_n dX11_isArgument_105 rfl ?_
    refine r_if_ne 113 dX11_isArgument_106 (by decide) (fun h106 => ?_) (fun h106 => ?_)
    · refine r_iconst dX11_isArgument_113 (v := nI 0) kc_0 ?_
      refine r_ireturn dX11_isArgument_114 .boolean rfl (by decide) ?_
      first | exact ⟨_, rfl, bo_1 h106, rfl, rfl, rfl⟩ | exact ⟨_, rfl, bo_0 h106, rfl, rfl, rfl⟩
    · refine r_iconst dX11_isArgument_109 (v := nI 1) kc_1 ?_
      refine r_goto 114 dX11_isArgument_110 (by decide) ?_
      refine r_ireturn dX11_isArgument_114 .boolean rfl (by decide) ?_
      first | exact ⟨_, rfl, bo_1 h106, rfl, rfl, rfl⟩ | exact ⟨_, rfl, bo_0 h106, rfl, rfl, rfl⟩
  · refine r_tabIn (off := 104) 105 dX11_isArgument_1 (by decide) (by decide) (by decide) (by decide) ?_
    refine r_iload_n dX11_isArgument_105 rfl ?_
    refine r_if_ne 113 dX11_isArgument_106 (by decide) (fun h106 => ?_) (fun h106 => ?_)
    · refine r_iconst dX11_isArgument_113 (v := nI 0) kc_0 ?_
      refine r_ireturn dX11_isArgument_114 .boolean rfl (by decide) ?_
      first | exact ⟨_, rfl, bo_1 h106, rfl, rfl, rfl⟩ | exact ⟨_, rfl, bo_0 h106, rfl, rfl, rfl⟩
    · refine r_iconst dX11_isArgument_109 (v := nI 1) kc_1 ?_
      refine r_goto 114 dX11_isArgument_110 (by decide) ?_
      refine r_ireturn dX11_isArgument_114 .boolean rfl (by decide) ?_
      first | exact ⟨_, rfl, bo_1 h106, rfl, rfl, rfl⟩ | exact ⟨_, rfl, bo_0 h106, rfl, rfl, rfl⟩
  · refine r_tabIn (off := 104) 105 dX11_isArgument_1 (by decide) (by decide) (by decide) (by decide) ?_
    refine r_iload_n dX11_isArgument_105 rfl ?_
    refine r_if_ne 113 dX11_isArgument_106 (by decide) (fun h106 => ?_) (fun h106 => ?_)
    · refine r_iconst dX11_isArgument_113 (v := nI 0) kc_0 ?_
      refine r_ireturn dX11_isArgument_114 .boolean rfl (by decide) ?_
      first | exact ⟨_, rfl, bo_1 h106, rfl, rfl, rfl⟩ | exact ⟨_, rfl, bo_0 h106, rfl, rfl, rfl⟩
    · refine r_iconst dX11_isArgument_109 (v := nI 1) kc_1 ?_
      refine r_goto 114 dX11_isArgument_110 (by decide) ?_
      refine r_ireturn dX11_isArgument_114 .boolean rfl (by decide) ?_
      first | exact ⟨_, rfl, bo_1 h106, rfl, rfl, rfl⟩ | exact ⟨_, rfl, bo_0 h106, rfl, rfl, rfl⟩
  · refine r_tabIn (off := 104) 105 dX11_isArgument_1 (by decide) (by decide) (by decide) (by decide) ?_
    refine r_iload_n dX11_isArgument_105 rfl ?_
    refine r_if_ne 113 dX11_isArgument_106 (by decide) (fun h106 => ?_) (fun h106 => ?_)
    · refine r_iconst dX11_isArgument_113 (v := nI 0) kc_0 ?_
      refine r_ireturn dX11_isArgument_114 .boolean rfl (by decide) ?_
      first | exact ⟨_, rfl, bo_1 h106, rfl, rfl, rfl⟩ | exact ⟨_, rfl, bo_0 h106, rfl, rfl, rfl⟩
    · refine r_iconst dX11_isArgument_109 (v := nI 1) kc_1 ?_
      refine r_goto 114 dX11_isArgument_110 (by decide) ?_
      refine r_ireturn dX11_isArgument_114 .boolean rfl (by decide) ?_
      first | exact ⟨_, rfl, bo_1 h106, rfl, rfl, rfl⟩ | exact ⟨_, rfl, bo_0 h106, rfl, rfl, rfl⟩
  · refine r_tabIn (off := 88) 89 dX11_isArgument_1 (by decide) (by decide) (by decide) (by decide) ?_
    refine r_iload_n dX11_isArgument_89 rfl ?_
    refine r_iconst dX11_isArgument_90 (v := nI 0) kc_0 ?_
    refine r_bipush dX11_isArgument_91 (v := nI 7) (by decide) ?_
    refine r_callS3 (fr' := 0) (lo' := 0) (mc' := 0) (ms' := 0) dX11_isArgument_93 mm_X11_in ms_X11_in l_X11_142 (by decide) ⟨by decide, by decide⟩ (Nat.zero_le _) (Nat.zero_le _) (Nat.le_of_ble_eq_true rfl) (c_X11_in _ _ _) (am_ki ?_)
    rintro v93 _ _ _ ⟨hb93, rfl, rfl, rfl⟩
    refine r_ireturn dX11_isArgument_96 .boolean rfl hb93.nar ?_
    exact ⟨_, rfl, hb93, rfl, rfl, rfl⟩
theorem fg_step (g : Nat → Int32) (b k : Nat) : upd (fun j => if b ≤ j ∧ j < b + k then 0 else g j) (b + k) (nI 0) = fun j => if b ≤ j ∧ j < b + (k + 1) then 0 else g j := by
  funext j
  by_cases h : j = b + k
  · subst h
    simp [upd, nI_0]
  · have h2 : (b ≤ j ∧ j < b + k) ↔ (b ≤ j ∧ j < b + (k + 1)) := by omega
    simp only [upd, h, if_false, h2]
theorem l_X11_forget (S : St_m sh P) {q : Nat} (hq : q ≤ 11) (g : Nat → Int32) : ∀ (n k : Nat), k + n = 40 → ∀ I : AIn, am_R mX11_forget (po_v (fun sh' I' P' => I' = va_up I 5 (fun j => if 40 * q ≤ j ∧ j < 40 * q + 40 then 0 else g j) ∧ sh = sh' ∧ P = P')) 0 0 0 0 2 [some (.ref 0), some (.int (nI q)), some (.int (nI k))] [] sh (va_up I 5 (fun j => if 40 * q ≤ j ∧ j < 40 * q + k then 0 else g j)) P := by
  intro n
  induction n with
  | zero =>
    intro k hk I
    refine r_iload_n dX11_forget_2 rfl ?_
    refine r_bipush dX11_forget_3 (v := nI 40) (by decide) ?_
    refine r_icmp_geN 26 dX11_forget_5 (by decide) (by omega) (by omega) (fun h5 => ?_) (fun h5 => ?_)
    · refine r_return dX11_forget_26 rfl ?_
      have e : k = 40 := by omega
      subst e
      exact ⟨rfl, rfl, rfl, rfl⟩
    · exact absurd h5 (by omega)
  | succ n ih =>
    intro k hk I
    refine r_iload_n dX11_forget_2 rfl ?_
    refine r_bipush dX11_forget_3 (v := nI 40) (by decide) ?_
    refine r_icmp_geN 26 dX11_forget_5 (by decide) (by omega) (by omega) (fun h5 => ?_) (fun h5 => ?_)
    · exact absurd h5 (by omega)
    · refine r_aload_n dX11_forget_8 rfl ?_
      refine r_getP dX11_forget_9 g_X11_22 (S.1 _ _ rfl) rfl (S.2 _ _ _ rfl) ?_
      refine r_bipush dX11_forget_12 (v := nI 40) (by decide) ?_
      refine r_iload_n dX11_forget_14 rfl ?_
      first | refine r_imulN dX11_forget_15 ?_ | refine r_imul dX11_forget_15 ?_
      refine r_iload_n dX11_forget_16 rfl ?_
      first | refine r_iaddN dX11_forget_17 ?_ | refine r_iadd dX11_forget_17 ?_
      refine r_iconst dX11_forget_18 (v := nI 0) kc_0 ?_
      refine r_iastore _ dX11_forget_19 (S.1 _ _ rfl) rfl (by first | decide | omega) (by decide) ?_
      first | refine r_iincN dX11_forget_20 rfl kc_1 ?_ | refine r_iinc dX11_forget_20 rfl rfl ?_
      dsimp only [List.set]
      refine r_goto 2 dX11_forget_23 (by decide) ?_
      have h := ih (k + 1) (by omega) I
      rw [bx_uu, va_up_self, fg_step]
      exact h
theorem c_X11_forget (S : St_m sh P) {q : Nat} (hq : q ≤ 11) : am_R mX11_forget (po_v (fun sh' I' P' => I' = va_up I 5 (fun j => if 40 * q ≤ j ∧ j < 40 * q + 40 then 0 else I 5 j) ∧ sh = sh' ∧ P = P')) 0 0 0 0 0 [some (.ref 0), some (.int (nI q)), none] [] sh I P := by
  refine r_iconst dX11_forget_0 (v := nI 0) kc_0 ?_
  refine r_istore_n dX11_forget_1 (Nat.le_of_ble_eq_true rfl) ?_
  dsimp only [List.set]
  have h := l_X11_forget S hq (I 5) 40 0 rfl I
  have e : va_up I 5 (fun j => if 40 * q ≤ j ∧ j < 40 * q + 0 then 0 else I 5 j) = I := by
    funext k
    by_cases hk : k = 5
    · subst hk
      funext j
      have : ¬ (40 * q ≤ j ∧ j < 40 * q + 0) := by omega
      simp only [va_up, if_true, this, if_false]
    · simp only [va_up, hk, if_false]
  rw [e] at h
  exact h
end M1
