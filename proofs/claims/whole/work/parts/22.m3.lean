/-! the reference: calls that only read -/
section M3
variable {sh : ASh} {I : AIn} {P : APt}
theorem isN.e {x : Int32} {m : Nat} (h : isN x m) : x = nI (nv x) := h.1
theorem neg_in (x : Int32) : ¬ (nI 0 ≤ x ∧ x ≤ -1 - nI 1) := by
  rintro ⟨h1, h2⟩
  have h4 := Int32.le_trans h1 h2
  exact absurd h4 (by decide)
/-- between 0 and what stands there less 1, where there may be -1 -/
theorem in_iffN {x y : Int32} {m : Nat} (hy : y = -1 ∨ isN y m) (hm : m < 2147483648) : (nI 0 ≤ x ∧ x ≤ y - nI 1) ↔ inR x (nv y) := by
  rcases hy with rfl | h
  · rw [nv_m1]
    constructor
    · intro h
      exact absurd h (neg_in x)
    · rintro ⟨j, hj, -⟩
      omega
  · rw [h.1, in_iff1 (by have := h.2; omega), nv_nI (by have := h.2; omega)]
    rfl
theorem b_X11_tell (S : St_m sh P) (V : Inv (rs I))  (x y z : Int32): am_R mX11_tell (mpo sh P I (t_res (rs I) x y z) (rs I)) 2 43 0 0 5 [some (.ref 0), some (.int x), some (.int y), some (.int z), none] [] sh I P := by
  obtain ⟨e1, b1⟩ := V.1.np
  have e1 : I 1 0 = nI (np (rs I)) := e1
  generalize hN : np (rs I) = N at e1 b1
  refine r_aload_n dX11_tell_5 rfl ?_
  refine r_iload_n dX11_tell_6 rfl ?_
  refine r_callV1 (fr' := 1) (lo' := 22) (mc' := 0) (ms' := 0) dX11_tell_7 mm_X11_isProgram mv_X11_isProgram l_X11_150 (S.1 _ _ rfl) mc_X11_isProgram (by decide) ⟨by decide, by decide⟩ (Nat.zero_le _) (Nat.zero_le _) (Nat.le_of_ble_eq_true rfl) (c_X11_isProgram S _ e1 b1) (am_ki ?_)
  rintro v7 _ _ _ ⟨hb7, rfl, rfl, rfl⟩
  refine r_if_eq 29 dX11_tell_10 (by decide) (fun h10 => ?_) (fun h10 => ?_)
  · replace h10 := hb7.f h10
    have hc : ¬ (inR x (np (rs I)) ∧ inR y (sz (rs I) (nv x))) := fun h => h10 (by rw [← hN]; exact h.1)
    refine r_iconst dX11_tell_29 (v := (-1)) kc_m1 ?_
    refine r_ireturn dX11_tell_30 .int rfl rfl ?_
    refine ⟨_, rfl, ?_, rfl, hi_rf _, rfl, rfl⟩
    rw [t_res, cif_f hc]
  · replace h10 := hb7.t h10
    obtain ⟨j, hj, rfl⟩ := h10
    obtain ⟨e2, b2⟩ := V.1.sz (q := j) (by omega)
    have e2 : I 2 j = nI (sz (rs I) j) := e2
    generalize hM : sz (rs I) j = M at e2 b2
    have nj : nv (nI j) = j := nv_nI (by omega)
    refine r_iload_n dX11_tell_13 rfl ?_
    refine r_iconst dX11_tell_14 (v := nI 0) kc_0 ?_
    refine r_aload_n dX11_tell_15 rfl ?_
    refine r_getP dX11_tell_16 g_X11_13 (S.1 _ _ rfl) rfl (S.2 _ _ _ rfl) ?_
    refine r_iload_n dX11_tell_19 rfl ?_
    refine r_iaload _ dX11_tell_20 (S.1 _ _ rfl) rfl (by first | decide | omega) (by decide) ?_
    rw [e2]
    refine r_iconst dX11_tell_21 (v := nI 1) kc_1 ?_
    refine r_isub dX11_tell_22 ?_
    refine r_callS3 (fr' := 0) (lo' := 0) (mc' := 0) (ms' := 0) dX11_tell_23 mm_X11_in ms_X11_in l_X11_142 (by decide) ⟨by decide, by decide⟩ (Nat.zero_le _) (Nat.zero_le _) (Nat.le_of_ble_eq_true rfl) (c_X11_in _ _ _) (am_ki ?_)
    rintro v23 _ _ _ ⟨hb23, rfl, rfl, rfl⟩
    refine r_if_ne 31 dX11_tell_26 (by decide) (fun h26 => ?_) (fun h26 => ?_)
    · replace h26 := hb23.t h26
      obtain ⟨i, hi2, rfl⟩ := (in_iff1 (by omega)).mp h26
      have ni : nv (nI i) = i := nv_nI (by omega)
      have hc : inR (nI j) (np (rs I)) ∧ inR (nI i) (sz (rs I) (nv (nI j))) := ⟨by rw [hN]; exact inR_nI hj, by rw [nj, hM]; exact inR_nI hi2⟩
      refine r_bipush dX11_tell_31 (v := nI 40) (by decide) ?_
      refine r_iload_n dX11_tell_33 rfl ?_
      first | refine r_imulN dX11_tell_34 ?_ | refine r_imul dX11_tell_34 ?_
      refine r_iload_n dX11_tell_35 rfl ?_
      first | refine r_iaddN dX11_tell_36 ?_ | refine r_iadd dX11_tell_36 ?_
      refine r_istore dX11_tell_37 (Nat.le_of_ble_eq_true rfl) ?_
      dsimp only [List.set]
      refine r_iload_n dX11_tell_39 rfl ?_
      rcases sw_3 z with rfl | rfl | rfl | rfl | ⟨hz, hx⟩
      · refine r_tabIn (off := 32) 72 dX11_tell_40 (by decide) (by decide) (by decide) (by decide) ?_
        refine r_aload_n dX11_tell_72 rfl ?_
        refine r_getP dX11_tell_73 g_X11_16 (S.1 _ _ rfl) rfl (S.2 _ _ _ rfl) ?_
        refine r_iload dX11_tell_76 rfl ?_
        refine r_iaload _ dX11_tell_78 (S.1 _ _ rfl) rfl (by first | decide | omega) (by decide) ?_
        refine r_ireturn dX11_tell_79 .int rfl rfl ?_
        refine ⟨_, rfl, ?_, rfl, hi_rf _, rfl, rfl⟩
        rw [t_res, cif_t hc, nj, ni]
        rfl
      · refine r_tabIn (off := 40) 80 dX11_tell_40 (by decide) (by decide) (by decide) (by decide) ?_
        refine r_aload_n dX11_tell_80 rfl ?_
        refine r_getP dX11_tell_81 g_X11_19 (S.1 _ _ rfl) rfl (S.2 _ _ _ rfl) ?_
        refine r_iload dX11_tell_84 rfl ?_
        refine r_iaload _ dX11_tell_86 (S.1 _ _ rfl) rfl (by first | decide | omega) (by decide) ?_
        refine r_ireturn dX11_tell_87 .int rfl rfl ?_
        refine ⟨_, rfl, ?_, rfl, hi_rf _, rfl, rfl⟩
        rw [t_res, cif_t hc, nj, ni]
        rfl
      · refine r_tabIn (off := 48) 88 dX11_tell_40 (by decide) (by decide) (by decide) (by decide) ?_
        refine r_aload_n dX11_tell_88 rfl ?_
        refine r_getP dX11_tell_89 g_X11_22 (S.1 _ _ rfl) rfl (S.2 _ _ _ rfl) ?_
        refine r_iload dX11_tell_92 rfl ?_
        refine r_iaload _ dX11_tell_94 (S.1 _ _ rfl) rfl (by first | decide | omega) (by decide) ?_
        refine r_ireturn dX11_tell_95 .int rfl rfl ?_
        refine ⟨_, rfl, ?_, rfl, hi_rf _, rfl, rfl⟩
        rw [t_res, cif_t hc, nj, ni]
        rfl
      · refine r_tabIn (off := 56) 96 dX11_tell_40 (by decide) (by decide) (by decide) (by decide) ?_
        refine r_aload_n dX11_tell_96 rfl ?_
        refine r_iload_n dX11_tell_97 rfl ?_
        refine r_iload_n dX11_tell_98 rfl ?_
        refine r_callV2 (fr' := 0) (lo' := 0) (mc' := 0) (ms' := 0) dX11_tell_99 mm_X11_isLed mv_X11_isLed l_X11_161 (S.1 _ _ rfl) mc_X11_isLed (by decide) ⟨by decide, by decide⟩ (Nat.zero_le _) (Nat.zero_le _) (Nat.le_of_ble_eq_true rfl) (c_X11_isLed S V.1 (by omega) (by omega)) (am_ki ?_)
        rintro v99 _ _ _ ⟨hb99, rfl, rfl, rfl⟩
        refine r_if_eq 109 dX11_tell_102 (by decide) (fun h102 => ?_) (fun h102 => ?_)
        · replace h102 := hb99.f h102
          refine r_iconst dX11_tell_109 (v := nI 0) kc_0 ?_
          refine r_ireturn dX11_tell_110 .int rfl rfl ?_
          refine ⟨_, rfl, ?_, rfl, hi_rf _, rfl, rfl⟩
          rw [t_res, cif_t hc, nj, ni]
          show _ = cif (led (rs I) j i) (nI 1) (nI 0)
          first | rw [cif_t h102] | rw [cif_f h102]
        · replace h102 := hb99.t h102
          refine r_iconst dX11_tell_105 (v := nI 1) kc_1 ?_
          refine r_goto 110 dX11_tell_106 (by decide) ?_
          refine r_ireturn dX11_tell_110 .int rfl rfl ?_
          refine ⟨_, rfl, ?_, rfl, hi_rf _, rfl, rfl⟩
          rw [t_res, cif_t hc, nj, ni]
          show _ = cif (led (rs I) j i) (nI 1) (nI 0)
          first | rw [cif_t h102] | rw [cif_f h102]
      · refine r_tabOut 111 dX11_tell_40 hx (by decide) ?_
        refine r_iconst dX11_tell_111 (v := (-1)) kc_m1 ?_
        refine r_ireturn dX11_tell_112 .int rfl rfl ?_
        refine ⟨_, rfl, ?_, rfl, hi_rf _, rfl, rfl⟩
        have hz0 : z ≠ nI 0 := fun h => hz (Or.inl h)
        have hz1 : z ≠ nI 1 := fun h => hz (Or.inr (Or.inl h))
        have hz2 : z ≠ nI 2 := fun h => hz (Or.inr (Or.inr (Or.inl h)))
        have hz3 : z ≠ nI 3 := fun h => hz (Or.inr (Or.inr (Or.inr h)))
        rw [t_res, cif_t hc, if_neg hz0, if_neg hz1, if_neg hz2, if_neg hz3]
    · replace h26 := hb23.f h26
      have hc : ¬ (inR (nI j) (np (rs I)) ∧ inR y (sz (rs I) (nv (nI j)))) := fun h => h26 ((in_iff1 (by omega)).mpr (by have h9 := h.2; rw [nj, hM] at h9; exact h9))
      refine r_iconst dX11_tell_29 (v := (-1)) kc_m1 ?_
      refine r_ireturn dX11_tell_30 .int rfl rfl ?_
      refine ⟨_, rfl, ?_, rfl, hi_rf _, rfl, rfl⟩
      rw [t_res, cif_f hc]
theorem c_X11_tell (S : St_m sh P) (V : Inv (rs I))  (x y z : Int32): am_R mX11_tell (mpo sh P I (t_res (rs I) x y z) (rs I)) 2 43 0 0 0 [some (.ref 0), some (.int x), some (.int y), some (.int z), none] [] sh I P := by
  refine r_aload_n dX11_tell_0 rfl ?_
  refine r_iconst dX11_tell_1 (v := nI 0) kc_0 ?_
  refine r_putI dX11_tell_2 f_X11_134 (S.1 _ _ rfl) rfl rfl rfl ?_
  have e : rs (va_up I 0 (upd (I 0) 0 (nI 0))) = rs I := rs_no rfl
  have h := b_X11_tell (I := va_up I 0 (upd (I 0) 0 (nI 0))) S (by rw [e]; exact V) x y z
  rw [e] at h
  exact mpo_z h
theorem b_X11_part (S : St_m sh P) (V : Inv (rs I))  : am_R mX11_part (mpv sh P I (pt_op (rs I))) 0 0 0 0 5 [some (.ref 0)] [] sh I P := by
  refine r_aload_n dX11_part_5 rfl ?_
  refine r_getP dX11_part_6 g_X11_25 (S.1 _ _ rfl) rfl (S.2 _ _ _ rfl) ?_
  refine r_iconst dX11_part_9 (v := nI 0) kc_0 ?_
  refine r_iconst dX11_part_10 (v := nI 0) kc_0 ?_
  refine r_iastore _ dX11_part_11 (S.1 _ _ rfl) rfl (by first | decide | omega) (by decide) ?_
  refine r_return dX11_part_12 rfl ?_
  exact ⟨rfl, by rw [rs_up rfl]; rfl, hi_up (hi_rf _) (by decide), rfl, rfl⟩
theorem c_X11_part (S : St_m sh P) (V : Inv (rs I))  : am_R mX11_part (mpv sh P I (pt_op (rs I))) 0 0 0 0 0 [some (.ref 0)] [] sh I P := by
  refine r_aload_n dX11_part_0 rfl ?_
  refine r_iconst dX11_part_1 (v := nI 0) kc_0 ?_
  refine r_putI dX11_part_2 f_X11_134 (S.1 _ _ rfl) rfl rfl rfl ?_
  have e : rs (va_up I 0 (upd (I 0) 0 (nI 0))) = rs I := rs_no rfl
  have h := b_X11_part (I := va_up I 0 (upd (I 0) 0 (nI 0))) S (by rw [e]; exact V)
  rw [e] at h
  exact mpv_z h
theorem b_X11_joined (S : St_m sh P) (V : Inv (rs I))  (x y : Int32): am_R mX11_joined (mpo sh P I (jd_res (rs I) x y) (rs I)) 1 22 0 0 5 [some (.ref 0), some (.int x), some (.int y)] [] sh I P := by
  have e6 : isN (I 6 0) 6 := V.2.1.1
  refine r_iload_n dX11_joined_5 rfl ?_
  refine r_iconst dX11_joined_6 (v := nI 0) kc_0 ?_
  refine r_aload_n dX11_joined_7 rfl ?_
  refine r_getP dX11_joined_8 g_X11_25 (S.1 _ _ rfl) rfl (S.2 _ _ _ rfl) ?_
  refine r_iconst dX11_joined_11 (v := nI 0) kc_0 ?_
  refine r_iaload _ dX11_joined_12 (S.1 _ _ rfl) rfl (by first | decide | omega) (by decide) ?_
  refine r_iconst dX11_joined_13 (v := nI 1) kc_1 ?_
  refine r_isub dX11_joined_14 ?_
  refine r_callS3 (fr' := 0) (lo' := 0) (mc' := 0) (ms' := 0) dX11_joined_15 mm_X11_in ms_X11_in l_X11_142 (by decide) ⟨by decide, by decide⟩ (Nat.zero_le _) (Nat.zero_le _) (Nat.le_of_ble_eq_true rfl) (c_X11_in _ _ _) (am_ki ?_)
  rintro v15 _ _ _ ⟨hb15, rfl, rfl, rfl⟩
  refine r_if_eq 54 dX11_joined_18 (by decide) (fun h18 => ?_) (fun h18 => ?_)
  · replace h18 := hb15.f h18
    have hc : ¬ (inR x (nj (rs I)) ∧ inR y (nv (rs I 7 (5 * nv x)))) := fun h => h18 ((in_iffN (Or.inr e6) (by decide)).mpr h.1)
    refine r_iconst dX11_joined_54 (v := (-1)) kc_m1 ?_
    refine r_ireturn dX11_joined_55 .int rfl rfl ?_
    refine ⟨_, rfl, ?_, rfl, hi_rf _, rfl, rfl⟩
    first | rw [jd_res, cif_f hc] | (rw [jd_res, cif_t hc, nj2, ni2]; rfl)
  · replace h18 := hb15.t h18
    have h18 := (in_iffN (Or.inr e6) (by decide)).mp h18
    obtain ⟨j, hj, rfl⟩ := id h18
    have b6 := e6.2
    have nj2 : nv (nI j) = j := nv_nI (by omega)
    have hO : jOk (I 7) (5 * j) := V.2.1.2.1 j hj
    refine r_iload_n dX11_joined_21 rfl ?_
    refine r_iconst dX11_joined_22 (v := nI 0) kc_0 ?_
    refine r_aload_n dX11_joined_23 rfl ?_
    refine r_getP dX11_joined_24 g_X11_28 (S.1 _ _ rfl) rfl (S.2 _ _ _ rfl) ?_
    refine r_iconst dX11_joined_27 (v := nI 5) kc_5 ?_
    refine r_iload_n dX11_joined_28 rfl ?_
    first | refine r_imulN dX11_joined_29 ?_ | refine r_imul dX11_joined_29 ?_
    refine r_iaload (5 * j) dX11_joined_30 (S.1 _ _ rfl) rfl (by first | decide | omega) (by decide) ?_
    refine r_iconst dX11_joined_31 (v := nI 1) kc_1 ?_
    refine r_isub dX11_joined_32 ?_
    refine r_callS3 (fr' := 0) (lo' := 0) (mc' := 0) (ms' := 0) dX11_joined_33 mm_X11_in ms_X11_in l_X11_142 (by decide) ⟨by decide, by decide⟩ (Nat.zero_le _) (Nat.zero_le _) (Nat.le_of_ble_eq_true rfl) (c_X11_in _ _ _) (am_ki ?_)
    rintro v33 _ _ _ ⟨hb33, rfl, rfl, rfl⟩
    refine r_if_eq 54 dX11_joined_36 (by decide) (fun h36 => ?_) (fun h36 => ?_)
    · replace h36 := hb33.f h36
      have hc : ¬ (inR (nI j) (nj (rs I)) ∧ inR y (nv (rs I 7 (5 * nv (nI j))))) := fun h => h36 ((in_iffN (Or.inr hO.1.2) (by decide)).mpr (by have h9 := h.2; rw [nj2] at h9; exact h9))
      refine r_iconst dX11_joined_54 (v := (-1)) kc_m1 ?_
      refine r_ireturn dX11_joined_55 .int rfl rfl ?_
      refine ⟨_, rfl, ?_, rfl, hi_rf _, rfl, rfl⟩
      first | rw [jd_res, cif_f hc] | (rw [jd_res, cif_t hc, nj2, ni2]; rfl)
    · replace h36 := hb33.t h36
      have h36 := (in_iffN (Or.inr hO.1.2) (by decide)).mp h36
      obtain ⟨i, hi2, rfl⟩ := id h36
      have b7 := hO.1.2.2
      have ni2 : nv (nI i) = i := nv_nI (by omega)
      have hc : inR (nI j) (nj (rs I)) ∧ inR (nI i) (nv (rs I 7 (5 * nv (nI j)))) := ⟨h18, by rw [nj2]; exact h36⟩
      refine r_aload_n dX11_joined_39 rfl ?_
      refine r_getP dX11_joined_40 g_X11_28 (S.1 _ _ rfl) rfl (S.2 _ _ _ rfl) ?_
      refine r_iconst dX11_joined_43 (v := nI 5) kc_5 ?_
      refine r_iload_n dX11_joined_44 rfl ?_
      first | refine r_imulN dX11_joined_45 ?_ | refine r_imul dX11_joined_45 ?_
      refine r_iconst dX11_joined_46 (v := nI 1) kc_1 ?_
      first | refine r_iaddN dX11_joined_47 ?_ | refine r_iadd dX11_joined_47 ?_
      refine r_iload_n dX11_joined_48 rfl ?_
      first | refine r_iaddN dX11_joined_49 ?_ | refine r_iadd dX11_joined_49 ?_
      refine r_iaload (5 * j + 1 + i) dX11_joined_50 (S.1 _ _ rfl) rfl (by first | decide | omega) (by decide) ?_
      refine r_goto 55 dX11_joined_51 (by decide) ?_
      refine r_ireturn dX11_joined_55 .int rfl rfl ?_
      refine ⟨_, rfl, ?_, rfl, hi_rf _, rfl, rfl⟩
      first | rw [jd_res, cif_f hc] | (rw [jd_res, cif_t hc, nj2, ni2]; rfl)
theorem c_X11_joined (S : St_m sh P) (V : Inv (rs I))  (x y : Int32): am_R mX11_joined (mpo sh P I (jd_res (rs I) x y) (rs I)) 1 22 0 0 0 [some (.ref 0), some (.int x), some (.int y)] [] sh I P := by
  refine r_aload_n dX11_joined_0 rfl ?_
  refine r_iconst dX11_joined_1 (v := nI 0) kc_0 ?_
  refine r_putI dX11_joined_2 f_X11_134 (S.1 _ _ rfl) rfl rfl rfl ?_
  have e : rs (va_up I 0 (upd (I 0) 0 (nI 0))) = rs I := rs_no rfl
  have h := b_X11_joined (I := va_up I 0 (upd (I 0) 0 (nI 0))) S (by rw [e]; exact V) x y
  rw [e] at h
  exact mpo_z h
theorem b_X11_code (S : St_m sh P) (V : Inv (rs I))  (x y : Int32): am_R mX11_code (mpo sh P I (cd_res (rs I) x y) (rs I)) 1 22 0 0 5 [some (.ref 0), some (.int x), some (.int y)] [] sh I P := by
  have e6 : I 11 0 = -1 ∨ isN (I 11 0) 40 := by
    rcases V.2.2.1 with h | h
    · exact Or.inl h
    · exact Or.inr h.1
  refine r_iload_n dX11_code_5 rfl ?_
  refine r_iconst dX11_code_6 (v := nI 0) kc_0 ?_
  refine r_aload_n dX11_code_7 rfl ?_
  refine r_getP dX11_code_8 g_X11_40 (S.1 _ _ rfl) rfl (S.2 _ _ _ rfl) ?_
  refine r_iconst dX11_code_11 (v := nI 0) kc_0 ?_
  refine r_iaload _ dX11_code_12 (S.1 _ _ rfl) rfl (by first | decide | omega) (by decide) ?_
  refine r_iconst dX11_code_13 (v := nI 1) kc_1 ?_
  refine r_isub dX11_code_14 ?_
  refine r_callS3 (fr' := 0) (lo' := 0) (mc' := 0) (ms' := 0) dX11_code_15 mm_X11_in ms_X11_in l_X11_142 (by decide) ⟨by decide, by decide⟩ (Nat.zero_le _) (Nat.zero_le _) (Nat.le_of_ble_eq_true rfl) (c_X11_in _ _ _) (am_ki ?_)
  rintro v15 _ _ _ ⟨hb15, rfl, rfl, rfl⟩
  refine r_if_eq 43 dX11_code_18 (by decide) (fun h18 => ?_) (fun h18 => ?_)
  · replace h18 := hb15.f h18
    have hc : ¬ (inR x (nv (rs I 11 0)) ∧ inR y 3) := fun h => h18 ((in_iffN e6 (by decide)).mpr h.1)
    refine r_iconst dX11_code_43 (v := (-1)) kc_m1 ?_
    refine r_ireturn dX11_code_44 .int rfl rfl ?_
    refine ⟨_, rfl, ?_, rfl, hi_rf _, rfl, rfl⟩
    first | rw [cd_res, cif_f hc] | (rw [cd_res, cif_t hc, nj2, ni2]; rfl)
  · replace h18 := hb15.t h18
    have h18 := (in_iffN e6 (by decide)).mp h18
    obtain ⟨j, hj, rfl⟩ := id h18
    have b6 : nv (I 11 0) ≤ 40 := by
      rcases e6 with h | h
      · rw [h, nv_m1]; omega
      · exact h.2
    have nj2 : nv (nI j) = j := nv_nI (by omega)
    refine r_iload_n dX11_code_21 rfl ?_
    refine r_iconst dX11_code_22 (v := nI 0) kc_0 ?_
    refine r_iconst dX11_code_23 (v := nI 2) kc_2 ?_
    refine r_callS3 (fr' := 0) (lo' := 0) (mc' := 0) (ms' := 0) dX11_code_24 mm_X11_in ms_X11_in l_X11_142 (by decide) ⟨by decide, by decide⟩ (Nat.zero_le _) (Nat.zero_le _) (Nat.le_of_ble_eq_true rfl) (c_X11_in _ _ _) (am_ki ?_)
    rintro v24 _ _ _ ⟨hb24, rfl, rfl, rfl⟩
    refine r_if_eq 43 dX11_code_27 (by decide) (fun h27 => ?_) (fun h27 => ?_)
    · replace h27 := hb24.f h27
      have hc : ¬ (inR (nI j) (nv (rs I 11 0)) ∧ inR y 3) := fun h => h27 ((in_iff (by decide)).mpr (by obtain ⟨w, hw, e⟩ := h.2; exact ⟨w, by omega, e⟩))
      refine r_iconst dX11_code_43 (v := (-1)) kc_m1 ?_
      refine r_ireturn dX11_code_44 .int rfl rfl ?_
      refine ⟨_, rfl, ?_, rfl, hi_rf _, rfl, rfl⟩
      first | rw [cd_res, cif_f hc] | (rw [cd_res, cif_t hc, nj2, ni2]; rfl)
    · replace h27 := hb24.t h27
      obtain ⟨i, hi2, rfl⟩ := (in_iff (by decide)).mp h27
      have ni2 : nv (nI i) = i := nv_nI (by omega)
      have hc : inR (nI j) (nv (rs I 11 0)) ∧ inR (nI i) 3 := ⟨h18, inR_nI (by omega)⟩
      refine r_aload_n dX11_code_30 rfl ?_
      refine r_getP dX11_code_31 g_X11_43 (S.1 _ _ rfl) rfl (S.2 _ _ _ rfl) ?_
      refine r_iconst dX11_code_34 (v := nI 3) kc_3 ?_
      refine r_iload_n dX11_code_35 rfl ?_
      first | refine r_imulN dX11_code_36 ?_ | refine r_imul dX11_code_36 ?_
      refine r_iload_n dX11_code_37 rfl ?_
      first | refine r_iaddN dX11_code_38 ?_ | refine r_iadd dX11_code_38 ?_
      refine r_iaload (3 * j + i) dX11_code_39 (S.1 _ _ rfl) rfl (by first | decide | omega) (by decide) ?_
      refine r_goto 44 dX11_code_40 (by decide) ?_
      refine r_ireturn dX11_code_44 .int rfl rfl ?_
      refine ⟨_, rfl, ?_, rfl, hi_rf _, rfl, rfl⟩
      first | rw [cd_res, cif_f hc] | (rw [cd_res, cif_t hc, nj2, ni2]; rfl)
theorem c_X11_code (S : St_m sh P) (V : Inv (rs I))  (x y : Int32): am_R mX11_code (mpo sh P I (cd_res (rs I) x y) (rs I)) 1 22 0 0 0 [some (.ref 0), some (.int x), some (.int y)] [] sh I P := by
  refine r_aload_n dX11_code_0 rfl ?_
  refine r_iconst dX11_code_1 (v := nI 0) kc_0 ?_
  refine r_putI dX11_code_2 f_X11_134 (S.1 _ _ rfl) rfl rfl rfl ?_
  have e : rs (va_up I 0 (upd (I 0) 0 (nI 0))) = rs I := rs_no rfl
  have h := b_X11_code (I := va_up I 0 (upd (I 0) 0 (nI 0))) S (by rw [e]; exact V) x y
  rw [e] at h
  exact mpo_z h
theorem b_X11_bytes (S : St_m sh P) (V : Inv (rs I))  (x : Int32): am_R mX11_bytes (mpo sh P I (by_res (rs I) x) (rs I)) 1 22 0 0 5 [some (.ref 0), some (.int x)] [] sh I P := by
  refine r_aload_n dX11_bytes_5 rfl ?_
  refine r_getP dX11_bytes_6 g_X11_40 (S.1 _ _ rfl) rfl (S.2 _ _ _ rfl) ?_
  refine r_iconst dX11_bytes_9 (v := nI 0) kc_0 ?_
  refine r_iaload _ dX11_bytes_10 (S.1 _ _ rfl) rfl (by first | decide | omega) (by decide) ?_
  refine r_iconst dX11_bytes_11 (v := (-1)) kc_m1 ?_
  refine r_icmp_eq 40 dX11_bytes_12 (by decide) (fun h12 => ?_) (fun h12 => ?_)
  · have hc : ¬ (rs I 11 0 ≠ -1 ∧ inR x (nv (rs I 13 0))) := fun h => h.1 h12
    refine r_iconst dX11_bytes_40 (v := (-1)) kc_m1 ?_
    refine r_ireturn dX11_bytes_41 .int rfl rfl ?_
    refine ⟨_, rfl, ?_, rfl, hi_rf _, rfl, rfl⟩
    first | rw [by_res, cif_f hc] | (rw [by_res, cif_t hc, nj2]; rfl)
  · have e13 : isN (I 13 0) 80 := by
      rcases V.2.2.1 with h | h
      · exact absurd h h12
      · exact h.2.2.1
    refine r_iload_n dX11_bytes_15 rfl ?_
    refine r_iconst dX11_bytes_16 (v := nI 0) kc_0 ?_
    refine r_aload_n dX11_bytes_17 rfl ?_
    refine r_getP dX11_bytes_18 g_X11_46 (S.1 _ _ rfl) rfl (S.2 _ _ _ rfl) ?_
    refine r_iconst dX11_bytes_21 (v := nI 0) kc_0 ?_
    refine r_iaload _ dX11_bytes_22 (S.1 _ _ rfl) rfl (by first | decide | omega) (by decide) ?_
    refine r_iconst dX11_bytes_23 (v := nI 1) kc_1 ?_
    refine r_isub dX11_bytes_24 ?_
    refine r_callS3 (fr' := 0) (lo' := 0) (mc' := 0) (ms' := 0) dX11_bytes_25 mm_X11_in ms_X11_in l_X11_142 (by decide) ⟨by decide, by decide⟩ (Nat.zero_le _) (Nat.zero_le _) (Nat.le_of_ble_eq_true rfl) (c_X11_in _ _ _) (am_ki ?_)
    rintro v25 _ _ _ ⟨hb25, rfl, rfl, rfl⟩
    refine r_if_eq 40 dX11_bytes_28 (by decide) (fun h28 => ?_) (fun h28 => ?_)
    · replace h28 := hb25.f h28
      have hc : ¬ (rs I 11 0 ≠ -1 ∧ inR x (nv (rs I 13 0))) := fun h => h28 ((in_iffN (Or.inr e13) (by decide)).mpr h.2)
      refine r_iconst dX11_bytes_40 (v := (-1)) kc_m1 ?_
      refine r_ireturn dX11_bytes_41 .int rfl rfl ?_
      refine ⟨_, rfl, ?_, rfl, hi_rf _, rfl, rfl⟩
      first | rw [by_res, cif_f hc] | (rw [by_res, cif_t hc, nj2]; rfl)
    · replace h28 := hb25.t h28
      have h28 := (in_iffN (Or.inr e13) (by decide)).mp h28
      obtain ⟨j, hj, rfl⟩ := id h28
      have b6 := e13.2
      have nj2 : nv (nI j) = j := nv_nI (by omega)
      have hc : rs I 11 0 ≠ -1 ∧ inR (nI j) (nv (rs I 13 0)) := ⟨h12, h28⟩
      refine r_aload_n dX11_bytes_31 rfl ?_
      refine r_getP dX11_bytes_32 g_X11_49 (S.1 _ _ rfl) rfl (S.2 _ _ _ rfl) ?_
      refine r_iload_n dX11_bytes_35 rfl ?_
      refine r_iaload _ dX11_bytes_36 (S.1 _ _ rfl) rfl (by first | decide | omega) (by decide) ?_
      refine r_goto 41 dX11_bytes_37 (by decide) ?_
      refine r_ireturn dX11_bytes_41 .int rfl rfl ?_
      refine ⟨_, rfl, ?_, rfl, hi_rf _, rfl, rfl⟩
      first | rw [by_res, cif_f hc] | (rw [by_res, cif_t hc, nj2]; rfl)
theorem c_X11_bytes (S : St_m sh P) (V : Inv (rs I))  (x : Int32): am_R mX11_bytes (mpo sh P I (by_res (rs I) x) (rs I)) 1 22 0 0 0 [some (.ref 0), some (.int x)] [] sh I P := by
  refine r_aload_n dX11_bytes_0 rfl ?_
  refine r_iconst dX11_bytes_1 (v := nI 0) kc_0 ?_
  refine r_putI dX11_bytes_2 f_X11_134 (S.1 _ _ rfl) rfl rfl rfl ?_
  have e : rs (va_up I 0 (upd (I 0) 0 (nI 0))) = rs I := rs_no rfl
  have h := b_X11_bytes (I := va_up I 0 (upd (I 0) 0 (nI 0))) S (by rw [e]; exact V) x
  rw [e] at h
  exact mpo_z h
theorem b_X11_ran (S : St_m sh P) (V : Inv (rs I))  (x : Int32): am_R mX11_ran (mpo sh P I (ra_res (rs I) x) (rs I)) 0 0 0 0 5 [some (.ref 0), some (.int x)] [] sh I P := by
  refine r_aload_n dX11_ran_5 rfl ?_
  refine r_getP dX11_ran_6 g_X11_52 (S.1 _ _ rfl) rfl (S.2 _ _ _ rfl) ?_
  refine r_iconst dX11_ran_9 (v := nI 0) kc_0 ?_
  refine r_iaload _ dX11_ran_10 (S.1 _ _ rfl) rfl (by first | decide | omega) (by decide) ?_
  refine r_iconst dX11_ran_11 (v := (-1)) kc_m1 ?_
  refine r_icmp_ne 17 dX11_ran_12 (by decide) (fun h12 => ?_) (fun h12 => ?_)
  · have r12 : ¬ rs I 15 0 = -1 := h12
    refine r_iload_n dX11_ran_17 rfl ?_
    rcases sw_4 x with rfl | rfl | rfl | rfl | rfl | ⟨hz, hx⟩
    · refine r_tabIn (off := 34) 52 dX11_ran_18 (by decide) (by decide) (by decide) (by decide) ?_
      refine r_aload_n dX11_ran_52 rfl ?_
      refine r_getP dX11_ran_53 g_X11_55 (S.1 _ _ rfl) rfl (S.2 _ _ _ rfl) ?_
      refine r_iconst dX11_ran_56 (v := nI 0) kc_0 ?_
      refine r_iaload _ dX11_ran_57 (S.1 _ _ rfl) rfl (by first | decide | omega) (by decide) ?_
      refine r_ireturn dX11_ran_58 .int rfl rfl ?_
      refine ⟨_, rfl, ?_, rfl, hi_rf _, rfl, rfl⟩
      rw [ra_res, if_neg r12]
      rfl
    · refine r_tabIn (off := 41) 59 dX11_ran_18 (by decide) (by decide) (by decide) (by decide) ?_
      refine r_aload_n dX11_ran_59 rfl ?_
      refine r_getP dX11_ran_60 g_X11_58 (S.1 _ _ rfl) rfl (S.2 _ _ _ rfl) ?_
      refine r_iconst dX11_ran_63 (v := nI 0) kc_0 ?_
      refine r_iaload _ dX11_ran_64 (S.1 _ _ rfl) rfl (by first | decide | omega) (by decide) ?_
      refine r_ireturn dX11_ran_65 .int rfl rfl ?_
      refine ⟨_, rfl, ?_, rfl, hi_rf _, rfl, rfl⟩
      rw [ra_res, if_neg r12]
      rfl
    · refine r_tabIn (off := 48) 66 dX11_ran_18 (by decide) (by decide) (by decide) (by decide) ?_
      refine r_aload_n dX11_ran_66 rfl ?_
      refine r_getP dX11_ran_67 g_X11_64 (S.1 _ _ rfl) rfl (S.2 _ _ _ rfl) ?_
      refine r_iconst dX11_ran_70 (v := nI 0) kc_0 ?_
      refine r_iaload _ dX11_ran_71 (S.1 _ _ rfl) rfl (by first | decide | omega) (by decide) ?_
      refine r_ireturn dX11_ran_72 .int rfl rfl ?_
      refine ⟨_, rfl, ?_, rfl, hi_rf _, rfl, rfl⟩
      rw [ra_res, if_neg r12]
      rfl
    · refine r_tabIn (off := 55) 73 dX11_ran_18 (by decide) (by decide) (by decide) (by decide) ?_
      refine r_aload_n dX11_ran_73 rfl ?_
      refine r_getP dX11_ran_74 g_X11_70 (S.1 _ _ rfl) rfl (S.2 _ _ _ rfl) ?_
      refine r_iconst dX11_ran_77 (v := nI 0) kc_0 ?_
      refine r_iaload _ dX11_ran_78 (S.1 _ _ rfl) rfl (by first | decide | omega) (by decide) ?_
      refine r_ireturn dX11_ran_79 .int rfl rfl ?_
      refine ⟨_, rfl, ?_, rfl, hi_rf _, rfl, rfl⟩
      rw [ra_res, if_neg r12]
      rfl
    · refine r_tabIn (off := 62) 80 dX11_ran_18 (by decide) (by decide) (by decide) (by decide) ?_
      refine r_aload_n dX11_ran_80 rfl ?_
      refine r_getP dX11_ran_81 g_X11_61 (S.1 _ _ rfl) rfl (S.2 _ _ _ rfl) ?_
      refine r_iconst dX11_ran_84 (v := nI 0) kc_0 ?_
      refine r_iaload _ dX11_ran_85 (S.1 _ _ rfl) rfl (by first | decide | omega) (by decide) ?_
      refine r_ireturn dX11_ran_86 .int rfl rfl ?_
      refine ⟨_, rfl, ?_, rfl, hi_rf _, rfl, rfl⟩
      rw [ra_res, if_neg r12]
      rfl
    · refine r_tabOut 87 dX11_ran_18 hx (by decide) ?_
      refine r_iconst dX11_ran_87 (v := (-1)) kc_m1 ?_
      refine r_ireturn dX11_ran_88 .int rfl rfl ?_
      refine ⟨_, rfl, ?_, rfl, hi_rf _, rfl, rfl⟩
      have hz0 : x ≠ nI 0 := fun h => hz (Or.inl h)
      have hz1 : x ≠ nI 1 := fun h => hz (Or.inr (Or.inl h))
      have hz2 : x ≠ nI 2 := fun h => hz (Or.inr (Or.inr (Or.inl h)))
      have hz3 : x ≠ nI 3 := fun h => hz (Or.inr (Or.inr (Or.inr (Or.inl h))))
      have hz4 : x ≠ nI 4 := fun h => hz (Or.inr (Or.inr (Or.inr (Or.inr (h)))))
      rw [ra_res, if_neg r12, if_neg hz0, if_neg hz1, if_neg hz2, if_neg hz3, if_neg hz4]
  · have r12 : rs I 15 0 = -1 := h12
    refine r_iconst dX11_ran_15 (v := (-1)) kc_m1 ?_
    refine r_ireturn dX11_ran_16 .int rfl rfl ?_
    refine ⟨_, rfl, ?_, rfl, hi_rf _, rfl, rfl⟩
    rw [ra_res, if_pos r12]
theorem c_X11_ran (S : St_m sh P) (V : Inv (rs I))  (x : Int32): am_R mX11_ran (mpo sh P I (ra_res (rs I) x) (rs I)) 0 0 0 0 0 [some (.ref 0), some (.int x)] [] sh I P := by
  refine r_aload_n dX11_ran_0 rfl ?_
  refine r_iconst dX11_ran_1 (v := nI 0) kc_0 ?_
  refine r_putI dX11_ran_2 f_X11_134 (S.1 _ _ rfl) rfl rfl rfl ?_
  have e : rs (va_up I 0 (upd (I 0) 0 (nI 0))) = rs I := rs_no rfl
  have h := b_X11_ran (I := va_up I 0 (upd (I 0) 0 (nI 0))) S (by rw [e]; exact V) x
  rw [e] at h
  exact mpo_z h
theorem b_X11_had (S : St_m sh P) (V : Inv (rs I))  (x y : Int32): am_R mX11_had (mpo sh P I (ha_res (rs I) x y) (rs I)) 1 22 0 0 5 [some (.ref 0), some (.int x), some (.int y)] [] sh I P := by
  refine r_aload_n dX11_had_5 rfl ?_
  refine r_getP dX11_had_6 g_X11_52 (S.1 _ _ rfl) rfl (S.2 _ _ _ rfl) ?_
  refine r_iconst dX11_had_9 (v := nI 0) kc_0 ?_
  refine r_iaload _ dX11_had_10 (S.1 _ _ rfl) rfl (by first | decide | omega) (by decide) ?_
  refine r_iconst dX11_had_11 (v := (-1)) kc_m1 ?_
  refine r_icmp_ne 17 dX11_had_12 (by decide) (fun h12 => ?_) (fun h12 => ?_)
  · have r12 : ¬ rs I 15 0 = -1 := h12
    have eR : isN (I 15 0) 3 ∧ isN (I 19 0) 24 ∧ isN (I 21 0) 40 := by
      rcases V.2.2.2.1 with h | h
      · exact absurd h h12
      · exact h
    refine r_iload_n dX11_had_17 rfl ?_
    rcases sw_2 x with rfl | rfl | rfl | ⟨hz, hx⟩
    · refine r_tabIn (off := 26) 44 dX11_had_18 (by decide) (by decide) (by decide) (by decide) ?_
      refine r_iload_n dX11_had_44 rfl ?_
      refine r_iconst dX11_had_45 (v := nI 0) kc_0 ?_
      refine r_aload_n dX11_had_46 rfl ?_
      refine r_getP dX11_had_47 g_X11_64 (S.1 _ _ rfl) rfl (S.2 _ _ _ rfl) ?_
      refine r_iconst dX11_had_50 (v := nI 0) kc_0 ?_
      refine r_iaload _ dX11_had_51 (S.1 _ _ rfl) rfl (by first | decide | omega) (by decide) ?_
      refine r_iconst dX11_had_52 (v := nI 1) kc_1 ?_
      refine r_isub dX11_had_53 ?_
      refine r_callS3 (fr' := 0) (lo' := 0) (mc' := 0) (ms' := 0) dX11_had_54 mm_X11_in ms_X11_in l_X11_142 (by decide) ⟨by decide, by decide⟩ (Nat.zero_le _) (Nat.zero_le _) (Nat.le_of_ble_eq_true rfl) (c_X11_in _ _ _) (am_ki ?_)
      rintro v54 _ _ _ ⟨hb54, rfl, rfl, rfl⟩
      refine r_if_eq 69 dX11_had_57 (by decide) (fun h57 => ?_) (fun h57 => ?_)
      · replace h57 := hb54.f h57
        have hc : ¬ inR y (nv (rs I 19 0)) := fun h => h57 ((in_iffN (Or.inr eR.2.1) (by decide)).mpr h)
        refine r_iconst dX11_had_69 (v := nI 0) kc_0 ?_
        refine r_ireturn dX11_had_70 .int rfl rfl ?_
        refine ⟨_, rfl, ?_, rfl, hi_rf _, rfl, rfl⟩
        rw [ha_res, if_neg r12]
        show _ = cif (inR _ (nv (rs I 19 0))) (rs I 20 (nv _)) (nI 0)
        first | rw [cif_f hc] | (rw [cif_t hc, nj2]; rfl)
      · replace h57 := hb54.t h57
        have hc : inR y (nv (rs I 19 0)) := (in_iffN (Or.inr eR.2.1) (by decide)).mp h57
        obtain ⟨j, hj, rfl⟩ := id hc
        have b : nv (I 19 0) ≤ 24 := eR.2.1.2
        have hj2 : j < nv (I 19 0) := hj
        have nj2 : nv (nI j) = j := nv_nI (by omega)
        refine r_aload_n dX11_had_60 rfl ?_
        refine r_getP dX11_had_61 g_X11_67 (S.1 _ _ rfl) rfl (S.2 _ _ _ rfl) ?_
        refine r_iload_n dX11_had_64 rfl ?_
        refine r_iaload _ dX11_had_65 (S.1 _ _ rfl) rfl (by first | decide | omega) (by decide) ?_
        refine r_goto 70 dX11_had_66 (by decide) ?_
        refine r_ireturn dX11_had_70 .int rfl rfl ?_
        refine ⟨_, rfl, ?_, rfl, hi_rf _, rfl, rfl⟩
        rw [ha_res, if_neg r12]
        show _ = cif (inR _ (nv (rs I 19 0))) (rs I 20 (nv _)) (nI 0)
        first | rw [cif_f hc] | (rw [cif_t hc, nj2]; rfl)
    · refine r_tabIn (off := 53) 71 dX11_had_18 (by decide) (by decide) (by decide) (by decide) ?_
      refine r_iload_n dX11_had_71 rfl ?_
      refine r_iconst dX11_had_72 (v := nI 0) kc_0 ?_
      refine r_aload_n dX11_had_73 rfl ?_
      refine r_getP dX11_had_74 g_X11_70 (S.1 _ _ rfl) rfl (S.2 _ _ _ rfl) ?_
      refine r_iconst dX11_had_77 (v := nI 0) kc_0 ?_
      refine r_iaload _ dX11_had_78 (S.1 _ _ rfl) rfl (by first | decide | omega) (by decide) ?_
      refine r_iconst dX11_had_79 (v := nI 1) kc_1 ?_
      refine r_isub dX11_had_80 ?_
      refine r_callS3 (fr' := 0) (lo' := 0) (mc' := 0) (ms' := 0) dX11_had_81 mm_X11_in ms_X11_in l_X11_142 (by decide) ⟨by decide, by decide⟩ (Nat.zero_le _) (Nat.zero_le _) (Nat.le_of_ble_eq_true rfl) (c_X11_in _ _ _) (am_ki ?_)
      rintro v81 _ _ _ ⟨hb81, rfl, rfl, rfl⟩
      refine r_if_eq 96 dX11_had_84 (by decide) (fun h84 => ?_) (fun h84 => ?_)
      · replace h84 := hb81.f h84
        have hc : ¬ inR y (nv (rs I 21 0)) := fun h => h84 ((in_iffN (Or.inr eR.2.2) (by decide)).mpr h)
        refine r_iconst dX11_had_96 (v := nI 0) kc_0 ?_
        refine r_ireturn dX11_had_97 .int rfl rfl ?_
        refine ⟨_, rfl, ?_, rfl, hi_rf _, rfl, rfl⟩
        rw [ha_res, if_neg r12]
        show _ = cif (inR _ (nv (rs I 21 0))) (rs I 22 (nv _)) (nI 0)
        first | rw [cif_f hc] | (rw [cif_t hc, nj2]; rfl)
      · replace h84 := hb81.t h84
        have hc : inR y (nv (rs I 21 0)) := (in_iffN (Or.inr eR.2.2) (by decide)).mp h84
        obtain ⟨j, hj, rfl⟩ := id hc
        have b : nv (I 21 0) ≤ 40 := eR.2.2.2
        have hj2 : j < nv (I 21 0) := hj
        have nj2 : nv (nI j) = j := nv_nI (by omega)
        refine r_aload_n dX11_had_87 rfl ?_
        refine r_getP dX11_had_88 g_X11_73 (S.1 _ _ rfl) rfl (S.2 _ _ _ rfl) ?_
        refine r_iload_n dX11_had_91 rfl ?_
        refine r_iaload _ dX11_had_92 (S.1 _ _ rfl) rfl (by first | decide | omega) (by decide) ?_
        refine r_goto 97 dX11_had_93 (by decide) ?_
        refine r_ireturn dX11_had_97 .int rfl rfl ?_
        refine ⟨_, rfl, ?_, rfl, hi_rf _, rfl, rfl⟩
        rw [ha_res, if_neg r12]
        show _ = cif (inR _ (nv (rs I 21 0))) (rs I 22 (nv _)) (nI 0)
        first | rw [cif_f hc] | (rw [cif_t hc, nj2]; rfl)
    · refine r_tabIn (off := 80) 98 dX11_had_18 (by decide) (by decide) (by decide) (by decide) ?_
      refine r_iload_n dX11_had_98 rfl ?_
      refine r_iconst dX11_had_99 (v := nI 0) kc_0 ?_
      refine r_bipush dX11_had_100 (v := nI 7) (by decide) ?_
      refine r_callS3 (fr' := 0) (lo' := 0) (mc' := 0) (ms' := 0) dX11_had_102 mm_X11_in ms_X11_in l_X11_142 (by decide) ⟨by decide, by decide⟩ (Nat.zero_le _) (Nat.zero_le _) (Nat.le_of_ble_eq_true rfl) (c_X11_in _ _ _) (am_ki ?_)
      rintro v102 _ _ _ ⟨hb102, rfl, rfl, rfl⟩
      refine r_if_eq 117 dX11_had_105 (by decide) (fun h105 => ?_) (fun h105 => ?_)
      · replace h105 := hb102.f h105
        have hc : ¬ inR y 8 := fun h => h105 ((in_iff (by decide)).mpr (by obtain ⟨w, hw, e⟩ := h; exact ⟨w, by omega, e⟩))
        refine r_iconst dX11_had_117 (v := nI 0) kc_0 ?_
        refine r_ireturn dX11_had_118 .int rfl rfl ?_
        refine ⟨_, rfl, ?_, rfl, hi_rf _, rfl, rfl⟩
        rw [ha_res, if_neg r12]
        show _ = cif (inR _ 8) (rs I 23 (nv _)) (nI 0)
        first | rw [cif_f hc] | (rw [cif_t hc, nj2]; rfl)
      · replace h105 := hb102.t h105
        obtain ⟨j, hj, rfl⟩ := (in_iff (by decide)).mp h105
        have hc : inR (nI j) 8 := inR_nI (by omega)
        have nj2 : nv (nI j) = j := nv_nI (by omega)
        refine r_aload_n dX11_had_108 rfl ?_
        refine r_getP dX11_had_109 g_X11_76 (S.1 _ _ rfl) rfl (S.2 _ _ _ rfl) ?_
        refine r_iload_n dX11_had_112 rfl ?_
        refine r_iaload _ dX11_had_113 (S.1 _ _ rfl) rfl (by first | decide | omega) (by decide) ?_
        refine r_goto 118 dX11_had_114 (by decide) ?_
        refine r_ireturn dX11_had_118 .int rfl rfl ?_
        refine ⟨_, rfl, ?_, rfl, hi_rf _, rfl, rfl⟩
        rw [ha_res, if_neg r12]
        show _ = cif (inR _ 8) (rs I 23 (nv _)) (nI 0)
        first | rw [cif_f hc] | (rw [cif_t hc, nj2]; rfl)
    · refine r_tabOut 119 dX11_had_18 hx (by decide) ?_
      refine r_iconst dX11_had_119 (v := nI 0) kc_0 ?_
      refine r_ireturn dX11_had_120 .int rfl rfl ?_
      refine ⟨_, rfl, ?_, rfl, hi_rf _, rfl, rfl⟩
      have hz0 : x ≠ nI 0 := fun h => hz (Or.inl h)
      have hz1 : x ≠ nI 1 := fun h => hz (Or.inr (Or.inl h))
      have hz2 : x ≠ nI 2 := fun h => hz (Or.inr (Or.inr (h)))
      rw [ha_res, if_neg r12, if_neg hz0, if_neg hz1, if_neg hz2]
  · have r12 : rs I 15 0 = -1 := h12
    refine r_iconst dX11_had_15 (v := nI 0) kc_0 ?_
    refine r_ireturn dX11_had_16 .int rfl rfl ?_
    refine ⟨_, rfl, ?_, rfl, hi_rf _, rfl, rfl⟩
    rw [ha_res, if_pos r12]
theorem c_X11_had (S : St_m sh P) (V : Inv (rs I))  (x y : Int32): am_R mX11_had (mpo sh P I (ha_res (rs I) x y) (rs I)) 1 22 0 0 0 [some (.ref 0), some (.int x), some (.int y)] [] sh I P := by
  refine r_aload_n dX11_had_0 rfl ?_
  refine r_iconst dX11_had_1 (v := nI 0) kc_0 ?_
  refine r_putI dX11_had_2 f_X11_134 (S.1 _ _ rfl) rfl rfl rfl ?_
  have e : rs (va_up I 0 (upd (I 0) 0 (nI 0))) = rs I := rs_no rfl
  have h := b_X11_had (I := va_up I 0 (upd (I 0) 0 (nI 0))) S (by rw [e]; exact V) x y
  rw [e] at h
  exact mpo_z h
theorem b_X11_chosen (S : St_m sh P) (V : Inv (rs I))  (x y : Int32): am_R mX11_chosen (mpo sh P I (ch_res (rs I) x y) (rs I)) 1 22 0 0 5 [some (.ref 0), some (.int x), some (.int y)] [] sh I P := by
  have e6 : I 24 0 = -1 ∨ isN (I 24 0) 2 := by
    rcases V.2.2.2.2.1 with h | h
    · exact Or.inl h
    · exact Or.inr h.1
  refine r_iload_n dX11_chosen_5 rfl ?_
  refine r_iconst dX11_chosen_6 (v := nI 0) kc_0 ?_
  refine r_aload_n dX11_chosen_7 rfl ?_
  refine r_getP dX11_chosen_8 g_X11_79 (S.1 _ _ rfl) rfl (S.2 _ _ _ rfl) ?_
  refine r_iconst dX11_chosen_11 (v := nI 0) kc_0 ?_
  refine r_iaload _ dX11_chosen_12 (S.1 _ _ rfl) rfl (by first | decide | omega) (by decide) ?_
  refine r_iconst dX11_chosen_13 (v := nI 1) kc_1 ?_
  refine r_isub dX11_chosen_14 ?_
  refine r_callS3 (fr' := 0) (lo' := 0) (mc' := 0) (ms' := 0) dX11_chosen_15 mm_X11_in ms_X11_in l_X11_142 (by decide) ⟨by decide, by decide⟩ (Nat.zero_le _) (Nat.zero_le _) (Nat.le_of_ble_eq_true rfl) (c_X11_in _ _ _) (am_ki ?_)
  rintro v15 _ _ _ ⟨hb15, rfl, rfl, rfl⟩
  refine r_if_eq 54 dX11_chosen_18 (by decide) (fun h18 => ?_) (fun h18 => ?_)
  · replace h18 := hb15.f h18
    have hc : ¬ (inR x (nv (rs I 24 0)) ∧ inR y (nv (rs I 25 (5 * nv x)))) := fun h => h18 ((in_iffN e6 (by decide)).mpr h.1)
    refine r_iconst dX11_chosen_54 (v := (-1)) kc_m1 ?_
    refine r_ireturn dX11_chosen_55 .int rfl rfl ?_
    refine ⟨_, rfl, ?_, rfl, hi_rf _, rfl, rfl⟩
    first | rw [ch_res, cif_f hc] | (rw [ch_res, cif_t hc, nj2, ni2]; rfl)
  · replace h18 := hb15.t h18
    have h18 := (in_iffN e6 (by decide)).mp h18
    obtain ⟨j, hj, rfl⟩ := id h18
    have b6 : nv (I 24 0) ≤ 2 := by
      rcases e6 with h | h
      · rw [h, nv_m1]; omega
      · exact h.2
    have nj2 : nv (nI j) = j := nv_nI (by omega)
    have hO : jOk (I 25) (5 * j) := by
      rcases V.2.2.2.2.1 with h | h
      · exfalso; have h : I 24 0 = -1 := h; rw [h, nv_m1] at hj; omega
      · exact h.2.1 j hj
    refine r_iload_n dX11_chosen_21 rfl ?_
    refine r_iconst dX11_chosen_22 (v := nI 0) kc_0 ?_
    refine r_aload_n dX11_chosen_23 rfl ?_
    refine r_getP dX11_chosen_24 g_X11_82 (S.1 _ _ rfl) rfl (S.2 _ _ _ rfl) ?_
    refine r_iconst dX11_chosen_27 (v := nI 5) kc_5 ?_
    refine r_iload_n dX11_chosen_28 rfl ?_
    first | refine r_imulN dX11_chosen_29 ?_ | refine r_imul dX11_chosen_29 ?_
    refine r_iaload (5 * j) dX11_chosen_30 (S.1 _ _ rfl) rfl (by first | decide | omega) (by decide) ?_
    refine r_iconst dX11_chosen_31 (v := nI 1) kc_1 ?_
    refine r_isub dX11_chosen_32 ?_
    refine r_callS3 (fr' := 0) (lo' := 0) (mc' := 0) (ms' := 0) dX11_chosen_33 mm_X11_in ms_X11_in l_X11_142 (by decide) ⟨by decide, by decide⟩ (Nat.zero_le _) (Nat.zero_le _) (Nat.le_of_ble_eq_true rfl) (c_X11_in _ _ _) (am_ki ?_)
    rintro v33 _ _ _ ⟨hb33, rfl, rfl, rfl⟩
    refine r_if_eq 54 dX11_chosen_36 (by decide) (fun h36 => ?_) (fun h36 => ?_)
    · replace h36 := hb33.f h36
      have hc : ¬ (inR (nI j) (nv (rs I 24 0)) ∧ inR y (nv (rs I 25 (5 * nv (nI j))))) := fun h => h36 ((in_iffN (Or.inr hO.1.2) (by decide)).mpr (by have h9 := h.2; rw [nj2] at h9; exact h9))
      refine r_iconst dX11_chosen_54 (v := (-1)) kc_m1 ?_
      refine r_ireturn dX11_chosen_55 .int rfl rfl ?_
      refine ⟨_, rfl, ?_, rfl, hi_rf _, rfl, rfl⟩
      first | rw [ch_res, cif_f hc] | (rw [ch_res, cif_t hc, nj2, ni2]; rfl)
    · replace h36 := hb33.t h36
      have h36 := (in_iffN (Or.inr hO.1.2) (by decide)).mp h36
      obtain ⟨i, hi2, rfl⟩ := id h36
      have b7 := hO.1.2.2
      have ni2 : nv (nI i) = i := nv_nI (by omega)
      have hc : inR (nI j) (nv (rs I 24 0)) ∧ inR (nI i) (nv (rs I 25 (5 * nv (nI j)))) := ⟨h18, by rw [nj2]; exact h36⟩
      refine r_aload_n dX11_chosen_39 rfl ?_
      refine r_getP dX11_chosen_40 g_X11_82 (S.1 _ _ rfl) rfl (S.2 _ _ _ rfl) ?_
      refine r_iconst dX11_chosen_43 (v := nI 5) kc_5 ?_
      refine r_iload_n dX11_chosen_44 rfl ?_
      first | refine r_imulN dX11_chosen_45 ?_ | refine r_imul dX11_chosen_45 ?_
      refine r_iconst dX11_chosen_46 (v := nI 1) kc_1 ?_
      first | refine r_iaddN dX11_chosen_47 ?_ | refine r_iadd dX11_chosen_47 ?_
      refine r_iload_n dX11_chosen_48 rfl ?_
      first | refine r_iaddN dX11_chosen_49 ?_ | refine r_iadd dX11_chosen_49 ?_
      refine r_iaload (5 * j + 1 + i) dX11_chosen_50 (S.1 _ _ rfl) rfl (by first | decide | omega) (by decide) ?_
      refine r_goto 55 dX11_chosen_51 (by decide) ?_
      refine r_ireturn dX11_chosen_55 .int rfl rfl ?_
      refine ⟨_, rfl, ?_, rfl, hi_rf _, rfl, rfl⟩
      first | rw [ch_res, cif_f hc] | (rw [ch_res, cif_t hc, nj2, ni2]; rfl)
theorem c_X11_chosen (S : St_m sh P) (V : Inv (rs I))  (x y : Int32): am_R mX11_chosen (mpo sh P I (ch_res (rs I) x y) (rs I)) 1 22 0 0 0 [some (.ref 0), some (.int x), some (.int y)] [] sh I P := by
  refine r_aload_n dX11_chosen_0 rfl ?_
  refine r_iconst dX11_chosen_1 (v := nI 0) kc_0 ?_
  refine r_putI dX11_chosen_2 f_X11_134 (S.1 _ _ rfl) rfl rfl rfl ?_
  have e : rs (va_up I 0 (upd (I 0) 0 (nI 0))) = rs I := rs_no rfl
  have h := b_X11_chosen (I := va_up I 0 (upd (I 0) 0 (nI 0))) S (by rw [e]; exact V) x y
  rw [e] at h
  exact mpo_z h
end M3
