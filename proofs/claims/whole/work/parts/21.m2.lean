/-! the reference: calls with small bodies -/
def mpo (sh : ASh) (P : APt) (J : AIn) (r : Int32) (σ' : AIn) : APo := po_i (fun v sh' I' P' => v = r ∧ rs I' = σ' ∧ hi I' J ∧ sh = sh' ∧ P = P')
def mpv (sh : ASh) (P : APt) (J : AIn) (σ' : AIn) : APo := po_v (fun sh' I' P' => rs I' = σ' ∧ hi I' J ∧ sh = sh' ∧ P = P')
section M2
variable {sh : ASh} {I : AIn} {P : APt}
theorem mpo_z {mi : MI} {fr lo c0 s0 pc : Nat} {lv : List (Option Value)} {st : List Value} {J : AIn} {f : Nat → Int32} {r : Int32} {σ' : AIn} (h : am_R mi (mpo sh P (va_up I 0 f) r σ') fr lo c0 s0 pc lv st sh J P) : am_R mi (mpo sh P I r σ') fr lo c0 s0 pc lv st sh J P :=
  am_mono h (by
    rintro _ _ _ _ ⟨v, rfl, h1, h2, h3, h4⟩
    exact ⟨v, rfl, h1, h2, fun q hq => by rw [h3 q hq, va_up_ne _ _ (by omega)], h4⟩)
theorem mpv_z {mi : MI} {fr lo c0 s0 pc : Nat} {lv : List (Option Value)} {st : List Value} {J : AIn} {f : Nat → Int32} {σ' : AIn} (h : am_R mi (mpv sh P (va_up I 0 f) σ') fr lo c0 s0 pc lv st sh J P) : am_R mi (mpv sh P I σ') fr lo c0 s0 pc lv st sh J P :=
  am_mono h (by
    rintro _ _ _ _ ⟨rfl, h2, h3, h4⟩
    exact ⟨rfl, h2, fun q hq => by rw [h3 q hq, va_up_ne _ _ (by omega)], h4⟩)
theorem iP.np {σ : AIn} (h : iP σ) : σ 1 0 = nI (np σ) ∧ np σ ≤ 3 := h.1
theorem iP.sz {σ : AIn} (h : iP σ) {q : Nat} (hq : q < 3) : σ 2 q = nI (sz σ q) ∧ sz σ q ≤ 40 := h.2.1 q hq
theorem b_X11_program (S : St_m sh P) (V : Inv (rs I))  : am_R mX11_program (mpo sh P I (p_res (rs I)) (p_op (rs I))) 1 22 0 0 5 [some (.ref 0), none] [] sh I P := by
  obtain ⟨e1, b1⟩ := V.1.np
  have e1 : I 1 0 = nI (np (rs I)) := e1
  generalize hN : np (rs I) = N at e1 b1
  refine r_aload_n dX11_program_5 rfl ?_
  refine r_getP dX11_program_6 g_X11_7 (S.1 _ _ rfl) rfl (S.2 _ _ _ rfl) ?_
  refine r_iconst dX11_program_9 (v := nI 0) kc_0 ?_
  refine r_iaload _ dX11_program_10 (S.1 _ _ rfl) rfl (by first | decide | omega) (by decide) ?_
  rw [e1]
  refine r_iconst dX11_program_11 (v := nI 3) kc_3 ?_
  refine r_icmp_neN 17 dX11_program_12 (by decide) (by omega) (by omega) (fun h12 => ?_) (fun h12 => ?_)
  · refine r_aload_n dX11_program_17 rfl ?_
    refine r_getP dX11_program_18 g_X11_7 (S.1 _ _ rfl) rfl (S.2 _ _ _ rfl) ?_
    refine r_iconst dX11_program_21 (v := nI 0) kc_0 ?_
    refine r_iaload _ dX11_program_22 (S.1 _ _ rfl) rfl (by first | decide | omega) (by decide) ?_
    rw [e1]
    refine r_istore_n dX11_program_23 (Nat.le_of_ble_eq_true rfl) ?_
    dsimp only [List.set]
    refine r_aload_n dX11_program_24 rfl ?_
    refine r_getP dX11_program_25 g_X11_7 (S.1 _ _ rfl) rfl (S.2 _ _ _ rfl) ?_
    refine r_iconst dX11_program_28 (v := nI 0) kc_0 ?_
    refine r_dup2 dX11_program_29 ?_
    refine r_iaload _ dX11_program_30 (S.1 _ _ rfl) rfl (by first | decide | omega) (by decide) ?_
    rw [e1]
    refine r_iconst dX11_program_31 (v := nI 1) kc_1 ?_
    first | refine r_iaddN dX11_program_32 ?_ | refine r_iadd dX11_program_32 ?_
    refine r_iastore _ dX11_program_33 (S.1 _ _ rfl) rfl (by first | decide | omega) (by decide) ?_
    refine r_aload_n dX11_program_34 rfl ?_
    refine r_getP dX11_program_35 g_X11_13 (S.1 _ _ rfl) rfl (S.2 _ _ _ rfl) ?_
    refine r_iload_n dX11_program_38 rfl ?_
    refine r_iconst dX11_program_39 (v := nI 0) kc_0 ?_
    refine r_iastore _ dX11_program_40 (S.1 _ _ rfl) rfl (by first | decide | omega) (by decide) ?_
    refine r_aload_n dX11_program_41 rfl ?_
    refine r_iload_n dX11_program_42 rfl ?_
    refine r_callV1 (fr' := 0) (lo' := 0) (mc' := 0) (ms' := 0) dX11_program_43 mm_X11_forget mv_X11_forget l_X11_146 (S.1 _ _ rfl) mc_X11_forget (by decide) ⟨by decide, by decide⟩ (Nat.zero_le _) (Nat.zero_le _) (Nat.le_of_ble_eq_true rfl) (c_X11_forget S (by omega)) (am_kv ?_)
    rintro _ _ _ ⟨rfl, rfl, rfl⟩
    refine r_iload_n dX11_program_46 rfl ?_
    refine r_ireturn dX11_program_47 .int rfl rfl ?_
    refine ⟨_, rfl, ?_, ?_, hi_up (hi_up (hi_up (hi_rf _) (by decide)) (by decide)) (by decide), rfl, rfl⟩
    · rw [p_res, cif_f (by omega), hN]
    · rw [p_op, cif_f (by omega), hN, rs_up rfl, rs_up rfl, rs_up rfl]
      rfl
  · refine r_iconst dX11_program_15 (v := (-1)) kc_m1 ?_
    refine r_ireturn dX11_program_16 .int rfl rfl ?_
    refine ⟨_, rfl, ?_, ?_, hi_rf _, rfl, rfl⟩
    · rw [p_res, cif_t (by omega)]
    · rw [p_op, cif_t (by omega)]
theorem c_X11_program (S : St_m sh P) (V : Inv (rs I))  : am_R mX11_program (mpo sh P I (p_res (rs I)) (p_op (rs I))) 1 22 0 0 0 [some (.ref 0), none] [] sh I P := by
  refine r_aload_n dX11_program_0 rfl ?_
  refine r_iconst dX11_program_1 (v := nI 0) kc_0 ?_
  refine r_putI dX11_program_2 f_X11_134 (S.1 _ _ rfl) rfl rfl rfl ?_
  have e : rs (va_up I 0 (upd (I 0) 0 (nI 0))) = rs I := rs_no rfl
  have h := b_X11_program (I := va_up I 0 (upd (I 0) 0 (nI 0))) S (by rw [e]; exact V)
  rw [e] at h
  exact mpo_z h
theorem b_X11_order (S : St_m sh P) (V : Inv (rs I))  (x y z : Int32): am_R mX11_order (mpo sh P I (o_res (rs I) x y z) (o_op (rs I) x y z)) 2 43 0 0 5 [some (.ref 0), some (.int x), some (.int y), some (.int z), none] [] sh I P := by
  obtain ⟨e1, b1⟩ := V.1.np
  have e1 : I 1 0 = nI (np (rs I)) := e1
  generalize hN : np (rs I) = N at e1 b1
  refine r_aload_n dX11_order_5 rfl ?_
  refine r_iload_n dX11_order_6 rfl ?_
  refine r_callV1 (fr' := 1) (lo' := 22) (mc' := 0) (ms' := 0) dX11_order_7 mm_X11_isProgram mv_X11_isProgram l_X11_150 (S.1 _ _ rfl) mc_X11_isProgram (by decide) ⟨by decide, by decide⟩ (Nat.zero_le _) (Nat.zero_le _) (Nat.le_of_ble_eq_true rfl) (c_X11_isProgram S _ e1 b1) (am_ki ?_)
  rintro v7 _ _ _ ⟨hb7, rfl, rfl, rfl⟩
  refine r_if_eq 42 dX11_order_10 (by decide) (fun h10 => ?_) (fun h10 => ?_)
  · replace h10 := hb7.f h10
    have hc : ¬ o_c (rs I) x y z := fun h => h10 (by rw [← hN]; exact h.1)
    refine r_iconst dX11_order_42 (v := (-1)) kc_m1 ?_
    refine r_ireturn dX11_order_43 .int rfl rfl ?_
    refine ⟨_, rfl, ?_, ?_, hi_rf _, rfl, rfl⟩
    · rw [o_res, cif_f hc]
    · rw [o_op, cif_f hc]
  · replace h10 := hb7.t h10
    obtain ⟨j, hj, rfl⟩ := h10
    obtain ⟨e2, b2⟩ := V.1.sz (q := j) (by omega)
    have e2 : I 2 j = nI (sz (rs I) j) := e2
    generalize hM : sz (rs I) j = M at e2 b2
    have nj : nv (nI j) = j := nv_nI (by omega)
    refine r_iload_n dX11_order_13 rfl ?_
    refine r_iconst dX11_order_14 (v := nI 0) kc_0 ?_
    refine r_bipush dX11_order_15 (v := nI 15) (by decide) ?_
    refine r_callS3 (fr' := 0) (lo' := 0) (mc' := 0) (ms' := 0) dX11_order_17 mm_X11_in ms_X11_in l_X11_142 (by decide) ⟨by decide, by decide⟩ (Nat.zero_le _) (Nat.zero_le _) (Nat.le_of_ble_eq_true rfl) (c_X11_in _ _ _) (am_ki ?_)
    rintro v17 _ _ _ ⟨hb17, rfl, rfl, rfl⟩
    refine r_if_eq 42 dX11_order_20 (by decide) (fun h20 => ?_) (fun h20 => ?_)
    · replace h20 := hb17.f h20
      have hc : ¬ o_c (rs I) (nI j) y z := fun h => h20 ((in_iff (by decide)).mpr (by obtain ⟨w, hw, e⟩ := h.2.1; exact ⟨w, by omega, e⟩))
      refine r_iconst dX11_order_42 (v := (-1)) kc_m1 ?_
      refine r_ireturn dX11_order_43 .int rfl rfl ?_
      refine ⟨_, rfl, ?_, ?_, hi_rf _, rfl, rfl⟩
      · rw [o_res, cif_f hc]
      · rw [o_op, cif_f hc]
    · replace h20 := hb17.t h20
      obtain ⟨k, hk, rfl⟩ := (in_iff (by decide)).mp h20
      have nk : nv (nI k) = k := nv_nI (by omega)
      refine r_iload_n dX11_order_23 rfl ?_
      refine r_iload_n dX11_order_24 rfl ?_
      refine r_callS2 (fr' := 1) (lo' := 22) (mc' := 0) (ms' := 0) dX11_order_25 mm_X11_isArgument ms_X11_isArgument l_X11_154 (by decide) ⟨by decide, by decide⟩ (Nat.zero_le _) (Nat.zero_le _) (Nat.le_of_ble_eq_true rfl) (c_X11_isArgument (by omega) _) (am_ki ?_)
      rintro v25 _ _ _ ⟨hb25, rfl, rfl, rfl⟩
      refine r_if_eq 42 dX11_order_28 (by decide) (fun h28 => ?_) (fun h28 => ?_)
      · replace h28 := hb25.f h28
        have hc : ¬ o_c (rs I) (nI j) (nI k) z := fun h => h28 (by have h9 := h.2.2.1; rw [nk] at h9; exact h9)
        refine r_iconst dX11_order_42 (v := (-1)) kc_m1 ?_
        refine r_ireturn dX11_order_43 .int rfl rfl ?_
        refine ⟨_, rfl, ?_, ?_, hi_rf _, rfl, rfl⟩
        · rw [o_res, cif_f hc]
        · rw [o_op, cif_f hc]
      · replace h28 := hb25.t h28
        refine r_aload_n dX11_order_31 rfl ?_
        refine r_getP dX11_order_32 g_X11_13 (S.1 _ _ rfl) rfl (S.2 _ _ _ rfl) ?_
        refine r_iload_n dX11_order_35 rfl ?_
        refine r_iaload _ dX11_order_36 (S.1 _ _ rfl) rfl (by first | decide | omega) (by decide) ?_
        rw [e2]
        refine r_bipush dX11_order_37 (v := nI 40) (by decide) ?_
        refine r_icmp_neN 44 dX11_order_39 (by decide) (by omega) (by omega) (fun h39 => ?_) (fun h39 => ?_)
        · have hc : o_c (rs I) (nI j) (nI k) z := ⟨by rw [hN]; exact inR_nI hj, inR_nI (by omega), by rw [nk]; exact h28, by rw [nj, hM]; omega⟩
          refine r_bipush dX11_order_44 (v := nI 40) (by decide) ?_
          refine r_iload_n dX11_order_46 rfl ?_
          first | refine r_imulN dX11_order_47 ?_ | refine r_imul dX11_order_47 ?_
          refine r_aload_n dX11_order_48 rfl ?_
          refine r_getP dX11_order_49 g_X11_13 (S.1 _ _ rfl) rfl (S.2 _ _ _ rfl) ?_
          refine r_iload_n dX11_order_52 rfl ?_
          refine r_iaload _ dX11_order_53 (S.1 _ _ rfl) rfl (by first | decide | omega) (by decide) ?_
          rw [e2]
          first | refine r_iaddN dX11_order_54 ?_ | refine r_iadd dX11_order_54 ?_
          refine r_istore dX11_order_55 (Nat.le_of_ble_eq_true rfl) ?_
          dsimp only [List.set]
          refine r_aload_n dX11_order_57 rfl ?_
          refine r_getP dX11_order_58 g_X11_16 (S.1 _ _ rfl) rfl (S.2 _ _ _ rfl) ?_
          refine r_iload dX11_order_61 rfl ?_
          refine r_iload_n dX11_order_63 rfl ?_
          refine r_iastore _ dX11_order_64 (S.1 _ _ rfl) rfl (by first | decide | omega) (by decide) ?_
          refine r_aload_n dX11_order_65 rfl ?_
          refine r_getP dX11_order_66 g_X11_19 (S.1 _ _ rfl) rfl (S.2 _ _ _ rfl) ?_
          refine r_iload dX11_order_69 rfl ?_
          refine r_iload_n dX11_order_71 rfl ?_
          refine r_iastore _ dX11_order_72 (S.1 _ _ rfl) rfl (by first | decide | omega) (by decide) ?_
          refine r_aload_n dX11_order_73 rfl ?_
          refine r_getP dX11_order_74 g_X11_13 (S.1 _ _ rfl) rfl (S.2 _ _ _ rfl) ?_
          refine r_iload_n dX11_order_77 rfl ?_
          refine r_dup2 dX11_order_78 ?_
          refine r_iaload _ dX11_order_79 (S.1 _ _ rfl) rfl (by first | decide | omega) (by decide) ?_
          simp (decide := true) only [va_up_ne, va_up_self]
          rw [e2]
          refine r_iconst dX11_order_80 (v := nI 1) kc_1 ?_
          first | refine r_iaddN dX11_order_81 ?_ | refine r_iadd dX11_order_81 ?_
          refine r_iastore _ dX11_order_82 (S.1 _ _ rfl) rfl (by first | decide | omega) (by decide) ?_
          refine r_aload_n dX11_order_83 rfl ?_
          refine r_iload_n dX11_order_84 rfl ?_
          refine r_callV1 (fr' := 0) (lo' := 0) (mc' := 0) (ms' := 0) dX11_order_85 mm_X11_forget mv_X11_forget l_X11_146 (S.1 _ _ rfl) mc_X11_forget (by decide) ⟨by decide, by decide⟩ (Nat.zero_le _) (Nat.zero_le _) (Nat.le_of_ble_eq_true rfl) (c_X11_forget S (by omega)) (am_kv ?_)
          rintro _ _ _ ⟨rfl, rfl, rfl⟩
          refine r_aload_n dX11_order_88 rfl ?_
          refine r_getP dX11_order_89 g_X11_13 (S.1 _ _ rfl) rfl (S.2 _ _ _ rfl) ?_
          refine r_iload_n dX11_order_92 rfl ?_
          refine r_iaload _ dX11_order_93 (S.1 _ _ rfl) rfl (by first | decide | omega) (by decide) ?_
          simp (decide := true) only [va_up_ne, va_up_self]
          rw [pk_us]
          refine r_iconst dX11_order_94 (v := nI 1) kc_1 ?_
          first | refine r_isubN dX11_order_95 (by omega) ?_ | refine r_isub dX11_order_95 ?_
          refine r_ireturn dX11_order_96 .int rfl rfl ?_
          refine ⟨_, rfl, ?_, ?_, hi_up (hi_up (hi_up (hi_up (hi_rf _) (by decide)) (by decide)) (by decide)) (by decide), rfl, rfl⟩
          · rw [o_res, cif_t hc, nj, hM]
            rfl
          · rw [o_op, cif_t hc, nj, hM, rs_up rfl, rs_up rfl, rs_up rfl, rs_up rfl]
            rfl
        · have hc : ¬ o_c (rs I) (nI j) (nI k) z := fun h => by have h9 := h.2.2.2; rw [nj, hM] at h9; omega
          refine r_iconst dX11_order_42 (v := (-1)) kc_m1 ?_
          refine r_ireturn dX11_order_43 .int rfl rfl ?_
          refine ⟨_, rfl, ?_, ?_, hi_rf _, rfl, rfl⟩
          · rw [o_res, cif_f hc]
          · rw [o_op, cif_f hc]
theorem c_X11_order (S : St_m sh P) (V : Inv (rs I))  (x y z : Int32): am_R mX11_order (mpo sh P I (o_res (rs I) x y z) (o_op (rs I) x y z)) 2 43 0 0 0 [some (.ref 0), some (.int x), some (.int y), some (.int z), none] [] sh I P := by
  refine r_aload_n dX11_order_0 rfl ?_
  refine r_iconst dX11_order_1 (v := nI 0) kc_0 ?_
  refine r_putI dX11_order_2 f_X11_134 (S.1 _ _ rfl) rfl rfl rfl ?_
  have e : rs (va_up I 0 (upd (I 0) 0 (nI 0))) = rs I := rs_no rfl
  have h := b_X11_order (I := va_up I 0 (upd (I 0) 0 (nI 0))) S (by rw [e]; exact V) x y z
  rw [e] at h
  exact mpo_z h
theorem b_X11_change (S : St_m sh P) (V : Inv (rs I))  (x y z : Int32): am_R mX11_change (mpo sh P I (c_res (rs I) x y z) (c_op (rs I) x y z)) 2 43 0 0 5 [some (.ref 0), some (.int x), some (.int y), some (.int z), none] [] sh I P := by
  obtain ⟨e1, b1⟩ := V.1.np
  have e1 : I 1 0 = nI (np (rs I)) := e1
  generalize hN : np (rs I) = N at e1 b1
  refine r_aload_n dX11_change_5 rfl ?_
  refine r_iload_n dX11_change_6 rfl ?_
  refine r_callV1 (fr' := 1) (lo' := 22) (mc' := 0) (ms' := 0) dX11_change_7 mm_X11_isProgram mv_X11_isProgram l_X11_150 (S.1 _ _ rfl) mc_X11_isProgram (by decide) ⟨by decide, by decide⟩ (Nat.zero_le _) (Nat.zero_le _) (Nat.le_of_ble_eq_true rfl) (c_X11_isProgram S _ e1 b1) (am_ki ?_)
  rintro v7 _ _ _ ⟨hb7, rfl, rfl, rfl⟩
  refine r_if_eq 29 dX11_change_10 (by decide) (fun h10 => ?_) (fun h10 => ?_)
  · replace h10 := hb7.f h10
    have hc : ¬ c_c (rs I) x y z := fun h => h10 (by rw [← hN]; exact h.1)
    refine r_iconst dX11_change_29 (v := nI 0) kc_0 ?_
    refine r_ireturn dX11_change_30 .boolean rfl rfl ?_
    refine ⟨_, rfl, ?_, ?_, hi_rf _, rfl, rfl⟩
    · rw [c_res, cif_f hc]
    · rw [c_op, cif_f hc]
  · replace h10 := hb7.t h10
    obtain ⟨j, hj, rfl⟩ := h10
    obtain ⟨e2, b2⟩ := V.1.sz (q := j) (by omega)
    have e2 : I 2 j = nI (sz (rs I) j) := e2
    generalize hM : sz (rs I) j = M at e2 b2
    have nj : nv (nI j) = j := nv_nI (by omega)
    refine r_iload_n dX11_change_13 rfl ?_
    refine r_iconst dX11_change_14 (v := nI 0) kc_0 ?_
    refine r_aload_n dX11_change_15 rfl ?_
    refine r_getP dX11_change_16 g_X11_13 (S.1 _ _ rfl) rfl (S.2 _ _ _ rfl) ?_
    refine r_iload_n dX11_change_19 rfl ?_
    refine r_iaload _ dX11_change_20 (S.1 _ _ rfl) rfl (by first | decide | omega) (by decide) ?_
    rw [e2]
    refine r_iconst dX11_change_21 (v := nI 1) kc_1 ?_
    refine r_isub dX11_change_22 ?_
    refine r_callS3 (fr' := 0) (lo' := 0) (mc' := 0) (ms' := 0) dX11_change_23 mm_X11_in ms_X11_in l_X11_142 (by decide) ⟨by decide, by decide⟩ (Nat.zero_le _) (Nat.zero_le _) (Nat.le_of_ble_eq_true rfl) (c_X11_in _ _ _) (am_ki ?_)
    rintro v23 _ _ _ ⟨hb23, rfl, rfl, rfl⟩
    refine r_if_ne 31 dX11_change_26 (by decide) (fun h26 => ?_) (fun h26 => ?_)
    · replace h26 := hb23.t h26
      obtain ⟨i, hi2, rfl⟩ := (in_iff1 (by omega)).mp h26
      have ni : nv (nI i) = i := nv_nI (by omega)
      have hK := V.1.2.2.1 j i (by omega) (by rw [hM]; exact hi2)
      have e3 : I 3 (40 * j + i) = nI (nv (I 3 (40 * j + i))) := hK.1.1
      have b3 : nv (I 3 (40 * j + i)) ≤ 15 := hK.1.2
      generalize hD : nv (I 3 (40 * j + i)) = D at e3 b3
      refine r_bipush dX11_change_31 (v := nI 40) (by decide) ?_
      refine r_iload_n dX11_change_33 rfl ?_
      first | refine r_imulN dX11_change_34 ?_ | refine r_imul dX11_change_34 ?_
      refine r_iload_n dX11_change_35 rfl ?_
      first | refine r_iaddN dX11_change_36 ?_ | refine r_iadd dX11_change_36 ?_
      refine r_istore dX11_change_37 (Nat.le_of_ble_eq_true rfl) ?_
      dsimp only [List.set]
      refine r_aload_n dX11_change_39 rfl ?_
      refine r_getP dX11_change_40 g_X11_16 (S.1 _ _ rfl) rfl (S.2 _ _ _ rfl) ?_
      refine r_iload dX11_change_43 rfl ?_
      refine r_iaload _ dX11_change_45 (S.1 _ _ rfl) rfl (by first | decide | omega) (by decide) ?_
      rw [e3]
      refine r_callS1 (fr' := 0) (lo' := 0) (mc' := 0) (ms' := 0) dX11_change_46 mm_X11_hasArgument ms_X11_hasArgument l_X11_158 (by decide) ⟨by decide, by decide⟩ (Nat.zero_le _) (Nat.zero_le _) (Nat.le_of_ble_eq_true rfl) (c_X11_hasArgument (by omega)) (am_ki ?_)
      rintro v46 _ _ _ ⟨hb46, rfl, rfl, rfl⟩
      refine r_if_eq 66 dX11_change_49 (by decide) (fun h49 => ?_) (fun h49 => ?_)
      · replace h49 := hb46.f h49
        have hc : ¬ c_c (rs I) (nI j) (nI i) z := fun h => h49 (by have h9 := h.2.2.1; rw [nj, ni] at h9; rw [← hD]; exact h9)
        refine r_iconst dX11_change_66 (v := nI 0) kc_0 ?_
        refine r_ireturn dX11_change_67 .boolean rfl rfl ?_
        refine ⟨_, rfl, ?_, ?_, hi_rf _, rfl, rfl⟩
        · rw [c_res, cif_f hc]
        · rw [c_op, cif_f hc]
      · replace h49 := hb46.t h49
        refine r_aload_n dX11_change_52 rfl ?_
        refine r_getP dX11_change_53 g_X11_16 (S.1 _ _ rfl) rfl (S.2 _ _ _ rfl) ?_
        refine r_iload dX11_change_56 rfl ?_
        refine r_iaload _ dX11_change_58 (S.1 _ _ rfl) rfl (by first | decide | omega) (by decide) ?_
        rw [e3]
        refine r_iload_n dX11_change_59 rfl ?_
        refine r_callS2 (fr' := 1) (lo' := 22) (mc' := 0) (ms' := 0) dX11_change_60 mm_X11_isArgument ms_X11_isArgument l_X11_154 (by decide) ⟨by decide, by decide⟩ (Nat.zero_le _) (Nat.zero_le _) (Nat.le_of_ble_eq_true rfl) (c_X11_isArgument (by omega) _) (am_ki ?_)
        rintro v60 _ _ _ ⟨hb60, rfl, rfl, rfl⟩
        refine r_if_ne 68 dX11_change_63 (by decide) (fun h63 => ?_) (fun h63 => ?_)
        · replace h63 := hb60.t h63
          have hc : c_c (rs I) (nI j) (nI i) z := ⟨by rw [hN]; exact inR_nI hj, by rw [nj, hM]; exact inR_nI hi2, by rw [nj, ni]; rw [← hD] at h49; exact h49, by rw [nj, ni]; rw [← hD] at h63; exact h63⟩
          refine r_aload_n dX11_change_68 rfl ?_
          refine r_getP dX11_change_69 g_X11_19 (S.1 _ _ rfl) rfl (S.2 _ _ _ rfl) ?_
          refine r_iload dX11_change_72 rfl ?_
          refine r_iload_n dX11_change_74 rfl ?_
          refine r_iastore _ dX11_change_75 (S.1 _ _ rfl) rfl (by first | decide | omega) (by decide) ?_
          refine r_aload_n dX11_change_76 rfl ?_
          refine r_iload_n dX11_change_77 rfl ?_
          refine r_callV1 (fr' := 0) (lo' := 0) (mc' := 0) (ms' := 0) dX11_change_78 mm_X11_forget mv_X11_forget l_X11_146 (S.1 _ _ rfl) mc_X11_forget (by decide) ⟨by decide, by decide⟩ (Nat.zero_le _) (Nat.zero_le _) (Nat.le_of_ble_eq_true rfl) (c_X11_forget S (by omega)) (am_kv ?_)
          rintro _ _ _ ⟨rfl, rfl, rfl⟩
          refine r_iconst dX11_change_81 (v := nI 1) kc_1 ?_
          refine r_ireturn dX11_change_82 .boolean rfl rfl ?_
          refine ⟨_, rfl, ?_, ?_, hi_up (hi_up (hi_rf _) (by decide)) (by decide), rfl, rfl⟩
          · rw [c_res, cif_t hc]
          · rw [c_op, cif_t hc, nj, ni, rs_up rfl, rs_up rfl]
            rfl
        · replace h63 := hb60.f h63
          have hc : ¬ c_c (rs I) (nI j) (nI i) z := fun h => h63 (by have h9 := h.2.2.2; rw [nj, ni] at h9; rw [← hD]; exact h9)
          refine r_iconst dX11_change_66 (v := nI 0) kc_0 ?_
          refine r_ireturn dX11_change_67 .boolean rfl rfl ?_
          refine ⟨_, rfl, ?_, ?_, hi_rf _, rfl, rfl⟩
          · rw [c_res, cif_f hc]
          · rw [c_op, cif_f hc]
    · replace h26 := hb23.f h26
      have hc : ¬ c_c (rs I) (nI j) y z := fun h => h26 ((in_iff1 (by omega)).mpr (by have h9 := h.2.1; rw [nj, hM] at h9; exact h9))
      refine r_iconst dX11_change_29 (v := nI 0) kc_0 ?_
      refine r_ireturn dX11_change_30 .boolean rfl rfl ?_
      refine ⟨_, rfl, ?_, ?_, hi_rf _, rfl, rfl⟩
      · rw [c_res, cif_f hc]
      · rw [c_op, cif_f hc]
theorem c_X11_change (S : St_m sh P) (V : Inv (rs I))  (x y z : Int32): am_R mX11_change (mpo sh P I (c_res (rs I) x y z) (c_op (rs I) x y z)) 2 43 0 0 0 [some (.ref 0), some (.int x), some (.int y), some (.int z), none] [] sh I P := by
  refine r_aload_n dX11_change_0 rfl ?_
  refine r_iconst dX11_change_1 (v := nI 0) kc_0 ?_
  refine r_putI dX11_change_2 f_X11_134 (S.1 _ _ rfl) rfl rfl rfl ?_
  have e : rs (va_up I 0 (upd (I 0) 0 (nI 0))) = rs I := rs_no rfl
  have h := b_X11_change (I := va_up I 0 (upd (I 0) 0 (nI 0))) S (by rw [e]; exact V) x y z
  rw [e] at h
  exact mpo_z h
theorem l_X11_isLed (S : St_m sh P) (V : iP (rs I)) {q t : Nat} (hq : q < 3) (ht : t < 2147483648) : ∀ (n k : Nat), k + n = sz (rs I) q → (∀ i, i < k → ¬ ((I 3 (40 * q + i) = nI 9 ∨ I 3 (40 * q + i) = nI 10) ∧ I 4 (40 * q + i) = nI t)) → ∀ x4, am_R mX11_isLed (po_i (fun v sh' I' P' => bo v (led (rs I) q t) ∧ sh = sh' ∧ I = I' ∧ P = P')) 0 0 0 0 2 [some (.ref 0), some (.int (nI q)), some (.int (nI t)), some (.int (nI k)), x4] [] sh I P := by
  obtain ⟨e2, b2⟩ := V.sz hq
  have e2 : I 2 q = nI (sz (rs I) q) := e2
  generalize hM : sz (rs I) q = M at e2 b2
  intro n
  induction n with
  | zero =>
    intro k hk hno x4
    refine r_iload_n dX11_isLed_2 rfl ?_
    refine r_aload_n dX11_isLed_3 rfl ?_
    refine r_getP dX11_isLed_4 g_X11_13 (S.1 _ _ rfl) rfl (S.2 _ _ _ rfl) ?_
    refine r_iload_n dX11_isLed_7 rfl ?_
    refine r_iaload _ dX11_isLed_8 (S.1 _ _ rfl) rfl (by first | decide | omega) (by decide) ?_
    rw [e2]
    refine r_icmp_geN 63 dX11_isLed_9 (by decide) (by omega) (by omega) (fun h9 => ?_) (fun h9 => ?_)
    · refine r_iconst dX11_isLed_63 (v := nI 0) kc_0 ?_
      refine r_ireturn dX11_isLed_64 .boolean rfl rfl ?_
      refine ⟨_, rfl, bo_0 ?_, rfl, rfl, rfl⟩
      rintro ⟨i, h1, h2, h3⟩
      exact hno i (by rw [hM] at h1; omega) ⟨h2, h3⟩
    · exact absurd h9 (by omega)
  | succ n ih =>
    intro k hk hno x4
    have hK := V.2.2.1 q k hq (by omega)
    have e3 : I 3 (40 * q + k) = nI (nv (I 3 (40 * q + k))) := hK.1.1
    have b3 : nv (I 3 (40 * q + k)) ≤ 15 := hK.1.2
    generalize hD : nv (I 3 (40 * q + k)) = D at e3 b3
    refine r_iload_n dX11_isLed_2 rfl ?_
    refine r_aload_n dX11_isLed_3 rfl ?_
    refine r_getP dX11_isLed_4 g_X11_13 (S.1 _ _ rfl) rfl (S.2 _ _ _ rfl) ?_
    refine r_iload_n dX11_isLed_7 rfl ?_
    refine r_iaload _ dX11_isLed_8 (S.1 _ _ rfl) rfl (by first | decide | omega) (by decide) ?_
    rw [e2]
    refine r_icmp_geN 63 dX11_isLed_9 (by decide) (by omega) (by omega) (fun h9 => ?_) (fun h9 => ?_)
    · exact absurd h9 (by omega)
    · refine r_bipush dX11_isLed_12 (v := nI 40) (by decide) ?_
      refine r_iload_n dX11_isLed_14 rfl ?_
      first | refine r_imulN dX11_isLed_15 ?_ | refine r_imul dX11_isLed_15 ?_
      refine r_iload_n dX11_isLed_16 rfl ?_
      first | refine r_iaddN dX11_isLed_17 ?_ | refine r_iadd dX11_isLed_17 ?_
      refine r_istore dX11_isLed_18 (Nat.le_of_ble_eq_true rfl) ?_
      dsimp only [List.set]
      refine r_aload_n dX11_isLed_20 rfl ?_
      refine r_getP dX11_isLed_21 g_X11_16 (S.1 _ _ rfl) rfl (S.2 _ _ _ rfl) ?_
      refine r_iload dX11_isLed_24 rfl ?_
      refine r_iaload _ dX11_isLed_26 (S.1 _ _ rfl) rfl (by first | decide | omega) (by decide) ?_
      rw [e3]
      refine r_bipush dX11_isLed_27 (v := nI 9) (by decide) ?_
      refine r_icmp_eqN 44 dX11_isLed_29 (by decide) (by omega) (by omega) (fun h29 => ?_) (fun h29 => ?_)
      · refine r_aload_n dX11_isLed_44 rfl ?_
        refine r_getP dX11_isLed_45 g_X11_19 (S.1 _ _ rfl) rfl (S.2 _ _ _ rfl) ?_
        refine r_iload dX11_isLed_48 rfl ?_
        refine r_iaload _ dX11_isLed_50 (S.1 _ _ rfl) rfl (by first | decide | omega) (by decide) ?_
        refine r_iload_n dX11_isLed_51 rfl ?_
        refine r_icmp_ne 57 dX11_isLed_52 (by decide) (fun h52 => ?_) (fun h52 => ?_)
        · have hno2 : ∀ i, i < k + 1 → ¬ ((I 3 (40 * q + i) = nI 9 ∨ I 3 (40 * q + i) = nI 10) ∧ I 4 (40 * q + i) = nI t) := by
            intro i hi hh
            rcases Nat.lt_or_ge i k with g | g
            · exact hno i g hh
            · have e : i = k := by omega
              subst e
              rw [e3, nI_eq (by omega) (by decide), nI_eq (by omega) (by decide)] at hh
              first | exact h52 hh.2 | omega
          first | refine r_iincN dX11_isLed_57 rfl kc_1 ?_ | refine r_iinc dX11_isLed_57 rfl rfl ?_
          dsimp only [List.set]
          refine r_goto 2 dX11_isLed_60 (by decide) ?_
          exact ih (k + 1) (by omega) hno2 _
        · refine r_iconst dX11_isLed_55 (v := nI 1) kc_1 ?_
          refine r_ireturn dX11_isLed_56 .boolean rfl rfl ?_
          refine ⟨_, rfl, bo_1 ⟨k, by omega, ?_, h52⟩, rfl, rfl, rfl⟩
          show I 3 (40 * q + k) = nI 9 ∨ I 3 (40 * q + k) = nI 10
          rw [e3]
          first | exact Or.inl (by rw [h29]) | exact Or.inr (by rw [h41])
      · refine r_aload_n dX11_isLed_32 rfl ?_
        refine r_getP dX11_isLed_33 g_X11_16 (S.1 _ _ rfl) rfl (S.2 _ _ _ rfl) ?_
        refine r_iload dX11_isLed_36 rfl ?_
        refine r_iaload _ dX11_isLed_38 (S.1 _ _ rfl) rfl (by first | decide | omega) (by decide) ?_
        rw [e3]
        refine r_bipush dX11_isLed_39 (v := nI 10) (by decide) ?_
        refine r_icmp_neN 57 dX11_isLed_41 (by decide) (by omega) (by omega) (fun h41 => ?_) (fun h41 => ?_)
        · have hno2 : ∀ i, i < k + 1 → ¬ ((I 3 (40 * q + i) = nI 9 ∨ I 3 (40 * q + i) = nI 10) ∧ I 4 (40 * q + i) = nI t) := by
            intro i hi hh
            rcases Nat.lt_or_ge i k with g | g
            · exact hno i g hh
            · have e : i = k := by omega
              subst e
              rw [e3, nI_eq (by omega) (by decide), nI_eq (by omega) (by decide)] at hh
              first | exact h52 hh.2 | omega
          first | refine r_iincN dX11_isLed_57 rfl kc_1 ?_ | refine r_iinc dX11_isLed_57 rfl rfl ?_
          dsimp only [List.set]
          refine r_goto 2 dX11_isLed_60 (by decide) ?_
          exact ih (k + 1) (by omega) hno2 _
        · refine r_aload_n dX11_isLed_44 rfl ?_
          refine r_getP dX11_isLed_45 g_X11_19 (S.1 _ _ rfl) rfl (S.2 _ _ _ rfl) ?_
          refine r_iload dX11_isLed_48 rfl ?_
          refine r_iaload _ dX11_isLed_50 (S.1 _ _ rfl) rfl (by first | decide | omega) (by decide) ?_
          refine r_iload_n dX11_isLed_51 rfl ?_
          refine r_icmp_ne 57 dX11_isLed_52 (by decide) (fun h52 => ?_) (fun h52 => ?_)
          · have hno2 : ∀ i, i < k + 1 → ¬ ((I 3 (40 * q + i) = nI 9 ∨ I 3 (40 * q + i) = nI 10) ∧ I 4 (40 * q + i) = nI t) := by
              intro i hi hh
              rcases Nat.lt_or_ge i k with g | g
              · exact hno i g hh
              · have e : i = k := by omega
                subst e
                rw [e3, nI_eq (by omega) (by decide), nI_eq (by omega) (by decide)] at hh
                first | exact h52 hh.2 | omega
            first | refine r_iincN dX11_isLed_57 rfl kc_1 ?_ | refine r_iinc dX11_isLed_57 rfl rfl ?_
            dsimp only [List.set]
            refine r_goto 2 dX11_isLed_60 (by decide) ?_
            exact ih (k + 1) (by omega) hno2 _
          · refine r_iconst dX11_isLed_55 (v := nI 1) kc_1 ?_
            refine r_ireturn dX11_isLed_56 .boolean rfl rfl ?_
            refine ⟨_, rfl, bo_1 ⟨k, by omega, ?_, h52⟩, rfl, rfl, rfl⟩
            show I 3 (40 * q + k) = nI 9 ∨ I 3 (40 * q + k) = nI 10
            rw [e3]
            first | exact Or.inl (by rw [h29]) | exact Or.inr (by rw [h41])
theorem c_X11_isLed (S : St_m sh P) (V : iP (rs I)) {q t : Nat} (hq : q < 3) (ht : t < 2147483648) : am_R mX11_isLed (po_i (fun v sh' I' P' => bo v (led (rs I) q t) ∧ sh = sh' ∧ I = I' ∧ P = P')) 0 0 0 0 0 [some (.ref 0), some (.int (nI q)), some (.int (nI t)), none, none] [] sh I P := by
  refine r_iconst dX11_isLed_0 (v := nI 0) kc_0 ?_
  refine r_istore_n dX11_isLed_1 (Nat.le_of_ble_eq_true rfl) ?_
  dsimp only [List.set]
  exact l_X11_isLed S V hq ht (sz (rs I) q) 0 (Nat.zero_add _) (fun i hi => absurd hi (Nat.not_lt_zero i)) _
theorem sw_2 (x : Int32) : x = nI 0 ∨ x = nI 1 ∨ x = nI 2 ∨ (¬ (x = nI 0 ∨ x = nI 1 ∨ x = nI 2) ∧ (x.toInt < 0 ∨ 2 < x.toInt)) := by
  by_cases h : x.toInt < 0 ∨ 2 < x.toInt
  · refine Or.inr (Or.inr (Or.inr (⟨?_, h⟩)))
    rintro (rfl | rfl | rfl) <;> (revert h; decide)
  · have h0 : ¬ x < 0 := fun g => h (Or.inl (by have := Int32.lt_iff_toInt_lt.mp g; simpa using this))
    obtain ⟨j, hj, rfl⟩ := nI_of h0
    rw [nI_toInt hj] at h
    rcases (show j = 0 ∨ j = 1 ∨ j = 2 by omega) with rfl | rfl | rfl <;> simp
theorem sw_3 (x : Int32) : x = nI 0 ∨ x = nI 1 ∨ x = nI 2 ∨ x = nI 3 ∨ (¬ (x = nI 0 ∨ x = nI 1 ∨ x = nI 2 ∨ x = nI 3) ∧ (x.toInt < 0 ∨ 3 < x.toInt)) := by
  by_cases h : x.toInt < 0 ∨ 3 < x.toInt
  · refine Or.inr (Or.inr (Or.inr (Or.inr (⟨?_, h⟩))))
    rintro (rfl | rfl | rfl | rfl) <;> (revert h; decide)
  · have h0 : ¬ x < 0 := fun g => h (Or.inl (by have := Int32.lt_iff_toInt_lt.mp g; simpa using this))
    obtain ⟨j, hj, rfl⟩ := nI_of h0
    rw [nI_toInt hj] at h
    rcases (show j = 0 ∨ j = 1 ∨ j = 2 ∨ j = 3 by omega) with rfl | rfl | rfl | rfl <;> simp
theorem sw_4 (x : Int32) : x = nI 0 ∨ x = nI 1 ∨ x = nI 2 ∨ x = nI 3 ∨ x = nI 4 ∨ (¬ (x = nI 0 ∨ x = nI 1 ∨ x = nI 2 ∨ x = nI 3 ∨ x = nI 4) ∧ (x.toInt < 0 ∨ 4 < x.toInt)) := by
  by_cases h : x.toInt < 0 ∨ 4 < x.toInt
  · refine Or.inr (Or.inr (Or.inr (Or.inr (Or.inr (⟨?_, h⟩)))))
    rintro (rfl | rfl | rfl | rfl | rfl) <;> (revert h; decide)
  · have h0 : ¬ x < 0 := fun g => h (Or.inl (by have := Int32.lt_iff_toInt_lt.mp g; simpa using this))
    obtain ⟨j, hj, rfl⟩ := nI_of h0
    rw [nI_toInt hj] at h
    rcases (show j = 0 ∨ j = 1 ∨ j = 2 ∨ j = 3 ∨ j = 4 by omega) with rfl | rfl | rfl | rfl | rfl <;> simp
theorem sw_5 (x : Int32) : x = nI 0 ∨ x = nI 1 ∨ x = nI 2 ∨ x = nI 3 ∨ x = nI 4 ∨ x = nI 5 ∨ (¬ (x = nI 0 ∨ x = nI 1 ∨ x = nI 2 ∨ x = nI 3 ∨ x = nI 4 ∨ x = nI 5) ∧ (x.toInt < 0 ∨ 5 < x.toInt)) := by
  by_cases h : x.toInt < 0 ∨ 5 < x.toInt
  · refine Or.inr (Or.inr (Or.inr (Or.inr (Or.inr (Or.inr (⟨?_, h⟩))))))
    rintro (rfl | rfl | rfl | rfl | rfl | rfl) <;> (revert h; decide)
  · have h0 : ¬ x < 0 := fun g => h (Or.inl (by have := Int32.lt_iff_toInt_lt.mp g; simpa using this))
    obtain ⟨j, hj, rfl⟩ := nI_of h0
    rw [nI_toInt hj] at h
    rcases (show j = 0 ∨ j = 1 ∨ j = 2 ∨ j = 3 ∨ j = 4 ∨ j = 5 by omega) with rfl | rfl | rfl | rfl | rfl | rfl <;> simp
end M2
