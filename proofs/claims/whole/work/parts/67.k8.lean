/-! the class: feed, count -/
section K8
variable {sh : ASh} {I σ : AIn} {P : APt}
def tdH (I : AIn) (T : Nat) (x : Int32) (k : Nat) : AIn := va_up (va_up I 137 (fun j => if T ≤ j ∧ j < T + k then fe_b x (j - T) else I 137 j)) 136 (upd (I 136) 0 (nI (T + k)))
def fdC (T : Nat) (y : Int32) : Prop := (1 ≤ nv y ∧ inR y 5) ∧ T + nv y ≤ 160
def taP (sh : ASh) (P : APt) (I : AIn) (T : Nat) (x y : Int32) : APo := po_i (fun v sh' I' P' => bo v (fdC T y) ∧ (fdC T y → I' = tdH I T x (nv y)) ∧ (¬ fdC T y → I' = I) ∧ sh = sh' ∧ P = P')
theorem l_X8_append (S : St_c sh P) {T n : Nat} {x : Int32} (hn : n ≤ 4) (hn1 : 1 ≤ n) (hT : T + n ≤ 160) : ∀ (m k : Nat), k + m = n → ∀ H, H = tdH I T x k → am_R mX8_append (taP sh P I T x (nI n)) 0 0 0 0 26 [some (.ref 136), some (.int x), some (.int (nI n)), some (.int (nI k))] [] sh H P := by
  have en : nv (nI n) = n := nv_nI (by omega)
  have hC : fdC T (nI n) := ⟨⟨by rw [en]; exact hn1, inR_nI (by omega)⟩, by rw [en]; exact hT⟩
  intro m
  induction m with
  | zero =>
    intro k hk H hH
    have e : k = n := by omega
    subst e
    refine r_iload_n dX8_append_26 rfl ?_
    refine r_iload_n dX8_append_27 rfl ?_
    refine r_icmp_geN 69 dX8_append_28 (by decide) (by omega) (by omega) (fun h28 => ?_) (fun h28 => ?_)
    · refine r_iconst dX8_append_69 (v := nI 1) kc_1 ?_
      refine r_ireturn dX8_append_70 .boolean rfl (by decide) ?_
      exact ⟨_, rfl, bo_1 hC, fun _ => by rw [en]; exact hH, fun h => absurd hC h, rfl, rfl⟩
    · exact absurd h28 (by omega)
  | succ m ih =>
    intro k hk H hH
    have h36 : H 136 0 = nI (T + k) := by rw [hH]; rfl
    have e37 : H 137 = fun j => if T ≤ j ∧ j < T + k then fe_b x (j - T) else I 137 j := by rw [hH]; rfl
    have e36 : H 136 = upd (I 136) 0 (nI (T + k)) := by rw [hH]; rfl
    have hu := fe_u x (show k < 4 by omega)
    refine r_iload_n dX8_append_26 rfl ?_
    refine r_iload_n dX8_append_27 rfl ?_
    refine r_icmp_geN 69 dX8_append_28 (by decide) (by omega) (by omega) (fun h28 => ?_) (fun h28 => ?_)
    · exact absurd h28 (by omega)
    · refine r_aload_n dX8_append_31 rfl ?_
      refine r_getP dX8_append_32 g_X8_11 (by first | assumption | exact S.1 _ _ rfl) rfl (by first | assumption | exact S.2 _ _ _ rfl) ?_
      refine r_aload_n dX8_append_35 rfl ?_
      refine r_getI dX8_append_36 g_X8_15 (by first | assumption | exact S.1 _ _ rfl) rfl ?_
      rw [h36]
      refine r_iload_n dX8_append_39 rfl ?_
      refine r_bipush dX8_append_40 (v := nI 24) (by decide) ?_
      refine r_bipush dX8_append_42 (v := nI 8) (by decide) ?_
      refine r_iload_n dX8_append_44 rfl ?_
      refine r_imul dX8_append_45 ?_
      refine r_isub dX8_append_46 ?_
      refine r_iushr dX8_append_47 ?_
      refine r_sipush dX8_append_48 (v := nI 255) (by decide) ?_
      refine r_iand dX8_append_51 ?_
      rw [hu, show fe_b x k = fe_b x (T + k - T) by rw [Nat.add_sub_cancel_left]]
      refine r_iastore (T + k) dX8_append_52 (by first | assumption | exact S.1 _ _ rfl) rfl (by first | decide | omega) (by decide) ?_
      rw [e37]
      refine r_aload_n dX8_append_53 rfl ?_
      refine r_dup dX8_append_54 ?_
      refine r_getI dX8_append_55 g_X8_15 (by first | assumption | exact S.1 _ _ rfl) rfl ?_
      rw [va_up_ne _ _ (by decide), h36]
      refine r_iconst dX8_append_58 (v := nI 1) kc_1 ?_
      first | refine r_iaddN dX8_append_59 ?_ | refine r_iadd dX8_append_59 ?_
      refine r_putI dX8_append_60 f_X8_15 (by first | assumption | exact S.1 _ _ rfl) rfl rfl rfl ?_
      rw [va_up_ne (k := 137) (j := 136) _ _ (by decide)]
      first | refine r_iincN dX8_append_63 rfl kc_1 ?_ | refine r_iinc dX8_append_63 rfl rfl ?_
      dsimp only [List.set]
      refine r_goto 26 dX8_append_66 (by decide) ?_
      refine ih (k + 1) (by omega) _ ?_
      rw [Nat.add_sub_cancel_left, fl_step, e36, fa_twice, hH, tdH, up_sw (i := 136) (j := 137) (by decide), bx_uu, bx_uu]
      rfl
theorem c_X8_append (S : St_c sh P) {T : Nat} (hT : I 136 0 = nI T) (hT6 : T ≤ 160) (x y : Int32) : am_R mX8_append (taP sh P I T x y) 0 0 0 0 0 [some (.ref 136), some (.int x), some (.int y), none] [] sh I P := by
  refine r_iload_n dX8_append_0 rfl ?_
  refine r_iconst dX8_append_1 (v := nI 1) kc_1 ?_
  refine r_icmp_lt 22 dX8_append_2 (by decide) (fun h2 => ?_) (fun h2 => ?_)
  · have hf : ¬ fdC T y := by
      rintro ⟨⟨h, j, hj, rfl⟩, -⟩
      rw [nv_nI (by omega)] at h
      have := (nI_ltI (by omega) (by decide)).mp h2
      omega
    refine r_iconst dX8_append_22 (v := nI 0) kc_0 ?_
    refine r_ireturn dX8_append_23 .boolean rfl (by decide) ?_
    exact ⟨_, rfl, bo_0 hf, fun h => absurd h hf, fun _ => rfl, rfl, rfl⟩
  · refine r_iload_n dX8_append_5 rfl ?_
    refine r_iconst dX8_append_6 (v := nI 4) kc_4 ?_
    refine r_icmp_gt 22 dX8_append_7 (by decide) (fun h7 => ?_) (fun h7 => ?_)
    · have hf : ¬ fdC T y := by
        rintro ⟨⟨h, j, hj, rfl⟩, -⟩
        have := (nI_ltI (by decide) (by omega)).mp h7
        omega
      refine r_iconst dX8_append_22 (v := nI 0) kc_0 ?_
      refine r_ireturn dX8_append_23 .boolean rfl (by decide) ?_
      exact ⟨_, rfl, bo_0 hf, fun h => absurd h hf, fun _ => rfl, rfl, rfl⟩
    · have h0 : ¬ y < 0 := fun h => h2 (fa_ltt h (by decide))
      obtain ⟨n, hn, rfl⟩ := nI_of h0
      have hn4 := (nI_leI hn (by decide)).mp (Int32.not_lt.mp h7)
      have hn1 : ¬ n < 1 := fun h => h2 ((nI_ltI hn (by decide)).mpr h)
      have en : nv (nI n) = n := nv_nI hn
      refine r_aload_n dX8_append_10 rfl ?_
      refine r_getI dX8_append_11 g_X8_15 (by first | assumption | exact S.1 _ _ rfl) rfl ?_
      rw [hT]
      refine r_iload_n dX8_append_14 rfl ?_
      first | refine r_iaddN dX8_append_15 ?_ | refine r_iadd dX8_append_15 ?_
      refine r_sipush dX8_append_16 (v := nI 160) (by decide) ?_
      refine r_icmp_leN 24 dX8_append_19 (by decide) (by omega) (by omega) (fun h19 => ?_) (fun h19 => ?_)
      · refine r_iconst dX8_append_24 (v := nI 0) kc_0 ?_
        refine r_istore_n dX8_append_25 (Nat.le_of_ble_eq_true rfl) ?_
        dsimp only [List.set]
        refine l_X8_append S hn4 (by omega) h19 n 0 (Nat.zero_add _) I ?_
        unfold tdH
        refine up_id2 137 136 _ _ ?_ ?_ (by decide)
        · funext j
          rw [if_neg (by omega)]
        · funext j
          by_cases e : j = 0
          · subst e; rw [pk_us, hT]; rfl
          · rw [pk_un e]
      · have hf : ¬ fdC T (nI n) := fun h => h19 (by have := h.2; rw [en] at this; exact this)
        refine r_iconst dX8_append_22 (v := nI 0) kc_0 ?_
        refine r_ireturn dX8_append_23 .boolean rfl (by decide) ?_
        exact ⟨_, rfl, bo_0 hf, fun h => absurd h hf, fun _ => rfl, rfl, rfl⟩
theorem fe_fin (V : Inv σ) (R : RepS I 100 σ) (x y : Int32) (hC : fdC (nv (σ 26 0)) y) : RepS (tdH I (nv (σ 26 0)) x (nv y)) 100 (fe_op σ x y) ∧ cF (tdH I (nv (σ 26 0)) x (nv y)) I ∧ fe_res σ x y = nI (nv (σ 26 0) + nv y) := by
  have hG : ∀ r, r < 136 ∨ 137 < r → tdH I (nv (σ 26 0)) x (nv y) r = I r := fun r hr => by unfold tdH; rw [va_up_ne _ _ (by omega), va_up_ne _ _ (by omega)]
  have hC2 : fe_c σ y := hC
  unfold fe_op fe_res
  rw [cif_t hC2, cif_t hC2]
  refine ⟨⟨rpP_σ (rpP_fr R.1 (by rw [hG 100 (by omega)]) (fun r h1 h2 => hG r (by omega)) V.1.np.2) rfl rfl rfl rfl rfl, rpJ_σ (rpJ_fr R.2.1 (fun r h1 h2 => hG r (by omega))) rfl rfl, rpK_σ (rpK_fr R.2.2.1 (fun r h1 h2 => hG r (by omega))) rfl rfl rfl rfl rfl rfl rfl, rpR_σ (rpR_fr R.2.2.2.1 (fun r h1 h2 => hG r (by omega))) rfl rfl rfl rfl rfl rfl rfl rfl rfl, rpW_σ (rpW_fr R.2.2.2.2.1 (by rw [hG 100 (by omega)]) (fun r h1 h2 => hG r (by omega))) rfl rfl, ?_⟩, fun r hr => hG r (by omega), rfl⟩
  have hT := R.2.2.2.2.2
  have h2 := hC.2
  refine ⟨rfl, fun k hk => ?_⟩
  have hk : k < nv (nI (nv (σ 26 0) + nv y)) := hk
  rw [nv_nI (by omega)] at hk
  show (if nv (σ 26 0) ≤ k ∧ k < nv (σ 26 0) + nv y then fe_b x (k - nv (σ 26 0)) else I 137 k) = if nv (σ 26 0) ≤ k ∧ k < nv (σ 26 0) + nv y then fe_b x (k - nv (σ 26 0)) else σ 27 k
  by_cases h : nv (σ 26 0) ≤ k ∧ k < nv (σ 26 0) + nv y
  · rw [if_pos h, if_pos h]
  · rw [if_neg h, if_neg h]
    exact hT.2 k (by omega)
theorem c_X10_feed (S : St_c sh P) (V : Inv σ) (R : RepS I 100 σ) (x y : Int32) : am_R mX10_feed (cpo sh P I (fe_op σ x y) (fe_res σ x y)) 1 23 0 0 0 [some (.ref 60), some (.int x), some (.int y)] [] sh I P := by
  have b1 : np σ ≤ 3 := V.1.np.2
  have e1 : I 100 0 = nI (np σ) := R.1.1
  refine r_aload_n dX10_feed_0 rfl ?_
  refine r_getP dX10_feed_1 g_X10_10 (by first | assumption | exact S.1 _ _ rfl) rfl (by first | assumption | exact S.2 _ _ _ rfl) ?_
  refine r_getP dX10_feed_4 g_X10_199 (by first | assumption | exact S.1 _ _ rfl) rfl (by first | assumption | exact S.2 _ _ _ rfl) ?_
  refine r_iload_n dX10_feed_7 rfl ?_
  refine r_iload_n dX10_feed_8 rfl ?_
  refine r_callV2 (fr' := 0) (lo' := 0) (mc' := 0) (ms' := 0) dX10_feed_9 mm_X8_append mv_X8_append l_X10_203 (by first | assumption | exact S.1 _ _ rfl) mc_X8_append (by decide) ⟨by decide, by decide⟩ (Nat.zero_le _) (Nat.zero_le _) (Nat.le_of_ble_eq_true rfl) (c_X8_append S (R.2.2.2.2.2.1.trans V.2.2.2.2.2.1.1) V.2.2.2.2.2.1.2 _ _) (am_ki ?_)
  rintro v9 _ H _ ⟨hb9, hC, hN, rfl, rfl⟩
  refine r_if_eq 28 dX10_feed_12 (by decide) (fun h12 => ?_) (fun h12 => ?_)
  · replace h12 := hb9.f h12
    have := hN h12
    subst this
    refine r_iconst dX10_feed_28 (v := (-1)) kc_m1 ?_
    refine r_ireturn dX10_feed_29 .int rfl rfl ?_
    first | (obtain ⟨g1, g2, g3⟩ := fe_fin V R x y h12; exact ⟨_, rfl, g3.symm, g1, g2, rfl, rfl⟩) | exact ⟨_, rfl, by rw [fe_res, cif_f (show ¬ fe_c σ y from h12)], by rw [fe_op, cif_f (show ¬ fe_c σ y from h12)]; exact R, cF_rf _, rfl, rfl⟩
  · replace h12 := hb9.t h12
    have := hC h12
    subst this
    refine r_aload_n dX10_feed_15 rfl ?_
    refine r_getP dX10_feed_16 g_X10_10 (by first | assumption | exact S.1 _ _ rfl) rfl (by first | assumption | exact S.2 _ _ _ rfl) ?_
    refine r_getP dX10_feed_19 g_X10_199 (by first | assumption | exact S.1 _ _ rfl) rfl (by first | assumption | exact S.2 _ _ _ rfl) ?_
    refine r_getI dX10_feed_22 g_X10_206 (by first | assumption | exact S.1 _ _ rfl) rfl ?_
    rw [show tdH I (nv (σ 26 0)) x (nv y) 136 0 = nI (nv (σ 26 0) + nv y) from rfl]
    refine r_goto 29 dX10_feed_25 (by decide) ?_
    refine r_ireturn dX10_feed_29 .int rfl rfl ?_
    first | (obtain ⟨g1, g2, g3⟩ := fe_fin V R x y h12; exact ⟨_, rfl, g3.symm, g1, g2, rfl, rfl⟩) | exact ⟨_, rfl, by rw [fe_res, cif_f (show ¬ fe_c σ y from h12)], by rw [fe_op, cif_f (show ¬ fe_c σ y from h12)]; exact R, cF_rf _, rfl, rfl⟩
theorem c_X10_count (S : St_c sh P) (V : Inv σ) (R : RepS I 100 σ) (x : Int32) : am_R mX10_count (cpo sh P I (σ) (cn_res σ x)) 1 21 0 0 0 [some (.ref 60), some (.int x)] [] sh I P := by
  have b1 : np σ ≤ 3 := V.1.np.2
  have e1 : I 100 0 = nI (np σ) := R.1.1
  refine r_iload_n dX10_count_0 rfl ?_
  rcases sw_5 x with rfl | rfl | rfl | rfl | rfl | rfl | ⟨hz, hx⟩
  · refine r_tabIn (off := 39) 40 dX10_count_1 (by decide) (by decide) (by decide) (by decide) ?_
    refine r_aload_n dX10_count_40 rfl ?_
    refine r_getP dX10_count_41 g_X10_10 (by first | assumption | exact S.1 _ _ rfl) rfl (by first | assumption | exact S.2 _ _ _ rfl) ?_
    refine r_getI dX10_count_44 g_X10_34 (by first | assumption | exact S.1 _ _ rfl) rfl ?_
    refine r_ireturn dX10_count_47 .int rfl rfl ?_
    refine ⟨_, rfl, ?_, R, cF_rf _, rfl, rfl⟩
    rw [e1]
    exact V.1.np.1.symm
  · refine r_tabIn (off := 47) 48 dX10_count_1 (by decide) (by decide) (by decide) (by decide) ?_
    refine r_aload_n dX10_count_48 rfl ?_
    refine r_getP dX10_count_49 g_X10_10 (by first | assumption | exact S.1 _ _ rfl) rfl (by first | assumption | exact S.2 _ _ _ rfl) ?_
    refine r_getP dX10_count_52 g_X10_86 (by first | assumption | exact S.1 _ _ rfl) rfl (by first | assumption | exact S.2 _ _ _ rfl) ?_
    refine r_getI dX10_count_55 g_X10_98 (by first | assumption | exact S.1 _ _ rfl) rfl ?_
    refine r_ireturn dX10_count_58 .int rfl rfl ?_
    refine ⟨_, rfl, ?_, R, cF_rf _, rfl, rfl⟩
    exact R.2.1.1.trans V.2.1.1.1.symm
  · refine r_tabIn (off := 58) 59 dX10_count_1 (by decide) (by decide) (by decide) (by decide) ?_
    refine r_aload_n dX10_count_59 rfl ?_
    refine r_getP dX10_count_60 g_X10_10 (by first | assumption | exact S.1 _ _ rfl) rfl (by first | assumption | exact S.2 _ _ _ rfl) ?_
    refine r_getP dX10_count_63 g_X10_107 (by first | assumption | exact S.1 _ _ rfl) rfl (by first | assumption | exact S.2 _ _ _ rfl) ?_
    refine r_getI dX10_count_66 g_X10_140 (by first | assumption | exact S.1 _ _ rfl) rfl ?_
    refine r_if_eq 85 dX10_count_69 (by decide) (fun h69 => ?_) (fun h69 => ?_)
    · have hf : σ 11 0 = -1 := Classical.byContradiction (R.2.2.1.1.f h69)
      refine r_iconst dX10_count_85 (v := (-1)) kc_m1 ?_
      refine r_ireturn dX10_count_86 .int rfl rfl ?_
      refine ⟨_, rfl, ?_, R, cF_rf _, rfl, rfl⟩
      first | exact (R.2.2.1.2 ht).1.1 | exact hf.symm
    · have ht := R.2.2.1.1.t h69
      refine r_aload_n dX10_count_72 rfl ?_
      refine r_getP dX10_count_73 g_X10_10 (by first | assumption | exact S.1 _ _ rfl) rfl (by first | assumption | exact S.2 _ _ _ rfl) ?_
      refine r_getP dX10_count_76 g_X10_107 (by first | assumption | exact S.1 _ _ rfl) rfl (by first | assumption | exact S.2 _ _ _ rfl) ?_
      refine r_getI dX10_count_79 g_X10_117 (by first | assumption | exact S.1 _ _ rfl) rfl ?_
      refine r_goto 86 dX10_count_82 (by decide) ?_
      refine r_ireturn dX10_count_86 .int rfl rfl ?_
      refine ⟨_, rfl, ?_, R, cF_rf _, rfl, rfl⟩
      first | exact (R.2.2.1.2 ht).1.1 | exact hf.symm
  · refine r_tabIn (off := 86) 87 dX10_count_1 (by decide) (by decide) (by decide) (by decide) ?_
    refine r_aload_n dX10_count_87 rfl ?_
    refine r_getP dX10_count_88 g_X10_10 (by first | assumption | exact S.1 _ _ rfl) rfl (by first | assumption | exact S.2 _ _ _ rfl) ?_
    refine r_getP dX10_count_91 g_X10_107 (by first | assumption | exact S.1 _ _ rfl) rfl (by first | assumption | exact S.2 _ _ _ rfl) ?_
    refine r_getI dX10_count_94 g_X10_140 (by first | assumption | exact S.1 _ _ rfl) rfl ?_
    refine r_if_eq 113 dX10_count_97 (by decide) (fun h97 => ?_) (fun h97 => ?_)
    · have hf : σ 11 0 = -1 := Classical.byContradiction (R.2.2.1.1.f h97)
      refine r_iconst dX10_count_113 (v := (-1)) kc_m1 ?_
      refine r_ireturn dX10_count_114 .int rfl rfl ?_
      refine ⟨_, rfl, ?_, R, cF_rf _, rfl, rfl⟩
      show _ = (if σ 11 0 = -1 then -1 else σ 13 0)
      first | (rw [if_neg ht]; exact (R.2.2.1.2 ht).1.2.1) | rw [if_pos hf]
    · have ht := R.2.2.1.1.t h97
      refine r_aload_n dX10_count_100 rfl ?_
      refine r_getP dX10_count_101 g_X10_10 (by first | assumption | exact S.1 _ _ rfl) rfl (by first | assumption | exact S.2 _ _ _ rfl) ?_
      refine r_getP dX10_count_104 g_X10_107 (by first | assumption | exact S.1 _ _ rfl) rfl (by first | assumption | exact S.2 _ _ _ rfl) ?_
      refine r_getI dX10_count_107 g_X10_211 (by first | assumption | exact S.1 _ _ rfl) rfl ?_
      refine r_goto 114 dX10_count_110 (by decide) ?_
      refine r_ireturn dX10_count_114 .int rfl rfl ?_
      refine ⟨_, rfl, ?_, R, cF_rf _, rfl, rfl⟩
      show _ = (if σ 11 0 = -1 then -1 else σ 13 0)
      first | (rw [if_neg ht]; exact (R.2.2.1.2 ht).1.2.1) | rw [if_pos hf]
  · refine r_tabIn (off := 114) 115 dX10_count_1 (by decide) (by decide) (by decide) (by decide) ?_
    refine r_aload_n dX10_count_115 rfl ?_
    refine r_getP dX10_count_116 g_X10_10 (by first | assumption | exact S.1 _ _ rfl) rfl (by first | assumption | exact S.2 _ _ _ rfl) ?_
    refine r_getP dX10_count_119 g_X10_192 (by first | assumption | exact S.1 _ _ rfl) rfl (by first | assumption | exact S.2 _ _ _ rfl) ?_
    refine r_getI dX10_count_122 g_X10_98 (by first | assumption | exact S.1 _ _ rfl) rfl ?_
    refine r_ireturn dX10_count_125 .int rfl rfl ?_
    refine ⟨_, rfl, ?_, R, cF_rf _, rfl, rfl⟩
    show _ = (if σ 24 0 = -1 then nI 0 else σ 24 0)
    have hW := R.2.2.2.2.1.2.1
    rcases V.2.2.2.2.1 with g | g
    · rw [if_pos g]
      rw [g] at hW
      exact hW
    · by_cases g0 : σ 24 0 = -1
      · rw [if_pos g0]
        rw [g0] at hW
        exact hW
      · rw [if_neg g0]
        exact hW.trans g.1.1.symm
  · refine r_tabIn (off := 125) 126 dX10_count_1 (by decide) (by decide) (by decide) (by decide) ?_
    refine r_aload_n dX10_count_126 rfl ?_
    refine r_getP dX10_count_127 g_X10_10 (by first | assumption | exact S.1 _ _ rfl) rfl (by first | assumption | exact S.2 _ _ _ rfl) ?_
    refine r_getP dX10_count_130 g_X10_199 (by first | assumption | exact S.1 _ _ rfl) rfl (by first | assumption | exact S.2 _ _ _ rfl) ?_
    refine r_getI dX10_count_133 g_X10_206 (by first | assumption | exact S.1 _ _ rfl) rfl ?_
    refine r_ireturn dX10_count_136 .int rfl rfl ?_
    refine ⟨_, rfl, ?_, R, cF_rf _, rfl, rfl⟩
    exact R.2.2.2.2.2.1
  · have hz0 : x ≠ nI 0 := fun h => hz (Or.inl h)
    have hz1 : x ≠ nI 1 := fun h => hz (Or.inr (Or.inl h))
    have hz2 : x ≠ nI 2 := fun h => hz (Or.inr (Or.inr (Or.inl h)))
    have hz3 : x ≠ nI 3 := fun h => hz (Or.inr (Or.inr (Or.inr (Or.inl h))))
    have hz4 : x ≠ nI 4 := fun h => hz (Or.inr (Or.inr (Or.inr (Or.inr (Or.inl h)))))
    have hz5 : x ≠ nI 5 := fun h => hz (Or.inr (Or.inr (Or.inr (Or.inr (Or.inr (h))))))
    have er : cn_res σ x = cif (∃ j, j < np σ ∧ x = nI (10 + j)) (σ 2 (nv x - 10)) (-1) := by rw [cn_res, if_neg hz0, if_neg hz1, if_neg hz2, if_neg hz3, if_neg hz4, if_neg hz5]
    rw [er]
    clear er hz hz0 hz1 hz2 hz3 hz4 hz5
    refine r_tabOut 137 dX10_count_1 hx (by decide) ?_
    refine r_iload_n dX10_count_137 rfl ?_
    refine r_bipush dX10_count_138 (v := nI 10) (by decide) ?_
    refine r_icmp_lt 175 dX10_count_140 (by decide) (fun h140 => ?_) (fun h140 => ?_)
    · have hc : ¬ ∃ j, j < np σ ∧ x = nI (10 + j) := by
        rintro ⟨j, hj, rfl⟩
        have := (nI_ltI (by omega) (by decide)).mp h140
        omega
      refine r_iconst dX10_count_175 (v := (-1)) kc_m1 ?_
      refine r_ireturn dX10_count_176 .int rfl rfl ?_
      refine ⟨_, rfl, ?_, R, cF_rf _, rfl, rfl⟩
      first | rw [cif_f hc] | (rw [cif_t hc, ex, nv_nI (by omega), Nat.add_sub_cancel_left]; exact (R.1.2 j hj).1.trans (V.1.sz (by omega)).1.symm)
    · refine r_aload_n dX10_count_143 rfl ?_
      refine r_getP dX10_count_144 g_X10_10 (by first | assumption | exact S.1 _ _ rfl) rfl (by first | assumption | exact S.2 _ _ _ rfl) ?_
      refine r_iload_n dX10_count_147 rfl ?_
      refine r_bipush dX10_count_148 (v := nI 10) (by decide) ?_
      refine r_isub dX10_count_150 ?_
      refine r_callV1 (fr' := 0) (lo' := 0) (mc' := 0) (ms' := 0) dX10_count_151 mm_X7_hasProgram mv_X7_hasProgram l_X10_47 (by first | assumption | exact S.1 _ _ rfl) mc_X7_hasProgram (by decide) ⟨by decide, by decide⟩ (Nat.zero_le _) (Nat.zero_le _) (Nat.le_of_ble_eq_true rfl) (c_X7_hasProgram (S.1 100 _ rfl) R.1.1 b1 _) (am_ki ?_)
      rintro v151 _ _ _ ⟨hb151, rfl, rfl, rfl⟩
      refine r_if_eq 175 dX10_count_154 (by decide) (fun h154 => ?_) (fun h154 => ?_)
      · replace h154 := hb151.f h154
        have hc : ¬ ∃ j, j < np σ ∧ x = nI (10 + j) := by
          rintro ⟨j, hj, rfl⟩
          exact h154 ⟨j, hj, by rw [pk_sub (by omega), Nat.add_sub_cancel_left]⟩
        refine r_iconst dX10_count_175 (v := (-1)) kc_m1 ?_
        refine r_ireturn dX10_count_176 .int rfl rfl ?_
        refine ⟨_, rfl, ?_, R, cF_rf _, rfl, rfl⟩
        first | rw [cif_f hc] | (rw [cif_t hc, ex, nv_nI (by omega), Nat.add_sub_cancel_left]; exact (R.1.2 j hj).1.trans (V.1.sz (by omega)).1.symm)
      · replace h154 := hb151.t h154
        obtain ⟨j, hj, ej⟩ := h154
        have ex : x = nI (10 + j) := by rw [Nat.add_comm, ← nI_add, ← ej, Int32.sub_add_cancel]
        have hc : ∃ j, j < np σ ∧ x = nI (10 + j) := ⟨j, hj, ex⟩
        obtain ⟨pp, Q⟩ := SPg_of S (show j < 3 by omega)
        have sp := Q.1
        refine r_aload_n dX10_count_157 rfl ?_
        refine r_getP dX10_count_158 g_X10_10 (by first | assumption | exact S.1 _ _ rfl) rfl (by first | assumption | exact S.2 _ _ _ rfl) ?_
        refine r_getP dX10_count_161 g_X10_38 (by first | assumption | exact S.1 _ _ rfl) rfl (by first | assumption | exact S.2 _ _ _ rfl) ?_
        refine r_iload_n dX10_count_164 rfl ?_
        refine r_bipush dX10_count_165 (v := nI 10) (by decide) ?_
        refine r_isub dX10_count_167 ?_
        rw [ej]
        refine r_aaloadP j dX10_count_168 (by first | assumption | exact S.1 _ _ rfl) rfl (by first | decide | omega) (by decide) (by first | assumption | exact S.2 _ _ _ rfl) ?_
        refine r_getI dX10_count_169 g_X10_58 (by first | assumption | exact S.1 _ _ rfl) rfl ?_
        refine r_goto 176 dX10_count_172 (by decide) ?_
        refine r_ireturn dX10_count_176 .int rfl rfl ?_
        refine ⟨_, rfl, ?_, R, cF_rf _, rfl, rfl⟩
        first | rw [cif_f hc] | (rw [cif_t hc, ex, nv_nI (by omega), Nat.add_sub_cancel_left]; exact (R.1.2 j hj).1.trans (V.1.sz (by omega)).1.symm)
end K8
