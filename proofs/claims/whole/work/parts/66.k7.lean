/-! the class: code, bytes, ran, had, feed, count -/
section K7
variable {sh : ASh} {I σ : AIn} {P : APt}
theorem c_X2_hasCode {q n : Nat} {T : Prop} (hs : sh q = (1, 1)) (ht : bo (I q 0) T) (hn : T → I q 2 = nI n ∧ n < 2147483648) (x : Int32) : am_R mX2_hasCode (po_i (fun v sh' I' P' => bo v (T ∧ inR x n) ∧ sh = sh' ∧ I = I' ∧ P = P')) 0 0 0 0 0 [some (.ref q), some (.int x)] [] sh I P := by
  refine r_aload_n dX2_hasCode_0 rfl ?_
  refine r_getI dX2_hasCode_1 g_X2_34 (by assumption) rfl ?_
  refine r_if_eq 23 dX2_hasCode_4 (by decide) (fun h4 => ?_) (fun h4 => ?_)
  · have hf : ¬ (T ∧ inR x n) := fun h => ht.f h4 h.1
    refine r_iconst dX2_hasCode_23 (v := nI 0) kc_0 ?_
    refine r_ireturn dX2_hasCode_24 .boolean rfl (by decide) ?_
    first | exact ⟨_, rfl, bo_1 ht, rfl, rfl, rfl⟩ | exact ⟨_, rfl, bo_0 hf, rfl, rfl, rfl⟩
  · obtain ⟨hn1, hn2⟩ := hn (ht.t h4)
    refine r_iload_n dX2_hasCode_7 rfl ?_
    refine r_if_lt 23 dX2_hasCode_8 (by decide) (fun h8 => ?_) (fun h8 => ?_)
    · have hf : ¬ (T ∧ inR x n) := fun h => inR_n0 hn2 h8 h.2
      refine r_iconst dX2_hasCode_23 (v := nI 0) kc_0 ?_
      refine r_ireturn dX2_hasCode_24 .boolean rfl (by decide) ?_
      first | exact ⟨_, rfl, bo_1 ht, rfl, rfl, rfl⟩ | exact ⟨_, rfl, bo_0 hf, rfl, rfl, rfl⟩
    · refine r_iload_n dX2_hasCode_11 rfl ?_
      refine r_aload_n dX2_hasCode_12 rfl ?_
      refine r_getI dX2_hasCode_13 g_X2_38 (by assumption) rfl ?_
      rw [hn1]
      refine r_icmp_ge 23 dX2_hasCode_16 (by decide) (fun h16 => ?_) (fun h16 => ?_)
      · have hf : ¬ (T ∧ inR x n) := fun h => inR_n1 hn2 h16 h.2
        refine r_iconst dX2_hasCode_23 (v := nI 0) kc_0 ?_
        refine r_ireturn dX2_hasCode_24 .boolean rfl (by decide) ?_
        first | exact ⟨_, rfl, bo_1 ht, rfl, rfl, rfl⟩ | exact ⟨_, rfl, bo_0 hf, rfl, rfl, rfl⟩
      · have ht : T ∧ inR x n := ⟨ht.t h4, inR_of hn2 h8 h16⟩
        refine r_iconst dX2_hasCode_19 (v := nI 1) kc_1 ?_
        refine r_goto 24 dX2_hasCode_20 (by decide) ?_
        refine r_ireturn dX2_hasCode_24 .boolean rfl (by decide) ?_
        first | exact ⟨_, rfl, bo_1 ht, rfl, rfl, rfl⟩ | exact ⟨_, rfl, bo_0 hf, rfl, rfl, rfl⟩
theorem c_X2_hasByte {q n : Nat} {T : Prop} (hs : sh q = (1, 1)) (ht : bo (I q 0) T) (hn : T → I q 6 = nI n ∧ n < 2147483648) (x : Int32) : am_R mX2_hasByte (po_i (fun v sh' I' P' => bo v (T ∧ inR x n) ∧ sh = sh' ∧ I = I' ∧ P = P')) 0 0 0 0 0 [some (.ref q), some (.int x)] [] sh I P := by
  refine r_aload_n dX2_hasByte_0 rfl ?_
  refine r_getI dX2_hasByte_1 g_X2_34 (by assumption) rfl ?_
  refine r_if_eq 23 dX2_hasByte_4 (by decide) (fun h4 => ?_) (fun h4 => ?_)
  · have hf : ¬ (T ∧ inR x n) := fun h => ht.f h4 h.1
    refine r_iconst dX2_hasByte_23 (v := nI 0) kc_0 ?_
    refine r_ireturn dX2_hasByte_24 .boolean rfl (by decide) ?_
    first | exact ⟨_, rfl, bo_1 ht, rfl, rfl, rfl⟩ | exact ⟨_, rfl, bo_0 hf, rfl, rfl, rfl⟩
  · obtain ⟨hn1, hn2⟩ := hn (ht.t h4)
    refine r_iload_n dX2_hasByte_7 rfl ?_
    refine r_if_lt 23 dX2_hasByte_8 (by decide) (fun h8 => ?_) (fun h8 => ?_)
    · have hf : ¬ (T ∧ inR x n) := fun h => inR_n0 hn2 h8 h.2
      refine r_iconst dX2_hasByte_23 (v := nI 0) kc_0 ?_
      refine r_ireturn dX2_hasByte_24 .boolean rfl (by decide) ?_
      first | exact ⟨_, rfl, bo_1 ht, rfl, rfl, rfl⟩ | exact ⟨_, rfl, bo_0 hf, rfl, rfl, rfl⟩
    · refine r_iload_n dX2_hasByte_11 rfl ?_
      refine r_aload_n dX2_hasByte_12 rfl ?_
      refine r_getI dX2_hasByte_13 g_X2_42 (by assumption) rfl ?_
      rw [hn1]
      refine r_icmp_ge 23 dX2_hasByte_16 (by decide) (fun h16 => ?_) (fun h16 => ?_)
      · have hf : ¬ (T ∧ inR x n) := fun h => inR_n1 hn2 h16 h.2
        refine r_iconst dX2_hasByte_23 (v := nI 0) kc_0 ?_
        refine r_ireturn dX2_hasByte_24 .boolean rfl (by decide) ?_
        first | exact ⟨_, rfl, bo_1 ht, rfl, rfl, rfl⟩ | exact ⟨_, rfl, bo_0 hf, rfl, rfl, rfl⟩
      · have ht : T ∧ inR x n := ⟨ht.t h4, inR_of hn2 h8 h16⟩
        refine r_iconst dX2_hasByte_19 (v := nI 1) kc_1 ?_
        refine r_goto 24 dX2_hasByte_20 (by decide) ?_
        refine r_ireturn dX2_hasByte_24 .boolean rfl (by decide) ?_
        first | exact ⟨_, rfl, bo_1 ht, rfl, rfl, rfl⟩ | exact ⟨_, rfl, bo_0 hf, rfl, rfl, rfl⟩
theorem iK.n {σ : AIn} (h : iK σ) (h2 : σ 11 0 ≠ -1) : isN (σ 11 0) 40 ∧ isN (σ 8 0) 40 ∧ isN (σ 13 0) 80 := by
  rcases h with g | g
  · exact absurd g h2
  · exact ⟨g.1, g.2.1, g.2.2.1⟩
theorem iR.n {σ : AIn} (h : iR σ) (h2 : σ 15 0 ≠ -1) : isN (σ 15 0) 3 ∧ isN (σ 19 0) 24 ∧ isN (σ 21 0) 40 := by
  rcases h with g | g
  · exact absurd g h2
  · exact g
theorem rpK.n (V : Inv σ) (R : RepS I 100 σ) (h : σ 11 0 ≠ -1) : (I 119 2 = nI (nv (σ 11 0)) ∧ nv (σ 11 0) < 2147483648) ∧ I 119 6 = nI (nv (σ 13 0)) ∧ nv (σ 13 0) < 2147483648 := by
  obtain ⟨a, b, c⟩ := V.2.2.1.n h
  obtain ⟨d, e, f⟩ := (R.2.2.1.2 h).1
  refine ⟨⟨?_, by have := a.2; omega⟩, ?_, by have := c.2; omega⟩
  · rw [d]; exact a.1
  · rw [e]; exact c.1
theorem c_X10_code (S : St_c sh P) (V : Inv σ) (R : RepS I 100 σ) (x y : Int32) : am_R mX10_code (cpo sh P I (σ) (cd_res σ x y)) 1 21 0 0 0 [some (.ref 60), some (.int x), some (.int y)] [] sh I P := by
  have b1 : np σ ≤ 3 := V.1.np.2
  have e1 : I 100 0 = nI (np σ) := R.1.1
  refine r_aload_n dX10_code_0 rfl ?_
  refine r_getP dX10_code_1 g_X10_10 (by first | assumption | exact S.1 _ _ rfl) rfl (by first | assumption | exact S.2 _ _ _ rfl) ?_
  refine r_getP dX10_code_4 g_X10_107 (by first | assumption | exact S.1 _ _ rfl) rfl (by first | assumption | exact S.2 _ _ _ rfl) ?_
  refine r_iload_n dX10_code_7 rfl ?_
  refine r_callV1 (fr' := 0) (lo' := 0) (mc' := 0) (ms' := 0) dX10_code_8 mm_X2_hasCode mv_X2_hasCode l_X10_120 (by first | assumption | exact S.1 _ _ rfl) mc_X2_hasCode (by decide) ⟨by decide, by decide⟩ (Nat.zero_le _) (Nat.zero_le _) (Nat.le_of_ble_eq_true rfl) (c_X2_hasCode (S.1 119 _ rfl) R.2.2.1.1 (fun h => (rpK.n V R h).1) _) (am_ki ?_)
  rintro v8 _ _ _ ⟨hb8, rfl, rfl, rfl⟩
  refine r_if_ne 16 dX10_code_11 (by decide) (fun h11 => ?_) (fun h11 => ?_)
  · replace h11 := hb8.t h11
    obtain ⟨ht, j, hj2, rfl⟩ := h11
    have hb := (V.2.2.1.n ht).1.2
    have hj : inR (nI j) (nv (σ 11 0)) := inR_nI hj2
    have ej : nv (nI j) = j := nv_nI (by omega)
    obtain ⟨r1, r2, r3⟩ := (R.2.2.1.2 ht).2.2.1 j hj2
    refine r_iload_n dX10_code_16 rfl ?_
    rcases sw_2 y with rfl | rfl | rfl | ⟨hz, hx⟩
    · refine r_tabIn (off := 27) 44 dX10_code_17 (by decide) (by decide) (by decide) (by decide) ?_
      refine r_aload_n dX10_code_44 rfl ?_
      refine r_getP dX10_code_45 g_X10_10 (by first | assumption | exact S.1 _ _ rfl) rfl (by first | assumption | exact S.2 _ _ _ rfl) ?_
      refine r_getP dX10_code_48 g_X10_107 (by first | assumption | exact S.1 _ _ rfl) rfl (by first | assumption | exact S.2 _ _ _ rfl) ?_
      refine r_getP dX10_code_51 g_X10_123 (by first | assumption | exact S.1 _ _ rfl) rfl (by first | assumption | exact S.2 _ _ _ rfl) ?_
      refine r_iload_n dX10_code_54 rfl ?_
      refine r_iaload j dX10_code_55 (by first | assumption | exact S.1 _ _ rfl) rfl (by first | decide | omega) (by decide) ?_
      refine r_ireturn dX10_code_56 .int rfl rfl ?_
      refine ⟨_, rfl, ?_, R, cF_rf _, rfl, rfl⟩
      rw [cd_res, cif_t ⟨hj, inR_nI (by decide)⟩, ej, nv_nI (by decide)]
      exact r1
    · refine r_tabIn (off := 40) 57 dX10_code_17 (by decide) (by decide) (by decide) (by decide) ?_
      refine r_aload_n dX10_code_57 rfl ?_
      refine r_getP dX10_code_58 g_X10_10 (by first | assumption | exact S.1 _ _ rfl) rfl (by first | assumption | exact S.2 _ _ _ rfl) ?_
      refine r_getP dX10_code_61 g_X10_107 (by first | assumption | exact S.1 _ _ rfl) rfl (by first | assumption | exact S.2 _ _ _ rfl) ?_
      refine r_getP dX10_code_64 g_X10_126 (by first | assumption | exact S.1 _ _ rfl) rfl (by first | assumption | exact S.2 _ _ _ rfl) ?_
      refine r_iload_n dX10_code_67 rfl ?_
      refine r_iaload j dX10_code_68 (by first | assumption | exact S.1 _ _ rfl) rfl (by first | decide | omega) (by decide) ?_
      refine r_ireturn dX10_code_69 .int rfl rfl ?_
      refine ⟨_, rfl, ?_, R, cF_rf _, rfl, rfl⟩
      rw [cd_res, cif_t ⟨hj, inR_nI (by decide)⟩, ej, nv_nI (by decide)]
      exact r2
    · refine r_tabIn (off := 53) 70 dX10_code_17 (by decide) (by decide) (by decide) (by decide) ?_
      refine r_aload_n dX10_code_70 rfl ?_
      refine r_getP dX10_code_71 g_X10_10 (by first | assumption | exact S.1 _ _ rfl) rfl (by first | assumption | exact S.2 _ _ _ rfl) ?_
      refine r_getP dX10_code_74 g_X10_107 (by first | assumption | exact S.1 _ _ rfl) rfl (by first | assumption | exact S.2 _ _ _ rfl) ?_
      refine r_getP dX10_code_77 g_X10_129 (by first | assumption | exact S.1 _ _ rfl) rfl (by first | assumption | exact S.2 _ _ _ rfl) ?_
      refine r_iload_n dX10_code_80 rfl ?_
      refine r_iaload j dX10_code_81 (by first | assumption | exact S.1 _ _ rfl) rfl (by first | decide | omega) (by decide) ?_
      refine r_ireturn dX10_code_82 .int rfl rfl ?_
      refine ⟨_, rfl, ?_, R, cF_rf _, rfl, rfl⟩
      rw [cd_res, cif_t ⟨hj, inR_nI (by decide)⟩, ej, nv_nI (by decide)]
      exact r3
    · refine r_tabOut 83 dX10_code_17 hx (by decide) ?_
      refine r_iconst dX10_code_83 (v := (-1)) kc_m1 ?_
      refine r_ireturn dX10_code_84 .int rfl rfl ?_
      refine ⟨_, rfl, ?_, R, cF_rf _, rfl, rfl⟩
      rw [cd_res, cif_f (fun h => ?_)]
      obtain ⟨-, i, hi, e⟩ := h
      apply hz
      rcases (show i = 0 ∨ i = 1 ∨ i = 2 by omega) with rfl | rfl | rfl
      · exact Or.inl e
      · exact Or.inr (Or.inl e)
      · exact Or.inr (Or.inr e)
  · replace h11 := hb8.f h11
    have hf : ¬ (inR x (nv (σ 11 0)) ∧ inR y 3) := fun h => h11 ⟨fun e => by rw [e] at h; exact absurd h.1 (by rintro ⟨j, hj, -⟩; exact Nat.not_lt_zero j hj), h.1⟩
    refine r_iconst dX10_code_14 (v := (-1)) kc_m1 ?_
    refine r_ireturn dX10_code_15 .int rfl rfl ?_
    refine ⟨_, rfl, ?_, R, cF_rf _, rfl, rfl⟩
    rw [cd_res, cif_f hf]
theorem c_X10_bytes (S : St_c sh P) (V : Inv σ) (R : RepS I 100 σ) (x : Int32) : am_R mX10_bytes (cpo sh P I (σ) (by_res σ x)) 1 21 0 0 0 [some (.ref 60), some (.int x)] [] sh I P := by
  have b1 : np σ ≤ 3 := V.1.np.2
  have e1 : I 100 0 = nI (np σ) := R.1.1
  refine r_aload_n dX10_bytes_0 rfl ?_
  refine r_getP dX10_bytes_1 g_X10_10 (by first | assumption | exact S.1 _ _ rfl) rfl (by first | assumption | exact S.2 _ _ _ rfl) ?_
  refine r_getP dX10_bytes_4 g_X10_107 (by first | assumption | exact S.1 _ _ rfl) rfl (by first | assumption | exact S.2 _ _ _ rfl) ?_
  refine r_iload_n dX10_bytes_7 rfl ?_
  refine r_callV1 (fr' := 0) (lo' := 0) (mc' := 0) (ms' := 0) dX10_bytes_8 mm_X2_hasByte mv_X2_hasByte l_X10_132 (by first | assumption | exact S.1 _ _ rfl) mc_X2_hasByte (by decide) ⟨by decide, by decide⟩ (Nat.zero_le _) (Nat.zero_le _) (Nat.le_of_ble_eq_true rfl) (c_X2_hasByte (S.1 119 _ rfl) R.2.2.1.1 (fun h => (rpK.n V R h).2) _) (am_ki ?_)
  rintro v8 _ _ _ ⟨hb8, rfl, rfl, rfl⟩
  refine r_if_eq 29 dX10_bytes_11 (by decide) (fun h11 => ?_) (fun h11 => ?_)
  · replace h11 := hb8.f h11
    have hf := h11
    refine r_iconst dX10_bytes_29 (v := (-1)) kc_m1 ?_
    refine r_ireturn dX10_bytes_30 .int rfl rfl ?_
    refine ⟨_, rfl, ?_, R, cF_rf _, rfl, rfl⟩
    first | rw [by_res, cif_f hf] | (rw [by_res, cif_t hc, ej]; exact r1)
  · replace h11 := hb8.t h11
    obtain ⟨ht, j, hj2, rfl⟩ := h11
    have hb := (V.2.2.1.n ht).2.2.2
    have ej : nv (nI j) = j := nv_nI (by omega)
    have hc : σ 11 0 ≠ -1 ∧ inR (nI j) (nv (σ 13 0)) := ⟨ht, inR_nI hj2⟩
    have r1 := (R.2.2.1.2 ht).2.2.2.1 j hj2
    refine r_aload_n dX10_bytes_14 rfl ?_
    refine r_getP dX10_bytes_15 g_X10_10 (by first | assumption | exact S.1 _ _ rfl) rfl (by first | assumption | exact S.2 _ _ _ rfl) ?_
    refine r_getP dX10_bytes_18 g_X10_107 (by first | assumption | exact S.1 _ _ rfl) rfl (by first | assumption | exact S.2 _ _ _ rfl) ?_
    refine r_getP dX10_bytes_21 g_X10_135 (by first | assumption | exact S.1 _ _ rfl) rfl (by first | assumption | exact S.2 _ _ _ rfl) ?_
    refine r_iload_n dX10_bytes_24 rfl ?_
    refine r_iaload j dX10_bytes_25 (by first | assumption | exact S.1 _ _ rfl) rfl (by first | decide | omega) (by decide) ?_
    refine r_goto 30 dX10_bytes_26 (by decide) ?_
    refine r_ireturn dX10_bytes_30 .int rfl rfl ?_
    refine ⟨_, rfl, ?_, R, cF_rf _, rfl, rfl⟩
    first | rw [by_res, cif_f hf] | (rw [by_res, cif_t hc, ej]; exact r1)
theorem c_X10_ran (S : St_c sh P) (V : Inv σ) (R : RepS I 100 σ) (x : Int32) : am_R mX10_ran (cpo sh P I (σ) (ra_res σ x)) 0 0 0 0 0 [some (.ref 60), some (.int x)] [] sh I P := by
  have b1 : np σ ≤ 3 := V.1.np.2
  have e1 : I 100 0 = nI (np σ) := R.1.1
  refine r_aload_n dX10_ran_0 rfl ?_
  refine r_getP dX10_ran_1 g_X10_10 (by first | assumption | exact S.1 _ _ rfl) rfl (by first | assumption | exact S.2 _ _ _ rfl) ?_
  refine r_getP dX10_ran_4 g_X10_144 (by first | assumption | exact S.1 _ _ rfl) rfl (by first | assumption | exact S.2 _ _ _ rfl) ?_
  refine r_getI dX10_ran_7 g_X10_156 (by first | assumption | exact S.1 _ _ rfl) rfl ?_
  refine r_if_ne 15 dX10_ran_10 (by decide) (fun h10 => ?_) (fun h10 => ?_)
  · have ht := R.2.2.2.1.1.t h10
    obtain ⟨r0, r1, r4, r2, r3⟩ := (R.2.2.2.1.2.2 ht).1
    refine r_iload_n dX10_ran_15 rfl ?_
    rcases sw_4 x with rfl | rfl | rfl | rfl | rfl | ⟨hz, hx⟩
    · refine r_tabIn (off := 36) 52 dX10_ran_16 (by decide) (by decide) (by decide) (by decide) ?_
      refine r_aload_n dX10_ran_52 rfl ?_
      refine r_getP dX10_ran_53 g_X10_10 (by first | assumption | exact S.1 _ _ rfl) rfl (by first | assumption | exact S.2 _ _ _ rfl) ?_
      refine r_getP dX10_ran_56 g_X10_144 (by first | assumption | exact S.1 _ _ rfl) rfl (by first | assumption | exact S.2 _ _ _ rfl) ?_
      refine r_getI dX10_ran_59 g_X10_157 (by first | assumption | exact S.1 _ _ rfl) rfl ?_
      refine r_ireturn dX10_ran_62 .int rfl rfl ?_
      refine ⟨_, rfl, ?_, R, cF_rf _, rfl, rfl⟩
      rw [ra_res, if_neg ht]
      exact r0
    · refine r_tabIn (off := 47) 63 dX10_ran_16 (by decide) (by decide) (by decide) (by decide) ?_
      refine r_aload_n dX10_ran_63 rfl ?_
      refine r_getP dX10_ran_64 g_X10_10 (by first | assumption | exact S.1 _ _ rfl) rfl (by first | assumption | exact S.2 _ _ _ rfl) ?_
      refine r_getP dX10_ran_67 g_X10_144 (by first | assumption | exact S.1 _ _ rfl) rfl (by first | assumption | exact S.2 _ _ _ rfl) ?_
      refine r_getI dX10_ran_70 g_X10_160 (by first | assumption | exact S.1 _ _ rfl) rfl ?_
      refine r_ireturn dX10_ran_73 .int rfl rfl ?_
      refine ⟨_, rfl, ?_, R, cF_rf _, rfl, rfl⟩
      rw [ra_res, if_neg ht]
      exact r1
    · refine r_tabIn (off := 58) 74 dX10_ran_16 (by decide) (by decide) (by decide) (by decide) ?_
      refine r_aload_n dX10_ran_74 rfl ?_
      refine r_getP dX10_ran_75 g_X10_10 (by first | assumption | exact S.1 _ _ rfl) rfl (by first | assumption | exact S.2 _ _ _ rfl) ?_
      refine r_getP dX10_ran_78 g_X10_144 (by first | assumption | exact S.1 _ _ rfl) rfl (by first | assumption | exact S.2 _ _ _ rfl) ?_
      refine r_getI dX10_ran_81 g_X10_163 (by first | assumption | exact S.1 _ _ rfl) rfl ?_
      refine r_ireturn dX10_ran_84 .int rfl rfl ?_
      refine ⟨_, rfl, ?_, R, cF_rf _, rfl, rfl⟩
      rw [ra_res, if_neg ht]
      exact r2
    · refine r_tabIn (off := 69) 85 dX10_ran_16 (by decide) (by decide) (by decide) (by decide) ?_
      refine r_aload_n dX10_ran_85 rfl ?_
      refine r_getP dX10_ran_86 g_X10_10 (by first | assumption | exact S.1 _ _ rfl) rfl (by first | assumption | exact S.2 _ _ _ rfl) ?_
      refine r_getP dX10_ran_89 g_X10_144 (by first | assumption | exact S.1 _ _ rfl) rfl (by first | assumption | exact S.2 _ _ _ rfl) ?_
      refine r_getI dX10_ran_92 g_X10_166 (by first | assumption | exact S.1 _ _ rfl) rfl ?_
      refine r_ireturn dX10_ran_95 .int rfl rfl ?_
      refine ⟨_, rfl, ?_, R, cF_rf _, rfl, rfl⟩
      rw [ra_res, if_neg ht]
      exact r3
    · refine r_tabIn (off := 80) 96 dX10_ran_16 (by decide) (by decide) (by decide) (by decide) ?_
      refine r_aload_n dX10_ran_96 rfl ?_
      refine r_getP dX10_ran_97 g_X10_10 (by first | assumption | exact S.1 _ _ rfl) rfl (by first | assumption | exact S.2 _ _ _ rfl) ?_
      refine r_getP dX10_ran_100 g_X10_144 (by first | assumption | exact S.1 _ _ rfl) rfl (by first | assumption | exact S.2 _ _ _ rfl) ?_
      refine r_getI dX10_ran_103 g_X10_169 (by first | assumption | exact S.1 _ _ rfl) rfl ?_
      refine r_ireturn dX10_ran_106 .int rfl rfl ?_
      refine ⟨_, rfl, ?_, R, cF_rf _, rfl, rfl⟩
      rw [ra_res, if_neg ht]
      exact r4
    · refine r_tabOut 107 dX10_ran_16 hx (by decide) ?_
      refine r_iconst dX10_ran_107 (v := (-1)) kc_m1 ?_
      refine r_ireturn dX10_ran_108 .int rfl rfl ?_
      refine ⟨_, rfl, ?_, R, cF_rf _, rfl, rfl⟩
      have hz0 : x ≠ nI 0 := fun h => hz (Or.inl h)
      have hz1 : x ≠ nI 1 := fun h => hz (Or.inr (Or.inl h))
      have hz2 : x ≠ nI 2 := fun h => hz (Or.inr (Or.inr (Or.inl h)))
      have hz3 : x ≠ nI 3 := fun h => hz (Or.inr (Or.inr (Or.inr (Or.inl h))))
      have hz4 : x ≠ nI 4 := fun h => hz (Or.inr (Or.inr (Or.inr (Or.inr (h)))))
      rw [ra_res, if_neg ht, if_neg hz0, if_neg hz1, if_neg hz2, if_neg hz3, if_neg hz4]
  · have hf : σ 15 0 = -1 := Classical.byContradiction (R.2.2.2.1.1.f h10)
    refine r_iconst dX10_ran_13 (v := (-1)) kc_m1 ?_
    refine r_ireturn dX10_ran_14 .int rfl rfl ?_
    refine ⟨_, rfl, ?_, R, cF_rf _, rfl, rfl⟩
    rw [ra_res, if_pos hf]
theorem c_X10_numberOf {q len n : Nat} (hs : sh q = (2, len)) (hl : len < 2147483648) (hn : n ≤ len) (x : Int32) : am_R mX10_numberOf (po_i (fun v sh' I' P' => v = cif (inR x n) (I q (nv x)) (nI 0) ∧ sh = sh' ∧ I = I' ∧ P = P')) 0 0 0 0 0 [some (.ref q), some (.int (nI n)), some (.int x)] [] sh I P := by
  refine r_iload_n dX10_numberOf_0 rfl ?_
  refine r_if_lt 15 dX10_numberOf_1 (by decide) (fun h1 => ?_) (fun h1 => ?_)
  · have hf := inR_n0 (n := n) (by omega) h1
    refine r_iconst dX10_numberOf_15 (v := nI 0) kc_0 ?_
    refine r_ireturn dX10_numberOf_16 .int rfl rfl ?_
    first | exact ⟨_, rfl, by rw [cif_f hf], rfl, rfl, rfl⟩ | exact ⟨_, rfl, by rw [cif_t hc, ej], rfl, rfl, rfl⟩
  · refine r_iload_n dX10_numberOf_4 rfl ?_
    refine r_iload_n dX10_numberOf_5 rfl ?_
    refine r_icmp_ge 15 dX10_numberOf_6 (by decide) (fun h6 => ?_) (fun h6 => ?_)
    · have hf := inR_n1 (n := n) (by omega) h6
      refine r_iconst dX10_numberOf_15 (v := nI 0) kc_0 ?_
      refine r_ireturn dX10_numberOf_16 .int rfl rfl ?_
      first | exact ⟨_, rfl, by rw [cif_f hf], rfl, rfl, rfl⟩ | exact ⟨_, rfl, by rw [cif_t hc, ej], rfl, rfl, rfl⟩
    · obtain ⟨j, hj, rfl⟩ := inR_of (n := n) (by omega) h1 h6
      have hc : inR (nI j) n := inR_nI hj
      have ej : nv (nI j) = j := nv_nI (by omega)
      refine r_aload_n dX10_numberOf_9 rfl ?_
      refine r_iload_n dX10_numberOf_10 rfl ?_
      refine r_iaload j dX10_numberOf_11 hs rfl (by omega) hl ?_
      refine r_goto 16 dX10_numberOf_12 (by decide) ?_
      refine r_ireturn dX10_numberOf_16 .int rfl rfl ?_
      first | exact ⟨_, rfl, by rw [cif_f hf], rfl, rfl, rfl⟩ | exact ⟨_, rfl, by rw [cif_t hc, ej], rfl, rfl, rfl⟩
/-- what the latest run left, or the beginning -/
theorem rpR.pile (V : Inv σ) (R : RepS I 100 σ) : ∃ n, n ≤ 24 ∧ I 130 4 = nI n ∧ ∀ x, cif (inR x n) (I 131 (nv x)) (nI 0) = if σ 15 0 = -1 then nI 0 else cif (inR x (nv (σ 19 0))) (σ 20 (nv x)) (nI 0) := by
  by_cases h : σ 15 0 = -1
  · refine ⟨0, by decide, (R.2.2.2.1.2.1 h).1, fun x => ?_⟩
    rw [if_pos h, cif_f (by rintro ⟨j, hj, -⟩; exact Nat.not_lt_zero j hj)]
  · obtain ⟨-, a, -⟩ := V.2.2.2.1.n h
    obtain ⟨⟨-, -, -, b, -⟩, c, -⟩ := R.2.2.2.1.2.2 h
    refine ⟨nv (σ 19 0), a.2, by rw [b]; exact a.1, fun x => ?_⟩
    rw [if_neg h]
    by_cases hx : inR x (nv (σ 19 0))
    · rw [cif_t hx, cif_t hx]
      exact c _ (hx.nv (by have := a.2; omega)).2
    · rw [cif_f hx, cif_f hx]
theorem rpR.out (V : Inv σ) (R : RepS I 100 σ) : ∃ n, n ≤ 40 ∧ I 130 6 = nI n ∧ ∀ x, cif (inR x n) (I 132 (nv x)) (nI 0) = if σ 15 0 = -1 then nI 0 else cif (inR x (nv (σ 21 0))) (σ 22 (nv x)) (nI 0) := by
  by_cases h : σ 15 0 = -1
  · refine ⟨0, by decide, (R.2.2.2.1.2.1 h).2.1, fun x => ?_⟩
    rw [if_pos h, cif_f (by rintro ⟨j, hj, -⟩; exact Nat.not_lt_zero j hj)]
  · obtain ⟨-, -, a⟩ := V.2.2.2.1.n h
    obtain ⟨⟨-, -, -, -, b⟩, -, c, -⟩ := R.2.2.2.1.2.2 h
    refine ⟨nv (σ 21 0), a.2, by rw [b]; exact a.1, fun x => ?_⟩
    rw [if_neg h]
    by_cases hx : inR x (nv (σ 21 0))
    · rw [cif_t hx, cif_t hx]
      exact c _ (hx.nv (by have := a.2; omega)).2
    · rw [cif_f hx, cif_f hx]
theorem rpR.reg (V : Inv σ) (R : RepS I 100 σ) (x : Int32) : cif (inR x 8) (I 133 (nv x)) (nI 0) = if σ 15 0 = -1 then nI 0 else cif (inR x 8) (σ 23 (nv x)) (nI 0) := by
  by_cases hx : inR x 8
  · have hj := (hx.nv (by decide)).2
    rw [cif_t hx, cif_t hx]
    by_cases h : σ 15 0 = -1
    · rw [if_pos h]; exact (R.2.2.2.1.2.1 h).2.2 _ hj
    · rw [if_neg h]; exact (R.2.2.2.1.2.2 h).2.2.2 _ hj
  · rw [cif_f hx, cif_f hx]
    split <;> rfl
theorem ha_as (x y : Int32) : ha_res σ x y = if x = nI 0 then (if σ 15 0 = -1 then nI 0 else cif (inR y (nv (σ 19 0))) (σ 20 (nv y)) (nI 0)) else if x = nI 1 then (if σ 15 0 = -1 then nI 0 else cif (inR y (nv (σ 21 0))) (σ 22 (nv y)) (nI 0)) else if x = nI 2 then (if σ 15 0 = -1 then nI 0 else cif (inR y 8) (σ 23 (nv y)) (nI 0)) else nI 0 := by
  unfold ha_res
  by_cases h : σ 15 0 = -1
  · simp only [if_pos h]
    split
    · rfl
    · split
      · rfl
      · split <;> rfl
  · simp only [if_neg h]
theorem c_X10_had (S : St_c sh P) (V : Inv σ) (R : RepS I 100 σ) (x y : Int32) : am_R mX10_had (cpo sh P I (σ) (ha_res σ x y)) 1 22 0 0 0 [some (.ref 60), some (.int x), some (.int y)] [] sh I P := by
  have b1 : np σ ≤ 3 := V.1.np.2
  have e1 : I 100 0 = nI (np σ) := R.1.1
  refine r_iload_n dX10_had_0 rfl ?_
  rw [ha_as]
  rcases sw_2 x with rfl | rfl | rfl | ⟨hz, hx⟩
  · obtain ⟨n, hn, en, ee⟩ := rpR.pile V R
    rw [if_pos rfl]
    refine r_tabIn (off := 27) 28 dX10_had_1 (by decide) (by decide) (by decide) (by decide) ?_
    refine r_aload_n dX10_had_28 rfl ?_
    refine r_getP dX10_had_29 g_X10_10 (by first | assumption | exact S.1 _ _ rfl) rfl (by first | assumption | exact S.2 _ _ _ rfl) ?_
    refine r_getP dX10_had_32 g_X10_144 (by first | assumption | exact S.1 _ _ rfl) rfl (by first | assumption | exact S.2 _ _ _ rfl) ?_
    refine r_getP dX10_had_35 g_X10_172 (by first | assumption | exact S.1 _ _ rfl) rfl (by first | assumption | exact S.2 _ _ _ rfl) ?_
    refine r_aload_n dX10_had_38 rfl ?_
    refine r_getP dX10_had_39 g_X10_10 (by first | assumption | exact S.1 _ _ rfl) rfl (by first | assumption | exact S.2 _ _ _ rfl) ?_
    refine r_getP dX10_had_42 g_X10_144 (by first | assumption | exact S.1 _ _ rfl) rfl (by first | assumption | exact S.2 _ _ _ rfl) ?_
    refine r_getI dX10_had_45 g_X10_163 (by first | assumption | exact S.1 _ _ rfl) rfl ?_
    rw [en]
    refine r_iload_n dX10_had_48 rfl ?_
    refine r_callS3 (fr' := 0) (lo' := 0) (mc' := 0) (ms' := 0) dX10_had_49 mm_X10_numberOf ms_X10_numberOf l_X10_175 (by decide) ⟨by decide, by decide⟩ (Nat.zero_le _) (Nat.zero_le _) (Nat.le_of_ble_eq_true rfl) (c_X10_numberOf (S.1 131 _ rfl) (by decide) hn _) (am_ki ?_)
    rintro v _ _ _ ⟨rfl, rfl, rfl, rfl⟩
    refine r_ireturn dX10_had_52 .int rfl rfl ?_
    refine ⟨_, rfl, ?_, R, cF_rf _, rfl, rfl⟩
    exact ee y
  · obtain ⟨n, hn, en, ee⟩ := rpR.out V R
    rw [if_neg (by decide), if_pos rfl]
    refine r_tabIn (off := 52) 53 dX10_had_1 (by decide) (by decide) (by decide) (by decide) ?_
    refine r_aload_n dX10_had_53 rfl ?_
    refine r_getP dX10_had_54 g_X10_10 (by first | assumption | exact S.1 _ _ rfl) rfl (by first | assumption | exact S.2 _ _ _ rfl) ?_
    refine r_getP dX10_had_57 g_X10_144 (by first | assumption | exact S.1 _ _ rfl) rfl (by first | assumption | exact S.2 _ _ _ rfl) ?_
    refine r_getP dX10_had_60 g_X10_179 (by first | assumption | exact S.1 _ _ rfl) rfl (by first | assumption | exact S.2 _ _ _ rfl) ?_
    refine r_aload_n dX10_had_63 rfl ?_
    refine r_getP dX10_had_64 g_X10_10 (by first | assumption | exact S.1 _ _ rfl) rfl (by first | assumption | exact S.2 _ _ _ rfl) ?_
    refine r_getP dX10_had_67 g_X10_144 (by first | assumption | exact S.1 _ _ rfl) rfl (by first | assumption | exact S.2 _ _ _ rfl) ?_
    refine r_getI dX10_had_70 g_X10_166 (by first | assumption | exact S.1 _ _ rfl) rfl ?_
    rw [en]
    refine r_iload_n dX10_had_73 rfl ?_
    refine r_callS3 (fr' := 0) (lo' := 0) (mc' := 0) (ms' := 0) dX10_had_74 mm_X10_numberOf ms_X10_numberOf l_X10_175 (by decide) ⟨by decide, by decide⟩ (Nat.zero_le _) (Nat.zero_le _) (Nat.le_of_ble_eq_true rfl) (c_X10_numberOf (S.1 132 _ rfl) (by decide) hn _) (am_ki ?_)
    rintro v _ _ _ ⟨rfl, rfl, rfl, rfl⟩
    refine r_ireturn dX10_had_77 .int rfl rfl ?_
    refine ⟨_, rfl, ?_, R, cF_rf _, rfl, rfl⟩
    exact ee y
  · rw [if_neg (by decide), if_neg (by decide), if_pos rfl]
    refine r_tabIn (off := 77) 78 dX10_had_1 (by decide) (by decide) (by decide) (by decide) ?_
    refine r_aload_n dX10_had_78 rfl ?_
    refine r_getP dX10_had_79 g_X10_10 (by first | assumption | exact S.1 _ _ rfl) rfl (by first | assumption | exact S.2 _ _ _ rfl) ?_
    refine r_getP dX10_had_82 g_X10_144 (by first | assumption | exact S.1 _ _ rfl) rfl (by first | assumption | exact S.2 _ _ _ rfl) ?_
    refine r_getP dX10_had_85 g_X10_182 (by first | assumption | exact S.1 _ _ rfl) rfl (by first | assumption | exact S.2 _ _ _ rfl) ?_
    refine r_bipush dX10_had_88 (v := nI 8) (by decide) ?_
    refine r_iload_n dX10_had_90 rfl ?_
    refine r_callS3 (fr' := 0) (lo' := 0) (mc' := 0) (ms' := 0) dX10_had_91 mm_X10_numberOf ms_X10_numberOf l_X10_175 (by decide) ⟨by decide, by decide⟩ (Nat.zero_le _) (Nat.zero_le _) (Nat.le_of_ble_eq_true rfl) (c_X10_numberOf (S.1 133 _ rfl) (by decide) (Nat.le_refl 8) _) (am_ki ?_)
    rintro v _ _ _ ⟨rfl, rfl, rfl, rfl⟩
    refine r_ireturn dX10_had_94 .int rfl rfl ?_
    refine ⟨_, rfl, ?_, R, cF_rf _, rfl, rfl⟩
    exact rpR.reg V R y
  · have hz0 : x ≠ nI 0 := fun h => hz (Or.inl h)
    have hz1 : x ≠ nI 1 := fun h => hz (Or.inr (Or.inl h))
    have hz2 : x ≠ nI 2 := fun h => hz (Or.inr (Or.inr (h)))
    rw [if_neg hz0, if_neg hz1, if_neg hz2]
    refine r_tabOut 95 dX10_had_1 hx (by decide) ?_
    refine r_iconst dX10_had_95 (v := nI 0) kc_0 ?_
    refine r_ireturn dX10_had_96 .int rfl rfl ?_
    refine ⟨_, rfl, ?_, R, cF_rf _, rfl, rfl⟩
    rfl
theorem fe_u (x : Int32) {i : Nat} (hi : i < 4) : ((x.toUInt32 >>> ((nI 24 - nI 8 * nI i).toUInt32 &&& Int32.toUInt32 31)).toInt32 &&& nI 255) = fe_b x i := by
  unfold fe_b
  have cond : ∀ y : Int32, y.toInt = if 2 * y.toBitVec.toNat < 2 ^ 32 then (y.toBitVec.toNat : Int) else (y.toBitVec.toNat : Int) - (2 ^ 32 : Nat) := fun y => BitVec.toInt_eq_toNat_cond y.toBitVec
  have key : ∀ (s : Int32) (k : Nat), (k = 0 ∨ k = 8 ∨ k = 16 ∨ k = 24) → ((s.toUInt32 &&& Int32.toUInt32 31).toBitVec % 32).toNat = k → ((s &&& 31).toBitVec.smod 32).toNat = k → ((x.toUInt32 >>> (s.toUInt32 &&& Int32.toUInt32 31)).toInt32 &&& nI 255) = ((x >>> (s &&& 31)) &&& nI 255) := by
    intro s k hk h1 h2
    rw [pk_and _ 8 (by decide), pk_and _ 8 (by decide), pk_ushr x s k h1]
    have h3 := pk_shr x (s &&& 31) k h2
    rw [Int.shiftRight_eq_div_pow] at h3
    have h4 := cond (x >>> (s &&& 31))
    have h5 := cond x
    have h6 := (x >>> (s &&& 31)).toBitVec.isLt
    have h7 := x.toBitVec.isLt
    generalize (x >>> (s &&& 31)).toBitVec.toNat = u at h4 h6 ⊢
    generalize x.toBitVec.toNat = w at h5 h7 ⊢
    generalize (x >>> (s &&& 31)).toInt = a at h3 h4
    generalize x.toInt = b at h3 h5
    congr 1
    rcases hk with rfl | rfl | rfl | rfl
    · split at h4 <;> split at h5 <;> omega
    · split at h4 <;> split at h5 <;> omega
    · split at h4 <;> split at h5 <;> omega
    · split at h4 <;> split at h5 <;> omega
  rcases (show i = 0 ∨ i = 1 ∨ i = 2 ∨ i = 3 by omega) with rfl | rfl | rfl | rfl
  · exact key (nI 24 - nI 8 * nI 0) 24 (by omega) (by decide) (by decide)
  · exact key (nI 24 - nI 8 * nI 1) 16 (by omega) (by decide) (by decide)
  · exact key (nI 24 - nI 8 * nI 2) 8 (by omega) (by decide) (by decide)
  · exact key (nI 24 - nI 8 * nI 3) 0 (by omega) (by decide) (by decide)
end K7
