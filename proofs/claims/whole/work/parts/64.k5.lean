/-! the class: program, order, change, tell -/
section K5
variable {sh : ASh} {I σ : AIn} {P : APt}
theorem c_X7_hasProgram {B n : Nat} (hs : sh B = (1, 5)) (hn : I B 0 = nI n) (hn3 : n ≤ 3) (x : Int32) : am_R mX7_hasProgram (po_i (fun v sh' I' P' => bo v (inR x n) ∧ sh = sh' ∧ I = I' ∧ P = P')) 0 0 0 0 0 [some (.ref B), some (.int x)] [] sh I P := by
  refine r_iload_n dX7_hasProgram_0 rfl ?_
  refine r_if_lt 16 dX7_hasProgram_1 (by decide) (fun h1 => ?_) (fun h1 => ?_)
  · have hf := inR_n0 (n := n) (by omega) h1
    refine r_iconst dX7_hasProgram_16 (v := nI 0) kc_0 ?_
    refine r_ireturn dX7_hasProgram_17 .boolean rfl (by decide) ?_
    first | exact ⟨_, rfl, bo_1 ht, rfl, rfl, rfl⟩ | exact ⟨_, rfl, bo_0 hf, rfl, rfl, rfl⟩
  · refine r_iload_n dX7_hasProgram_4 rfl ?_
    refine r_aload_n dX7_hasProgram_5 rfl ?_
    refine r_getI dX7_hasProgram_6 g_X7_47 (by assumption) rfl ?_
    rw [hn]
    refine r_icmp_ge 16 dX7_hasProgram_9 (by decide) (fun h9 => ?_) (fun h9 => ?_)
    · have hf := inR_n1 (n := n) (by omega) h9
      refine r_iconst dX7_hasProgram_16 (v := nI 0) kc_0 ?_
      refine r_ireturn dX7_hasProgram_17 .boolean rfl (by decide) ?_
      first | exact ⟨_, rfl, bo_1 ht, rfl, rfl, rfl⟩ | exact ⟨_, rfl, bo_0 hf, rfl, rfl, rfl⟩
    · have ht := inR_of (n := n) (by omega) h1 h9
      refine r_iconst dX7_hasProgram_12 (v := nI 1) kc_1 ?_
      refine r_goto 17 dX7_hasProgram_13 (by decide) ?_
      refine r_ireturn dX7_hasProgram_17 .boolean rfl (by decide) ?_
      first | exact ⟨_, rfl, bo_1 ht, rfl, rfl, rfl⟩ | exact ⟨_, rfl, bo_0 hf, rfl, rfl, rfl⟩
theorem c_X7_hasOrder (S : St_c sh P) (V : Inv σ) (R : RepS I 100 σ) (x y : Int32) : am_R mX7_hasOrder (po_i (fun v sh' I' P' => bo v (inR x (np σ) ∧ inR y (sz σ (nv x))) ∧ sh = sh' ∧ I = I' ∧ P = P')) 1 21 0 0 0 [some (.ref 100), some (.int x), some (.int y)] [] sh I P := by
  have b1 : np σ ≤ 3 := V.1.np.2
  refine r_aload_n dX7_hasOrder_0 rfl ?_
  refine r_iload_n dX7_hasOrder_1 rfl ?_
  refine r_callV1 (fr' := 0) (lo' := 0) (mc' := 0) (ms' := 0) dX7_hasOrder_2 mm_X7_hasProgram mv_X7_hasProgram l_X7_51 (by first | assumption | exact S.1 _ _ rfl) mc_X7_hasProgram (by decide) ⟨by decide, by decide⟩ (Nat.zero_le _) (Nat.zero_le _) (Nat.le_of_ble_eq_true rfl) (c_X7_hasProgram (S.1 100 _ rfl) R.1.1 b1 _) (am_ki ?_)
  rintro v2 _ _ _ ⟨hb2, rfl, rfl, rfl⟩
  refine r_if_eq 25 dX7_hasOrder_5 (by decide) (fun h5 => ?_) (fun h5 => ?_)
  · replace h5 := hb2.f h5
    have hf : ¬ (inR x (np σ) ∧ inR y (sz σ (nv x))) := fun h => h5 h.1
    refine r_iconst dX7_hasOrder_25 (v := nI 0) kc_0 ?_
    refine r_ireturn dX7_hasOrder_26 .boolean rfl (by decide) ?_
    first | exact ⟨_, rfl, bo_1 ht, rfl, rfl, rfl⟩ | exact ⟨_, rfl, bo_0 hf, rfl, rfl, rfl⟩
  · replace h5 := hb2.t h5
    obtain ⟨p, hp, rfl⟩ := h5
    obtain ⟨pp, Q⟩ := SPg_of S (show p < 3 by omega)
    have sp := Q.1
    have enp : nv (nI p) = p := nv_nI (by omega)
    rw [enp]
    refine r_aload_n dX7_hasOrder_8 rfl ?_
    refine r_getP dX7_hasOrder_9 g_X7_11 (by first | assumption | exact S.1 _ _ rfl) rfl (by first | assumption | exact S.2 _ _ _ rfl) ?_
    refine r_iload_n dX7_hasOrder_12 rfl ?_
    refine r_aaloadP p dX7_hasOrder_13 (by first | assumption | exact S.1 _ _ rfl) rfl (by first | decide | omega) (by decide) (by first | assumption | exact S.2 _ _ _ rfl) ?_
    refine r_iload_n dX7_hasOrder_14 rfl ?_
    refine r_callV1 (fr' := 0) (lo' := 0) (mc' := 0) (ms' := 0) dX7_hasOrder_15 mm_X3_has mv_X3_has l_X7_55 (by first | assumption | exact S.1 _ _ rfl) mc_X3_has (by decide) ⟨by decide, by decide⟩ (Nat.zero_le _) (Nat.zero_le _) (Nat.le_of_ble_eq_true rfl) (c_X3_has Q (R.1.2 p hp).1 (V.1.sz (by omega)).2 _) (am_ki ?_)
    rintro v15 _ _ _ ⟨hb15, rfl, rfl, rfl⟩
    refine r_if_eq 25 dX7_hasOrder_18 (by decide) (fun h18 => ?_) (fun h18 => ?_)
    · replace h18 := hb15.f h18
      have hf : ¬ (inR (nI p) (np σ) ∧ inR y (sz σ p)) := fun h => h18 h.2
      refine r_iconst dX7_hasOrder_25 (v := nI 0) kc_0 ?_
      refine r_ireturn dX7_hasOrder_26 .boolean rfl (by decide) ?_
      first | exact ⟨_, rfl, bo_1 ht, rfl, rfl, rfl⟩ | exact ⟨_, rfl, bo_0 hf, rfl, rfl, rfl⟩
    · replace h18 := hb15.t h18
      have ht : (inR (nI p) (np σ) ∧ inR y (sz σ p)) := ⟨inR_nI hp, h18⟩
      refine r_iconst dX7_hasOrder_21 (v := nI 1) kc_1 ?_
      refine r_goto 26 dX7_hasOrder_22 (by decide) ?_
      refine r_ireturn dX7_hasOrder_26 .boolean rfl (by decide) ?_
      first | exact ⟨_, rfl, bo_1 ht, rfl, rfl, rfl⟩ | exact ⟨_, rfl, bo_0 hf, rfl, rfl, rfl⟩
theorem PgN_app {I H H' : AIn} {q n : Nat} {kd ag tm : Nat → Int32} {x a : Int32} (hP : PgN I q n kd ag tm) (hx : inR x 16) (ha : aOk (nv x) a) (hn : n < 40) (hA : apH I q n x a H) (hF : ∀ r, r ≠ q + 3 → H' r = H r) (h3 : ∀ t, t < 40 → H' (q + 3) t = nI 0) : PgN H' q (n + 1) (upd kd n x) (upd ag n a) (fun _ => nI 0) := by
  obtain ⟨a0, a1, a2, a3, a4⟩ := hA
  obtain ⟨k, hk, rfl⟩ := hx
  have enk : nv (nI k) = k := nv_nI (by omega)
  rw [enk] at a4 ha
  refine ⟨by rw [hF q (by omega)]; exact a1, fun j hj => ?_, fun t ht => ?_⟩
  · rw [hF (q + 1) (by omega), hF (q + 2) (by omega), a2, a3]
    refine ⟨?_, ?_, h3 j (by omega)⟩
    · by_cases e : j = n
      · subst e; rw [pk_us, pk_us]
      · rw [pk_un e, pk_un e]; exact (hP.2.1 j (by omega)).1
    · by_cases e : j = n
      · subst e; rw [pk_us, pk_us]
      · rw [pk_un e, pk_un e]; exact (hP.2.1 j (by omega)).2.1
  · have h0 : cnt n (upd kd n (nI k)) (upd ag n a) t = cnt n kd ag t := cnt_congr (fun j hj => ⟨pk_un (by omega), pk_un (by omega)⟩)
    rw [hF (q + 4) (by omega), a4, cnt_s, h0, pk_us, pk_us]
    have e9 : (nI k = nI 9 ∨ nI k = nI 10) ↔ (k = 9 ∨ k = 10) := by rw [nI_eq (by omega) (by decide), nI_eq (by omega) (by decide)]
    simp only [e9]
    by_cases hl : k = 9 ∨ k = 10
    · obtain ⟨u, hu, rfl⟩ := aOk_39 ha hl
      have enu : nv (nI u) = u := nv_nI (by omega)
      rw [if_pos hl, enu]
      by_cases e : t = u
      · subst e
        rw [pk_us, hP.2.2 t ht, nI_add, if_pos ⟨hl, rfl⟩]
      · rw [pk_un e, hP.2.2 t ht, if_neg (fun h => e ((nI_eq (by omega) (by omega)).mp h.2).symm)]
        rfl
    · rw [if_neg hl, if_neg (fun h => hl h.1), hP.2.2 t ht]
      rfl
theorem PgN_rep {I H H' : AIn} {q n j k : Nat} {kd ag tm : Nat → Int32} {a : Int32} (hP : PgN I q n kd ag tm) (hj : j < n) (hn : n ≤ 40) (hk : kd j = nI k) (hk6 : k < 16) (hb : aOk k (ag j)) (ha : aOk k a) (hA : rpH I q k j (ag j) a H) (hF : ∀ r, r ≠ q + 3 → H' r = H r) (h3 : ∀ t, t < 40 → H' (q + 3) t = nI 0) : PgN H' q n kd (upd ag j a) (fun _ => nI 0) := by
  obtain ⟨a0, a1, a2⟩ := hA
  refine ⟨by rw [hF q (by omega), a0 q (by omega) (by omega)]; exact hP.1, fun i hi => ?_, fun t ht => ?_⟩
  · rw [hF (q + 1) (by omega), hF (q + 2) (by omega), a0 (q + 1) (by omega) (by omega), a1]
    refine ⟨(hP.2.1 i hi).1, ?_, h3 i (by omega)⟩
    by_cases e : i = j
    · subst e; rw [pk_us, pk_us]
    · rw [pk_un e, pk_un e]; exact (hP.2.1 i hi).2.1
  · rw [hF (q + 4) (by omega), a2]
    have e9 : (kd j = nI 9 ∨ kd j = nI 10) ↔ (k = 9 ∨ k = 10) := by rw [hk, nI_eq (by omega) (by decide), nI_eq (by omega) (by decide)]
    by_cases hl : k = 9 ∨ k = 10
    · rw [if_pos hl]
      have hc := cnt_up (ag := ag) (a := a) (t := t) hj (e9.mpr hl)
      have hcl := cnt_le kd ag t n
      have hp := hP.2.2 t ht
      obtain ⟨u, hu, eu⟩ := aOk_39 hb hl
      obtain ⟨w, hw, rfl⟩ := aOk_39 ha hl
      have c1 : 0 < cnt n kd ag u := cnt_pos.mpr ⟨j, hj, e9.mpr hl, eu⟩
      rw [eu, nv_nI (by omega), nv_nI (by omega)]
      rw [eu] at hc
      have q1 : nI u = nI t ↔ t = u := by rw [nI_eq (by omega) (by omega)]; omega
      have q2 : nI w = nI t ↔ t = w := by rw [nI_eq (by omega) (by omega)]; omega
      simp only [q1, q2] at hc
      by_cases e2 : t = w
      · subst e2
        rw [pk_us]
        rw [if_pos rfl] at hc
        by_cases e1 : t = u
        · subst e1
          rw [if_pos rfl] at hc
          rw [pk_us, hp, pk_sub (by omega), nI_add]
          congr 1; omega
        · rw [if_neg e1] at hc
          rw [pk_un e1, hp, nI_add]
          congr 1; omega
      · rw [pk_un e2]
        rw [if_neg e2] at hc
        by_cases e1 : t = u
        · subst e1
          rw [if_pos rfl] at hc
          rw [pk_us, hp, pk_sub (by omega)]
          congr 1; omega
        · rw [if_neg e1] at hc
          rw [pk_un e1, hp]
          congr 1; omega
    · rw [if_neg hl, cnt_nl (fun h => hl (e9.mp h))]
      exact hP.2.2 t ht
theorem fgt_5 {σ : AIn} {p p' k : Nat} (hk : k < 40) : fgt σ p 5 (40 * p' + k) = if p' = p then 0 else σ 5 (40 * p' + k) := by
  show (if 40 * p ≤ 40 * p' + k ∧ 40 * p' + k < 40 * p + 40 then (0 : Int32) else σ 5 (40 * p' + k)) = _
  by_cases e : p' = p
  · rw [if_pos e, if_pos (by omega)]
  · rw [if_neg e, if_neg (by omega)]
theorem p_fin {H : AIn} (V : Inv σ) (R : RepS I 100 σ) (hn : np σ < 3) (hF : ∀ r, r ≠ 102 + 5 * np σ → r ≠ 102 + 5 * np σ + 3 → r ≠ 102 + 5 * np σ + 4 → H r = I r) (h0 : H (102 + 5 * np σ) 0 = nI 0) (h3 : ∀ t, t < 40 → H (102 + 5 * np σ + 3) t = nI 0) (h4 : ∀ t, t < 40 → H (102 + 5 * np σ + 4) t = nI 0) : RepS (va_up H 100 (upd (H 100) 0 (nI (np σ + 1)))) 100 (p_op σ) ∧ cF (va_up H 100 (upd (H 100) 0 (nI (np σ + 1)))) I := by
  have hG : ∀ r, r ≠ 100 → r < 102 ∨ 116 < r → va_up H 100 (upd (H 100) 0 (nI (np σ + 1))) r = I r := fun r a b => by
    rw [va_up_ne _ _ a, hF r (by omega) (by omega) (by omega)]
  unfold p_op
  rw [cif_f (by omega)]
  have en : np (fgt (va_up (va_up σ 1 (upd (σ 1) 0 (nI (np σ + 1)))) 2 (upd (σ 2) (np σ) (nI 0))) (np σ)) = np σ + 1 := nv_nI (by omega)
  refine ⟨⟨?_, rpJ_σ (rpJ_fr R.2.1 (fun r h1 h2 => hG r (by omega) (by omega))) rfl rfl, rpK_σ (rpK_fr R.2.2.1 (fun r h1 h2 => hG r (by omega) (by omega))) rfl rfl rfl rfl rfl rfl rfl, rpR_σ (rpR_fr R.2.2.2.1 (fun r h1 h2 => hG r (by omega) (by omega))) rfl rfl rfl rfl rfl rfl rfl rfl rfl, rpW_σ (rpW_fr R.2.2.2.2.1 (by rw [va_up_self, pk_un (by decide), hF 100 (by omega) (by omega) (by omega)]) (fun r h1 h2 => hG r (by omega) (by omega))) rfl rfl, rpT_σ (rpT_fr R.2.2.2.2.2 (congrFun (hG 136 (by omega) (by omega)) 0) (hG 137 (by omega) (by omega))) rfl rfl⟩, fun r hr => hG r (by omega) (by omega)⟩
  refine rpP_set (p := np σ) R.1 V.1 (by rw [en]; omega) ?_ (fun r h1 h2 h3 => ?_) (fun p' h1 h2 => ?_) (fun _ => ?_)
  · rw [en, va_up_self]; exact pk_us
  · rw [va_up_ne _ _ (by omega), hF r (by omega) (by omega) (by omega)]
  · rw [en] at h1
    refine ⟨by omega, pk_un h2, fun k hk => ⟨rfl, rfl, ?_⟩⟩
    rw [fgt_5 hk, if_neg h2]
    rfl
  · have es : sz (fgt (va_up (va_up σ 1 (upd (σ 1) 0 (nI (np σ + 1)))) 2 (upd (σ 2) (np σ) (nI 0))) (np σ)) (np σ) = 0 := by
      show nv (upd (σ 2) (np σ) (nI 0) (np σ)) = 0
      rw [pk_us]; decide
    unfold Pg
    rw [es]
    refine ⟨?_, fun k hk => absurd hk (Nat.not_lt_zero k), fun t ht => ?_⟩
    · rw [va_up_ne _ _ (by omega)]; exact h0
    · rw [va_up_ne _ _ (by omega)]; exact h4 t ht
theorem c_X10_program (S : St_c sh P) (V : Inv σ) (R : RepS I 100 σ) : am_R mX10_program (cpo sh P I (p_op σ) (p_res σ)) 3 63 0 0 0 [some (.ref 60)] [] sh I P := by
  have b1 : np σ ≤ 3 := V.1.np.2
  have e1 : I 100 0 = nI (np σ) := R.1.1
  refine r_aload_n dX10_program_0 rfl ?_
  refine r_getP dX10_program_1 g_X10_10 (by first | assumption | exact S.1 _ _ rfl) rfl (by first | assumption | exact S.2 _ _ _ rfl) ?_
  refine r_getI dX10_program_4 g_X10_34 (by first | assumption | exact S.1 _ _ rfl) rfl ?_
  rw [e1]
  refine r_iconst dX10_program_7 (v := nI 3) kc_3 ?_
  refine r_icmp_ltN 13 dX10_program_8 (by decide) (by omega) (by omega) (fun h8 => ?_) (fun h8 => ?_)
  · obtain ⟨pp, Q⟩ := SPg_of S h8
    have sp := Q.1
    refine r_aload_n dX10_program_13 rfl ?_
    refine r_getP dX10_program_14 g_X10_10 (by first | assumption | exact S.1 _ _ rfl) rfl (by first | assumption | exact S.2 _ _ _ rfl) ?_
    refine r_getP dX10_program_17 g_X10_38 (by first | assumption | exact S.1 _ _ rfl) rfl (by first | assumption | exact S.2 _ _ _ rfl) ?_
    refine r_aload_n dX10_program_20 rfl ?_
    refine r_getP dX10_program_21 g_X10_10 (by first | assumption | exact S.1 _ _ rfl) rfl (by first | assumption | exact S.2 _ _ _ rfl) ?_
    refine r_getI dX10_program_24 g_X10_34 (by first | assumption | exact S.1 _ _ rfl) rfl ?_
    rw [e1]
    refine r_aaloadP (np σ) dX10_program_27 (by first | assumption | exact S.1 _ _ rfl) rfl (by first | decide | omega) (by decide) (by first | assumption | exact S.2 _ _ _ rfl) ?_
    refine r_callV0 (fr' := 2) (lo' := 43) (mc' := 0) (ms' := 0) dX10_program_28 mm_X3_clear mv_X3_clear l_X10_42 (by first | assumption | exact S.1 _ _ rfl) mc_X3_clear (by decide) ⟨by decide, by decide⟩ (Nat.zero_le _) (Nat.zero_le _) (Nat.le_of_ble_eq_true rfl) (c_X3_clear Q) (am_kv ?_)
    rintro _ H _ ⟨hF, h0, h3, h4, rfl, rfl⟩
    have e2 : H 100 0 = nI (np σ) := by rw [hF 100 (by omega) (by omega) (by omega)]; exact e1
    refine r_aload_n dX10_program_31 rfl ?_
    refine r_getP dX10_program_32 g_X10_10 (by first | assumption | exact S.1 _ _ rfl) rfl (by first | assumption | exact S.2 _ _ _ rfl) ?_
    refine r_dup dX10_program_35 ?_
    refine r_getI dX10_program_36 g_X10_34 (by first | assumption | exact S.1 _ _ rfl) rfl ?_
    rw [e2]
    refine r_iconst dX10_program_39 (v := nI 1) kc_1 ?_
    first | refine r_iaddN dX10_program_40 ?_ | refine r_iadd dX10_program_40 ?_
    refine r_putI dX10_program_41 f_X10_34 (by first | assumption | exact S.1 _ _ rfl) rfl rfl rfl ?_
    refine r_aload_n dX10_program_44 rfl ?_
    refine r_getP dX10_program_45 g_X10_10 (by first | assumption | exact S.1 _ _ rfl) rfl (by first | assumption | exact S.2 _ _ _ rfl) ?_
    refine r_getI dX10_program_48 g_X10_34 (by first | assumption | exact S.1 _ _ rfl) rfl ?_
    rw [va_up_self, pk_us]
    refine r_iconst dX10_program_51 (v := nI 1) kc_1 ?_
    first | refine r_isubN dX10_program_52 (by omega) ?_ | refine r_isub dX10_program_52 ?_
    refine r_ireturn dX10_program_53 .int rfl rfl ?_
    obtain ⟨g1, g2⟩ := p_fin V R h8 hF h0 h3 h4
    exact ⟨_, rfl, by rw [p_res, cif_f (by omega), Nat.add_sub_cancel], g1, g2, rfl, rfl⟩
  · refine r_iconst dX10_program_11 (v := (-1)) kc_m1 ?_
    refine r_ireturn dX10_program_12 .int rfl rfl ?_
    have e3 : np σ = 3 := by omega
    exact ⟨_, rfl, by rw [p_res, cif_t e3], by rw [p_op, cif_t e3]; exact R, cF_rf _, rfl, rfl⟩
theorem o_fin {H H' : AIn} {p : Nat} {x a : Int32} (V : Inv σ) (R : RepS I 100 σ) (hp : p < np σ) (hC : apC (sz σ p) x a) (hA : apH I (102 + 5 * p) (sz σ p) x a H) (hF : ∀ r, r ≠ 102 + 5 * p + 3 → H' r = H r) (h3 : ∀ t, t < 40 → H' (102 + 5 * p + 3) t = nI 0) : RepS H' 100 (o_op σ (nI p) x a) ∧ cF H' I := by
  have b1 := V.1.np.2
  have hG : ∀ r, r < 102 ∨ 116 < r → H' r = I r := fun r b => by
    rw [hF r (by omega), hA.1 r (by omega) (by omega) (by omega) (by omega)]
  have enp : nv (nI p) = p := nv_nI (by omega)
  unfold o_op
  rw [enp, cif_t ⟨inR_nI hp, hC.2.1, hC.2.2, by rw [enp]; exact hC.1⟩]
  refine ⟨⟨?_, rpJ_σ (rpJ_fr R.2.1 (fun r h1 h2 => hG r (by omega))) rfl rfl, rpK_σ (rpK_fr R.2.2.1 (fun r h1 h2 => hG r (by omega))) rfl rfl rfl rfl rfl rfl rfl, rpR_σ (rpR_fr R.2.2.2.1 (fun r h1 h2 => hG r (by omega))) rfl rfl rfl rfl rfl rfl rfl rfl rfl, rpW_σ (rpW_fr R.2.2.2.2.1 (by rw [hG 100 (by omega)]) (fun r h1 h2 => hG r (by omega))) rfl rfl, rpT_σ (rpT_fr R.2.2.2.2.2 (congrFun (hG 136 (by omega)) 0) (hG 137 (by omega))) rfl rfl⟩, fun r hr => hG r (by omega)⟩
  refine rpP_set (p := p) R.1 V.1 b1 ?_ (fun r h1 h2 h3 => ?_) (fun p' h1 h2 => ?_) (fun _ => ?_)
  · rw [hG 100 (by omega)]; exact R.1.1
  · rw [hF r (by omega), hA.1 r (by omega) (by omega) (by omega) (by omega)]
  · have hs := hC.1
    refine ⟨h1, pk_un h2, fun k hk => ⟨?_, ?_, ?_⟩⟩
    · exact (pk_un (by omega)).symm
    · exact (pk_un (by omega)).symm
    · rw [fgt_5 hk, if_neg h2]; rfl
  · have es : sz (fgt (va_up (va_up (va_up σ 3 (upd (σ 3) (40 * p + sz σ p) x)) 4 (upd (σ 4) (40 * p + sz σ p) a)) 2 (upd (σ 2) p (nI (sz σ p + 1)))) p) p = sz σ p + 1 := by
      show nv (upd (σ 2) p (nI (sz σ p + 1)) p) = _
      have := hC.1
      rw [pk_us, nv_nI (by omega)]
    unfold Pg
    rw [es]
    refine (PgN_app (R.1.2 p hp) hC.2.1 hC.2.2 hC.1 hA hF h3).congr rfl (fun _ _ _ => rfl) (fun k hk => ⟨?_, ?_, ?_⟩)
    · show upd (k3 σ p) (sz σ p) x k = upd (σ 3) (40 * p + sz σ p) x (40 * p + k)
      by_cases e : k = sz σ p
      · rw [e, pk_us, pk_us]
      · rw [pk_un e, pk_un (by omega)]
    · show upd (k4 σ p) (sz σ p) a k = upd (σ 4) (40 * p + sz σ p) a (40 * p + k)
      by_cases e : k = sz σ p
      · rw [e, pk_us, pk_us]
      · rw [pk_un e, pk_un (by omega)]
    · have := hC.1
      show _ = fgt _ p 5 (40 * p + k)
      rw [fgt_5 (by omega), if_pos rfl]; rfl
theorem c_X10_order (S : St_c sh P) (V : Inv σ) (R : RepS I 100 σ) (x y z : Int32) : am_R mX10_order (cpo sh P I (o_op σ x y z) (o_res σ x y z)) 2 43 0 0 0 [some (.ref 60), some (.int x), some (.int y), some (.int z), none] [] sh I P := by
  have b1 : np σ ≤ 3 := V.1.np.2
  have e1 : I 100 0 = nI (np σ) := R.1.1
  refine r_aload_n dX10_order_0 rfl ?_
  refine r_getP dX10_order_1 g_X10_10 (by first | assumption | exact S.1 _ _ rfl) rfl (by first | assumption | exact S.2 _ _ _ rfl) ?_
  refine r_iload_n dX10_order_4 rfl ?_
  refine r_callV1 (fr' := 0) (lo' := 0) (mc' := 0) (ms' := 0) dX10_order_5 mm_X7_hasProgram mv_X7_hasProgram l_X10_47 (by first | assumption | exact S.1 _ _ rfl) mc_X7_hasProgram (by decide) ⟨by decide, by decide⟩ (Nat.zero_le _) (Nat.zero_le _) (Nat.le_of_ble_eq_true rfl) (c_X7_hasProgram (S.1 100 _ rfl) R.1.1 b1 _) (am_ki ?_)
  rintro v5 _ _ _ ⟨hb5, rfl, rfl, rfl⟩
  refine r_if_ne 13 dX10_order_8 (by decide) (fun h8 => ?_) (fun h8 => ?_)
  · replace h8 := hb5.t h8
    obtain ⟨p, hp, rfl⟩ := h8
    obtain ⟨pp, Q⟩ := SPg_of S (show p < 3 by omega)
    have sp := Q.1
    have hn4 : sz σ p ≤ 40 := (V.1.sz (by omega)).2
    have hn : I (102 + 5 * p) 0 = nI (sz σ p) := (R.1.2 p hp).1
    have enp : nv (nI p) = p := nv_nI (by omega)
    refine r_aload_n dX10_order_13 rfl ?_
    refine r_getP dX10_order_14 g_X10_10 (by first | assumption | exact S.1 _ _ rfl) rfl (by first | assumption | exact S.2 _ _ _ rfl) ?_
    refine r_getP dX10_order_17 g_X10_38 (by first | assumption | exact S.1 _ _ rfl) rfl (by first | assumption | exact S.2 _ _ _ rfl) ?_
    refine r_iload_n dX10_order_20 rfl ?_
    refine r_aaloadP p dX10_order_21 (by first | assumption | exact S.1 _ _ rfl) rfl (by first | decide | omega) (by decide) (by first | assumption | exact S.2 _ _ _ rfl) ?_
    refine r_astore dX10_order_22 (Nat.le_of_ble_eq_true rfl) ?_
    dsimp only [List.set]
    refine r_aload dX10_order_24 rfl ?_
    refine r_iload_n dX10_order_26 rfl ?_
    refine r_iload_n dX10_order_27 rfl ?_
    refine r_callV2 (fr' := 1) (lo' := 21) (mc' := 0) (ms' := 0) dX10_order_28 mm_X3_append mv_X3_append l_X10_51 (by first | assumption | exact S.1 _ _ rfl) mc_X3_append (by decide) ⟨by decide, by decide⟩ (Nat.zero_le _) (Nat.zero_le _) (Nat.le_of_ble_eq_true rfl) (c_X3_append Q hn hn4 _ _) (am_ki ?_)
    rintro v28 _ H _ ⟨hb28, hC, hN, rfl, rfl⟩
    refine r_if_ne 36 dX10_order_31 (by decide) (fun h31 => ?_) (fun h31 => ?_)
    · replace h31 := hb28.t h31
      replace hC := hC h31
      refine r_aload dX10_order_36 rfl ?_
      refine r_callV0 (fr' := 1) (lo' := 23) (mc' := 0) (ms' := 0) dX10_order_38 mm_X3_forgetRun mv_X3_forgetRun l_X10_55 (by first | assumption | exact S.1 _ _ rfl) mc_X3_forgetRun (by decide) ⟨by decide, by decide⟩ (Nat.zero_le _) (Nat.zero_le _) (Nat.le_of_ble_eq_true rfl) (c_X3_forgetRun Q) (am_kv ?_)
      rintro _ H' _ ⟨hF, h3, rfl, rfl⟩
      refine r_aload dX10_order_41 rfl ?_
      refine r_getI dX10_order_43 g_X10_58 (by first | assumption | exact S.1 _ _ rfl) rfl ?_
      rw [hF _ (by omega), hC.2.1]
      refine r_iconst dX10_order_46 (v := nI 1) kc_1 ?_
      first | refine r_isubN dX10_order_47 (by omega) ?_ | refine r_isub dX10_order_47 ?_
      refine r_ireturn dX10_order_48 .int rfl rfl ?_
      obtain ⟨g1, g2⟩ := o_fin V R hp h31 hC hF h3
      exact ⟨_, rfl, by rw [o_res, enp, cif_t ⟨inR_nI hp, h31.2.1, h31.2.2, by rw [enp]; exact h31.1⟩, Nat.add_sub_cancel], g1, g2, rfl, rfl⟩
    · replace h31 := hb28.f h31
      have := hN h31
      subst this
      have hf : ¬ o_c σ (nI p) y z := fun h => h31 ⟨by have := h.2.2.2; rw [enp] at this; exact this, h.2.1, h.2.2.1⟩
      refine r_iconst dX10_order_34 (v := (-1)) kc_m1 ?_
      refine r_ireturn dX10_order_35 .int rfl rfl ?_
      exact ⟨_, rfl, by rw [o_res, cif_f hf], by rw [o_op, cif_f hf]; exact R, cF_rf _, rfl, rfl⟩
  · replace h8 := hb5.f h8
    have hf : ¬ o_c σ x y z := fun h => h8 h.1
    refine r_iconst dX10_order_11 (v := (-1)) kc_m1 ?_
    refine r_ireturn dX10_order_12 .int rfl rfl ?_
    exact ⟨_, rfl, by rw [o_res, cif_f hf], by rw [o_op, cif_f hf]; exact R, cF_rf _, rfl, rfl⟩
theorem ch_fin {H H' : AIn} {p j k : Nat} {a : Int32} (V : Inv σ) (R : RepS I 100 σ) (hp : p < np σ) (hj : j < sz σ p) (hk : σ 3 (40 * p + j) = nI k) (hk6 : k < 16) (hb : aOk k (σ 4 (40 * p + j))) (hC : rpC k a) (hA : rpH I (102 + 5 * p) k j (σ 4 (40 * p + j)) a H) (hF : ∀ r, r ≠ 102 + 5 * p + 3 → H' r = H r) (h3 : ∀ t, t < 40 → H' (102 + 5 * p + 3) t = nI 0) : RepS H' 100 (c_op σ (nI p) (nI j) a) ∧ cF H' I := by
  have b1 := V.1.np.2
  have b2 := (V.1.sz (q := p) (by omega)).2
  have hG : ∀ r, r < 102 ∨ 116 < r → H' r = I r := fun r b => by
    rw [hF r (by omega), hA.1 r (by omega) (by omega)]
  have enp : nv (nI p) = p := nv_nI (by omega)
  have enj : nv (nI j) = j := nv_nI (by omega)
  have enk : nv (nI k) = k := nv_nI (by omega)
  unfold c_op
  rw [enp, enj, cif_t ⟨inR_nI hp, by rw [enp]; exact inR_nI hj, by rw [enp, enj, hk, enk]; exact hC.1, by rw [enp, enj, hk, enk]; exact hC.2⟩]
  refine ⟨⟨?_, rpJ_σ (rpJ_fr R.2.1 (fun r h1 h2 => hG r (by omega))) rfl rfl, rpK_σ (rpK_fr R.2.2.1 (fun r h1 h2 => hG r (by omega))) rfl rfl rfl rfl rfl rfl rfl, rpR_σ (rpR_fr R.2.2.2.1 (fun r h1 h2 => hG r (by omega))) rfl rfl rfl rfl rfl rfl rfl rfl rfl, rpW_σ (rpW_fr R.2.2.2.2.1 (by rw [hG 100 (by omega)]) (fun r h1 h2 => hG r (by omega))) rfl rfl, rpT_σ (rpT_fr R.2.2.2.2.2 (congrFun (hG 136 (by omega)) 0) (hG 137 (by omega))) rfl rfl⟩, fun r hr => hG r (by omega)⟩
  refine rpP_set (p := p) R.1 V.1 b1 ?_ (fun r h1 h2 h3 => ?_) (fun p' h1 h2 => ?_) (fun _ => ?_)
  · rw [hG 100 (by omega)]; exact R.1.1
  · rw [hF r (by omega), hA.1 r (by omega) (by omega)]
  · refine ⟨h1, rfl, fun k hk => ⟨rfl, ?_, ?_⟩⟩
    · exact (pk_un (by omega)).symm
    · rw [fgt_5 hk, if_neg h2]; rfl
  · refine (PgN_rep (R.1.2 p hp) hj b2 hk hk6 hb hC.2 hA hF h3).congr rfl (fun _ _ _ => rfl) (fun i hi => ⟨rfl, ?_, ?_⟩)
    · show upd (k4 σ p) j a i = upd (σ 4) (40 * p + j) a (40 * p + i)
      by_cases e : i = j
      · rw [e, pk_us, pk_us]
      · rw [pk_un e, pk_un (by omega)]
    · have hi : i < sz σ p := hi
      show _ = fgt _ p 5 (40 * p + i)
      rw [fgt_5 (by omega), if_pos rfl]; rfl
theorem c_X10_change (S : St_c sh P) (V : Inv σ) (R : RepS I 100 σ) (x y z : Int32) : am_R mX10_change (cpo sh P I (c_op σ x y z) (c_res σ x y z)) 2 44 0 0 0 [some (.ref 60), some (.int x), some (.int y), some (.int z), none] [] sh I P := by
  have b1 : np σ ≤ 3 := V.1.np.2
  have e1 : I 100 0 = nI (np σ) := R.1.1
  refine r_aload_n dX10_change_0 rfl ?_
  refine r_getP dX10_change_1 g_X10_10 (by first | assumption | exact S.1 _ _ rfl) rfl (by first | assumption | exact S.2 _ _ _ rfl) ?_
  refine r_iload_n dX10_change_4 rfl ?_
  refine r_iload_n dX10_change_5 rfl ?_
  refine r_callV2 (fr' := 1) (lo' := 21) (mc' := 0) (ms' := 0) dX10_change_6 mm_X7_hasOrder mv_X7_hasOrder l_X10_61 (by first | assumption | exact S.1 _ _ rfl) mc_X7_hasOrder (by decide) ⟨by decide, by decide⟩ (Nat.zero_le _) (Nat.zero_le _) (Nat.le_of_ble_eq_true rfl) (c_X7_hasOrder S V R _ _) (am_ki ?_)
  rintro v6 _ _ _ ⟨hb6, rfl, rfl, rfl⟩
  refine r_if_ne 14 dX10_change_9 (by decide) (fun h9 => ?_) (fun h9 => ?_)
  · replace h9 := hb6.t h9
    obtain ⟨⟨p, hp, rfl⟩, hy⟩ := h9
    have enp : nv (nI p) = p := nv_nI (by omega)
    rw [enp] at hy
    obtain ⟨j, hj, rfl⟩ := hy
    obtain ⟨pp, Q⟩ := SPg_of S (show p < 3 by omega)
    obtain ⟨sp, sp1, sp2, sp3, sp4, qp1, qp2, qp3, qp4⟩ := id Q
    have hn4 : sz σ p ≤ 40 := (V.1.sz (by omega)).2
    have enj : nv (nI j) = j := nv_nI (by omega)
    obtain ⟨vk, va⟩ := V.1.2.2.1 p j (by omega) hj
    obtain ⟨r1, r2, r3⟩ := (R.1.2 p hp).2.1 j hj
    have vk1 := vk.1
    have vk2 := vk.2
    generalize ek : nv (σ 3 (40 * p + j)) = k at vk1 vk2 va
    refine r_aload_n dX10_change_14 rfl ?_
    refine r_getP dX10_change_15 g_X10_10 (by first | assumption | exact S.1 _ _ rfl) rfl (by first | assumption | exact S.2 _ _ _ rfl) ?_
    refine r_getP dX10_change_18 g_X10_38 (by first | assumption | exact S.1 _ _ rfl) rfl (by first | assumption | exact S.2 _ _ _ rfl) ?_
    refine r_iload_n dX10_change_21 rfl ?_
    refine r_aaloadP p dX10_change_22 (by first | assumption | exact S.1 _ _ rfl) rfl (by first | decide | omega) (by decide) (by first | assumption | exact S.2 _ _ _ rfl) ?_
    refine r_astore dX10_change_23 (Nat.le_of_ble_eq_true rfl) ?_
    dsimp only [List.set]
    refine r_aload dX10_change_25 rfl ?_
    refine r_iload_n dX10_change_27 rfl ?_
    refine r_iload_n dX10_change_28 rfl ?_
    refine r_callV2 (fr' := 1) (lo' := 21) (mc' := 0) (ms' := 0) dX10_change_29 mm_X3_replace mv_X3_replace l_X10_64 (by first | assumption | exact S.1 _ _ rfl) mc_X3_replace (by decide) ⟨by decide, by decide⟩ (Nat.zero_le _) (Nat.zero_le _) (Nat.le_of_ble_eq_true rfl) (c_X3_replace Q (show j < 40 by omega) (r1.trans vk1) (show k < 16 by omega) r2 va _) (am_ki ?_)
    rintro v29 _ H _ ⟨hb29, hC, hN, rfl, rfl⟩
    refine r_if_ne 37 dX10_change_32 (by decide) (fun h32 => ?_) (fun h32 => ?_)
    · replace h32 := hb29.t h32
      replace hC := hC h32
      refine r_aload dX10_change_37 rfl ?_
      refine r_callV0 (fr' := 1) (lo' := 23) (mc' := 0) (ms' := 0) dX10_change_39 mm_X3_forgetRun mv_X3_forgetRun l_X10_55 (by first | assumption | exact S.1 _ _ rfl) mc_X3_forgetRun (by decide) ⟨by decide, by decide⟩ (Nat.zero_le _) (Nat.zero_le _) (Nat.le_of_ble_eq_true rfl) (c_X3_forgetRun Q) (am_kv ?_)
      rintro _ H' _ ⟨hF, h3, rfl, rfl⟩
      refine r_iconst dX10_change_42 (v := nI 1) kc_1 ?_
      refine r_ireturn dX10_change_43 .boolean rfl (by decide) ?_
      obtain ⟨g1, g2⟩ := ch_fin V R hp hj vk1 (show k < 16 by omega) va h32 hC hF h3
      exact ⟨_, rfl, by rw [c_res, cif_t ⟨inR_nI hp, by rw [enp]; exact inR_nI hj, by rw [enp, enj, ek]; exact h32.1, by rw [enp, enj, ek]; exact h32.2⟩], g1, g2, rfl, rfl⟩
    · replace h32 := hb29.f h32
      have := hN h32
      subst this
      have hf : ¬ c_c σ (nI p) (nI j) z := fun h => h32 ⟨by have := h.2.2.1; rw [enp, enj, ek] at this; exact this, by have := h.2.2.2; rw [enp, enj, ek] at this; exact this⟩
      refine r_iconst dX10_change_35 (v := nI 0) kc_0 ?_
      refine r_ireturn dX10_change_36 .boolean rfl (by decide) ?_
      exact ⟨_, rfl, by rw [c_res, cif_f hf], by rw [c_op, cif_f hf]; exact R, cF_rf _, rfl, rfl⟩
  · replace h9 := hb6.f h9
    have hf : ¬ c_c σ x y z := fun h => h9 ⟨h.1, h.2.1⟩
    refine r_iconst dX10_change_12 (v := nI 0) kc_0 ?_
    refine r_ireturn dX10_change_13 .boolean rfl (by decide) ?_
    exact ⟨_, rfl, by rw [c_res, cif_f hf], by rw [c_op, cif_f hf]; exact R, cF_rf _, rfl, rfl⟩
theorem c_X10_tell (S : St_c sh P) (V : Inv σ) (R : RepS I 100 σ) (x y z : Int32) : am_R mX10_tell (cpo sh P I (σ) (t_res σ x y z)) 2 43 0 0 0 [some (.ref 60), some (.int x), some (.int y), some (.int z), none] [] sh I P := by
  have b1 : np σ ≤ 3 := V.1.np.2
  have e1 : I 100 0 = nI (np σ) := R.1.1
  refine r_aload_n dX10_tell_0 rfl ?_
  refine r_getP dX10_tell_1 g_X10_10 (by first | assumption | exact S.1 _ _ rfl) rfl (by first | assumption | exact S.2 _ _ _ rfl) ?_
  refine r_iload_n dX10_tell_4 rfl ?_
  refine r_iload_n dX10_tell_5 rfl ?_
  refine r_callV2 (fr' := 1) (lo' := 21) (mc' := 0) (ms' := 0) dX10_tell_6 mm_X7_hasOrder mv_X7_hasOrder l_X10_61 (by first | assumption | exact S.1 _ _ rfl) mc_X7_hasOrder (by decide) ⟨by decide, by decide⟩ (Nat.zero_le _) (Nat.zero_le _) (Nat.le_of_ble_eq_true rfl) (c_X7_hasOrder S V R _ _) (am_ki ?_)
  rintro v6 _ _ _ ⟨hb6, rfl, rfl, rfl⟩
  refine r_if_ne 14 dX10_tell_9 (by decide) (fun h9 => ?_) (fun h9 => ?_)
  · replace h9 := hb6.t h9
    obtain ⟨⟨p, hp, rfl⟩, hy⟩ := h9
    have enp : nv (nI p) = p := nv_nI (by omega)
    rw [enp] at hy
    obtain ⟨j, hj, rfl⟩ := hy
    obtain ⟨pp, Q⟩ := SPg_of S (show p < 3 by omega)
    obtain ⟨sp, sp1, sp2, sp3, sp4, qp1, qp2, qp3, qp4⟩ := id Q
    have hn4 : sz σ p ≤ 40 := (V.1.sz (by omega)).2
    have enj : nv (nI j) = j := nv_nI (by omega)
    obtain ⟨vk, va⟩ := V.1.2.2.1 p j (by omega) hj
    obtain ⟨r1, r2, r3⟩ := (R.1.2 p hp).2.1 j hj
    have hc : inR (nI p) (np σ) ∧ inR (nI j) (sz σ p) := ⟨inR_nI hp, inR_nI hj⟩
    refine r_aload_n dX10_tell_14 rfl ?_
    refine r_getP dX10_tell_15 g_X10_10 (by first | assumption | exact S.1 _ _ rfl) rfl (by first | assumption | exact S.2 _ _ _ rfl) ?_
    refine r_getP dX10_tell_18 g_X10_38 (by first | assumption | exact S.1 _ _ rfl) rfl (by first | assumption | exact S.2 _ _ _ rfl) ?_
    refine r_iload_n dX10_tell_21 rfl ?_
    refine r_aaloadP p dX10_tell_22 (by first | assumption | exact S.1 _ _ rfl) rfl (by first | decide | omega) (by decide) (by first | assumption | exact S.2 _ _ _ rfl) ?_
    refine r_astore dX10_tell_23 (Nat.le_of_ble_eq_true rfl) ?_
    dsimp only [List.set]
    refine r_iload_n dX10_tell_25 rfl ?_
    rcases sw_3 z with rfl | rfl | rfl | rfl | ⟨hz, hx⟩
    · refine r_tabIn (off := 30) 56 dX10_tell_26 (by decide) (by decide) (by decide) (by decide) ?_
      refine r_aload dX10_tell_56 rfl ?_
      refine r_getP dX10_tell_58 g_X10_67 (by first | assumption | exact S.1 _ _ rfl) rfl (by first | assumption | exact S.2 _ _ _ rfl) ?_
      refine r_iload_n dX10_tell_61 rfl ?_
      refine r_iaload j dX10_tell_62 (by first | assumption | exact S.1 _ _ rfl) rfl (by first | decide | omega) (by decide) ?_
      rw [r1]
      refine r_ireturn dX10_tell_63 .int rfl rfl ?_
      refine ⟨_, rfl, ?_, R, cF_rf _, rfl, rfl⟩
      rw [t_res, enp, enj, cif_t hc]
      rfl
    · refine r_tabIn (off := 38) 64 dX10_tell_26 (by decide) (by decide) (by decide) (by decide) ?_
      refine r_aload dX10_tell_64 rfl ?_
      refine r_getP dX10_tell_66 g_X10_71 (by first | assumption | exact S.1 _ _ rfl) rfl (by first | assumption | exact S.2 _ _ _ rfl) ?_
      refine r_iload_n dX10_tell_69 rfl ?_
      refine r_iaload j dX10_tell_70 (by first | assumption | exact S.1 _ _ rfl) rfl (by first | decide | omega) (by decide) ?_
      rw [r2]
      refine r_ireturn dX10_tell_71 .int rfl rfl ?_
      refine ⟨_, rfl, ?_, R, cF_rf _, rfl, rfl⟩
      rw [t_res, enp, enj, cif_t hc]
      rfl
    · refine r_tabIn (off := 46) 72 dX10_tell_26 (by decide) (by decide) (by decide) (by decide) ?_
      refine r_aload dX10_tell_72 rfl ?_
      refine r_getP dX10_tell_74 g_X10_74 (by first | assumption | exact S.1 _ _ rfl) rfl (by first | assumption | exact S.2 _ _ _ rfl) ?_
      refine r_iload_n dX10_tell_77 rfl ?_
      refine r_iaload j dX10_tell_78 (by first | assumption | exact S.1 _ _ rfl) rfl (by first | decide | omega) (by decide) ?_
      rw [r3]
      refine r_ireturn dX10_tell_79 .int rfl rfl ?_
      refine ⟨_, rfl, ?_, R, cF_rf _, rfl, rfl⟩
      rw [t_res, enp, enj, cif_t hc]
      rfl
    · refine r_tabIn (off := 54) 80 dX10_tell_26 (by decide) (by decide) (by decide) (by decide) ?_
      refine r_aload dX10_tell_80 rfl ?_
      refine r_iload_n dX10_tell_82 rfl ?_
      refine r_callV1 (fr' := 0) (lo' := 0) (mc' := 0) (ms' := 0) dX10_tell_83 mm_X3_isLedTo mv_X3_isLedTo l_X10_77 (by first | assumption | exact S.1 _ _ rfl) mc_X3_isLedTo (by decide) ⟨by decide, by decide⟩ (Nat.zero_le _) (Nat.zero_le _) (Nat.le_of_ble_eq_true rfl) (c_X3_isLedTo Q (show j < 40 by omega) ((R.1.2 p hp).2.2 j (by omega)) (Nat.lt_of_le_of_lt (cnt_le _ _ _ _) (by omega))) (am_ki ?_)
      rintro v83 _ _ _ ⟨hb83, rfl, rfl, rfl⟩
      refine r_if_eq 93 dX10_tell_86 (by decide) (fun h86 => ?_) (fun h86 => ?_)
      · replace h86 := hb83.f h86
        refine r_iconst dX10_tell_93 (v := nI 0) kc_0 ?_
        refine r_ireturn dX10_tell_94 .int rfl rfl ?_
        refine ⟨_, rfl, ?_, R, cF_rf _, rfl, rfl⟩
        rw [t_res, enp, enj, cif_t hc]
        show _ = cif (led σ p j) (nI 1) (nI 0)
        first | rw [cif_f (fun h => h86 (led_cnt.mp h))] | rw [cif_t (led_cnt.mpr h86)]
      · replace h86 := hb83.t h86
        refine r_iconst dX10_tell_89 (v := nI 1) kc_1 ?_
        refine r_goto 94 dX10_tell_90 (by decide) ?_
        refine r_ireturn dX10_tell_94 .int rfl rfl ?_
        refine ⟨_, rfl, ?_, R, cF_rf _, rfl, rfl⟩
        rw [t_res, enp, enj, cif_t hc]
        show _ = cif (led σ p j) (nI 1) (nI 0)
        first | rw [cif_f (fun h => h86 (led_cnt.mp h))] | rw [cif_t (led_cnt.mpr h86)]
    · refine r_tabOut 95 dX10_tell_26 hx (by decide) ?_
      refine r_iconst dX10_tell_95 (v := (-1)) kc_m1 ?_
      refine r_ireturn dX10_tell_96 .int rfl rfl ?_
      refine ⟨_, rfl, ?_, R, cF_rf _, rfl, rfl⟩
      rw [t_res, enp, enj, cif_t hc]
      have hz0 : z ≠ nI 0 := fun h => hz (Or.inl h)
      have hz1 : z ≠ nI 1 := fun h => hz (Or.inr (Or.inl h))
      have hz2 : z ≠ nI 2 := fun h => hz (Or.inr (Or.inr (Or.inl h)))
      have hz3 : z ≠ nI 3 := fun h => hz (Or.inr (Or.inr (Or.inr (h))))
      rw [if_neg hz0, if_neg hz1, if_neg hz2, if_neg hz3]
  · replace h9 := hb6.f h9
    have hf := h9
    refine r_iconst dX10_tell_12 (v := (-1)) kc_m1 ?_
    refine r_ireturn dX10_tell_13 .int rfl rfl ?_
    refine ⟨_, rfl, ?_, R, cF_rf _, rfl, rfl⟩
    rw [t_res, cif_f hf]
end K5
