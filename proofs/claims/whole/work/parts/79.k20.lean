/-! rows that agree in their block -/
def eqB (τ τ' : AIn) : Prop := ∀ r i, i < bl r → τ' r i = τ r i
theorem eqB.e0 {τ τ' : AIn} (h : eqB τ τ') (r : Nat) (hb : 0 < bl r) : τ' r 0 = τ r 0 := h r 0 hb
theorem jOk_B {F G : Nat → Int32} {z : Nat} (h : ∀ i, i < 5 → G (z + i) = F (z + i)) (o : jOk F z) : jOk G z ∧ eR G z = eR F z := jOk_eq o (fun i hi => (h i hi).symm)
theorem Inv_B {τ τ' : AIn} (V : Inv τ) (h : eqB τ τ') : Inv τ' := by
  obtain ⟨⟨v1, v2, v3, v4⟩, ⟨j1, j2, j3⟩, vk, vr, vc, ⟨t1, t2⟩⟩ := V
  have e1 := h 1 0 (by decide)
  have e6 := h 6 0 (by decide)
  have e26 := h 26 0 (by decide)
  have e2 : ∀ p, p < 3 → τ' 2 p = τ 2 p := fun p hp => h 2 p hp
  have es : ∀ p, p < 3 → sz τ' p = sz τ p := fun p hp => by unfold sz; rw [e2 p hp]
  have e7 : ∀ i, i < 30 → τ' 7 i = τ 7 i := fun i hi => h 7 i hi
  have e25 : ∀ i, i < 15 → τ' 25 i = τ 25 i := fun i hi => h 25 i hi
  have en : nj τ' = nj τ := by unfold nj; rw [e6]
  have bj : nj τ ≤ 6 := j1.2
  refine ⟨⟨by rw [e1]; exact v1, fun p hp => by rw [e2 p hp]; exact v2 p hp, fun p k hp hk => ?_, fun j hj => ?_⟩, ⟨by rw [e6]; exact j1, fun j hj => ?_, fun i j hi hj he => ?_⟩, ?_, ?_, ?_, by rw [e26]; exact t1, fun k hk => ?_⟩
  · rw [es p hp] at hk
    have hs : sz τ p ≤ 40 := (v2 p hp).2
    rw [h 3 (40 * p + k) (show 40 * p + k < 120 by omega), h 4 (40 * p + k) (show 40 * p + k < 120 by omega)]
    exact v3 p k hp hk
  · rw [h 5 j hj]; exact v4 j hj
  · rw [en] at hj
    exact (jOk_B (fun i hi => e7 _ (by omega)) (j2 j hj)).1
  · rw [en] at hi hj
    refine j3 i j hi hj (fun k hk => ?_)
    rw [← e7 _ (by omega), ← e7 _ (by omega)]
    exact he k hk
  · rcases vk with g | ⟨g1, g2, g3, g4, g5⟩
    · exact Or.inl (by rw [h 11 0 (by decide)]; exact g)
    · have b1 := g1.2
      have b2 := g2.2
      refine Or.inr ⟨by rw [h 11 0 (by decide)]; exact g1, by rw [h 8 0 (by decide)]; exact g2, by rw [h 13 0 (by decide)]; exact g3, fun k hk => ?_, fun k hk => ?_⟩
      · rw [h 8 0 (by decide)] at hk
        rw [h 9 k (show k < 40 by omega), h 10 k (show k < 40 by omega)]
        exact g4 k hk
      · rw [h 11 0 (by decide)] at hk
        rw [h 12 (3 * k + 1) (show 3 * k + 1 < 120 by omega), h 8 0 (by decide)]
        exact g5 k hk
  · rcases vr with g | ⟨g1, g2, g3⟩
    · exact Or.inl (by rw [h 15 0 (by decide)]; exact g)
    · exact Or.inr ⟨by rw [h 15 0 (by decide)]; exact g1, by rw [h 19 0 (by decide)]; exact g2, by rw [h 21 0 (by decide)]; exact g3⟩
  · rcases vc with g | ⟨g1, g2, g3⟩
    · exact Or.inl (by rw [h 24 0 (by decide)]; exact g)
    · have b1 := g1.2
      refine Or.inr ⟨by rw [h 24 0 (by decide)]; exact g1, fun j hj => ?_, fun i j hi hj he => ?_⟩
      · rw [h 24 0 (by decide)] at hj
        exact (jOk_B (fun i hi => e25 _ (by omega)) (g2 j hj)).1
      · rw [h 24 0 (by decide)] at hi hj
        refine g3 i j hi hj (fun k hk => ?_)
        rw [← e25 _ (by omega), ← e25 _ (by omega)]
        exact he k hk
  · rw [e26] at hk
    have b := t1.2
    rw [h 27 k (show k < 160 by omega)]
    exact t2 k hk
theorem RwR_E {I : AIn} {r m : Nat} {E E' : Nat → Nat} (h : RwR I r m E) (he : ∀ j, j < m → E' j = E j) : RwR I r m E' := ⟨h.1, h.2.1, fun j hj => by rw [he j hj]; exact h.2.2 j hj⟩
theorem RepS_B {I τ τ' : AIn} {B : Nat} (V : Inv τ) (h : eqB τ τ') (R : RepS I B τ) : RepS I B τ' := by
  have b1 : np τ ≤ 3 := V.1.np.2
  have en : np τ' = np τ := by unfold np; rw [h 1 0 (by decide)]
  have enj : nj τ' = nj τ := by unfold nj; rw [h 6 0 (by decide)]
  have bj := R.2.1.2.1
  refine ⟨⟨by rw [en]; exact R.1.1, fun p hp => ?_⟩, ?_, ?_, ?_, ?_, ?_⟩
  · rw [en] at hp
    have es : sz τ' p = sz τ p := by unfold sz; rw [h 2 p (show p < 3 by omega)]
    have hs := (V.1.sz (q := p) (by omega)).2
    unfold Pg
    rw [es]
    exact (R.1.2 p hp).congr rfl (fun _ _ _ => rfl) (fun k hk => ⟨(h 3 (40 * p + k) (show 40 * p + k < 120 by omega)).symm, (h 4 (40 * p + k) (show 40 * p + k < 120 by omega)).symm, (h 5 (40 * p + k) (show 40 * p + k < 120 by omega)).symm⟩)
  · unfold rpJ
    rw [enj]
    exact RwR_E R.2.1 (fun j hj => (jOk_B (fun i hi => h 7 (5 * j + i) (show 5 * j + i < 30 by omega)) (V.2.1.2.1 j hj)).2)
  · unfold rpK
    rw [h 11 0 (by decide), h 8 0 (by decide), h 13 0 (by decide)]
    refine ⟨R.2.2.1.1, fun ht => ?_⟩
    obtain ⟨r1, r2, r3, r4, r5⟩ := R.2.2.1.2 ht
    obtain ⟨v1, v2, v3⟩ := V.2.2.1.n ht
    have c1 := v1.2
    have c2 := v2.2
    have c3 := v3.2
    refine ⟨r1, fun k hk => ?_, fun k hk => ?_, fun k hk => ?_, fun t ht2 => ?_⟩
    · rw [h 9 k (show k < 40 by omega), h 10 k (show k < 40 by omega)]; exact r2 k hk
    · rw [h 12 (3 * k) (show 3 * k < 120 by omega), h 12 (3 * k + 1) (show 3 * k + 1 < 120 by omega), h 12 (3 * k + 2) (show 3 * k + 2 < 120 by omega)]; exact r3 k hk
    · rw [h 14 k (show k < 80 by omega)]; exact r4 k hk
    · rw [r5 t ht2]
      constructor
      · rintro ⟨k, hk, e⟩
        exact ⟨k, hk, by rw [h 12 (3 * k + 1) (show 3 * k + 1 < 120 by omega)]; exact e⟩
      · rintro ⟨k, hk, e⟩
        rw [h 12 (3 * k + 1) (show 3 * k + 1 < 120 by omega)] at e
        exact ⟨k, hk, e⟩
  · unfold rpR
    rw [h 15 0 (by decide), h 16 0 (by decide), h 17 0 (by decide), h 18 0 (by decide), h 19 0 (by decide), h 21 0 (by decide)]
    refine ⟨R.2.2.2.1.1, R.2.2.2.1.2.1, fun ht => ?_⟩
    obtain ⟨r1, r2, r3, r4⟩ := R.2.2.2.1.2.2 ht
    obtain ⟨-, v2, v3⟩ := V.2.2.2.1.n ht
    have c2 := v2.2
    have c3 := v3.2
    refine ⟨r1, fun k hk => ?_, fun k hk => ?_, fun k hk => ?_⟩
    · rw [h 20 k (show k < 24 by omega)]; exact r2 k hk
    · rw [h 22 k (show k < 40 by omega)]; exact r3 k hk
    · rw [h 23 k (show k < 8 by omega)]; exact r4 k hk
  · unfold rpW
    rw [h 24 0 (by decide)]
    have c := V.2.2.2.2.1.ok
    have c1 := c.1
    exact ⟨R.2.2.2.2.1.1, RwR_E R.2.2.2.2.1.2 (fun j hj => (jOk_B (fun i hi => h 25 (5 * j + i) (show 5 * j + i < 15 by omega)) (c.2 j hj)).2)⟩
  · unfold rpT
    rw [h 26 0 (by decide)]
    have c := V.2.2.2.2.2.1.2
    exact ⟨R.2.2.2.2.2.1, fun k hk => by rw [h 27 k (show k < 160 by omega)]; exact R.2.2.2.2.2.2 k hk⟩
theorem RepS_fr {I I' τ : AIn} {B : Nat} (b1 : np τ ≤ 3) (R : RepS I B τ) (hF : ∀ r, B ≤ r → r ≤ B + 37 → I' r = I r) : RepS I' B τ :=
  ⟨rpP_fr R.1 (by rw [hF B (by omega) (by omega)]) (fun r h1 h2 => hF r (by omega) (by omega)) b1, rpJ_fr R.2.1 (fun r h1 h2 => hF r (by omega) (by omega)), rpK_fr R.2.2.1 (fun r h1 h2 => hF r (by omega) (by omega)), rpR_fr R.2.2.2.1 (fun r h1 h2 => hF r (by omega) (by omega)), rpW_fr R.2.2.2.2.1 (by rw [hF B (by omega) (by omega)]) (fun r h1 h2 => hF r (by omega) (by omega)), rpT_fr R.2.2.2.2.2 (by rw [hF (B + 36) (by omega) (by omega)]) (hF (B + 37) (by omega) (by omega))⟩
/-! images -/
def imN (sh : ASh) (P : APt) (k : Nat) : Prop := P 61 k = none ∧ ∀ c, 200 + 100 * k ≤ c → c ≤ 237 + 100 * k → (sh c).1 = 0
def imY (sh : ASh) (P : APt) (k : Nat) : Prop := P 61 k = some (200 + 100 * k) ∧ SSt sh P (200 + 100 * k)
section K20
variable {sh : ASh} {I σ : AIn} {P : APt}
def imP (sh : ASh) (P : APt) (I σ : AIn) (x : Int32) : APo := po_i (fun v sh' I' P' => v = im_res x ∧ (¬ inR x 3 → sh' = sh ∧ I' = I ∧ P' = P) ∧ ∀ k, k < 3 → x = nI k → imY sh' P' k ∧ RepS I' (200 + 100 * k) σ ∧ (∀ c, c < 200 + 100 * k ∨ 237 + 100 * k < c → sh' c = sh c ∧ I' c = I c ∧ (c ≠ 61 → P' c = P c)) ∧ ∀ j, j ≠ k → P' 61 j = P 61 j)
theorem l_X10_imY0 (S : St_c sh P) (V : Inv σ) (R : RepS I 100 σ) (hY : imY sh P 0) : am_R mX10_image (imP sh P I σ (nI 0)) 4 94 38 1180 11 [some (.ref 60), some (.int (nI 0))] [] sh I P := by
  have hp := hY.1
  have T := hY.2
  have s61 : sh 61 = (5, 3) := S.1 61 _ rfl
  have sB := T.1.1
  refine r_aload_n dX10_image_11 rfl ?_
  refine r_getP dX10_image_12 g_X10_16 (by first | assumption | exact S.1 _ _ rfl) rfl (by first | exact hp | exact S.2 _ _ _ rfl) ?_
  refine r_iload_n dX10_image_15 rfl ?_
  refine r_aaloadS 0 dX10_image_16 (by first | assumption | exact S.1 _ _ rfl) rfl (by first | decide | omega) (by decide) (by first | exact hp | exact S.2 _ _ _ rfl) ?_
  refine r_ifnonnull 33 dX10_image_17 (by decide) ?_
  refine r_aload_n dX10_image_33 rfl ?_
  refine r_getP dX10_image_34 g_X10_16 (by first | assumption | exact S.1 _ _ rfl) rfl (by first | exact hp | exact S.2 _ _ _ rfl) ?_
  refine r_iload_n dX10_image_37 rfl ?_
  refine r_aaloadS 0 dX10_image_38 (by first | assumption | exact S.1 _ _ rfl) rfl (by first | decide | omega) (by decide) (by first | exact hp | exact S.2 _ _ _ rfl) ?_
  refine r_aload_n dX10_image_39 rfl ?_
  refine r_getP dX10_image_40 g_X10_10 (by first | assumption | exact S.1 _ _ rfl) rfl (by first | exact hp | exact S.2 _ _ _ rfl) ?_
  refine r_callV1 (fr' := 3) (lo' := 72) (mc' := 0) (ms' := 0) dX10_image_43 mm_X7_copyFrom mv_X7_copyFrom l_X10_214 (by first | assumption | exact S.1 _ _ rfl) mc_X7_copyFrom (by decide) ⟨by decide, by decide⟩ (Nat.zero_le _) (Nat.zero_le _) (Nat.le_of_ble_eq_true rfl) (c_X7_copyFrom T (SSt_of S) (by decide) V R) (am_kv ?_)
  rintro _ H _ ⟨hF, hR, rfl, rfl⟩
  refine r_iconst dX10_image_46 (v := nI 1) kc_1 ?_
  refine r_ireturn dX10_image_47 .boolean rfl (by decide) ?_
  refine ⟨_, rfl, ?_, fun h => absurd (inR_nI (by decide)) h, fun j hj e => ?_⟩
  · unfold im_res; rw [cif_t (inR_nI (by decide))]
  · have ej := (nI_eq (by decide) (by omega)).mp e
    subst ej
    exact ⟨hY, hR, fun c hc => ⟨rfl, hF c (by omega), fun _ => rfl⟩, fun _ _ => rfl⟩
theorem l_X10_imN0 (S : St_c sh P) (V : Inv σ) (R : RepS I 100 σ) (hN : imN sh P 0) : am_R mX10_image (imP sh P I σ (nI 0)) 4 94 38 1180 11 [some (.ref 60), some (.int (nI 0))] [] sh I P := by
  have hp := hN.1
  have s61 : sh 61 = (5, 3) := S.1 61 _ rfl
  have b1 : np σ ≤ 3 := V.1.np.2
  refine r_aload_n dX10_image_11 rfl ?_
  refine r_getP dX10_image_12 g_X10_16 (by first | assumption | exact S.1 _ _ rfl) rfl (by first | assumption | exact S.2 _ _ _ rfl) ?_
  refine r_iload_n dX10_image_15 rfl ?_
  refine r_aaloadSN 0 dX10_image_16 (by first | assumption | exact S.1 _ _ rfl) rfl (by first | decide | omega) (by decide) (by first | assumption | exact S.2 _ _ _ rfl) ?_
  refine r_ifnonnullN dX10_image_17 ?_
  refine r_aload_n dX10_image_20 rfl ?_
  refine r_getP dX10_image_21 g_X10_16 (by first | assumption | exact S.1 _ _ rfl) rfl (by first | assumption | exact S.2 _ _ _ rfl) ?_
  refine r_iload_n dX10_image_24 rfl ?_
  refine r_new 200 dX10_image_25 k_X10_7 (hN.2 _ (by decide) (by decide)) (by decide) (by decide) ?_
  refine r_dup dX10_image_28 ?_
  refine r_callI0 (fr' := 3) (lo' := 60) (mc' := 37) (ms' := 1172) dX10_image_29 mm_X7_init rfl mi_X7_init rfl l_X10_9 (by decide) ⟨by decide, by decide⟩ (by decide) (by decide) (Nat.le_of_ble_eq_true rfl) (c_X7_init_200 rfl (fun c h1 h2 => by rw [va_up_ne _ _ (by omega)]; exact hN.2 c (by omega) (by omega))) (am_kv ?_)
  rintro sh1 I1 P1 ⟨T, F, z0, zz⟩
  have hT : SSt sh1 P1 200 := T
  have r61 : sh1 61 = (5, 3) := by rw [(F 61 (by omega)).1, va_up_ne _ _ (by decide)]; exact s61
  have r60 : sh1 60 = (1, 8) := by rw [(F 60 (by omega)).1, va_up_ne _ _ (by decide)]; exact S.1 60 _ rfl
  have rB := T.1.1
  have q0 : P1 60 0 = some 100 := by rw [(F 60 (by omega)).2.1, va_up_ne _ _ (by decide)]; exact S.2 60 _ _ rfl
  have q1 : P1 60 1 = some 61 := by rw [(F 60 (by omega)).2.1, va_up_ne _ _ (by decide)]; exact S.2 60 _ _ rfl
  refine r_aastoreS 0 dX10_image_32 r61 rB rfl (by first | decide | omega) (by decide) ?_
  have T2 : SSt sh1 (va_up P1 61 (va_up (P1 61) 0 (some 200))) 200 := SSt_fr T (fun _ _ _ => rfl) (fun c h1 h2 => va_up_ne _ _ (by omega))
  have T0 : SSt sh1 (va_up P1 61 (va_up (P1 61) 0 (some 200))) 100 := SSt_fr (SSt_of S) (fun c h1 h2 => by rw [(F c (by omega)).1, va_up_ne _ _ (by omega)]) (fun c h1 h2 => by rw [va_up_ne _ _ (by omega), (F c (by omega)).2.1, va_up_ne _ _ (by omega)])
  have R1 : RepS I1 100 σ := RepS_fr b1 R (fun c h1 h2 => by rw [(F c (by omega)).2.2, va_up_ne _ _ (by omega)])
  have w0 : (va_up P1 61 (va_up (P1 61) 0 (some 200))) 60 0 = some 100 := q0
  have w1 : (va_up P1 61 (va_up (P1 61) 0 (some 200))) 60 1 = some 61 := q1
  have w2 : (va_up P1 61 (va_up (P1 61) 0 (some 200))) 61 0 = some 200 := rfl
  refine r_aload_n dX10_image_33 rfl ?_
  refine r_getP dX10_image_34 g_X10_16 (by first | assumption | exact S.1 _ _ rfl) rfl (by first | assumption | exact S.2 _ _ _ rfl) ?_
  refine r_iload_n dX10_image_37 rfl ?_
  refine r_aaloadS 0 dX10_image_38 (by first | assumption | exact S.1 _ _ rfl) rfl (by first | decide | omega) (by decide) (by first | assumption | exact S.2 _ _ _ rfl) ?_
  refine r_aload_n dX10_image_39 rfl ?_
  refine r_getP dX10_image_40 g_X10_10 (by first | assumption | exact S.1 _ _ rfl) rfl (by first | assumption | exact S.2 _ _ _ rfl) ?_
  refine r_callV1 (fr' := 3) (lo' := 72) (mc' := 0) (ms' := 0) dX10_image_43 mm_X7_copyFrom mv_X7_copyFrom l_X10_214 (by first | assumption | exact S.1 _ _ rfl) mc_X7_copyFrom (by decide) ⟨by decide, by decide⟩ (Nat.zero_le _) (Nat.zero_le _) (Nat.le_of_ble_eq_true rfl) (c_X7_copyFrom T2 T0 (by decide) V R1) (am_kv ?_)
  rintro _ H _ ⟨hF, hR, rfl, rfl⟩
  refine r_iconst dX10_image_46 (v := nI 1) kc_1 ?_
  refine r_ireturn dX10_image_47 .boolean rfl (by decide) ?_
  refine ⟨_, rfl, ?_, fun h => absurd (inR_nI (by decide)) h, fun j hj e => ?_⟩
  · unfold im_res; rw [cif_t (inR_nI (by decide))]
  · have ej := (nI_eq (by decide) (by omega)).mp e
    subst ej
    refine ⟨⟨w2, T2⟩, hR, fun c hc => ⟨?_, ?_, fun h61 => ?_⟩, fun j hj => ?_⟩
    · rw [(F c (by omega)).1, va_up_ne _ _ (by omega)]
    · rw [hF c (by omega), (F c (by omega)).2.2, va_up_ne _ _ (by omega)]
    · rw [va_up_ne _ _ h61, (F c (by omega)).2.1, va_up_ne _ _ (by omega)]
    · rw [va_up_self, va_up_ne _ _ hj, (F 61 (by omega)).2.1, va_up_ne _ _ (by decide)]
theorem l_X10_imY1 (S : St_c sh P) (V : Inv σ) (R : RepS I 100 σ) (hY : imY sh P 1) : am_R mX10_image (imP sh P I σ (nI 1)) 4 94 38 1180 11 [some (.ref 60), some (.int (nI 1))] [] sh I P := by
  have hp := hY.1
  have T := hY.2
  have s61 : sh 61 = (5, 3) := S.1 61 _ rfl
  have sB := T.1.1
  refine r_aload_n dX10_image_11 rfl ?_
  refine r_getP dX10_image_12 g_X10_16 (by first | assumption | exact S.1 _ _ rfl) rfl (by first | exact hp | exact S.2 _ _ _ rfl) ?_
  refine r_iload_n dX10_image_15 rfl ?_
  refine r_aaloadS 1 dX10_image_16 (by first | assumption | exact S.1 _ _ rfl) rfl (by first | decide | omega) (by decide) (by first | exact hp | exact S.2 _ _ _ rfl) ?_
  refine r_ifnonnull 33 dX10_image_17 (by decide) ?_
  refine r_aload_n dX10_image_33 rfl ?_
  refine r_getP dX10_image_34 g_X10_16 (by first | assumption | exact S.1 _ _ rfl) rfl (by first | exact hp | exact S.2 _ _ _ rfl) ?_
  refine r_iload_n dX10_image_37 rfl ?_
  refine r_aaloadS 1 dX10_image_38 (by first | assumption | exact S.1 _ _ rfl) rfl (by first | decide | omega) (by decide) (by first | exact hp | exact S.2 _ _ _ rfl) ?_
  refine r_aload_n dX10_image_39 rfl ?_
  refine r_getP dX10_image_40 g_X10_10 (by first | assumption | exact S.1 _ _ rfl) rfl (by first | exact hp | exact S.2 _ _ _ rfl) ?_
  refine r_callV1 (fr' := 3) (lo' := 72) (mc' := 0) (ms' := 0) dX10_image_43 mm_X7_copyFrom mv_X7_copyFrom l_X10_214 (by first | assumption | exact S.1 _ _ rfl) mc_X7_copyFrom (by decide) ⟨by decide, by decide⟩ (Nat.zero_le _) (Nat.zero_le _) (Nat.le_of_ble_eq_true rfl) (c_X7_copyFrom T (SSt_of S) (by decide) V R) (am_kv ?_)
  rintro _ H _ ⟨hF, hR, rfl, rfl⟩
  refine r_iconst dX10_image_46 (v := nI 1) kc_1 ?_
  refine r_ireturn dX10_image_47 .boolean rfl (by decide) ?_
  refine ⟨_, rfl, ?_, fun h => absurd (inR_nI (by decide)) h, fun j hj e => ?_⟩
  · unfold im_res; rw [cif_t (inR_nI (by decide))]
  · have ej := (nI_eq (by decide) (by omega)).mp e
    subst ej
    exact ⟨hY, hR, fun c hc => ⟨rfl, hF c (by omega), fun _ => rfl⟩, fun _ _ => rfl⟩
theorem l_X10_imN1 (S : St_c sh P) (V : Inv σ) (R : RepS I 100 σ) (hN : imN sh P 1) : am_R mX10_image (imP sh P I σ (nI 1)) 4 94 38 1180 11 [some (.ref 60), some (.int (nI 1))] [] sh I P := by
  have hp := hN.1
  have s61 : sh 61 = (5, 3) := S.1 61 _ rfl
  have b1 : np σ ≤ 3 := V.1.np.2
  refine r_aload_n dX10_image_11 rfl ?_
  refine r_getP dX10_image_12 g_X10_16 (by first | assumption | exact S.1 _ _ rfl) rfl (by first | assumption | exact S.2 _ _ _ rfl) ?_
  refine r_iload_n dX10_image_15 rfl ?_
  refine r_aaloadSN 1 dX10_image_16 (by first | assumption | exact S.1 _ _ rfl) rfl (by first | decide | omega) (by decide) (by first | assumption | exact S.2 _ _ _ rfl) ?_
  refine r_ifnonnullN dX10_image_17 ?_
  refine r_aload_n dX10_image_20 rfl ?_
  refine r_getP dX10_image_21 g_X10_16 (by first | assumption | exact S.1 _ _ rfl) rfl (by first | assumption | exact S.2 _ _ _ rfl) ?_
  refine r_iload_n dX10_image_24 rfl ?_
  refine r_new 300 dX10_image_25 k_X10_7 (hN.2 _ (by decide) (by decide)) (by decide) (by decide) ?_
  refine r_dup dX10_image_28 ?_
  refine r_callI0 (fr' := 3) (lo' := 60) (mc' := 37) (ms' := 1172) dX10_image_29 mm_X7_init rfl mi_X7_init rfl l_X10_9 (by decide) ⟨by decide, by decide⟩ (by decide) (by decide) (Nat.le_of_ble_eq_true rfl) (c_X7_init_300 rfl (fun c h1 h2 => by rw [va_up_ne _ _ (by omega)]; exact hN.2 c (by omega) (by omega))) (am_kv ?_)
  rintro sh1 I1 P1 ⟨T, F, z0, zz⟩
  have hT : SSt sh1 P1 300 := T
  have r61 : sh1 61 = (5, 3) := by rw [(F 61 (by omega)).1, va_up_ne _ _ (by decide)]; exact s61
  have r60 : sh1 60 = (1, 8) := by rw [(F 60 (by omega)).1, va_up_ne _ _ (by decide)]; exact S.1 60 _ rfl
  have rB := T.1.1
  have q0 : P1 60 0 = some 100 := by rw [(F 60 (by omega)).2.1, va_up_ne _ _ (by decide)]; exact S.2 60 _ _ rfl
  have q1 : P1 60 1 = some 61 := by rw [(F 60 (by omega)).2.1, va_up_ne _ _ (by decide)]; exact S.2 60 _ _ rfl
  refine r_aastoreS 1 dX10_image_32 r61 rB rfl (by first | decide | omega) (by decide) ?_
  have T2 : SSt sh1 (va_up P1 61 (va_up (P1 61) 1 (some 300))) 300 := SSt_fr T (fun _ _ _ => rfl) (fun c h1 h2 => va_up_ne _ _ (by omega))
  have T0 : SSt sh1 (va_up P1 61 (va_up (P1 61) 1 (some 300))) 100 := SSt_fr (SSt_of S) (fun c h1 h2 => by rw [(F c (by omega)).1, va_up_ne _ _ (by omega)]) (fun c h1 h2 => by rw [va_up_ne _ _ (by omega), (F c (by omega)).2.1, va_up_ne _ _ (by omega)])
  have R1 : RepS I1 100 σ := RepS_fr b1 R (fun c h1 h2 => by rw [(F c (by omega)).2.2, va_up_ne _ _ (by omega)])
  have w0 : (va_up P1 61 (va_up (P1 61) 1 (some 300))) 60 0 = some 100 := q0
  have w1 : (va_up P1 61 (va_up (P1 61) 1 (some 300))) 60 1 = some 61 := q1
  have w2 : (va_up P1 61 (va_up (P1 61) 1 (some 300))) 61 1 = some 300 := rfl
  refine r_aload_n dX10_image_33 rfl ?_
  refine r_getP dX10_image_34 g_X10_16 (by first | assumption | exact S.1 _ _ rfl) rfl (by first | assumption | exact S.2 _ _ _ rfl) ?_
  refine r_iload_n dX10_image_37 rfl ?_
  refine r_aaloadS 1 dX10_image_38 (by first | assumption | exact S.1 _ _ rfl) rfl (by first | decide | omega) (by decide) (by first | assumption | exact S.2 _ _ _ rfl) ?_
  refine r_aload_n dX10_image_39 rfl ?_
  refine r_getP dX10_image_40 g_X10_10 (by first | assumption | exact S.1 _ _ rfl) rfl (by first | assumption | exact S.2 _ _ _ rfl) ?_
  refine r_callV1 (fr' := 3) (lo' := 72) (mc' := 0) (ms' := 0) dX10_image_43 mm_X7_copyFrom mv_X7_copyFrom l_X10_214 (by first | assumption | exact S.1 _ _ rfl) mc_X7_copyFrom (by decide) ⟨by decide, by decide⟩ (Nat.zero_le _) (Nat.zero_le _) (Nat.le_of_ble_eq_true rfl) (c_X7_copyFrom T2 T0 (by decide) V R1) (am_kv ?_)
  rintro _ H _ ⟨hF, hR, rfl, rfl⟩
  refine r_iconst dX10_image_46 (v := nI 1) kc_1 ?_
  refine r_ireturn dX10_image_47 .boolean rfl (by decide) ?_
  refine ⟨_, rfl, ?_, fun h => absurd (inR_nI (by decide)) h, fun j hj e => ?_⟩
  · unfold im_res; rw [cif_t (inR_nI (by decide))]
  · have ej := (nI_eq (by decide) (by omega)).mp e
    subst ej
    refine ⟨⟨w2, T2⟩, hR, fun c hc => ⟨?_, ?_, fun h61 => ?_⟩, fun j hj => ?_⟩
    · rw [(F c (by omega)).1, va_up_ne _ _ (by omega)]
    · rw [hF c (by omega), (F c (by omega)).2.2, va_up_ne _ _ (by omega)]
    · rw [va_up_ne _ _ h61, (F c (by omega)).2.1, va_up_ne _ _ (by omega)]
    · rw [va_up_self, va_up_ne _ _ hj, (F 61 (by omega)).2.1, va_up_ne _ _ (by decide)]
theorem l_X10_imY2 (S : St_c sh P) (V : Inv σ) (R : RepS I 100 σ) (hY : imY sh P 2) : am_R mX10_image (imP sh P I σ (nI 2)) 4 94 38 1180 11 [some (.ref 60), some (.int (nI 2))] [] sh I P := by
  have hp := hY.1
  have T := hY.2
  have s61 : sh 61 = (5, 3) := S.1 61 _ rfl
  have sB := T.1.1
  refine r_aload_n dX10_image_11 rfl ?_
  refine r_getP dX10_image_12 g_X10_16 (by first | assumption | exact S.1 _ _ rfl) rfl (by first | exact hp | exact S.2 _ _ _ rfl) ?_
  refine r_iload_n dX10_image_15 rfl ?_
  refine r_aaloadS 2 dX10_image_16 (by first | assumption | exact S.1 _ _ rfl) rfl (by first | decide | omega) (by decide) (by first | exact hp | exact S.2 _ _ _ rfl) ?_
  refine r_ifnonnull 33 dX10_image_17 (by decide) ?_
  refine r_aload_n dX10_image_33 rfl ?_
  refine r_getP dX10_image_34 g_X10_16 (by first | assumption | exact S.1 _ _ rfl) rfl (by first | exact hp | exact S.2 _ _ _ rfl) ?_
  refine r_iload_n dX10_image_37 rfl ?_
  refine r_aaloadS 2 dX10_image_38 (by first | assumption | exact S.1 _ _ rfl) rfl (by first | decide | omega) (by decide) (by first | exact hp | exact S.2 _ _ _ rfl) ?_
  refine r_aload_n dX10_image_39 rfl ?_
  refine r_getP dX10_image_40 g_X10_10 (by first | assumption | exact S.1 _ _ rfl) rfl (by first | exact hp | exact S.2 _ _ _ rfl) ?_
  refine r_callV1 (fr' := 3) (lo' := 72) (mc' := 0) (ms' := 0) dX10_image_43 mm_X7_copyFrom mv_X7_copyFrom l_X10_214 (by first | assumption | exact S.1 _ _ rfl) mc_X7_copyFrom (by decide) ⟨by decide, by decide⟩ (Nat.zero_le _) (Nat.zero_le _) (Nat.le_of_ble_eq_true rfl) (c_X7_copyFrom T (SSt_of S) (by decide) V R) (am_kv ?_)
  rintro _ H _ ⟨hF, hR, rfl, rfl⟩
  refine r_iconst dX10_image_46 (v := nI 1) kc_1 ?_
  refine r_ireturn dX10_image_47 .boolean rfl (by decide) ?_
  refine ⟨_, rfl, ?_, fun h => absurd (inR_nI (by decide)) h, fun j hj e => ?_⟩
  · unfold im_res; rw [cif_t (inR_nI (by decide))]
  · have ej := (nI_eq (by decide) (by omega)).mp e
    subst ej
    exact ⟨hY, hR, fun c hc => ⟨rfl, hF c (by omega), fun _ => rfl⟩, fun _ _ => rfl⟩
theorem l_X10_imN2 (S : St_c sh P) (V : Inv σ) (R : RepS I 100 σ) (hN : imN sh P 2) : am_R mX10_image (imP sh P I σ (nI 2)) 4 94 38 1180 11 [some (.ref 60), some (.int (nI 2))] [] sh I P := by
  have hp := hN.1
  have s61 : sh 61 = (5, 3) := S.1 61 _ rfl
  have b1 : np σ ≤ 3 := V.1.np.2
  refine r_aload_n dX10_image_11 rfl ?_
  refine r_getP dX10_image_12 g_X10_16 (by first | assumption | exact S.1 _ _ rfl) rfl (by first | assumption | exact S.2 _ _ _ rfl) ?_
  refine r_iload_n dX10_image_15 rfl ?_
  refine r_aaloadSN 2 dX10_image_16 (by first | assumption | exact S.1 _ _ rfl) rfl (by first | decide | omega) (by decide) (by first | assumption | exact S.2 _ _ _ rfl) ?_
  refine r_ifnonnullN dX10_image_17 ?_
  refine r_aload_n dX10_image_20 rfl ?_
  refine r_getP dX10_image_21 g_X10_16 (by first | assumption | exact S.1 _ _ rfl) rfl (by first | assumption | exact S.2 _ _ _ rfl) ?_
  refine r_iload_n dX10_image_24 rfl ?_
  refine r_new 400 dX10_image_25 k_X10_7 (hN.2 _ (by decide) (by decide)) (by decide) (by decide) ?_
  refine r_dup dX10_image_28 ?_
  refine r_callI0 (fr' := 3) (lo' := 60) (mc' := 37) (ms' := 1172) dX10_image_29 mm_X7_init rfl mi_X7_init rfl l_X10_9 (by decide) ⟨by decide, by decide⟩ (by decide) (by decide) (Nat.le_of_ble_eq_true rfl) (c_X7_init_400 rfl (fun c h1 h2 => by rw [va_up_ne _ _ (by omega)]; exact hN.2 c (by omega) (by omega))) (am_kv ?_)
  rintro sh1 I1 P1 ⟨T, F, z0, zz⟩
  have hT : SSt sh1 P1 400 := T
  have r61 : sh1 61 = (5, 3) := by rw [(F 61 (by omega)).1, va_up_ne _ _ (by decide)]; exact s61
  have r60 : sh1 60 = (1, 8) := by rw [(F 60 (by omega)).1, va_up_ne _ _ (by decide)]; exact S.1 60 _ rfl
  have rB := T.1.1
  have q0 : P1 60 0 = some 100 := by rw [(F 60 (by omega)).2.1, va_up_ne _ _ (by decide)]; exact S.2 60 _ _ rfl
  have q1 : P1 60 1 = some 61 := by rw [(F 60 (by omega)).2.1, va_up_ne _ _ (by decide)]; exact S.2 60 _ _ rfl
  refine r_aastoreS 2 dX10_image_32 r61 rB rfl (by first | decide | omega) (by decide) ?_
  have T2 : SSt sh1 (va_up P1 61 (va_up (P1 61) 2 (some 400))) 400 := SSt_fr T (fun _ _ _ => rfl) (fun c h1 h2 => va_up_ne _ _ (by omega))
  have T0 : SSt sh1 (va_up P1 61 (va_up (P1 61) 2 (some 400))) 100 := SSt_fr (SSt_of S) (fun c h1 h2 => by rw [(F c (by omega)).1, va_up_ne _ _ (by omega)]) (fun c h1 h2 => by rw [va_up_ne _ _ (by omega), (F c (by omega)).2.1, va_up_ne _ _ (by omega)])
  have R1 : RepS I1 100 σ := RepS_fr b1 R (fun c h1 h2 => by rw [(F c (by omega)).2.2, va_up_ne _ _ (by omega)])
  have w0 : (va_up P1 61 (va_up (P1 61) 2 (some 400))) 60 0 = some 100 := q0
  have w1 : (va_up P1 61 (va_up (P1 61) 2 (some 400))) 60 1 = some 61 := q1
  have w2 : (va_up P1 61 (va_up (P1 61) 2 (some 400))) 61 2 = some 400 := rfl
  refine r_aload_n dX10_image_33 rfl ?_
  refine r_getP dX10_image_34 g_X10_16 (by first | assumption | exact S.1 _ _ rfl) rfl (by first | assumption | exact S.2 _ _ _ rfl) ?_
  refine r_iload_n dX10_image_37 rfl ?_
  refine r_aaloadS 2 dX10_image_38 (by first | assumption | exact S.1 _ _ rfl) rfl (by first | decide | omega) (by decide) (by first | assumption | exact S.2 _ _ _ rfl) ?_
  refine r_aload_n dX10_image_39 rfl ?_
  refine r_getP dX10_image_40 g_X10_10 (by first | assumption | exact S.1 _ _ rfl) rfl (by first | assumption | exact S.2 _ _ _ rfl) ?_
  refine r_callV1 (fr' := 3) (lo' := 72) (mc' := 0) (ms' := 0) dX10_image_43 mm_X7_copyFrom mv_X7_copyFrom l_X10_214 (by first | assumption | exact S.1 _ _ rfl) mc_X7_copyFrom (by decide) ⟨by decide, by decide⟩ (Nat.zero_le _) (Nat.zero_le _) (Nat.le_of_ble_eq_true rfl) (c_X7_copyFrom T2 T0 (by decide) V R1) (am_kv ?_)
  rintro _ H _ ⟨hF, hR, rfl, rfl⟩
  refine r_iconst dX10_image_46 (v := nI 1) kc_1 ?_
  refine r_ireturn dX10_image_47 .boolean rfl (by decide) ?_
  refine ⟨_, rfl, ?_, fun h => absurd (inR_nI (by decide)) h, fun j hj e => ?_⟩
  · unfold im_res; rw [cif_t (inR_nI (by decide))]
  · have ej := (nI_eq (by decide) (by omega)).mp e
    subst ej
    refine ⟨⟨w2, T2⟩, hR, fun c hc => ⟨?_, ?_, fun h61 => ?_⟩, fun j hj => ?_⟩
    · rw [(F c (by omega)).1, va_up_ne _ _ (by omega)]
    · rw [hF c (by omega), (F c (by omega)).2.2, va_up_ne _ _ (by omega)]
    · rw [va_up_ne _ _ h61, (F c (by omega)).2.1, va_up_ne _ _ (by omega)]
    · rw [va_up_self, va_up_ne _ _ hj, (F 61 (by omega)).2.1, va_up_ne _ _ (by decide)]
theorem c_X10_image (S : St_c sh P) (V : Inv σ) (R : RepS I 100 σ) (hI : ∀ k, k < 3 → imN sh P k ∨ imY sh P k) (x : Int32) : am_R mX10_image (imP sh P I σ x) 4 94 38 1180 0 [some (.ref 60), some (.int x)] [] sh I P := by
  refine r_iload_n dX10_image_0 rfl ?_
  refine r_if_lt 9 dX10_image_1 (by decide) (fun h1 => ?_) (fun h1 => ?_)
  · have hf := inR_n0 (n := 3) (by decide) h1
    refine r_iconst dX10_image_9 (v := nI 0) kc_0 ?_
    refine r_ireturn dX10_image_10 .boolean rfl (by decide) ?_
    exact ⟨_, rfl, by unfold im_res; rw [cif_f hf], fun _ => ⟨rfl, rfl, rfl⟩, fun k hk e => absurd ⟨k, hk, e⟩ hf⟩
  · refine r_iload_n dX10_image_4 rfl ?_
    refine r_iconst dX10_image_5 (v := nI 3) kc_3 ?_
    refine r_icmp_lt 11 dX10_image_6 (by decide) (fun h6 => ?_) (fun h6 => ?_)
    · obtain ⟨k, hk, rfl⟩ := inR_of (n := 3) (by decide) h1 (fun h => Int32.not_lt.mpr h h6)
      rcases (show k = 0 ∨ k = 1 ∨ k = 2 by omega) with rfl | rfl | rfl
      · rcases hI 0 (by decide) with h | h
        · exact l_X10_imN0 S V R h
        · exact l_X10_imY0 S V R h
      · rcases hI 1 (by decide) with h | h
        · exact l_X10_imN1 S V R h
        · exact l_X10_imY1 S V R h
      · rcases hI 2 (by decide) with h | h
        · exact l_X10_imN2 S V R h
        · exact l_X10_imY2 S V R h
    · have hf := inR_n1 (n := 3) (by decide) (Int32.not_lt.mp h6)
      refine r_iconst dX10_image_9 (v := nI 0) kc_0 ?_
      refine r_ireturn dX10_image_10 .boolean rfl (by decide) ?_
      exact ⟨_, rfl, by unfold im_res; rw [cif_f hf], fun _ => ⟨rfl, rfl, rfl⟩, fun k hk e => absurd ⟨k, hk, e⟩ hf⟩
def imR (sh : ASh) (P : APt) (I σ : AIn) (k : Nat) : Prop := (imN sh P k ∧ σ 47 k = 0) ∨ (imY sh P k ∧ σ 47 k ≠ 0 ∧ RepS I (200 + 100 * k) (bk σ (k + 1)) ∧ Inv (bk σ (k + 1)))
theorem cpB_0 (k : Nat) : eqB (bk σ (k + 1)) (cpB σ (k + 1) 0) := fun r i hi => by
  show va_cpy (σ r) (σ r) (bl r * (k + 1)) (bl r * 0) (bl r) i = σ r (bl r * (k + 1) + i)
  rw [Nat.mul_zero, pk_cpy_in (Nat.zero_le _) (by omega), Nat.sub_zero]
theorem l_X10_ag (S : St_c sh P) {k : Nat} (hk : k < 3) (hI : imR sh P I σ k) : am_R mX10_again (cpo sh P I (ag_op σ (nI k)) (ag_res σ (nI k))) 4 94 0 0 9 [some (.ref 60), some (.int (nI k))] [] sh I P ∨ (σ 47 k = 0 ∧ imN sh P k) := by
  have enk : nv (nI k) = k := nv_nI (by omega)
  rcases hI with ⟨hN, h0⟩ | ⟨hY, h1, hR, hV⟩
  · exact Or.inr ⟨h0, hN⟩
  · refine Or.inl ?_
    have hp := hY.1
    have T := hY.2
    have hc : ag_c σ (nI k) := ⟨inR_nI hk, by rw [enk]; exact h1⟩
    refine r_aload_n dX10_again_9 rfl ?_
    refine r_getP dX10_again_10 g_X10_16 (by first | assumption | exact S.1 _ _ rfl) rfl (by first | assumption | exact S.2 _ _ _ rfl) ?_
    refine r_iload_n dX10_again_13 rfl ?_
    refine r_aaloadS k dX10_again_14 (by first | assumption | exact S.1 _ _ rfl) rfl (by first | decide | omega) (by decide) (by first | assumption | exact S.2 _ _ _ rfl) ?_
    refine r_ifnonnull 20 dX10_again_15 (by decide) ?_
    refine r_aload_n dX10_again_20 rfl ?_
    refine r_getP dX10_again_21 g_X10_10 (by first | assumption | exact S.1 _ _ rfl) rfl (by first | assumption | exact S.2 _ _ _ rfl) ?_
    refine r_aload_n dX10_again_24 rfl ?_
    refine r_getP dX10_again_25 g_X10_16 (by first | assumption | exact S.1 _ _ rfl) rfl (by first | assumption | exact S.2 _ _ _ rfl) ?_
    refine r_iload_n dX10_again_28 rfl ?_
    refine r_aaloadS k dX10_again_29 (by first | assumption | exact S.1 _ _ rfl) rfl (by first | decide | omega) (by decide) (by first | assumption | exact S.2 _ _ _ rfl) ?_
    refine r_callV1 (fr' := 3) (lo' := 72) (mc' := 0) (ms' := 0) dX10_again_30 mm_X7_copyFrom mv_X7_copyFrom l_X10_214 (by first | assumption | exact S.1 _ _ rfl) mc_X7_copyFrom (by decide) ⟨by decide, by decide⟩ (Nat.zero_le _) (Nat.zero_le _) (Nat.le_of_ble_eq_true rfl) (c_X7_copyFrom (SSt_of S) T (by omega) hV hR) (am_kv ?_)
    rintro _ H _ ⟨hF, hR2, rfl, rfl⟩
    refine r_iconst dX10_again_33 (v := nI 1) kc_1 ?_
    refine r_ireturn dX10_again_34 .boolean rfl (by decide) ?_
    refine ⟨_, rfl, by unfold ag_res; rw [cif_t hc], ?_, fun r hr => hF r (by omega), rfl, rfl⟩
    unfold ag_op
    rw [cif_t hc, enk]
    exact RepS_B hV (cpB_0 k) hR2
theorem c_X10_again (S : St_c sh P) (V : Inv σ) (R : RepS I 100 σ) (hI : ∀ k, k < 3 → imR sh P I σ k) (x : Int32) : am_R mX10_again (cpo sh P I (ag_op σ x) (ag_res σ x)) 4 94 0 0 0 [some (.ref 60), some (.int x)] [] sh I P := by
  have b1 : np σ ≤ 3 := V.1.np.2
  have e1 : I 100 0 = nI (np σ) := R.1.1
  refine r_iload_n dX10_again_0 rfl ?_
  refine r_if_lt 18 dX10_again_1 (by decide) (fun h1 => ?_) (fun h1 => ?_)
  · have hf : ¬ ag_c σ x := fun h => inR_n0 (n := 3) (by decide) h1 h.1
    refine r_iconst dX10_again_18 (v := nI 0) kc_0 ?_
    refine r_ireturn dX10_again_19 .boolean rfl (by decide) ?_
    exact ⟨_, rfl, by rw [ag_res, cif_f hf], by rw [ag_op, cif_f hf]; exact R, cF_rf _, rfl, rfl⟩
  · refine r_iload_n dX10_again_4 rfl ?_
    refine r_iconst dX10_again_5 (v := nI 3) kc_3 ?_
    refine r_icmp_ge 18 dX10_again_6 (by decide) (fun h6 => ?_) (fun h6 => ?_)
    · have hf : ¬ ag_c σ x := fun h => inR_n1 (n := 3) (by decide) h6 h.1
      refine r_iconst dX10_again_18 (v := nI 0) kc_0 ?_
      refine r_ireturn dX10_again_19 .boolean rfl (by decide) ?_
      exact ⟨_, rfl, by rw [ag_res, cif_f hf], by rw [ag_op, cif_f hf]; exact R, cF_rf _, rfl, rfl⟩
    · obtain ⟨k, hk, rfl⟩ := inR_of (n := 3) (by decide) h1 h6
      rcases l_X10_ag S hk (hI k hk) with h | ⟨h0, hN⟩
      · exact h
      · have hf : ¬ ag_c σ (nI k) := fun h => h.2 (by rw [nv_nI (by omega)]; exact h0)
        have hp := hN.1
        refine r_aload_n dX10_again_9 rfl ?_
        refine r_getP dX10_again_10 g_X10_16 (by first | assumption | exact S.1 _ _ rfl) rfl (by first | assumption | exact S.2 _ _ _ rfl) ?_
        refine r_iload_n dX10_again_13 rfl ?_
        refine r_aaloadSN k dX10_again_14 (by first | assumption | exact S.1 _ _ rfl) rfl (by first | decide | omega) (by decide) (by first | assumption | exact S.2 _ _ _ rfl) ?_
        refine r_ifnonnullN dX10_again_15 ?_
        refine r_iconst dX10_again_18 (v := nI 0) kc_0 ?_
        refine r_ireturn dX10_again_19 .boolean rfl (by decide) ?_
        exact ⟨_, rfl, by rw [ag_res, cif_f hf], by rw [ag_op, cif_f hf]; exact R, cF_rf _, rfl, rfl⟩
end K20
