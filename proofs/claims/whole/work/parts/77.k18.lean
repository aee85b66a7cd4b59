/-! the class: the object is made -/
section K18
variable {sh : ASh} {I σ : AIn} {P : APt}
def Ulo (sh : ASh) (P : APt) : Prop := (sh 60 = (1, 8) ∧ sh 61 = (5, 3) ∧ sh 62 = (1, 7) ∧ sh 63 = (2, 40) ∧ sh 64 = (2, 40) ∧ sh 65 = (2, 41) ∧ sh 66 = (1, 0) ∧ sh 67 = (2, 360) ∧ sh 68 = (2, 360) ∧ sh 69 = (2, 360) ∧ sh 70 = (2, 361) ∧ sh 71 = (2, 360) ∧ sh 72 = (2, 360) ∧ sh 73 = (2, 360) ∧ sh 74 = (2, 360) ∧ sh 75 = (2, 360) ∧ sh 76 = (2, 360)) ∧ P 60 0 = some 100 ∧ P 60 1 = some 61 ∧ P 60 2 = some 62 ∧ P 60 3 = some 66 ∧ P 62 0 = some 63 ∧ P 62 1 = some 64 ∧ P 62 2 = some 65 ∧ P 66 1 = some 67 ∧ P 66 2 = some 68 ∧ P 66 3 = some 69 ∧ P 66 4 = some 70 ∧ P 66 6 = some 71 ∧ P 66 7 = some 72 ∧ P 66 8 = some 73 ∧ P 66 9 = some 74 ∧ P 66 10 = some 75 ∧ P 66 11 = some 76
theorem St_c_of (L : Ulo sh P) (T : SSt sh P 100) : St_c sh P := by
  refine ⟨fun k q h => ?_, fun k f z h => ?_⟩
  · unfold sh_c at h
    split at h
    · cases h; exact L.1.1
    · cases h; exact L.1.2.1
    · cases h; exact L.1.2.2.1
    · cases h; exact L.1.2.2.2.1
    · cases h; exact L.1.2.2.2.2.1
    · cases h; exact L.1.2.2.2.2.2.1
    · cases h; exact L.1.2.2.2.2.2.2.1
    · cases h; exact L.1.2.2.2.2.2.2.2.1
    · cases h; exact L.1.2.2.2.2.2.2.2.2.1
    · cases h; exact L.1.2.2.2.2.2.2.2.2.2.1
    · cases h; exact L.1.2.2.2.2.2.2.2.2.2.2.1
    · cases h; exact L.1.2.2.2.2.2.2.2.2.2.2.2.1
    · cases h; exact L.1.2.2.2.2.2.2.2.2.2.2.2.2.1
    · cases h; exact L.1.2.2.2.2.2.2.2.2.2.2.2.2.2.1
    · cases h; exact L.1.2.2.2.2.2.2.2.2.2.2.2.2.2.2.1
    · cases h; exact L.1.2.2.2.2.2.2.2.2.2.2.2.2.2.2.2.1
    · cases h; exact L.1.2.2.2.2.2.2.2.2.2.2.2.2.2.2.2.2
    · cases h; exact T.1.1
    · cases h; exact T.1.2.1
    · cases h; exact (T.2.1 0 (by decide)).2.1
    · cases h; exact (T.2.1 0 (by decide)).2.2.1
    · cases h; exact (T.2.1 0 (by decide)).2.2.2.1
    · cases h; exact (T.2.1 0 (by decide)).2.2.2.2.1
    · cases h; exact (T.2.1 0 (by decide)).2.2.2.2.2.1
    · cases h; exact (T.2.1 1 (by decide)).2.1
    · cases h; exact (T.2.1 1 (by decide)).2.2.1
    · cases h; exact (T.2.1 1 (by decide)).2.2.2.1
    · cases h; exact (T.2.1 1 (by decide)).2.2.2.2.1
    · cases h; exact (T.2.1 1 (by decide)).2.2.2.2.2.1
    · cases h; exact (T.2.1 2 (by decide)).2.1
    · cases h; exact (T.2.1 2 (by decide)).2.2.1
    · cases h; exact (T.2.1 2 (by decide)).2.2.2.1
    · cases h; exact (T.2.1 2 (by decide)).2.2.2.2.1
    · cases h; exact (T.2.1 2 (by decide)).2.2.2.2.2.1
    · cases h; exact T.2.2.1.1.1
    · cases h; exact T.2.2.1.1.2.1
    · cases h; exact T.2.2.2.1.1.1.1
    · cases h; exact T.2.2.2.1.1.1.2.2.1
    · cases h; exact T.2.2.2.1.1.1.2.2.2.1
    · cases h; exact T.2.2.2.1.1.1.2.2.2.2.1
    · cases h; exact T.2.2.2.1.1.1.2.2.2.2.2.1
    · cases h; exact T.2.2.2.1.1.1.2.2.2.2.2.2.1
    · cases h; exact T.2.2.2.1.1.2.1.1
    · cases h; exact T.2.2.2.1.1.2.2.1.1
    · cases h; exact T.2.2.2.1.1.2.2.2.1.1
    · cases h; exact T.2.2.2.1.1.2.2.2.2.1.1
    · cases h; exact T.2.2.2.1.1.2.2.2.2.2.1
    · cases h; exact T.2.2.2.2.1.1.1
    · cases h; exact T.2.2.2.2.1.1.2.1.1
    · cases h; exact T.2.2.2.2.1.1.2.2.1.1
    · cases h; exact T.2.2.2.2.1.1.2.2.2.1
    · cases h; exact T.2.2.2.2.2.1.1.1
    · cases h; exact T.2.2.2.2.2.1.1.2.1
    · cases h; exact T.2.2.2.2.2.2.1.1
    · cases h; exact T.2.2.2.2.2.2.1.2.1
    · cases h
  · unfold pt_c at h
    split at h
    · split at h
      · cases h; exact L.2.1
      · cases h; exact L.2.2.1
      · cases h; exact L.2.2.2.1
      · cases h; exact L.2.2.2.2.1
      · cases h
    · split at h
      · cases h; exact L.2.2.2.2.2.1
      · cases h; exact L.2.2.2.2.2.2.1
      · cases h; exact L.2.2.2.2.2.2.2.1
      · cases h
    · split at h
      · cases h; exact L.2.2.2.2.2.2.2.2.1
      · cases h; exact L.2.2.2.2.2.2.2.2.2.1
      · cases h; exact L.2.2.2.2.2.2.2.2.2.2.1
      · cases h; exact L.2.2.2.2.2.2.2.2.2.2.2.1
      · cases h; exact L.2.2.2.2.2.2.2.2.2.2.2.2.1
      · cases h; exact L.2.2.2.2.2.2.2.2.2.2.2.2.2.1
      · cases h; exact L.2.2.2.2.2.2.2.2.2.2.2.2.2.2.1
      · cases h; exact L.2.2.2.2.2.2.2.2.2.2.2.2.2.2.2.1
      · cases h; exact L.2.2.2.2.2.2.2.2.2.2.2.2.2.2.2.2.1
      · cases h; exact L.2.2.2.2.2.2.2.2.2.2.2.2.2.2.2.2.2
      · cases h
    · split at h
      · cases h; exact T.1.2.2
      · cases h; exact T.2.2.1.2
      · cases h; exact T.2.2.2.1.2
      · cases h; exact T.2.2.2.2.1.2
      · cases h; exact T.2.2.2.2.2.1.2
      · cases h; exact T.2.2.2.2.2.2.2
      · cases h
    · split at h
      · cases h; exact (T.2.1 0 (by decide)).1
      · cases h; exact (T.2.1 1 (by decide)).1
      · cases h; exact (T.2.1 2 (by decide)).1
      · cases h
    · split at h
      · cases h; exact (T.2.1 0 (by decide)).2.2.2.2.2.2.1
      · cases h; exact (T.2.1 0 (by decide)).2.2.2.2.2.2.2.1
      · cases h; exact (T.2.1 0 (by decide)).2.2.2.2.2.2.2.2.1
      · cases h; exact (T.2.1 0 (by decide)).2.2.2.2.2.2.2.2.2
      · cases h
    · split at h
      · cases h; exact (T.2.1 1 (by decide)).2.2.2.2.2.2.1
      · cases h; exact (T.2.1 1 (by decide)).2.2.2.2.2.2.2.1
      · cases h; exact (T.2.1 1 (by decide)).2.2.2.2.2.2.2.2.1
      · cases h; exact (T.2.1 1 (by decide)).2.2.2.2.2.2.2.2.2
      · cases h
    · split at h
      · cases h; exact (T.2.1 2 (by decide)).2.2.2.2.2.2.1
      · cases h; exact (T.2.1 2 (by decide)).2.2.2.2.2.2.2.1
      · cases h; exact (T.2.1 2 (by decide)).2.2.2.2.2.2.2.2.1
      · cases h; exact (T.2.1 2 (by decide)).2.2.2.2.2.2.2.2.2
      · cases h
    · split at h
      · cases h; exact T.2.2.1.1.2.2
      · cases h
    · split at h
      · cases h; exact T.2.2.2.1.1.1.2.1
      · cases h; exact T.2.2.2.1.1.2.1.2
      · cases h; exact T.2.2.2.1.1.2.2.1.2
      · cases h; exact T.2.2.2.1.1.2.2.2.1.2
      · cases h; exact T.2.2.2.1.1.2.2.2.2.1.2
      · cases h; exact T.2.2.2.1.1.2.2.2.2.2.2
      · cases h
    · split at h
      · cases h; exact T.2.2.2.1.1.1.2.2.2.2.2.2.2.1
      · cases h; exact T.2.2.2.1.1.1.2.2.2.2.2.2.2.2.1
      · cases h; exact T.2.2.2.1.1.1.2.2.2.2.2.2.2.2.2.1
      · cases h; exact T.2.2.2.1.1.1.2.2.2.2.2.2.2.2.2.2
      · cases h
    · split at h
      · cases h; exact T.2.2.2.2.1.1.2.1.2
      · cases h; exact T.2.2.2.2.1.1.2.2.1.2
      · cases h; exact T.2.2.2.2.1.1.2.2.2.2
      · cases h
    · split at h
      · cases h; exact T.2.2.2.2.2.1.1.2.2
      · cases h
    · split at h
      · cases h; exact T.2.2.2.2.2.2.1.2.2
      · cases h
    · cases h
theorem SSt_of (S : St_c sh P) : SSt sh P 100 :=
  ⟨⟨S.1 100 _ rfl, S.1 101 _ rfl, S.2 100 _ _ rfl⟩, fun p hp => SPg_of S hp, ⟨SRw_j S, S.2 100 _ _ rfl⟩, ⟨⟨⟨S.1 119 _ rfl, S.2 119 _ _ rfl, SPg_k S⟩, ⟨S.1 125 _ rfl, S.2 119 _ _ rfl⟩, ⟨S.1 126 _ rfl, S.2 119 _ _ rfl⟩, ⟨S.1 127 _ rfl, S.2 119 _ _ rfl⟩, ⟨S.1 128 _ rfl, S.2 119 _ _ rfl⟩, S.1 129 _ rfl, S.2 119 _ _ rfl⟩, S.2 100 _ _ rfl⟩, ⟨⟨S.1 130 _ rfl, ⟨S.1 131 _ rfl, S.2 130 _ _ rfl⟩, ⟨S.1 132 _ rfl, S.2 130 _ _ rfl⟩, S.1 133 _ rfl, S.2 130 _ _ rfl⟩, S.2 100 _ _ rfl⟩, ⟨SRw_c S, S.2 100 _ _ rfl⟩, ⟨S.1 136 _ rfl, S.1 137 _ rfl, S.2 136 _ _ rfl⟩, S.2 100 _ _ rfl⟩
theorem SPg_fr {sh' : ASh} {P' : APt} {q : Nat} (h : SPg sh P q) (hs : ∀ k, q ≤ k → k ≤ q + 4 → sh' k = sh k) (hP : P' q = P q) : SPg sh' P' q := by
  obtain ⟨s0, s1, s2, s3, s4, p1, p2, p3, p4⟩ := h
  unfold SPg
  rw [hs q (by omega) (by omega), hs (q + 1) (by omega) (by omega), hs (q + 2) (by omega) (by omega), hs (q + 3) (by omega) (by omega), hs (q + 4) (by omega) (by omega), hP]
  exact ⟨s0, s1, s2, s3, s4, p1, p2, p3, p4⟩
theorem SSt_fr {sh' : ASh} {P' : APt} {B : Nat} (h : SSt sh P B) (hs : ∀ k, B ≤ k → k ≤ B + 37 → sh' k = sh k) (hP : ∀ k, B ≤ k → k ≤ B + 37 → P' k = P k) : SSt sh' P' B := by
  obtain ⟨a, b, c, d, e, f, g⟩ := h
  have w : ∀ r, B ≤ r → r + 1 ≤ B + 37 → SRw sh P r → SRw sh' P' r := fun r h1 h2 h => by
    unfold SRw
    rw [hs r (by omega) (by omega), hs (r + 1) (by omega) (by omega), hP r (by omega) (by omega)]
    exact h
  refine ⟨?_, fun p hp => ⟨?_, SPg_fr (b p hp).2 (fun k h1 h2 => hs k (by omega) (by omega)) (hP _ (by omega) (by omega))⟩, ⟨w _ (by omega) (by omega) c.1, ?_⟩, ⟨?_, ?_⟩, ⟨?_, ?_⟩, ⟨w _ (by omega) (by omega) f.1, ?_⟩, ?_, ?_⟩
  · rw [hs B (by omega) (by omega), hs (B + 1) (by omega) (by omega), hP B (by omega) (by omega)]; exact a
  · rw [hP (B + 1) (by omega) (by omega)]; exact (b p hp).1
  · rw [hP B (by omega) (by omega)]; exact c.2
  · obtain ⟨⟨k1, k2, k3⟩, k4⟩ := d.1
    refine ⟨⟨?_, ?_, SPg_fr k3 (fun k h1 h2 => hs k (by omega) (by omega)) (hP _ (by omega) (by omega))⟩, ?_⟩
    · rw [hs _ (by omega) (by omega)]; exact k1
    · rw [hP _ (by omega) (by omega)]; exact k2
    · rw [hs (B + 19 + 6) (by omega) (by omega), hs (B + 19 + 7) (by omega) (by omega), hs (B + 19 + 8) (by omega) (by omega), hs (B + 19 + 9) (by omega) (by omega), hs (B + 19 + 10) (by omega) (by omega), hP (B + 19) (by omega) (by omega)]
      exact k4
  · rw [hP B (by omega) (by omega)]; exact d.2
  · unfold SRn
    rw [hs (B + 30) (by omega) (by omega), hs (B + 30 + 1) (by omega) (by omega), hs (B + 30 + 2) (by omega) (by omega), hs (B + 30 + 3) (by omega) (by omega), hP (B + 30) (by omega) (by omega)]
    exact e.1
  · rw [hP B (by omega) (by omega)]; exact e.2
  · rw [hP B (by omega) (by omega)]; exact f.2
  · unfold STd
    rw [hs (B + 36) (by omega) (by omega), hs (B + 36 + 1) (by omega) (by omega), hP (B + 36) (by omega) (by omega)]
    exact g.1
  · rw [hP B (by omega) (by omega)]; exact g.2
set_option maxRecDepth 20000 in
theorem c_X10_init (s0 : sh 60 = (1, 8)) (hU : ∀ k, 60 < k → k ≤ 137 → (sh k).1 = 0) : am_R mX10_init (po_v (fun sh' I' P' => St_c sh' P' ∧ (∀ k, k < 60 ∨ 137 < k → sh' k = sh k ∧ P' k = P k ∧ I' k = I k) ∧ (∀ k, P' 61 k = none) ∧ ∀ k, 100 ≤ k → k ≤ 137 → I' k = fun _ => 0)) 4 81 54 4923 0 [some (.ref 60)] [] sh I P := by
  refine r_aload_n dX10_init_0 rfl ?_
  refine r_obj dX10_init_1 lo_X10_1 ⟨by decide, Nat.le_of_ble_eq_true rfl⟩ ?_
  refine r_aload_n dX10_init_4 rfl ?_
  refine r_new 100 dX10_init_5 k_X10_7 (hU 100 (by decide) (by decide)) (by decide) (by decide) ?_
  refine r_dup dX10_init_8 ?_
  refine r_callI0 (fr' := 3) (lo' := 60) (mc' := 37) (ms' := 1172) dX10_init_9 mm_X7_init rfl mi_X7_init rfl l_X10_9 (by decide) ⟨by decide, by decide⟩ (by decide) (by decide) (Nat.le_of_ble_eq_true rfl) (c_X7_init_100 rfl (fun k h1 h2 => by rw [va_up_ne _ _ (by omega)]; exact hU k (by omega) h2)) (am_kv ?_)
  rintro sh1 I1 P1 ⟨T, F, z0, zz⟩
  have h60 : sh1 60 = (1, 8) := by rw [(F 60 (by omega)).1, va_up_ne _ _ (by decide)]; exact s0
  have u1 : ∀ k, 60 < k → k < 100 → (sh1 k).1 = 0 := fun k h1 h2 => by rw [(F k (by omega)).1, va_up_ne _ _ (by omega)]; exact hU k h1 (by omega)
  refine r_putP dX10_init_12 f_X10_10 (by first | exact s0 | exact h60 | rfl) rfl rfl (fun _ => rfl) (fun _ => rfl) ?_
  refine r_aload_n dX10_init_15 rfl ?_
  refine r_iconst dX10_init_16 (v := nI 3) kc_3 ?_
  refine r_anewS 61 3 dX10_init_17 kl_X10_7 (u1 61 (by decide) (by decide)) rfl (by decide) (by decide) (by decide) ?_
  refine r_putP dX10_init_20 f_X10_16 (by first | exact s0 | exact h60 | rfl) rfl rfl (fun _ => rfl) (fun _ => rfl) ?_
  refine r_aload_n dX10_init_23 rfl ?_
  refine r_new 62 dX10_init_24 k_X10_20 (u1 62 (by decide) (by decide)) (by decide) (by decide) ?_
  refine r_dup dX10_init_27 ?_
  refine r_callN0 (fr' := 1) (lo' := 20) (mc' := 3) (ms' := 121) dX10_init_28 mm_X9_init rfl mi_X9_init rfl RX10 (by decide) (by decide) ⟨by decide, by decide⟩ (by decide) (by decide) (Nat.le_of_ble_eq_true rfl) (c_X9_init (q := 62) rfl (fun k h1 h2 => by rcases (show k = 63 ∨ k = 64 ∨ k = 65 by omega) with rfl | rfl | rfl <;> exact u1 _ (by decide) (by decide))) (am_kv ?_)
  rintro _ _ _ ⟨rfl, rfl, rfl⟩
  refine r_putP dX10_init_31 f_X10_23 (by first | exact s0 | exact h60 | rfl) rfl rfl (fun _ => rfl) (fun _ => rfl) ?_
  refine r_aload_n dX10_init_34 rfl ?_
  refine r_new 66 dX10_init_35 k_X10_27 (u1 66 (by decide) (by decide)) (by decide) (by decide) ?_
  refine r_dup dX10_init_38 ?_
  refine r_callN0 (fr' := 1) (lo' := 20) (mc' := 10) (ms' := 3601) dX10_init_39 mm_X0_init rfl mi_X0_init rfl RX10 (by decide) (by decide) ⟨by decide, by decide⟩ (by decide) (by decide) (Nat.le_of_ble_eq_true rfl) (c_X0_init (q := 66) rfl (fun k h1 h2 => by rcases (show k = 67 ∨ k = 68 ∨ k = 69 ∨ k = 70 ∨ k = 71 ∨ k = 72 ∨ k = 73 ∨ k = 74 ∨ k = 75 ∨ k = 76 by omega) with rfl | rfl | rfl | rfl | rfl | rfl | rfl | rfl | rfl | rfl <;> exact u1 _ (by decide) (by decide))) (am_kv ?_)
  rintro _ _ _ ⟨rfl, rfl, rfl⟩
  refine r_putP dX10_init_42 f_X10_30 (by first | exact s0 | exact h60 | rfl) rfl rfl (fun _ => rfl) (fun _ => rfl) ?_
  refine r_return dX10_init_45 rfl ?_
  refine ⟨rfl, St_c_of ⟨⟨h60, rfl, rfl, rfl, rfl, rfl, rfl, rfl, rfl, rfl, rfl, rfl, rfl, rfl, rfl, rfl, rfl⟩, rfl, rfl, rfl, rfl, rfl, rfl, rfl, rfl, rfl, rfl, rfl, rfl, rfl, rfl, rfl, rfl, rfl⟩ ?_, fun k hk => ⟨?_, ?_, ?_⟩, fun k => rfl, fun k h1 h2 => ?_⟩
  · exact SSt_fr T (fun k h1 h2 => by rw [bA_o (by omega), bA_o (by omega), bA_o (by omega), bA_o (by omega), bA_o (by omega), bA_o (by omega), bA_o (by omega), bA_o (by omega), bA_o (by omega), bA_o (by omega), va_up_ne _ _ (by omega), bA_o (by omega), bA_o (by omega), bA_o (by omega), va_up_ne _ _ (by omega), va_up_ne _ _ (by omega)]) (fun k h1 h2 => by rw [va_up_ne _ _ (by omega), bP_o (by omega) (by omega), bP_o (by omega) (by omega), bP_o (by omega) (by omega), bP_o (by omega) (by omega), bP_o (by omega) (by omega), bP_o (by omega) (by omega), bP_o (by omega) (by omega), bP_o (by omega) (by omega), bP_o (by omega) (by omega), bP_o (by omega) (by omega), va_up_ne _ _ (by omega), va_up_ne _ _ (by omega), bP_o (by omega) (by omega), bP_o (by omega) (by omega), bP_o (by omega) (by omega), va_up_ne _ _ (by omega), va_up_ne _ _ (by omega), va_up_ne _ _ (by omega), va_up_ne _ _ (by omega)])
  · rw [bA_o (by omega), bA_o (by omega), bA_o (by omega), bA_o (by omega), bA_o (by omega), bA_o (by omega), bA_o (by omega), bA_o (by omega), bA_o (by omega), bA_o (by omega), va_up_ne _ _ (by omega), bA_o (by omega), bA_o (by omega), bA_o (by omega), va_up_ne _ _ (by omega), va_up_ne _ _ (by omega), (F k (by omega)).1, va_up_ne _ _ (by omega)]
  · rw [va_up_ne _ _ (by omega), bP_o (by omega) (by omega), bP_o (by omega) (by omega), bP_o (by omega) (by omega), bP_o (by omega) (by omega), bP_o (by omega) (by omega), bP_o (by omega) (by omega), bP_o (by omega) (by omega), bP_o (by omega) (by omega), bP_o (by omega) (by omega), bP_o (by omega) (by omega), va_up_ne _ _ (by omega), va_up_ne _ _ (by omega), bP_o (by omega) (by omega), bP_o (by omega) (by omega), bP_o (by omega) (by omega), va_up_ne _ _ (by omega), va_up_ne _ _ (by omega), va_up_ne _ _ (by omega), va_up_ne _ _ (by omega), (F k (by omega)).2.1, va_up_ne _ _ (by omega)]
  · rw [zA_o (by omega), zA_o (by omega), zA_o (by omega), zA_o (by omega), zA_o (by omega), zA_o (by omega), zA_o (by omega), zA_o (by omega), zA_o (by omega), zA_o (by omega), va_up_ne _ _ (by omega), zA_o (by omega), zA_o (by omega), zA_o (by omega), va_up_ne _ _ (by omega), va_up_ne _ _ (by omega), (F k (by omega)).2.2, va_up_ne _ _ (by omega)]
  · rw [zA_o (by omega), zA_o (by omega), zA_o (by omega), zA_o (by omega), zA_o (by omega), zA_o (by omega), zA_o (by omega), zA_o (by omega), zA_o (by omega), zA_o (by omega), va_up_ne _ _ (by omega), zA_o (by omega), zA_o (by omega), zA_o (by omega), va_up_ne _ _ (by omega), va_up_ne _ _ (by omega)]
    by_cases e : k = 100
    · rw [e, z0, va_up_self]
    · exact zz k (by omega) h2
end K18
