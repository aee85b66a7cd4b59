/-! the class: joined orders -/
def rEq (F : Nat → Int32) (z : Nat) (G : Nat → Int32) (w : Nat) : Prop := ∀ i, i < 5 → F (z + i) = G (w + i)
theorem jOk.ln {F : Nat → Int32} {z : Nat} (h : jOk F z) : nv (F z) ≤ 4 := h.1.2.2
theorem jOk.kd {F : Nat → Int32} {z : Nat} (h : jOk F z) : ∀ i, i < nv (F z) → nv (F (z + 1 + i)) ≤ 15 := fun i hi => (h.2.1 i hi).1.2
theorem eR_lt {F : Nat → Int32} {z : Nat} (h : jOk F z) : eR F z < 1048576 := e5_lt h.ln h.kd
theorem rEq_e {F G : Nat → Int32} {z w : Nat} (h : jOk F z) (g : jOk G w) : rEq F z G w ↔ eR F z = eR G w := by
  constructor
  · intro e
    have e0 : F z = G w := e 0 (by decide)
    unfold eR
    rw [e0]
    refine e5_congr (fun i hi => ?_)
    have hl := g.ln
    have := e (1 + i) (by omega)
    rw [← Nat.add_assoc, ← Nat.add_assoc] at this
    show nv (F (z + 1 + i)) = nv (G (w + 1 + i))
    rw [this]
  · intro e
    obtain ⟨e1, e2⟩ := e5_inj h.ln h.kd g.ln g.kd e
    intro i hi
    by_cases h0 : i = 0
    · subst h0
      show F z = G w
      rw [h.1.2.1, g.1.2.1, e1]
    · obtain ⟨j, rfl⟩ : ∃ j, i = 1 + j := ⟨i - 1, by omega⟩
      rw [← Nat.add_assoc, ← Nat.add_assoc]
      by_cases hj : j < nv (F z)
      · have q1 := (h.2.1 j hj).1.1
        have q2 := (g.2.1 j (by omega)).1.1
        have q3 : nv (F (z + 1 + j)) = nv (G (w + 1 + j)) := e2 j hj
        rw [q1, q2, q3]
      · rw [h.2.2 j (by omega) (by omega), g.2.2 j (by omega) (by omega)]
theorem rok_can {σ : AIn} {n a b c d : Int32} : j_can σ n a b c d ↔ rokP n a b c d ∧ nj σ < 6 := by
  unfold j_can rokP
  constructor
  · rintro ⟨⟨h1, h2⟩, h3, h4, h5, h6, h7, h8, h9, h10⟩
    refine ⟨⟨⟨h1, h2⟩, fun k hk => ?_⟩, h7⟩
    have h4' := (h2.nv (by decide)).2
    rcases (show k = 0 ∨ k = 1 ∨ k = 2 ∨ k = 3 by omega) with rfl | rfl | rfl | rfl
    · exact ⟨h3, fun _ => h8⟩
    · exact ⟨h4, fun g => h9 (by omega)⟩
    · exact ⟨h5 (by omega), fun g => h10 (by omega)⟩
    · exact ⟨h6 (by omega), fun g => absurd g (by omega)⟩
  · rintro ⟨⟨⟨h1, h2⟩, h3⟩, h7⟩
    exact ⟨⟨h1, h2⟩, (h3 0 (by omega)).1, (h3 1 (by omega)).1, fun g => (h3 2 (by omega)).1, fun g => (h3 3 (by omega)).1, h7, (h3 0 (by omega)).2 (by omega), fun g => (h3 1 (by omega)).2 (by omega), fun g => (h3 2 (by omega)).2 (by omega)⟩
/-! the row that join would set -/
def jN (n a b c d : Int32) : Nat → Int32 := fun i => if i = 0 then n else if i = 1 then a else if i = 2 then b else if i = 3 then (if 3 ≤ nv n then c else nI 0) else (if 4 ≤ nv n then d else nI 0)
theorem j_row_new {σ : AIn} {n a b c d : Int32} {i : Nat} (hi : i < 5) : j_row σ n a b c d (5 * nj σ + i) = jN n a b c d i := by
  unfold j_row jN
  rcases (show i = 0 ∨ i = 1 ∨ i = 2 ∨ i = 3 ∨ i = 4 by omega) with rfl | rfl | rfl | rfl | rfl
  · rw [pk_un (by omega), pk_un (by omega), pk_un (by omega), pk_un (by omega)]; exact pk_us
  · rw [pk_un (by omega), pk_un (by omega), pk_un (by omega)]; exact pk_us
  · rw [pk_un (by omega), pk_un (by omega)]; exact pk_us
  · rw [pk_un (by omega)]; exact pk_us
  · exact pk_us
theorem j_row_old {σ : AIn} {n a b c d : Int32} {i : Nat} (hi : i < 5 * nj σ) : j_row σ n a b c d i = σ 7 i := by
  unfold j_row
  rw [pk_un (by omega), pk_un (by omega), pk_un (by omega), pk_un (by omega), pk_un (by omega)]
theorem jN_ok {n a b c d : Int32} (h : rokP n a b c d) : jOk (jN n a b c d) 0 ∧ eR (jN n a b c d) 0 = rowN a b c d (nv n) := by
  obtain ⟨⟨h1, h2⟩, h3⟩ := h
  obtain ⟨e4, h4⟩ := h2.nv (by decide)
  have key : ∀ i, i < nv n → jN n a b c d (0 + 1 + i) = pick a b c d i := fun i hi => by
    rcases (show i = 0 ∨ i = 1 ∨ i = 2 ∨ i = 3 by omega) with rfl | rfl | rfl | rfl
    · rfl
    · rfl
    · show (if 3 ≤ nv n then c else nI 0) = c
      rw [if_pos (by omega)]
    · show (if 4 ≤ nv n then d else nI 0) = d
      rw [if_pos (by omega)]
  refine ⟨⟨⟨h1, e4, by show nv n ≤ 4; omega⟩, fun i hi => ?_, fun i hi hi4 => ?_⟩, ?_⟩
  · have hi : i < nv n := hi
    rw [key i hi]
    obtain ⟨g1, g2⟩ := h3 i hi
    obtain ⟨g3, g4⟩ := g1.nv (by decide)
    exact ⟨⟨g3, by omega⟩, g2⟩
  · have hi : nv n ≤ i := hi
    rcases (show i = 2 ∨ i = 3 by omega) with rfl | rfl
    · show (if 3 ≤ nv n then c else nI 0) = nI 0
      rw [if_neg (by omega)]
    · show (if 4 ≤ nv n then d else nI 0) = nI 0
      rw [if_neg (by omega)]
  · unfold eR rowN
    exact e5_congr (fun i hi => by show nv (jN n a b c d (0 + 1 + i)) = _; rw [key i hi])
theorem jOk_eq {F G : Nat → Int32} {z w : Nat} (h : jOk F z) (e : rEq F z G w) : jOk G w ∧ eR G w = eR F z := by
  have e0 : F z = G w := e 0 (by decide)
  have e1 : ∀ i, i < 4 → F (z + 1 + i) = G (w + 1 + i) := fun i hi => by
    have := e (1 + i) (by omega)
    rw [← Nat.add_assoc, ← Nat.add_assoc] at this
    exact this
  have hl := h.ln
  have o : jOk G w := by
    unfold jOk
    rw [← e0]
    refine ⟨h.1, fun i hi => ?_, fun i hi hi4 => ?_⟩
    · rw [← e1 i (by omega)]; exact h.2.1 i hi
    · rw [← e1 i hi4]; exact h.2.2 i hi hi4
  exact ⟨o, ((rEq_e h o).mp e).symm⟩
theorem dup_e {σ : AIn} (V : iJ σ) {n a b c d : Int32} (h : rokP n a b c d) : j_dup σ n a b c d ↔ ∃ j, j < nj σ ∧ eR (σ 7) (5 * j) = rowN a b c d (nv n) := by
  obtain ⟨k1, k2⟩ := jN_ok h
  unfold j_dup
  constructor
  · rintro ⟨j, hj, e⟩
    refine ⟨j, hj, ?_⟩
    rw [← k2]
    refine (rEq_e (V.2.1 j hj) k1).mp (fun i hi => ?_)
    have := e i hi
    rw [j_row_old (by omega), j_row_new hi] at this
    rw [Nat.zero_add]
    exact this
  · rintro ⟨j, hj, e⟩
    refine ⟨j, hj, fun i hi => ?_⟩
    rw [j_row_old (by omega), j_row_new hi]
    rw [← k2] at e
    have := (rEq_e (V.2.1 j hj) k1).mpr e i hi
    rw [Nat.zero_add] at this
    exact this
theorem rowN_pos {n a b c d : Int32} (h : rokP n a b c d) : 0 < rowN a b c d (nv n) ∧ rowN a b c d (nv n) < 1048576 := by
  obtain ⟨k1, k2⟩ := jN_ok h
  have h1 := eR_lt k1
  rw [k2] at h1
  refine ⟨?_, h1⟩
  have h2 := e5_d (κ := fun k => nv (pick a b c d k)) (n := nv n) (by have := (h.1.2.nv (by decide)).2; omega) (fun i hi => by have := ((h.2 i hi).1.nv (by decide)).2; omega) (k := 0) (by decide)
  rw [if_pos (by have := h.1.1; omega)] at h2
  have h2 : rowN a b c d (nv n) / 32768 % 32 = nv (pick a b c d 0) + 1 := h2
  omega
section K6
variable {sh : ASh} {I σ : AIn} {P : APt}
theorem rpJ_old {n a b c d : Int32} (V : iJ σ) (h : rpJ I 100 σ) : RwR I 117 (nj σ) (fun j => eR (j_row σ n a b c d) (5 * j)) := ⟨h.1, h.2.1, fun j hj => by
  obtain ⟨k1, k2⟩ := jOk_eq (V.2.1 j hj) (G := j_row σ n a b c d) (w := 5 * j) (fun i hi => (j_row_old (by omega)).symm)
  have := h.2.2 j hj
  show I 118 j = nI (eR (j_row σ n a b c d) (5 * j)) ∧ eR (j_row σ n a b c d) (5 * j) < 1048576
  rw [k2]
  exact this⟩
theorem jn_fin0 {n a b c d : Int32} (V : Inv σ) (R : RepS I 100 σ) (h : ¬ (j_can σ n a b c d ∧ ¬ j_dup σ n a b c d)) : RepS I 100 (j_op σ n a b c d) ∧ j_res σ n a b c d = -1 := by
  unfold j_op j_res
  refine ⟨?_, cif_f h⟩
  by_cases h1 : j_can σ n a b c d
  · rw [cif_t h1]
    by_cases h2 : j_dup σ n a b c d
    · rw [cif_t h2]
      have hG : ∀ r, r < 117 ∨ 118 < r → I r = I r := fun _ _ => rfl
      refine ⟨rpP_σ (rpP_fr R.1 (by rw [hG 100 (by omega)]) (fun r h1 h2 => hG r (by omega)) V.1.np.2) rfl rfl rfl rfl rfl, ?_, rpK_σ (rpK_fr R.2.2.1 (fun r h1 h2 => hG r (by omega))) rfl rfl rfl rfl rfl rfl rfl, rpR_σ (rpR_fr R.2.2.2.1 (fun r h1 h2 => hG r (by omega))) rfl rfl rfl rfl rfl rfl rfl rfl rfl, rpW_σ (rpW_fr R.2.2.2.2.1 (by rw [hG 100 (by omega)]) (fun r h1 h2 => hG r (by omega))) rfl rfl, rpT_σ (rpT_fr R.2.2.2.2.2 (congrFun (hG 136 (by omega)) 0) (hG 137 (by omega))) rfl rfl⟩
      show RwR I 117 (nj σ) (fun j => eR (j_row σ n a b c d) (5 * j))
      exact rpJ_old (n := n) (a := a) (b := b) (c := c) (d := d) V.2.1 R.2.1
    · exact absurd ⟨h1, h2⟩ h
  · rw [cif_f h1]; exact R
theorem jn_fin1 {n a b c d : Int32} (V : Inv σ) (R : RepS I 100 σ) (hr : rokP n a b c d) (h6 : nj σ < 6) (hd : ∀ j, j < nj σ → eR (σ 7) (5 * j) ≠ rowN a b c d (nv n)) : RepS (va_up (va_up I 118 (upd (I 118) (nj σ) (nI (rowN a b c d (nv n))))) 117 (upd (I 117) 0 (nI (nj σ + 1)))) 100 (j_op σ n a b c d) ∧ j_res σ n a b c d = nI (nj σ) ∧ cF (va_up (va_up I 118 (upd (I 118) (nj σ) (nI (rowN a b c d (nv n))))) 117 (upd (I 117) 0 (nI (nj σ + 1)))) I := by
  have h1 : j_can σ n a b c d := rok_can.mpr ⟨hr, h6⟩
  have h2 : ¬ j_dup σ n a b c d := fun h => by
    obtain ⟨j, hj, e⟩ := (dup_e V.2.1 hr).mp h
    exact hd j hj e
  unfold j_op j_res
  rw [cif_t h1, cif_f h2, cif_t ⟨h1, h2⟩]
  have hG : ∀ r, r < 117 ∨ 118 < r → va_up (va_up I 118 (upd (I 118) (nj σ) (nI (rowN a b c d (nv n))))) 117 (upd (I 117) 0 (nI (nj σ + 1))) r = I r := fun r hr => by rw [va_up_ne _ _ (by omega), va_up_ne _ _ (by omega)]
  refine ⟨?_, rfl, fun r hr => hG r (by omega)⟩
  refine ⟨rpP_σ (rpP_fr R.1 (by rw [hG 100 (by omega)]) (fun r h1 h2 => hG r (by omega)) V.1.np.2) rfl rfl rfl rfl rfl, ?_, rpK_σ (rpK_fr R.2.2.1 (fun r h1 h2 => hG r (by omega))) rfl rfl rfl rfl rfl rfl rfl, rpR_σ (rpR_fr R.2.2.2.1 (fun r h1 h2 => hG r (by omega))) rfl rfl rfl rfl rfl rfl rfl rfl rfl, rpW_σ (rpW_fr R.2.2.2.2.1 (by rw [hG 100 (by omega)]) (fun r h1 h2 => hG r (by omega))) rfl rfl, rpT_σ (rpT_fr R.2.2.2.2.2 (congrFun (hG 136 (by omega)) 0) (hG 137 (by omega))) rfl rfl⟩
  have en : nj (va_up (va_up σ 7 (j_row σ n a b c d)) 6 (upd (σ 6) 0 (nI (nj σ + 1)))) = nj σ + 1 := nv_nI (by omega)
  unfold rpJ
  rw [en]
  refine ⟨by rw [va_up_self]; exact pk_us, by omega, fun j hj => ?_⟩
  show va_up (va_up I 118 (upd (I 118) (nj σ) (nI (rowN a b c d (nv n))))) 117 (upd (I 117) 0 (nI (nj σ + 1))) 118 j = nI (eR (j_row σ n a b c d) (5 * j)) ∧ eR (j_row σ n a b c d) (5 * j) < 1048576
  rw [va_up_ne _ _ (by decide), va_up_self]
  by_cases e : j = nj σ
  · obtain ⟨k1, k2⟩ := jN_ok hr
    obtain ⟨k3, k4⟩ := jOk_eq k1 (G := j_row σ n a b c d) (w := 5 * nj σ) (fun i hi => by rw [j_row_new hi, Nat.zero_add])
    rw [e, pk_us, k4, k2]
    exact ⟨rfl, (rowN_pos hr).2⟩
  · rw [pk_un e]
    exact (rpJ_old (n := n) (a := a) (b := b) (c := c) (d := d) V.2.1 R.2.1).2.2 j (by omega)
theorem c_X10_join (S : St_c sh P) (V : Inv σ) (R : RepS I 100 σ) (x y z u w : Int32) : am_R mX10_join (cpo sh P I (j_op σ x y z u w) (j_res σ x y z u w)) 3 67 0 0 0 [some (.ref 60), some (.int x), some (.int y), some (.int z), some (.int u), some (.int w), none] [] sh I P := by
  have b1 : np σ ≤ 3 := V.1.np.2
  have e1 : I 100 0 = nI (np σ) := R.1.1
  refine r_iload_n dX10_join_0 rfl ?_
  refine r_iload_n dX10_join_1 rfl ?_
  refine r_iload_n dX10_join_2 rfl ?_
  refine r_iload dX10_join_3 rfl ?_
  refine r_iload dX10_join_5 rfl ?_
  refine r_callS5 (fr' := 2) (lo' := 40) (mc' := 0) (ms' := 0) dX10_join_7 mm_X4_of ms_X4_of l_X10_80 (by decide) ⟨by decide, by decide⟩ (Nat.zero_le _) (Nat.zero_le _) (Nat.le_of_ble_eq_true rfl) (c_X4_of _ _ _ _ _) (am_ki ?_)
  rintro v7 _ _ _ ⟨rfl, rfl, rfl, rfl⟩
  refine r_istore dX10_join_10 (Nat.le_of_ble_eq_true rfl) ?_
  dsimp only [List.set]
  refine r_iload dX10_join_12 rfl ?_
  refine r_if_eq 48 dX10_join_14 (by decide) (fun h14 => ?_) (fun h14 => ?_)
  · have hr : ¬ rokP x y z u w := fun h => by
      rw [cif_t h] at h14
      exact nI_ne0 (rowN_pos h).1 (by have := (rowN_pos h).2; omega) h14
    have hf : ¬ (j_can σ x y z u w ∧ ¬ j_dup σ x y z u w) := fun h => hr (rok_can.mp h.1).1
    refine r_iconst dX10_join_48 (v := (-1)) kc_m1 ?_
    refine r_ireturn dX10_join_49 .int rfl rfl ?_
    obtain ⟨g1, g2⟩ := jn_fin0 V R hf
    exact ⟨_, rfl, g2.symm, g1, cF_rf _, rfl, rfl⟩
  · have hr : rokP x y z u w := Classical.byContradiction (fun h => h14 (by rw [cif_f h]; rfl))
    rw [cif_t hr]
    refine r_aload_n dX10_join_17 rfl ?_
    refine r_getP dX10_join_18 g_X10_10 (by first | assumption | exact S.1 _ _ rfl) rfl (by first | assumption | exact S.2 _ _ _ rfl) ?_
    refine r_getP dX10_join_21 g_X10_86 (by first | assumption | exact S.1 _ _ rfl) rfl (by first | assumption | exact S.2 _ _ _ rfl) ?_
    refine r_iload dX10_join_24 rfl ?_
    refine r_callV1 (fr' := 0) (lo' := 0) (mc' := 0) (ms' := 0) dX10_join_26 mm_X5_indexOf mv_X5_indexOf l_X10_90 (by first | assumption | exact S.1 _ _ rfl) mc_X5_indexOf (by decide) ⟨by decide, by decide⟩ (Nat.zero_le _) (Nat.zero_le _) (Nat.le_of_ble_eq_true rfl) (c_X5_indexOf (SRw_j S) R.2.1 (rowN_pos hr).2) (am_ki ?_)
    rintro v26 _ _ _ ⟨hv26, rfl, rfl, rfl⟩
    refine r_iconst dX10_join_29 (v := (-1)) kc_m1 ?_
    refine r_icmp_ne 48 dX10_join_30 (by decide) (fun h30 => ?_) (fun h30 => ?_)
    · have hf : ¬ (j_can σ x y z u w ∧ ¬ j_dup σ x y z u w) := fun h => by
        rcases hv26 with ⟨j, hj, e, -⟩ | ⟨-, e⟩
        · exact h.2 ((dup_e V.2.1 hr).mpr ⟨j, hj, e⟩)
        · exact h30 e
      refine r_iconst dX10_join_48 (v := (-1)) kc_m1 ?_
      refine r_ireturn dX10_join_49 .int rfl rfl ?_
      obtain ⟨g1, g2⟩ := jn_fin0 V R hf
      exact ⟨_, rfl, g2.symm, g1, cF_rf _, rfl, rfl⟩
    · have hd : ∀ j, j < nj σ → eR (σ 7) (5 * j) ≠ rowN y z u w (nv x) := by
        rcases hv26 with ⟨j, hj, e, e2⟩ | ⟨e, -⟩
        · exfalso
          have := R.2.1.2.1
          rw [e2] at h30
          exact nI_pos (n := j) (by omega) (by rw [h30]; decide)
        · exact e
      refine r_aload_n dX10_join_33 rfl ?_
      refine r_getP dX10_join_34 g_X10_10 (by first | assumption | exact S.1 _ _ rfl) rfl (by first | assumption | exact S.2 _ _ _ rfl) ?_
      refine r_getP dX10_join_37 g_X10_86 (by first | assumption | exact S.1 _ _ rfl) rfl (by first | assumption | exact S.2 _ _ _ rfl) ?_
      refine r_iload dX10_join_40 rfl ?_
      refine r_callV1 (fr' := 0) (lo' := 0) (mc' := 0) (ms' := 0) dX10_join_42 mm_X5_append mv_X5_append l_X10_96 (by first | assumption | exact S.1 _ _ rfl) mc_X5_append (by decide) ⟨by decide, by decide⟩ (Nat.zero_le _) (Nat.zero_le _) (Nat.le_of_ble_eq_true rfl) (c_X5_append (SRw_j S) R.2.1.1 R.2.1.2.1 _) (am_ki ?_)
      rintro v42 _ H _ ⟨hb42, hC, hN, rfl, rfl⟩
      refine r_if_ne 50 dX10_join_45 (by decide) (fun h45 => ?_) (fun h45 => ?_)
      · replace h45 := hb42.t h45
        have := hC h45
        subst this
        refine r_aload_n dX10_join_50 rfl ?_
        refine r_getP dX10_join_51 g_X10_10 (by first | assumption | exact S.1 _ _ rfl) rfl (by first | assumption | exact S.2 _ _ _ rfl) ?_
        refine r_getP dX10_join_54 g_X10_86 (by first | assumption | exact S.1 _ _ rfl) rfl (by first | assumption | exact S.2 _ _ _ rfl) ?_
        refine r_getI dX10_join_57 g_X10_98 (by first | assumption | exact S.1 _ _ rfl) rfl ?_
        rw [va_up_self, pk_us]
        refine r_iconst dX10_join_60 (v := nI 1) kc_1 ?_
        first | refine r_isubN dX10_join_61 (by omega) ?_ | refine r_isub dX10_join_61 ?_
        refine r_ireturn dX10_join_62 .int rfl rfl ?_
        obtain ⟨g1, g2, g3⟩ := jn_fin1 V R hr h45 hd
        exact ⟨_, rfl, by rw [g2, Nat.add_sub_cancel], g1, g3, rfl, rfl⟩
      · replace h45 := hb42.f h45
        have := hN h45
        subst this
        have hf : ¬ (j_can σ x y z u w ∧ ¬ j_dup σ x y z u w) := fun h => h45 (rok_can.mp h.1).2
        refine r_iconst dX10_join_48 (v := (-1)) kc_m1 ?_
        refine r_ireturn dX10_join_49 .int rfl rfl ?_
        obtain ⟨g1, g2⟩ := jn_fin0 V R hf
        exact ⟨_, rfl, g2.symm, g1, cF_rf _, rfl, rfl⟩
theorem c_X10_part (S : St_c sh P) (V : Inv σ) (R : RepS I 100 σ) : am_R mX10_part (cpv sh P I (pt_op σ)) 0 0 0 0 0 [some (.ref 60)] [] sh I P := by
  have b1 : np σ ≤ 3 := V.1.np.2
  have e1 : I 100 0 = nI (np σ) := R.1.1
  refine r_aload_n dX10_part_0 rfl ?_
  refine r_getP dX10_part_1 g_X10_10 (by first | assumption | exact S.1 _ _ rfl) rfl (by first | assumption | exact S.2 _ _ _ rfl) ?_
  refine r_getP dX10_part_4 g_X10_86 (by first | assumption | exact S.1 _ _ rfl) rfl (by first | assumption | exact S.2 _ _ _ rfl) ?_
  refine r_iconst dX10_part_7 (v := nI 0) kc_0 ?_
  refine r_putI dX10_part_8 f_X10_98 (by first | assumption | exact S.1 _ _ rfl) rfl rfl rfl ?_
  refine r_return dX10_part_11 rfl ?_
  have hG : ∀ r, r < 117 ∨ 118 < r → va_up I 117 (upd (I 117) 0 (nI 0)) r = I r := fun r hr => va_up_ne _ _ (by omega)
  refine ⟨rfl, ⟨rpP_σ (rpP_fr R.1 (by rw [hG 100 (by omega)]) (fun r h1 h2 => hG r (by omega)) V.1.np.2) rfl rfl rfl rfl rfl, ?_, rpK_σ (rpK_fr R.2.2.1 (fun r h1 h2 => hG r (by omega))) rfl rfl rfl rfl rfl rfl rfl, rpR_σ (rpR_fr R.2.2.2.1 (fun r h1 h2 => hG r (by omega))) rfl rfl rfl rfl rfl rfl rfl rfl rfl, rpW_σ (rpW_fr R.2.2.2.2.1 (by rw [hG 100 (by omega)]) (fun r h1 h2 => hG r (by omega))) rfl rfl, rpT_σ (rpT_fr R.2.2.2.2.2 (congrFun (hG 136 (by omega)) 0) (hG 137 (by omega))) rfl rfl⟩, fun r hr => hG r (by omega), rfl, rfl⟩
  refine ⟨by rw [va_up_self]; exact pk_us, (show (0 : Nat) ≤ 6 by decide), fun j hj => absurd hj (Nat.not_lt_zero j)⟩
theorem kd_fin {F : Nat → Int32} {m : Nat} (h : ∀ j, j < m → jOk F (5 * j)) (hm : m < 2147483648) (x y : Int32) : cif (inR x m ∧ inR y (nv (F (5 * nv x)))) (nI (nv (F (5 * nv x + 1 + nv y)))) (-1) = cif (inR x m ∧ inR y (nv (F (5 * nv x)))) (F (5 * nv x + 1 + nv y)) (-1) := by
  by_cases hc : inR x m ∧ inR y (nv (F (5 * nv x)))
  · rw [cif_t hc, cif_t hc]
    obtain ⟨e1, h1⟩ := hc.1.nv hm
    have hl := (h _ h1).ln
    obtain ⟨e2, h2⟩ := hc.2.nv (by omega)
    exact ((h _ h1).2.1 _ h2).1.1.symm
  · rw [cif_f hc, cif_f hc]
theorem c_X10_joined (S : St_c sh P) (V : Inv σ) (R : RepS I 100 σ) (x y : Int32) : am_R mX10_joined (cpo sh P I (σ) (jd_res σ x y)) 2 43 0 0 0 [some (.ref 60), some (.int x), some (.int y)] [] sh I P := by
  have b1 : np σ ≤ 3 := V.1.np.2
  have e1 : I 100 0 = nI (np σ) := R.1.1
  refine r_aload_n dX10_joined_0 rfl ?_
  refine r_getP dX10_joined_1 g_X10_10 (by first | assumption | exact S.1 _ _ rfl) rfl (by first | assumption | exact S.2 _ _ _ rfl) ?_
  refine r_getP dX10_joined_4 g_X10_86 (by first | assumption | exact S.1 _ _ rfl) rfl (by first | assumption | exact S.2 _ _ _ rfl) ?_
  refine r_iload_n dX10_joined_7 rfl ?_
  refine r_iload_n dX10_joined_8 rfl ?_
  refine r_callV2 (fr' := 1) (lo' := 21) (mc' := 0) (ms' := 0) dX10_joined_9 mm_X5_kind mv_X5_kind l_X10_99 (by first | assumption | exact S.1 _ _ rfl) mc_X5_kind (by decide) ⟨by decide, by decide⟩ (Nat.zero_le _) (Nat.zero_le _) (Nat.le_of_ble_eq_true rfl) (c_X5_kind (κ := fun j i => nv (σ 7 (5 * j + 1 + i))) (L := fun j => nv (σ 7 (5 * j))) (SRw_j S) R.2.1 (fun j hj => ⟨(V.2.1.2.1 j hj).ln, (V.2.1.2.1 j hj).kd⟩) _ _) (am_ki ?_)
  rintro v9 _ _ _ ⟨rfl, rfl, rfl, rfl⟩
  refine r_ireturn dX10_joined_12 .int rfl rfl ?_
  refine ⟨_, rfl, ?_, R, cF_rf _, rfl, rfl⟩
  exact kd_fin V.2.1.2.1 (by have := R.2.1.2.1; omega) x y
theorem iC.ok {σ : AIn} (h : iC σ) : nv (σ 24 0) ≤ 2 ∧ ∀ j, j < nv (σ 24 0) → jOk (σ 25) (5 * j) := by
  rcases h with h | h
  · rw [h]
    exact ⟨by decide, fun j hj => absurd hj (Nat.not_lt_zero j)⟩
  · exact ⟨h.1.2, h.2.1⟩
theorem c_X10_chosen (S : St_c sh P) (V : Inv σ) (R : RepS I 100 σ) (x y : Int32) : am_R mX10_chosen (cpo sh P I (σ) (ch_res σ x y)) 2 43 0 0 0 [some (.ref 60), some (.int x), some (.int y)] [] sh I P := by
  have b1 : np σ ≤ 3 := V.1.np.2
  have e1 : I 100 0 = nI (np σ) := R.1.1
  refine r_aload_n dX10_chosen_0 rfl ?_
  refine r_getP dX10_chosen_1 g_X10_10 (by first | assumption | exact S.1 _ _ rfl) rfl (by first | assumption | exact S.2 _ _ _ rfl) ?_
  refine r_getP dX10_chosen_4 g_X10_192 (by first | assumption | exact S.1 _ _ rfl) rfl (by first | assumption | exact S.2 _ _ _ rfl) ?_
  refine r_iload_n dX10_chosen_7 rfl ?_
  refine r_iload_n dX10_chosen_8 rfl ?_
  refine r_callV2 (fr' := 1) (lo' := 21) (mc' := 0) (ms' := 0) dX10_chosen_9 mm_X5_kind mv_X5_kind l_X10_99 (by first | assumption | exact S.1 _ _ rfl) mc_X5_kind (by decide) ⟨by decide, by decide⟩ (Nat.zero_le _) (Nat.zero_le _) (Nat.le_of_ble_eq_true rfl) (c_X5_kind (κ := fun j i => nv (σ 25 (5 * j + 1 + i))) (L := fun j => nv (σ 25 (5 * j))) (SRw_c S) R.2.2.2.2.1.2 (fun j hj => ⟨(V.2.2.2.2.1.ok.2 j hj).ln, (V.2.2.2.2.1.ok.2 j hj).kd⟩) _ _) (am_ki ?_)
  rintro v9 _ _ _ ⟨rfl, rfl, rfl, rfl⟩
  refine r_ireturn dX10_chosen_12 .int rfl rfl ?_
  refine ⟨_, rfl, ?_, R, cF_rf _, rfl, rfl⟩
  exact kd_fin V.2.2.2.2.1.ok.2 (by have := V.2.2.2.2.1.ok.1; omega) x y
theorem tk_fin (V : Inv σ) (R : RepS I 100 σ) (h : σ 24 0 ≠ -1) : RepS (va_up (va_up I 117 (upd (I 117) 0 (I 134 0))) 118 (va_cpy (I 135) (I 118) 0 0 6)) 100 (tk_op σ) ∧ cF (va_up (va_up I 117 (upd (I 117) 0 (I 134 0))) 118 (va_cpy (I 135) (I 118) 0 0 6)) I ∧ I 134 0 = σ 24 0 := by
  have hG : ∀ r, r < 117 ∨ 118 < r → va_up (va_up I 117 (upd (I 117) 0 (I 134 0))) 118 (va_cpy (I 135) (I 118) 0 0 6) r = I r := fun r hr => by rw [va_up_ne _ _ (by omega), va_up_ne _ _ (by omega)]
  have hi : isN (σ 24 0) 2 := by
    rcases V.2.2.2.2.1 with g | g
    · exact absurd g h
    · exact g.1
  have hW := R.2.2.2.2.1.2
  have hok := V.2.2.2.2.1.ok
  unfold tk_op
  rw [if_neg h]
  refine ⟨?_, fun r hr => hG r (by omega), by rw [hW.1]; exact hi.1.symm⟩
  refine ⟨rpP_σ (rpP_fr R.1 (by rw [hG 100 (by omega)]) (fun r h1 h2 => hG r (by omega)) V.1.np.2) rfl rfl rfl rfl rfl, ?_, rpK_σ (rpK_fr R.2.2.1 (fun r h1 h2 => hG r (by omega))) rfl rfl rfl rfl rfl rfl rfl, rpR_σ (rpR_fr R.2.2.2.1 (fun r h1 h2 => hG r (by omega))) rfl rfl rfl rfl rfl rfl rfl rfl rfl, rpW_σ (rpW_fr R.2.2.2.2.1 (by rw [hG 100 (by omega)]) (fun r h1 h2 => hG r (by omega))) rfl rfl, rpT_σ (rpT_fr R.2.2.2.2.2 (congrFun (hG 136 (by omega)) 0) (hG 137 (by omega))) rfl rfl⟩
  refine ⟨?_, by show nv (σ 24 0) ≤ 6; omega, fun j hj => ?_⟩
  · rw [va_up_ne _ _ (by decide), va_up_self, pk_us]
    exact hW.1
  · have hj : j < nv (σ 24 0) := hj
    obtain ⟨k1, k2⟩ := jOk_eq (hok.2 j hj) (G := fun j => if j < 5 * nv (σ 24 0) then σ 25 j else σ 7 j) (w := 5 * j) (fun i hi => by
      show _ = if 5 * j + i < 5 * nv (σ 24 0) then σ 25 (5 * j + i) else _
      rw [if_pos (by omega)])
    show va_up (va_up I 117 (upd (I 117) 0 (I 134 0))) 118 (va_cpy (I 135) (I 118) 0 0 6) 118 j = nI (eR (fun j => if j < 5 * nv (σ 24 0) then σ 25 j else σ 7 j) (5 * j)) ∧ eR (fun j => if j < 5 * nv (σ 24 0) then σ 25 j else σ 7 j) (5 * j) < 1048576
    rw [va_up_self, sb_cpy0 (by omega), k2]
    exact hW.2.2 j hj
theorem c_X10_take (S : St_c sh P) (V : Inv σ) (R : RepS I 100 σ) : am_R mX10_take (cpo sh P I (tk_op σ) (tk_res σ)) 2 51 0 0 0 [some (.ref 60)] [] sh I P := by
  have b1 : np σ ≤ 3 := V.1.np.2
  have e1 : I 100 0 = nI (np σ) := R.1.1
  refine r_aload_n dX10_take_0 rfl ?_
  refine r_getP dX10_take_1 g_X10_10 (by first | assumption | exact S.1 _ _ rfl) rfl (by first | assumption | exact S.2 _ _ _ rfl) ?_
  refine r_getI dX10_take_4 g_X10_185 (by first | assumption | exact S.1 _ _ rfl) rfl ?_
  refine r_if_ne 12 dX10_take_7 (by decide) (fun h7 => ?_) (fun h7 => ?_)
  · replace h7 := R.2.2.2.2.1.1.t h7
    refine r_aload_n dX10_take_12 rfl ?_
    refine r_getP dX10_take_13 g_X10_10 (by first | assumption | exact S.1 _ _ rfl) rfl (by first | assumption | exact S.2 _ _ _ rfl) ?_
    refine r_getP dX10_take_16 g_X10_86 (by first | assumption | exact S.1 _ _ rfl) rfl (by first | assumption | exact S.2 _ _ _ rfl) ?_
    refine r_aload_n dX10_take_19 rfl ?_
    refine r_getP dX10_take_20 g_X10_10 (by first | assumption | exact S.1 _ _ rfl) rfl (by first | assumption | exact S.2 _ _ _ rfl) ?_
    refine r_getP dX10_take_23 g_X10_192 (by first | assumption | exact S.1 _ _ rfl) rfl (by first | assumption | exact S.2 _ _ _ rfl) ?_
    refine r_callV1 (fr' := 1) (lo' := 30) (mc' := 0) (ms' := 0) dX10_take_26 mm_X5_copyFrom mv_X5_copyFrom l_X10_195 (by first | assumption | exact S.1 _ _ rfl) mc_X5_copyFrom (by decide) ⟨by decide, by decide⟩ (Nat.zero_le _) (Nat.zero_le _) (Nat.le_of_ble_eq_true rfl) (c_X5_copyFrom (SRw_j S) (SRw_c S) (by decide) (by decide) (by decide)) (am_kv ?_)
    rintro _ _ _ ⟨rfl, rfl, rfl⟩
    refine r_aload_n dX10_take_29 rfl ?_
    refine r_getP dX10_take_30 g_X10_10 (by first | assumption | exact S.1 _ _ rfl) rfl (by first | assumption | exact S.2 _ _ _ rfl) ?_
    refine r_getP dX10_take_33 g_X10_86 (by first | assumption | exact S.1 _ _ rfl) rfl (by first | assumption | exact S.2 _ _ _ rfl) ?_
    refine r_getI dX10_take_36 g_X10_98 (by first | assumption | exact S.1 _ _ rfl) rfl ?_
    rw [va_up_ne _ _ (by decide), va_up_self, pk_us]
    refine r_ireturn dX10_take_39 .int rfl rfl ?_
    obtain ⟨g1, g2, g3⟩ := tk_fin V R h7
    exact ⟨_, rfl, g3, g1, g2, rfl, rfl⟩
  · have h8 : σ 24 0 = -1 := Classical.byContradiction (R.2.2.2.2.1.1.f h7)
    refine r_iconst dX10_take_10 (v := (-1)) kc_m1 ?_
    refine r_ireturn dX10_take_11 .int rfl rfl ?_
    exact ⟨_, rfl, h8.symm, by rw [tk_op, if_pos h8]; exact R, cF_rf _, rfl, rfl⟩
end K6
