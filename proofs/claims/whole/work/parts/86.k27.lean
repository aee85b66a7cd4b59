/-! what each call keeps: the rows beyond the first block, and Inv -/
def loc (σ σ' : AIn) : Prop := ∀ r i, bl r ≤ i → σ' r i = σ r i
theorem loc_rf (σ : AIn) : loc σ σ := fun _ _ _ => rfl
theorem loc_up {σ σ' : AIn} {r : Nat} {f : Nat → Int32} (h : loc σ σ') (hf : ∀ i, bl r ≤ i → f i = σ r i) : loc σ (va_up σ' r f) := fun t i hi => by
  by_cases e : t = r
  · subst e; rw [va_up_self]; exact hf i hi
  · rw [va_up_ne _ _ e]; exact h t i hi
theorem loc_u {σ : AIn} {r j : Nat} {x : Int32} (hj : j < bl r) : ∀ i, bl r ≤ i → upd (σ r) j x i = σ r i := fun i hi => pk_un (by omega)
theorem loc_fgt {σ σ' : AIn} {q : Nat} (h : loc σ σ') (hq : q < 3) : loc σ (fgt σ' q) := loc_up h (fun i hi => by
  have hi : 120 ≤ i := hi
  rw [if_neg (by omega)]
  exact h 5 i hi)
/-! the programs -/
theorem iP_fgt {σ : AIn} (h : iP σ) (q : Nat) : iP (fgt σ q) := by
  refine ⟨h.1, h.2.1, h.2.2.1, fun j hj => ?_⟩
  show isN (if 40 * q ≤ j ∧ j < 40 * q + 40 then 0 else σ 5 j) 20000
  split
  · exact isN_nI (n := 0) (Nat.zero_le _) (by decide)
  · exact h.2.2.2 j hj
theorem Inv_P {σ σ' : AIn} (V : Inv σ) (hP : iP σ') (h : ∀ r, 6 ≤ r → σ' r = σ r) : Inv σ' := by
  obtain ⟨-, a, b, c, d, e⟩ := V
  refine ⟨hP, ?_, ?_, ?_, ?_, ?_⟩
  · unfold iJ nj; rw [h 6 (by decide), h 7 (by decide)]; exact a
  · unfold iK; rw [h 8 (by decide), h 9 (by decide), h 10 (by decide), h 11 (by decide), h 12 (by decide), h 13 (by decide)]; exact b
  · unfold iR; rw [h 15 (by decide), h 19 (by decide), h 21 (by decide)]; exact c
  · unfold iC; rw [h 24 (by decide), h 25 (by decide)]; exact d
  · unfold iT; rw [h 26 (by decide), h 27 (by decide)]; exact e
theorem K_p {σ : AIn} (V : Inv σ) : Inv (p_op σ) ∧ loc σ (p_op σ) := by
  unfold p_op
  by_cases h3 : np σ = 3
  · rw [cif_t h3]; exact ⟨V, loc_rf σ⟩
  · rw [cif_f h3]
    have b := V.1.np.2
    have h2 : ∀ p, upd (σ 2) (np σ) (nI 0) p = if p = np σ then nI 0 else σ 2 p := fun p => rfl
    refine ⟨Inv_P V (iP_fgt (σ := va_up (va_up σ 1 (upd (σ 1) 0 (nI (np σ + 1)))) 2 (upd (σ 2) (np σ) (nI 0))) ⟨?_, fun p hp => ?_, fun p k hp hk => ?_, V.1.2.2.2⟩ _) (fun r hr => ?_), loc_fgt (loc_up (loc_up (loc_rf σ) (loc_u (show 0 < 1 by decide))) (loc_u (show np σ < 3 by omega))) (by omega)⟩
    · exact isN_nI (n := np σ + 1) (by omega) (by decide)
    · show isN (upd (σ 2) (np σ) (nI 0) p) 40
      rw [h2]
      split
      · exact isN_nI (n := 0) (Nat.zero_le _) (by decide)
      · exact V.1.2.1 p hp
    · have hk : k < nv (upd (σ 2) (np σ) (nI 0) p) := hk
      rw [h2] at hk
      by_cases e : p = np σ
      · rw [if_pos e] at hk
        exact absurd hk (Nat.not_lt_zero k)
      · rw [if_neg e] at hk
        exact V.1.2.2.1 p k hp hk
    · unfold fgt
      rw [va_up_ne _ _ (by omega), va_up_ne _ _ (by omega), va_up_ne _ _ (by omega)]
theorem K_o {σ : AIn} (V : Inv σ) (x y z : Int32) : Inv (o_op σ x y z) ∧ loc σ (o_op σ x y z) := by
  unfold o_op
  by_cases hc : o_c σ x y z
  · rw [cif_t hc]
    obtain ⟨h1, h2, h3, h4⟩ := hc
    have b := V.1.np.2
    obtain ⟨-, hp⟩ := h1.nv (by omega)
    obtain ⟨ey, hy⟩ := h2.nv (by decide)
    generalize nv x = p at h4 hp
    have hs := V.1.sz (q := p) (by omega)
    refine ⟨Inv_P V (iP_fgt (σ := va_up (va_up (va_up σ 3 (upd (σ 3) (40 * p + sz σ p) y)) 4 (upd (σ 4) (40 * p + sz σ p) z)) 2 (upd (σ 2) p (nI (sz σ p + 1)))) ⟨V.1.1, fun q hq => ?_, fun q k hq hk => ?_, V.1.2.2.2⟩ _) (fun r hr => ?_), loc_fgt (loc_up (loc_up (loc_up (loc_rf σ) (loc_u (show 40 * p + sz σ p < 120 by omega))) (loc_u (show 40 * p + sz σ p < 120 by omega))) (loc_u (show p < 3 by omega))) (by omega)⟩
    · show isN (upd (σ 2) p (nI (sz σ p + 1)) q) 40
      by_cases e : q = p
      · rw [e, pk_us]; exact isN_nI (by omega) (by decide)
      · rw [pk_un e]; exact V.1.2.1 q hq
    · have hk : k < nv (upd (σ 2) p (nI (sz σ p + 1)) q) := hk
      have hsq := (V.1.sz hq).2
      show isN (upd (σ 3) (40 * p + sz σ p) y (40 * q + k)) 15 ∧ aOk (nv (upd (σ 3) (40 * p + sz σ p) y (40 * q + k))) (upd (σ 4) (40 * p + sz σ p) z (40 * q + k))
      by_cases e : q = p
      · subst e
        rw [pk_us, nv_nI (by omega)] at hk
        by_cases e2 : k = sz σ q
        · rw [e2, pk_us, pk_us]
          exact ⟨⟨ey, by omega⟩, h3⟩
        · rw [pk_un (by omega), pk_un (by omega)]; exact V.1.2.2.1 q k hq (by omega)
      · rw [pk_un e] at hk
        have hk : k < sz σ q := hk
        rw [pk_un (by omega), pk_un (by omega)]; exact V.1.2.2.1 q k hq hk
    · unfold fgt
      rw [va_up_ne _ _ (by omega), va_up_ne _ _ (by omega), va_up_ne _ _ (by omega), va_up_ne _ _ (by omega)]
  · rw [cif_f hc]; exact ⟨V, loc_rf σ⟩
theorem K_c {σ : AIn} (V : Inv σ) (x y z : Int32) : Inv (c_op σ x y z) ∧ loc σ (c_op σ x y z) := by
  unfold c_op
  by_cases hc : c_c σ x y z
  · rw [cif_t hc]
    obtain ⟨h1, h2, h3, h4⟩ := hc
    have b := V.1.np.2
    obtain ⟨-, hp⟩ := h1.nv (by omega)
    generalize nv x = p at h2 h3 h4 hp
    have hs := (V.1.sz (q := p) (by omega)).2
    obtain ⟨-, hy⟩ := h2.nv (by omega)
    generalize nv y = j at h3 h4 hy
    refine ⟨Inv_P V (iP_fgt (σ := va_up σ 4 (upd (σ 4) (40 * p + j) z)) ⟨V.1.1, V.1.2.1, fun q k hq hk => ?_, V.1.2.2.2⟩ _) (fun r hr => ?_), loc_fgt (loc_up (loc_rf σ) (loc_u (show 40 * p + j < 120 by omega))) (by omega)⟩
    · have hk : k < sz σ q := hk
      have hsq := (V.1.sz hq).2
      obtain ⟨v1, v2⟩ := V.1.2.2.1 q k hq hk
      show isN (σ 3 (40 * q + k)) 15 ∧ aOk (nv (σ 3 (40 * q + k))) (upd (σ 4) (40 * p + j) z (40 * q + k))
      refine ⟨v1, ?_⟩
      by_cases e : 40 * q + k = 40 * p + j
      · rw [e, pk_us]; exact h4
      · rw [pk_un e]; exact v2
    · unfold fgt
      rw [va_up_ne _ _ (by omega), va_up_ne _ _ (by omega)]
  · rw [cif_f hc]; exact ⟨V, loc_rf σ⟩
/-! joined orders -/
theorem Inv_J {σ σ' : AIn} (V : Inv σ) (hJ : iJ σ') (h : ∀ r, r < 6 ∨ 7 < r → σ' r = σ r) : Inv σ' := by
  obtain ⟨a, -, b, c, d, e⟩ := V
  refine ⟨?_, hJ, ?_, ?_, ?_, ?_⟩
  · unfold iP sz; rw [h 1 (by decide), h 2 (by decide), h 3 (by decide), h 4 (by decide), h 5 (by decide)]; exact a
  · unfold iK; rw [h 8 (by decide), h 9 (by decide), h 10 (by decide), h 11 (by decide), h 12 (by decide), h 13 (by decide)]; exact b
  · unfold iR; rw [h 15 (by decide), h 19 (by decide), h 21 (by decide)]; exact c
  · unfold iC; rw [h 24 (by decide), h 25 (by decide)]; exact d
  · unfold iT; rw [h 26 (by decide), h 27 (by decide)]; exact e
theorem jEq_iff {F : Nat → Int32} {z w : Nat} (o1 : jOk F z) (o2 : jOk F w) : jEq F z w ↔ eR F z = eR F w := rEq_e o1 o2
theorem K_j {σ : AIn} (V : Inv σ) (x a b c d : Int32) : Inv (j_op σ x a b c d) ∧ loc σ (j_op σ x a b c d) := by
  unfold j_op
  by_cases hc : j_can σ x a b c d
  · rw [cif_t hc]
    obtain ⟨hr, h6⟩ := rok_can.mp hc
    have lrow : ∀ i, bl 7 ≤ i → j_row σ x a b c d i = σ 7 i := fun i hi => by
      have hi : 30 ≤ i := hi
      unfold j_row
      rw [pk_un (by omega), pk_un (by omega), pk_un (by omega), pk_un (by omega), pk_un (by omega)]
    have old : ∀ j, j < nj σ → jOk (j_row σ x a b c d) (5 * j) ∧ eR (j_row σ x a b c d) (5 * j) = eR (σ 7) (5 * j) := fun j hj => jOk_eq (V.2.1.2.1 j hj) (fun i hi => (j_row_old (by omega)).symm)
    have hoi : ∀ i j, i < nj σ → j < nj σ → jEq (j_row σ x a b c d) (5 * i) (5 * j) → i = j := fun i j hi hj he => by
      have := (jEq_iff (old i hi).1 (old j hj).1).mp he
      rw [(old i hi).2, (old j hj).2] at this
      exact V.2.1.2.2 i j hi hj ((jEq_iff (V.2.1.2.1 i hi) (V.2.1.2.1 j hj)).mpr this)
    by_cases hd : j_dup σ x a b c d
    · rw [cif_t hd]
      exact ⟨Inv_J V ⟨V.2.1.1, fun j hj => (old j hj).1, hoi⟩ (fun r hr => va_up_ne _ _ (by omega)), loc_up (loc_rf σ) lrow⟩
    · rw [cif_f hd]
      have en : nj (va_up (va_up σ 7 (j_row σ x a b c d)) 6 (upd (σ 6) 0 (nI (nj σ + 1)))) = nj σ + 1 := nv_nI (by omega)
      obtain ⟨k1, k2⟩ := jN_ok hr
      obtain ⟨k3, k4⟩ := jOk_eq k1 (G := j_row σ x a b c d) (w := 5 * nj σ) (fun i hi => by rw [j_row_new hi, Nat.zero_add])
      have all : ∀ j, j < nj σ + 1 → jOk (j_row σ x a b c d) (5 * j) := fun j hj => by
        by_cases e : j = nj σ
        · rw [e]; exact k3
        · exact (old j (by omega)).1
      have nodup : ∀ j, j < nj σ → ¬ jEq (j_row σ x a b c d) (5 * j) (5 * nj σ) := fun j hj he => hd ⟨j, hj, he⟩
      refine ⟨Inv_J V ⟨isN_nI (n := nj σ + 1) (by omega) (by decide), fun j hj => ?_, fun i j hi hj he => ?_⟩ (fun r hr => by rw [va_up_ne _ _ (by omega), va_up_ne _ _ (by omega)]), loc_up (loc_up (loc_rf σ) lrow) (loc_u (show 0 < 1 by decide))⟩
      · rw [en] at hj; exact all j hj
      · rw [en] at hi hj
        have he : jEq (j_row σ x a b c d) (5 * i) (5 * j) := he
        by_cases e1 : i = nj σ
        · by_cases e2 : j = nj σ
          · omega
          · rw [e1] at he
            exact absurd (fun k hk => (he k hk).symm) (nodup j (by omega))
        · by_cases e2 : j = nj σ
          · rw [e2] at he
            exact absurd he (nodup i (by omega))
          · exact hoi i j (by omega) (by omega) he
  · rw [cif_f hc]; exact ⟨V, loc_rf σ⟩
theorem K_pt {σ : AIn} (V : Inv σ) : Inv (pt_op σ) ∧ loc σ (pt_op σ) :=
  ⟨Inv_J V ⟨isN_nI (n := 0) (Nat.zero_le _) (by decide), fun j hj => absurd hj (Nat.not_lt_zero j), fun i j hi => absurd hi (Nat.not_lt_zero i)⟩ (fun r hr => va_up_ne _ _ (by omega)), loc_up (loc_rf σ) (loc_u (show 0 < 1 by decide))⟩
theorem K_tk {σ : AIn} (V : Inv σ) : Inv (tk_op σ) ∧ loc σ (tk_op σ) := by
  unfold tk_op
  by_cases h : σ 24 0 = -1
  · rw [if_pos h]; exact ⟨V, loc_rf σ⟩
  · rw [if_neg h]
    rcases V.2.2.2.2.1 with g | ⟨g1, g2, g3⟩
    · exact absurd g h
    · have b := g1.2
      have ag : ∀ i, i < 5 * nv (σ 24 0) → (if i < 5 * nv (σ 24 0) then σ 25 i else σ 7 i) = σ 25 i := fun i hi => if_pos hi
      have e6 : nj (va_up (va_up σ 6 (upd (σ 6) 0 (σ 24 0))) 7 (fun j => if j < 5 * nv (σ 24 0) then σ 25 j else σ 7 j)) = nv (σ 24 0) := rfl
      refine ⟨Inv_J V ⟨?_, fun j hj => ?_, fun i j hi hj he => ?_⟩ (fun r hr => by rw [va_up_ne _ _ (by omega), va_up_ne _ _ (by omega)]), loc_up (loc_up (loc_rf σ) (loc_u (show 0 < 1 by decide))) (fun i hi => ?_)⟩
      · show isN (upd (σ 6) 0 (σ 24 0) 0) 6
        rw [pk_us]
        exact ⟨g1.1, by omega⟩
      · rw [e6] at hj
        exact (jOk_eq (g2 j hj) (fun i hi => (ag (5 * j + i) (by omega)).symm)).1
      · rw [e6] at hi hj
        refine g3 i j hi hj (fun k hk => ?_)
        have := he k hk
        rw [← ag (5 * i + k) (by omega), ← ag (5 * j + k) (by omega)]
        exact this
      · have hi : 30 ≤ i := hi
        rw [if_neg (by omega)]
theorem Inv_T {σ σ' : AIn} (V : Inv σ) (hT : iT σ') (h : ∀ r, r < 26 → σ' r = σ r) : Inv σ' := by
  obtain ⟨a, a2, b, c, d, -⟩ := V
  refine ⟨?_, ?_, ?_, ?_, ?_, hT⟩
  · unfold iP sz; rw [h 1 (by decide), h 2 (by decide), h 3 (by decide), h 4 (by decide), h 5 (by decide)]; exact a
  · unfold iJ nj; rw [h 6 (by decide), h 7 (by decide)]; exact a2
  · unfold iK; rw [h 8 (by decide), h 9 (by decide), h 10 (by decide), h 11 (by decide), h 12 (by decide), h 13 (by decide)]; exact b
  · unfold iR; rw [h 15 (by decide), h 19 (by decide), h 21 (by decide)]; exact c
  · unfold iC; rw [h 24 (by decide), h 25 (by decide)]; exact d
theorem fe_255 (x : Int32) (i : Nat) : isN (fe_b x i) 255 := by
  unfold fe_b
  obtain ⟨j, hj, e⟩ := pk_andE (x >>> ((nI 24 - nI 8 * nI i) &&& 31)) (m := nI 255) 8 (by decide)
  rw [e]
  exact isN_nI (by omega) (by decide)
theorem K_fe {σ : AIn} (V : Inv σ) (x n : Int32) : Inv (fe_op σ x n) ∧ loc σ (fe_op σ x n) := by
  unfold fe_op
  by_cases hc : fe_c σ n
  · rw [cif_t hc]
    have h2 := hc.2
    refine ⟨Inv_T V ⟨isN_nI (n := nv (σ 26 0) + nv n) h2 (by decide), fun k hk => ?_⟩ (fun r hr => by rw [va_up_ne _ _ (by omega), va_up_ne _ _ (by omega)]), loc_up (loc_up (loc_rf σ) (fun i hi => ?_)) (loc_u (show 0 < 1 by decide))⟩
    · have hk : k < nv (nI (nv (σ 26 0) + nv n)) := hk
      rw [nv_nI (by omega)] at hk
      show isN (if nv (σ 26 0) ≤ k ∧ k < nv (σ 26 0) + nv n then fe_b x (k - nv (σ 26 0)) else σ 27 k) 255
      by_cases h : nv (σ 26 0) ≤ k ∧ k < nv (σ 26 0) + nv n
      · rw [if_pos h]; exact fe_255 _ _
      · rw [if_neg h]; exact V.2.2.2.2.2.2 k (by omega)
    · have hi : 160 ≤ i := hi
      rw [if_neg (by omega)]
  · rw [cif_f hc]; exact ⟨V, loc_rf σ⟩
/-! images -/
theorem bl_le (r k i : Nat) : bl r ≤ bl r * (k + 1) + i := by
  rw [Nat.mul_succ]; omega
theorem loc_bk {σ σ' : AIn} (h : loc σ σ') (k : Nat) : eqB (bk σ (k + 1)) (bk σ' (k + 1)) := fun r i _ => h r _ (bl_le r k i)
theorem imR_loc {sh : ASh} {P : APt} {I σ σ' : AIn} {k : Nat} (h : imR sh P I σ k) (hl : loc σ σ') : imR sh P I σ' k := by
  have e : σ' 47 k = σ 47 k := hl 47 k (Nat.zero_le _)
  rcases h with ⟨a, b⟩ | ⟨a, b, c, d⟩
  · exact Or.inl ⟨a, by rw [e]; exact b⟩
  · exact Or.inr ⟨a, by rw [e]; exact b, RepS_B d (loc_bk hl k) c, Inv_B d (loc_bk hl k)⟩
theorem K_im {σ : AIn} (V : Inv σ) {k : Nat} (hk : k < 3) : Inv (im_op σ (nI k)) ∧ eqB σ (im_op σ (nI k)) ∧ eqB σ (bk (im_op σ (nI k)) (k + 1)) ∧ (∀ j, j ≠ k → eqB (bk σ (j + 1)) (bk (im_op σ (nI k)) (j + 1))) ∧ im_op σ (nI k) 47 k = nI 1 ∧ ∀ j, j ≠ k → im_op σ (nI k) 47 j = σ 47 j := by
  have enk : nv (nI k) = k := nv_nI (by omega)
  unfold im_op
  rw [enk, cif_t (inR_nI hk)]
  have lt27 : ∀ r i, i < bl r → r ≠ 47 := fun r i h e => by subst e; exact absurd h (Nat.not_lt_zero i)
  have e0 : eqB σ (va_up (cpB σ 0 (k + 1)) 47 (upd (σ 47) k (nI 1))) := fun r i hi => by
    rw [va_up_ne _ _ (lt27 r i hi)]
    show va_cpy (σ r) (σ r) (bl r * 0) (bl r * (k + 1)) (bl r) i = σ r i
    exact pk_cpy_out (Or.inl (by have := bl_le r k 0; omega))
  refine ⟨Inv_B V e0, e0, fun r i hi => ?_, fun j hj r i hi => ?_, ?_, fun j hj => ?_⟩
  · show va_up (cpB σ 0 (k + 1)) 47 (upd (σ 47) k (nI 1)) r (bl r * (k + 1) + i) = σ r i
    rw [va_up_ne _ _ (lt27 r i hi)]
    show va_cpy (σ r) (σ r) (bl r * 0) (bl r * (k + 1)) (bl r) (bl r * (k + 1) + i) = σ r i
    rw [pk_cpy_in (by omega) (by omega), Nat.mul_zero, Nat.zero_add, Nat.add_sub_cancel_left]
  · show va_up (cpB σ 0 (k + 1)) 47 (upd (σ 47) k (nI 1)) r (bl r * (j + 1) + i) = σ r (bl r * (j + 1) + i)
    rw [va_up_ne _ _ (lt27 r i hi)]
    refine pk_cpy_out ?_
    rcases Nat.lt_or_ge j k with g | g
    · left
      have : bl r * (j + 1) + bl r ≤ bl r * (k + 1) := by
        have h1 : bl r * (j + 1 + 1) ≤ bl r * (k + 1) := Nat.mul_le_mul_left _ (by omega)
        rw [Nat.mul_succ] at h1
        exact h1
      omega
    · right
      have : bl r * (k + 1) + bl r ≤ bl r * (j + 1) := by
        have h1 : bl r * (k + 1 + 1) ≤ bl r * (j + 1) := Nat.mul_le_mul_left _ (by omega)
        rw [Nat.mul_succ] at h1
        exact h1
      omega
  · rw [va_up_self]; exact pk_us
  · rw [va_up_self]; exact pk_un hj
theorem K_ag {sh : ASh} {P : APt} {I σ : AIn} (V : Inv σ) (hI : ∀ k, k < 3 → imR sh P I σ k) (x : Int32) : Inv (ag_op σ x) ∧ loc σ (ag_op σ x) := by
  unfold ag_op
  by_cases hc : ag_c σ x
  · rw [cif_t hc]
    obtain ⟨⟨k, hk, rfl⟩, h0⟩ := hc
    rw [nv_nI (by omega)] at h0 ⊢
    rcases hI k hk with ⟨-, b⟩ | ⟨-, -, -, d⟩
    · exact absurd b h0
    · refine ⟨Inv_B d (cpB_0 k), fun r i hi => ?_⟩
      show va_cpy (σ r) (σ r) (bl r * (k + 1)) (bl r * 0) (bl r) i = σ r i
      rw [Nat.mul_zero]
      exact pk_cpy_out (Or.inr (by omega))
  · rw [cif_f hc]; exact ⟨V, loc_rf σ⟩
