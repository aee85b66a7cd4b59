/-! what is saved is what the cost falls by -/
section K25
variable {σ : AIn} {way : Int32} {F : Nat → Int32} {m : Nat}
noncomputable def Sx (σ : AIn) (way : Int32) (F : Nat → Int32) (m p q : Nat) : Nat := if p < np σ then Qp σ way p q - lsp σ F m p way q else 0
theorem ls_le (hF : rOk F m) (p q : Nat) : lsp σ F m p way q ≤ Qp σ way p q := by
  rcases Nat.lt_or_ge (sz σ p) q with g | g
  · have e : lsp σ F m p way q = 0 := dpA_zero _ _ _ _ _ _ _ (Or.inl (Nat.le_of_lt g))
    rw [e]; exact Nat.zero_le _
  · exact lst_pl (sdp_in hF) (sz σ p - q) q (by omega)
theorem Sx_n {p q : Nat} (h : sz σ p ≤ q) : Sx σ way F m p q = 0 := by
  unfold Sx
  rw [Qp_n h, Nat.zero_sub]
  split <;> rfl
theorem Sx_p {p q : Nat} (h : np σ ≤ p) : Sx σ way F m p q = 0 := if_neg (by omega)
theorem Sx_le (V : iP σ) {p q : Nat} : Sx σ way F m p q ≤ 800000 := by
  unfold Sx
  split
  · rename_i h
    have b := V.np.2
    exact Nat.le_trans (Nat.sub_le _ _) (Qp_le V (by omega))
  · exact Nat.zero_le _
noncomputable def yy (σ : AIn) (way : Int32) (F : Nat → Int32) (m r p q : Nat) : Nat := cif (r < m ∧ sdp σ F p q r) (svw σ way p q (rln F r) + Sx σ way F m p (q + rln F r)) 0
theorem Sx_eq (hm : m = 1 ∨ m = 2) (hF : rOk F m) {p q : Nat} (hp : p < np σ) (hq : q < sz σ p) : Sx σ way F m p q = max (max (Sx σ way F m p (q + 1)) (yy σ way F m 0 p q)) (yy σ way F m 1 p q) := by
  have hl := fun q => ls_le (σ := σ) (way := way) hF p q
  have e1 : lsp σ F m p way q = wt σ p way q + bstR (sdp σ F p) (rln F) (lsp σ F m p way) q m := lst_eq hq (fun r hr hs => sdp_in hF q r hq hr hs)
  have e2 := Qp_s (way := way) hq
  have l1 := hl (q + 1)
  have key : ∀ r, r < m → sdp σ F p q r → rln F r ≤ 4 ∧ Qp σ way p (q + rln F r) ≤ Qp σ way p (q + 1) ∧ lsp σ F m p way (q + rln F r) ≤ Qp σ way p (q + rln F r) := fun r hr hs => by
    have h1 := (sdp_in hF q r hq hr hs).1
    refine ⟨(hF.2 r hr).1.2.2, ?_, hl _⟩
    have := Qp_m (σ := σ) (way := way) (p := p) (q := q + 1) (rln F r - 1)
    rw [show q + 1 + (rln F r - 1) = q + rln F r by omega] at this
    exact this
  have hy : ∀ r, yy σ way F m r p q = cif (r < m ∧ sdp σ F p q r) ((Qp σ way p (q + 1) - Qp σ way p (q + rln F r)) + (Qp σ way p (q + rln F r) - lsp σ F m p way (q + rln F r))) 0 := fun r => by
    unfold yy svw Sx
    rw [if_pos hp]
  rw [hy 0, hy 1]
  unfold Sx
  rw [if_pos hp, if_pos hp, e1, e2]
  rcases hm with rfl | rfl
  · have n1 : ¬ ((1 : Nat) < 1 ∧ sdp σ F p q 1) := fun h => absurd h.1 (Nat.lt_irrefl 1)
    rw [cif_f n1]
    show wt σ p way q + Qp σ way p (q + 1) - (wt σ p way q + cif (sdp σ F p q 0) (Nat.min (lsp σ F 1 p way (q + 1)) (lsp σ F 1 p way (q + rln F 0))) (lsp σ F 1 p way (q + 1))) = _
    by_cases h0 : sdp σ F p q 0
    · obtain ⟨-, k2, k3⟩ := key 0 (by decide) h0
      rw [cif_t h0, cif_t ⟨by decide, h0⟩]
      simp only [Nat.max_def, Nat.min_def]
      repeat' split
      all_goals omega
    · rw [cif_f h0, cif_f (fun h => h0 h.2)]
      simp only [Nat.max_def]
      repeat' split
      all_goals omega
  · show wt σ p way q + Qp σ way p (q + 1) - (wt σ p way q + cif (sdp σ F p q 1) (Nat.min (cif (sdp σ F p q 0) (Nat.min (lsp σ F 2 p way (q + 1)) (lsp σ F 2 p way (q + rln F 0))) (lsp σ F 2 p way (q + 1))) (lsp σ F 2 p way (q + rln F 1))) (cif (sdp σ F p q 0) (Nat.min (lsp σ F 2 p way (q + 1)) (lsp σ F 2 p way (q + rln F 0))) (lsp σ F 2 p way (q + 1)))) = _
    by_cases h0 : sdp σ F p q 0
    · obtain ⟨-, k2, k3⟩ := key 0 (by decide) h0
      rw [cif_t h0, cif_t (show (0 : Nat) < 2 ∧ sdp σ F p q 0 from ⟨by decide, h0⟩)]
      by_cases h1 : sdp σ F p q 1
      · obtain ⟨-, k5, k6⟩ := key 1 (by decide) h1
        rw [cif_t h1, cif_t (show (1 : Nat) < 2 ∧ sdp σ F p q 1 from ⟨by decide, h1⟩)]
        simp only [Nat.max_def, Nat.min_def]
        repeat' split
        all_goals omega
      · rw [cif_f h1, cif_f (fun h => h1 h.2)]
        simp only [Nat.max_def, Nat.min_def]
        repeat' split
        all_goals omega
    · rw [cif_f h0, cif_f (show ¬ ((0 : Nat) < 2 ∧ sdp σ F p q 0) from fun h => h0 h.2)]
      by_cases h1 : sdp σ F p q 1
      · obtain ⟨-, k5, k6⟩ := key 1 (by decide) h1
        rw [cif_t h1, cif_t (show (1 : Nat) < 2 ∧ sdp σ F p q 1 from ⟨by decide, h1⟩)]
        simp only [Nat.max_def, Nat.min_def]
        repeat' split
        all_goals omega
      · rw [cif_f h1, cif_f (fun h => h1 h.2)]
        simp only [Nat.max_def]
        repeat' split
        all_goals omega
/-! over all programs -/
noncomputable def Rr (σ : AIn) (way : Int32) (F : Nat → Int32) (m p : Nat) : Nat := (if p < 1 then Sx σ way F m 0 0 else 0) + (if p < 2 then Sx σ way F m 1 0 else 0) + (if p < 3 then Sx σ way F m 2 0 else 0)
noncomputable def MM (σ : AIn) (way : Int32) (F : Nat → Int32) (m x : Nat) : Nat := Sx σ way F m (x / 40) (x % 40) + Rr σ way F m (x / 40 + 1)
theorem Rr_s {p : Nat} (hp : p < 3) : Rr σ way F m p = Sx σ way F m p 0 + Rr σ way F m (p + 1) := by
  unfold Rr
  rcases (show p = 0 ∨ p = 1 ∨ p = 2 by omega) with rfl | rfl | rfl
  · rw [if_pos (by decide), if_pos (by decide), if_pos (by decide), if_neg (by decide), if_pos (by decide), if_pos (by decide)]; omega
  · rw [if_neg (by decide), if_pos (by decide), if_pos (by decide), if_neg (by decide), if_neg (by decide), if_pos (by decide)]; omega
  · rw [if_neg (by decide), if_neg (by decide), if_pos (by decide), if_neg (by decide), if_neg (by decide), if_neg (by decide)]; omega
theorem Rr_3 {p : Nat} (hp : 3 ≤ p) : Rr σ way F m p = 0 := by
  unfold Rr
  rw [if_neg (by omega), if_neg (by omega), if_neg (by omega)]
theorem MM_at (V : iP σ) {p q : Nat} (hp : p < 3) (hq : q ≤ 40) : MM σ way F m (40 * p + q) = Sx σ way F m p q + Rr σ way F m (p + 1) := by
  unfold MM
  rcases Nat.lt_or_ge q 40 with g | g
  · rw [show (40 * p + q) / 40 = p by omega, show (40 * p + q) % 40 = q by omega]
  · have e : q = 40 := by omega
    subst e
    rw [show (40 * p + 40) / 40 = p + 1 by omega, show (40 * p + 40) % 40 = 0 by omega, Sx_n (p := p) (q := 40) (V.sz hp).2, Nat.zero_add]
    rcases Nat.lt_or_ge (p + 1) 3 with g2 | g2
    · exact (Rr_s g2).symm
    · rw [Rr_3 g2, Rr_3 (by omega), Sx_p (by have := V.np.2; omega)]
theorem MM_0 (V : iP σ) {x : Nat} (h : 120 ≤ x) : MM σ way F m x = 0 := by
  unfold MM
  rw [Sx_p (by have := V.np.2; omega), Rr_3 (by omega)]
/-- row r stands at x -/
def sta (σ : AIn) (F : Nat → Int32) (m r x : Nat) : Prop := x / 40 < np σ ∧ x % 40 < sz σ (x / 40) ∧ r < m ∧ sdp σ F (x / 40) (x % 40) r
noncomputable def YY (σ : AIn) (way : Int32) (F : Nat → Int32) (m r x : Nat) : Nat := cif (sta σ F m r x) (svw σ way (x / 40) (x % 40) (rln F r) + MM σ way F m (x + rln F r)) 0
theorem YY_at (V : iP σ) (hF : rOk F m) {p q r : Nat} (hp : p < np σ) (hq : q < sz σ p) (hs : r < m ∧ sdp σ F p q r) : YY σ way F m r (40 * p + q) = yy σ way F m r p q + Rr σ way F m (p + 1) := by
  have b := V.np.2
  have hn := (V.sz (q := p) (by omega)).2
  have h2 := sdp_in hF q r hq hs.1 hs.2
  have e1 : (40 * p + q) / 40 = p := by omega
  have e2 : (40 * p + q) % 40 = q := by omega
  unfold YY yy
  rw [cif_t (show sta σ F m r (40 * p + q) from ⟨by rw [e1]; exact hp, by rw [e1, e2]; exact hq, hs.1, by rw [e1, e2]; exact hs.2⟩), cif_t hs, e1, e2, Nat.add_assoc, MM_at V (by omega) (by omega)]
  omega
theorem MM_eq (V : iP σ) (hm : m = 1 ∨ m = 2) (hF : rOk F m) {x : Nat} (hx : x < 120) : MM σ way F m x = max (max (MM σ way F m (x + 1)) (YY σ way F m 0 x)) (YY σ way F m 1 x) := by
  have b := V.np.2
  obtain ⟨p, q, hp, hq, rfl⟩ : ∃ p q, p < 3 ∧ q < 40 ∧ x = 40 * p + q := ⟨x / 40, x % 40, by omega, by omega, by omega⟩
  have e1 : (40 * p + q) / 40 = p := by omega
  have e2 : (40 * p + q) % 40 = q := by omega
  rw [MM_at V hp (by omega), Nat.add_assoc, MM_at V hp (by omega)]
  by_cases hin : p < np σ ∧ q < sz σ p
  · have eS := Sx_eq (way := way) hm hF hin.1 hin.2
    have yr : ∀ r, (r < m ∧ sdp σ F p q r → YY σ way F m r (40 * p + q) = yy σ way F m r p q + Rr σ way F m (p + 1)) ∧ (¬ (r < m ∧ sdp σ F p q r) → YY σ way F m r (40 * p + q) = 0 ∧ yy σ way F m r p q = 0) := fun r => ⟨YY_at V hF hin.1 hin.2, fun h => ⟨cif_f (fun g => h ⟨g.2.2.1, by have := g.2.2.2; rw [e1, e2] at this; exact this⟩), cif_f h⟩⟩
    rw [eS]
    obtain ⟨a1, a2⟩ := yr 0
    obtain ⟨c1, c2⟩ := yr 1
    by_cases h0 : 0 < m ∧ sdp σ F p q 0
    · have := a1 h0
      by_cases h1 : 1 < m ∧ sdp σ F p q 1
      · have := c1 h1
        simp only [Nat.max_def]
        repeat' split
        all_goals omega
      · have := c2 h1
        simp only [Nat.max_def]
        repeat' split
        all_goals omega
    · have := a2 h0
      by_cases h1 : 1 < m ∧ sdp σ F p q 1
      · have := c1 h1
        simp only [Nat.max_def]
        repeat' split
        all_goals omega
      · have := c2 h1
        simp only [Nat.max_def]
        repeat' split
        all_goals omega
  · have z1 : Sx σ way F m p q = 0 ∧ Sx σ way F m p (q + 1) = 0 := by
      by_cases h : p < np σ
      · exact ⟨Sx_n (by omega), Sx_n (by omega)⟩
      · exact ⟨Sx_p (by omega), Sx_p (by omega)⟩
    have y0 : ∀ r, YY σ way F m r (40 * p + q) = 0 := fun r => cif_f (fun g => hin ⟨by have := g.1; rw [e1] at this; exact this, by have := g.2.1; rw [e1, e2] at this; exact this⟩)
    rw [y0 0, y0 1, z1.1, z1.2]
    simp only [Nat.max_def]
    repeat' split
    all_goals omega
theorem MM_1 (V : iP σ) (hm : m = 1 ∨ m = 2) (hF : rOk F m) (x : Nat) : MM σ way F m (x + 1) ≤ MM σ way F m x := by
  rcases Nat.lt_or_ge x 120 with g | g
  · rw [MM_eq V hm hF g]
    exact Nat.le_trans (Nat.le_max_left _ _) (Nat.le_max_left _ _)
  · rw [MM_0 V (by omega), MM_0 V g]; exact Nat.le_refl _
theorem MM_m (V : iP σ) (hm : m = 1 ∨ m = 2) (hF : rOk F m) (x : Nat) : ∀ d, MM σ way F m (x + d) ≤ MM σ way F m x
  | 0 => Nat.le_refl _
  | d + 1 => Nat.le_trans (MM_1 V hm hF (x + d)) (MM_m V hm hF x d)
theorem MM_le (V : iP σ) (x : Nat) : MM σ way F m x ≤ 2400000 := by
  have s0 := Sx_le (way := way) (F := F) (m := m) V (p := 0) (q := 0)
  have s1 := Sx_le (way := way) (F := F) (m := m) V (p := 1) (q := 0)
  have s2 := Sx_le (way := way) (F := F) (m := m) V (p := 2) (q := 0)
  have s3 := Sx_le (way := way) (F := F) (m := m) V (p := x / 40) (q := x % 40)
  unfold MM Rr
  rw [if_neg (by omega)]
  split <;> split <;> omega
/-! the table for the stands -/
noncomputable def TT (σ : AIn) (way : Int32) (F : Nat → Int32) (m k : Nat) : Nat := if k % 2 = 0 then MM σ way F m (k / 2) else max (MM σ way F m (k / 2 + 1)) (YY σ way F m 0 (k / 2))
theorem TT_e (x : Nat) : TT σ way F m (2 * x) = MM σ way F m x := by
  unfold TT
  rw [if_pos (by omega), show 2 * x / 2 = x by omega]
theorem TT_o (x : Nat) : TT σ way F m (2 * x + 1) = max (MM σ way F m (x + 1)) (YY σ way F m 0 x) := by
  unfold TT
  rw [if_neg (by omega), show (2 * x + 1) / 2 = x by omega]
theorem st_z (V : iP σ) {r : Nat} (hr : r < m) (hF : jOk F (5 * r)) {x e s : Nat} : stz σ way (eR F (5 * r)) x e s ↔ (sta σ F m r x ∧ e = x + rln F r ∧ s = svw σ way (x / 40) (x % 40) (rln F r) ∧ 0 < s) := by
  have b := V.np.2
  constructor
  · rintro ⟨p, j, L, hp, hw, hu, rfl, rfl, rfl, h0⟩
    have hn := (V.sz (q := p) (by omega)).2
    have hL := hw.1
    have hjn := hw.2.1
    have e1 : (40 * p + j) / 40 = p := by omega
    have e2 : (40 * p + j) % 40 = j := by omega
    have hk : ∀ i, i < L → isN (σ 3 (40 * p + (j + i))) 15 := fun i hi => (V.2.2.1 p (j + i) (by omega) (by omega)).1
    obtain ⟨d1, d2⟩ := e5_inj hF.ln hF.kd (by omega) (fun i hi => (hk i hi).2) hu
    have hs : sdp σ F p j r := ⟨by rw [d1]; exact hjn, fun k hk2 => ⟨?_, fun h9 => hw.2.2.1 k h9 (by omega)⟩⟩
    · refine ⟨⟨by rw [e1]; exact hp, by rw [e1, e2]; omega, hr, by rw [e1, e2]; exact hs⟩, ?_, ?_, h0⟩
      · show _ = _ + nv (F (5 * r)); rw [d1]
      · rw [e1, e2]; show _ = svw σ way p j (nv (F (5 * r))); rw [d1]
    · have q1 := (hk k (by omega)).1
      have q2 := (hF.2.1 k hk2).1.1
      have q3 : nv (F (5 * r + 1 + k)) = nv (σ 3 (40 * p + (j + k))) := d2 k hk2
      rw [Nat.add_assoc, q1, q2, q3]
  · rintro ⟨⟨a1, a2, -, a3⟩, rfl, rfl, h0⟩
    have hn := (V.sz (q := x / 40) (by omega)).2
    refine ⟨x / 40, x % 40, rln F r, a1, ⟨⟨hF.1.1, hF.ln⟩, a3.1, fun k h1 h2 => (a3.2 k h2).2 h1, fun k h1 => ?_⟩, ?_, by omega, by omega, rfl, h0⟩
    · have h1 : k + 1 < nv (F (5 * r)) := h1
      have e := (a3.2 k (by omega)).1
      unfold kd
      rw [e]
      exact (hF.2.1 k (by omega)).2 h1
    · unfold eR
      refine e5_congr (fun i hi => ?_)
      have e := (a3.2 i hi).1
      show nv (F (5 * r + 1 + i)) = nv (σ 3 (40 * (x / 40) + (x % 40 + i)))
      rw [← e, Nat.add_assoc]
theorem tOk_TT (V : iP σ) (hm : m = 1 ∨ m = 2) (hJ : ∀ r, r < m → jOk F (5 * r)) : tOk (stz σ way (eR F 0)) (fun x e s => m = 2 ∧ stz σ way (eR F 5) x e s) (TT σ way F m) := by
  have b := V.np.2
  have hF : rOk F m := ⟨by omega, fun r hr => ⟨(hJ r hr).1, trivial⟩⟩
  have z0 : ∀ x e s, stz σ way (eR F 0) x e s ↔ _ := fun x e s => st_z (way := way) V (show 0 < m by omega) (hJ 0 (by omega)) (x := x) (e := e) (s := s)
  have ysm : ∀ r x, (¬ ∃ e s, sta σ F m r x ∧ e = x + rln F r ∧ s = svw σ way (x / 40) (x % 40) (rln F r) ∧ 0 < s) → YY σ way F m r x ≤ MM σ way F m (x + 1) := fun r x h => by
    by_cases hs : sta σ F m r x
    · unfold YY
      rw [cif_t hs]
      have h1 : svw σ way (x / 40) (x % 40) (rln F r) = 0 := by
        rcases Nat.eq_zero_or_pos (svw σ way (x / 40) (x % 40) (rln F r)) with g | g
        · exact g
        · exact absurd ⟨_, _, hs, rfl, rfl, g⟩ h
      have h2 := (sdp_in hF (x % 40) r hs.2.1 hs.2.2.1 hs.2.2.2).1
      have h3 := MM_m (way := way) V hm hF (x + 1) (rln F r - 1)
      rw [show x + 1 + (rln F r - 1) = x + rln F r by omega] at h3
      omega
    · unfold YY
      rw [cif_f hs]; exact Nat.zero_le _
  refine ⟨by rw [show 240 = 2 * 120 from rfl, TT_e]; exact MM_0 V (Nat.le_refl _), fun x hx h => ?_, fun x hx h => ?_, fun x e s h => ?_, fun x e s h => ?_, fun k => ?_, fun e he => by rw [TT_e]; exact MM_0 V (by omega)⟩
  · rw [TT_o, show 2 * x + 2 = 2 * (x + 1) by omega, TT_e]
    exact Nat.max_eq_left (ysm 0 x (fun ⟨e, s, g⟩ => h e s ((z0 x e s).mpr g)))
  · rw [TT_o, TT_e, MM_eq V hm hF hx]
    refine Nat.max_eq_left (Nat.le_trans ?_ (Nat.le_max_left _ _))
    by_cases h2 : m = 2
    · refine ysm 1 x (fun ⟨e, s, g⟩ => h e s ⟨h2, (st_z (way := way) V (show 1 < m by omega) (hJ 1 (by omega))).mpr g⟩)
    · have hs : ¬ sta σ F m 1 x := fun g => by have := g.2.2.1; omega
      unfold YY
      rw [cif_f hs]; exact Nat.zero_le _
  · obtain ⟨g1, rfl, rfl, g4⟩ := (z0 x e s).mp h
    rw [TT_o, show 2 * x + 2 = 2 * (x + 1) by omega, TT_e, TT_e]
    unfold YY
    rw [cif_t g1]
  · obtain ⟨h2, h⟩ := h
    obtain ⟨g1, rfl, rfl, g4⟩ := (st_z (way := way) V (show 1 < m by omega) (hJ 1 (by omega))).mp h
    have hx : x < 120 := by have := g1.1; omega
    rw [TT_o, TT_e, TT_e, MM_eq V hm hF hx]
    congr 1
    unfold YY
    rw [cif_t g1]
  · rcases Nat.mod_two_eq_zero_or_one k with g | g
    · obtain ⟨x, rfl⟩ : ∃ x, k = 2 * x := ⟨k / 2, by omega⟩
      rw [TT_e]; exact Nat.le_trans (MM_le V x) (by decide)
    · obtain ⟨x, rfl⟩ : ∃ x, k = 2 * x + 1 := ⟨k / 2, by omega⟩
      rw [TT_o]
      refine Nat.max_le.mpr ⟨Nat.le_trans (MM_le V _) (by decide), ?_⟩
      by_cases hs : sta σ F m 0 x
      · unfold YY
        rw [cif_t hs]
        have h1 := svw_le (way := way) (j := x % 40) (L := rln F 0) V (show x / 40 < 3 by have := hs.1; omega)
        have h2 := MM_le (way := way) (F := F) (m := m) V (x + rln F 0)
        omega
      · unfold YY
        rw [cif_f hs]; exact Nat.zero_le _
theorem TT_0 (V : iP σ) (hF : rOk F m) : TT σ way F m 0 = pl σ way - cs σ way F m := by
  have b := V.np.2
  have h := TT_e (σ := σ) (way := way) (F := F) (m := m) 0
  rw [Nat.mul_zero] at h
  rw [h]
  have l0 := ls_le (σ := σ) (way := way) hF 0 0
  have l1 := ls_le (σ := σ) (way := way) hF 1 0
  have l2 := ls_le (σ := σ) (way := way) hF 2 0
  show Sx σ way F m (0 / 40) (0 % 40) + Rr σ way F m (0 / 40 + 1) = csum (fun p => Qp σ way p 0) (np σ) - csum (fun p => lsp σ F m p way 0) (np σ)
  rw [show 0 / 40 = 0 from rfl, show 0 % 40 = 0 from rfl, Rr_s (show 0 + 1 < 3 by decide), Rr_s (show 0 + 1 + 1 < 3 by decide), Rr_3 (show 3 ≤ 0 + 1 + 1 + 1 by decide)]
  unfold Sx
  rcases (show np σ = 0 ∨ np σ = 1 ∨ np σ = 2 ∨ np σ = 3 by omega) with e | e | e | e
  · rw [e, if_neg (by omega), if_neg (by omega), if_neg (by omega)]; rfl
  · rw [e, if_pos (by omega), if_neg (by omega), if_neg (by omega)]
    show (Qp σ way 0 0 - lsp σ F m 0 way 0) + (0 + (0 + 0)) = 0 + Qp σ way 0 0 - (0 + lsp σ F m 0 way 0)
    omega
  · rw [e, if_pos (by omega), if_pos (by omega), if_neg (by omega)]
    show (Qp σ way 0 0 - lsp σ F m 0 way 0) + ((Qp σ way 1 0 - lsp σ F m 1 way 0) + (0 + 0)) = 0 + Qp σ way 0 0 + Qp σ way 1 0 - (0 + lsp σ F m 0 way 0 + lsp σ F m 1 way 0)
    omega
  · rw [e, if_pos (by omega), if_pos (by omega), if_pos (by omega)]
    show (Qp σ way 0 0 - lsp σ F m 0 way 0) + ((Qp σ way 1 0 - lsp σ F m 1 way 0) + ((Qp σ way 2 0 - lsp σ F m 2 way 0) + 0)) = 0 + Qp σ way 0 0 + Qp σ way 1 0 + Qp σ way 2 0 - (0 + lsp σ F m 0 way 0 + lsp σ F m 1 way 0 + lsp σ F m 2 way 0)
    omega
end K25
