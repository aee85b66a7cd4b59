/-! the two ways to number rows are one order -/
def bv (u : Nat) : Nat := (u / 32768 % 32) * 4913 + (u / 1024 % 32) * 289 + (u / 32 % 32) * 17 + u % 32
theorem bv_e5 {κ : Nat → Nat} {L : Nat} (hL : 2 ≤ L ∧ L ≤ 4) (h : ∀ i, i < L → κ i ≤ 15) : bv (e5 κ L) = wn κ L := by
  have d0 : e5 κ L / 32768 % 32 = if 0 < L then κ 0 + 1 else 0 := e5_d hL.2 h (k := 0) (by decide)
  have d1 : e5 κ L / 1024 % 32 = if 1 < L then κ 1 + 1 else 0 := e5_d hL.2 h (k := 1) (by decide)
  have d2 : e5 κ L / 32 % 32 = if 2 < L then κ 2 + 1 else 0 := e5_d hL.2 h (k := 2) (by decide)
  have d3 : e5 κ L / 1 % 32 = if 3 < L then κ 3 + 1 else 0 := e5_d hL.2 h (k := 3) (by decide)
  rw [Nat.div_one] at d3
  unfold bv
  rw [d0, d1, d2, d3]
  rcases (show L = 2 ∨ L = 3 ∨ L = 4 by omega) with rfl | rfl | rfl
  · rw [wn_2, if_pos (by decide), if_pos (by decide), if_neg (by decide), if_neg (by decide)]; omega
  · rw [wn_3, if_pos (by decide), if_pos (by decide), if_pos (by decide), if_neg (by decide)]; omega
  · rw [wn_4, if_pos (by decide), if_pos (by decide), if_pos (by decide), if_pos (by decide)]; omega
def dig (u : Nat) : Prop := u < 1048576 ∧ u / 32768 % 32 ≤ 16 ∧ u / 1024 % 32 ≤ 16 ∧ u / 32 % 32 ≤ 16 ∧ u % 32 ≤ 16
theorem dig_e5 {κ : Nat → Nat} {L : Nat} (hL : L ≤ 4) (h : ∀ i, i < L → κ i ≤ 15) : dig (e5 κ L) := by
  have d : ∀ k, k < 4 → e5 κ L / u5 k % 32 ≤ 16 := fun k hk => by
    rw [e5_d hL h hk]
    split
    · rename_i g; have := h k g; omega
    · omega
  have d3 : e5 κ L / 1 % 32 ≤ 16 := d 3 (by decide)
  rw [Nat.div_one] at d3
  exact ⟨e5_lt hL h, d 0 (by decide), d 1 (by decide), d 2 (by decide), d3⟩
theorem bv_lt {u w : Nat} (hu : dig u) (hw : dig w) (h : u < w) : bv u < bv w := by
  obtain ⟨a0, a1, a2, a3, a4⟩ := hu
  obtain ⟨b0, b1, b2, b3, b4⟩ := hw
  have eu : u = (u / 32768 % 32) * 32768 + (u / 1024 % 32) * 1024 + (u / 32 % 32) * 32 + u % 32 := by omega
  have ew : w = (w / 32768 % 32) * 32768 + (w / 1024 % 32) * 1024 + (w / 32 % 32) * 32 + w % 32 := by omega
  unfold bv
  generalize u / 32768 % 32 = p0 at *
  generalize u / 1024 % 32 = p1 at *
  generalize u / 32 % 32 = p2 at *
  generalize u % 32 = p3 at *
  generalize w / 32768 % 32 = q0 at *
  generalize w / 1024 % 32 = q1 at *
  generalize w / 32 % 32 = q2 at *
  generalize w % 32 = q3 at *
  rcases Nat.lt_trichotomy p0 q0 with g0 | g0 | g0
  · omega
  · rcases Nat.lt_trichotomy p1 q1 with g1 | g1 | g1
    · omega
    · rcases Nat.lt_trichotomy p2 q2 with g2 | g2 | g2
      · omega
      · omega
      · omega
    · omega
  · omega
section K26
variable {sh : ASh} {I σ : AIn} {P : APt} {way : Int32}
theorem kp_kd {p j : Nat} : kpN σ p j = kd σ p j := by
  funext i
  unfold kd
  show nv (σ 3 (40 * p + (j + i))) = _
  rw [Nat.add_assoc]
theorem kd_15 (V : iP σ) {p j L : Nat} (hp : p < np σ) (hw : winA σ p j L) : ∀ i, i < L → kd σ p j i ≤ 15 := fun i hi => by
  have b := V.np.2
  have h2 := hw.2.1
  have := (V.2.2.1 p (j + i) (by omega) (by omega)).1.2
  unfold kd
  rw [Nat.add_assoc]
  exact this
theorem stz_row (V : iP σ) {u x e s : Nat} (h : stz σ way u x e s) : win σ (bv u) ∧ dig u ∧ x < 120 := by
  obtain ⟨p, j, L, hp, hw, rfl, rfl, -⟩ := h
  have b := V.np.2
  have hn := (V.sz (q := p) (by omega)).2
  have h2 := hw.2.1
  have h4 := hw.1
  rw [kp_kd]
  exact ⟨⟨p, j, L, hp, hw, bv_e5 hw.1 (kd_15 V hp hw)⟩, dig_e5 h4.2 (kd_15 V hp hw), by omega⟩
theorem eR_rwF {κ : Nat → Nat} {L : Nat} (hL : 2 ≤ L ∧ L ≤ 4) (h : ∀ i, i < L → κ i ≤ 15) : eR (rwF (wn κ L)) 0 = e5 κ L := by
  obtain ⟨e1, e2, e3⟩ := wn_dg hL h
  have l0 : nv (rwF (wn κ L) 0) = L := by show nv (nI (lnv (wn κ L))) = L; rw [e1, nv_nI (by omega)]
  unfold eR
  rw [l0]
  refine e5_congr (fun i hi => ?_)
  have := h i hi
  show nv (if 0 + 1 + i = 0 then _ else nI (dg (wn κ L) (0 + 1 + i - 1) - 1)) = κ i
  rw [if_neg (by omega), show 0 + 1 + i - 1 = i by omega, e2 i hi, Nat.add_sub_cancel, nv_nI (by omega)]
theorem eR_bv (V : iP σ) {u x e s : Nat} (h : stz σ way u x e s) : eR (rwF (bv u)) 0 = u := by
  obtain ⟨p, j, L, hp, hw, rfl, -⟩ := h
  rw [kp_kd, bv_e5 hw.1 (kd_15 V hp hw)]
  exact eR_rwF hw.1 (kd_15 V hp hw)
theorem jOk_rwF (V : iP σ) {v : Nat} (h : win σ v) : jOk (rwF v) 0 := by
  obtain ⟨p, q, L, hp, hw, rfl⟩ := h
  have hk := kd_15 V hp hw
  obtain ⟨e1, e2, e3⟩ := wn_dg hw.1 hk
  have hL := hw.1
  have l0 : rwF (wn (kd σ p q) L) 0 = nI L := by show nI (lnv (wn (kd σ p q) L)) = nI L; rw [e1]
  have lk : ∀ i, i < L → rwF (wn (kd σ p q) L) (0 + 1 + i) = nI (kd σ p q i) := fun i hi => by
    show (if 0 + 1 + i = 0 then _ else nI (dg (wn (kd σ p q) L) (0 + 1 + i - 1) - 1)) = _
    rw [if_neg (by omega), show 0 + 1 + i - 1 = i by omega, e2 i hi, Nat.add_sub_cancel]
  unfold jOk
  rw [l0, nv_nI (by omega)]
  refine ⟨⟨hL.1, isN_nI hL.2 (by decide)⟩, fun i hi => ?_, fun i hi hi4 => ?_⟩
  · have := hk i hi
    rw [lk i hi, nv_nI (by omega)]
    exact ⟨isN_nI this (by decide), hw.2.2.2 i⟩
  · show (if 0 + 1 + i = 0 then _ else nI (dg (wn (kd σ p q) L) (0 + 1 + i - 1) - 1)) = nI 0
    rw [if_neg (by omega), show 0 + 1 + i - 1 = i by omega, e3 i hi hi4]
theorem rw2_0 {v w i : Nat} (hi : i < 5) : rw2 v w (0 + i) = rwF v (0 + i) := by
  rw [Nat.zero_add]; exact if_pos hi
theorem rw2_5 {v w i : Nat} : rw2 v w (5 + i) = rwF w (0 + i) := by
  show (if 5 + i < 5 then _ else rwF w (5 + i - 5)) = _
  rw [if_neg (by omega), show 5 + i - 5 = 0 + i by omega]
theorem jOk_rw2 {v w : Nat} (hv : jOk (rwF v) 0) (hw : jOk (rwF w) 0) : (jOk (rw2 v w) 0 ∧ eR (rw2 v w) 0 = eR (rwF v) 0) ∧ jOk (rw2 v w) 5 ∧ eR (rw2 v w) 5 = eR (rwF w) 0 :=
  ⟨jOk_eq hv (fun i hi => (rw2_0 hi).symm), jOk_eq hw (fun i hi => rw2_5.symm)⟩
theorem tOk_iff {D1 D2 D2' : Nat → Nat → Nat → Prop} {T : Nat → Nat} (h : tOk D1 D2 T) (hD : ∀ x e s, D2 x e s ↔ D2' x e s) : tOk D1 D2' T := by
  have : D2 = D2' := by
    funext x e s
    exact propext (hD x e s)
  rw [← this]
  exact h
theorem t_one (V : iP σ) {u : Nat} (hu : win σ (bv u)) (he : eR (rwF (bv u)) 0 = u) : tOk (stz σ way u) (fun _ _ _ => False) (TT σ way (rwF (bv u)) 1) ∧ TT σ way (rwF (bv u)) 1 0 = gn σ way (bv u) := by
  have hj := jOk_rwF V hu
  have hJ : ∀ r, r < 1 → jOk (rwF (bv u)) (5 * r) := fun r hr => by
    have e : r = 0 := by omega
    subst e; exact hj
  have h := tOk_TT (way := way) V (Or.inl rfl) hJ
  rw [he] at h
  refine ⟨tOk_iff h (fun x e s => ⟨fun g => absurd g.1 (by decide), fun g => g.elim⟩), ?_⟩
  rw [TT_0 V ⟨by decide, fun r hr => ⟨(hJ r hr).1, trivial⟩⟩]
  unfold gn
  rw [cif_t hu]
theorem t_two (V : iP σ) {u w : Nat} (hu : win σ (bv u)) (he : eR (rwF (bv u)) 0 = u) (hw : win σ (bv w)) (he2 : eR (rwF (bv w)) 0 = w) : tOk (stz σ way u) (stz σ way w) (TT σ way (rw2 (bv u) (bv w)) 2) ∧ TT σ way (rw2 (bv u) (bv w)) 2 0 = g2 σ way (bv u) (bv w) := by
  obtain ⟨⟨j1, j2⟩, j3, j4⟩ := jOk_rw2 (jOk_rwF V hu) (jOk_rwF V hw)
  have hJ : ∀ r, r < 2 → jOk (rw2 (bv u) (bv w)) (5 * r) := fun r hr => by
    rcases (show r = 0 ∨ r = 1 by omega) with rfl | rfl
    · exact j1
    · exact j3
  have h := tOk_TT (way := way) V (Or.inr rfl) hJ
  rw [j2, j4, he, he2] at h
  exact ⟨tOk_iff h (fun x e s => ⟨fun g => g.2, fun g => ⟨rfl, g⟩⟩), TT_0 V ⟨by decide, fun r hr => ⟨(hJ r hr).1, trivial⟩⟩⟩
theorem t_none {D1 D2 : Nat → Nat → Nat → Prop} {T : Nat → Nat} (h : tOk D1 D2 T) (h1 : ∀ x e s, ¬ D1 x e s) (h2 : ∀ x e s, ¬ D2 x e s) : T 0 = 0 := by
  have := T_flat (T := T) (a := 0) 240 (fun k a b => by
    rcases Nat.mod_two_eq_zero_or_one k with g | g
    · obtain ⟨x, rfl⟩ : ∃ x, k = 2 * x := ⟨k / 2, by omega⟩
      exact h.2.2.1 x (by omega) (fun e s => h2 x e s)
    · obtain ⟨x, rfl⟩ : ∃ x, k = 2 * x + 1 := ⟨k / 2, by omega⟩
      exact h.2.1 x (by omega) (fun e s => h1 x e s))
  rw [this]
  exact h.1
/-! folds over places and over numbers -/
def csM (f : Nat → Nat) (s t : CS) : Prop := t.1 = s.1 ∧ t.2.1 = s.2.1 ∧ (1 ≤ s.2.1 → t.2.2.1 = f s.2.2.1) ∧ (2 ≤ s.2.1 → t.2.2.2 = f s.2.2.2)
theorem csM_1 {f g G : Nat → Nat} {n : Nat} (hg : ∀ i, i < n → g i = G (f i)) : ∀ k, k ≤ n → csM f (fo (sg1 g) (0, 0, 0, 0) k) (fo (fun s i => sg1 G s (f i)) (0, 0, 0, 0) k)
  | 0, _ => ⟨rfl, rfl, fun h => absurd h (show ¬ 1 ≤ 0 by decide), fun h => absurd h (show ¬ 2 ≤ 0 by decide)⟩
  | k + 1, h => by
    have ih := csM_1 (f := f) hg k (by omega)
    show csM f (sg1 g (fo (sg1 g) (0, 0, 0, 0) k) k) (sg1 G (fo (fun s i => sg1 G s (f i)) (0, 0, 0, 0) k) (f k))
    generalize fo (sg1 g) (0, 0, 0, 0) k = s at ih
    generalize fo (fun s i => sg1 G s (f i)) (0, 0, 0, 0) k = t at ih
    unfold sg1
    rw [ih.1, ← hg k (by omega)]
    by_cases c : s.1 < g k
    · rw [if_pos c, if_pos c]
      exact ⟨rfl, rfl, fun _ => rfl, fun h => absurd h (show ¬ 2 ≤ 1 by decide)⟩
    · rw [if_neg c, if_neg c]; exact ih
theorem csM_2 {f g G : Nat → Nat} {h H2 : Nat → Nat → Nat} {n i : Nat} (hi : i < n) (hg : ∀ i, i < n → g i = G (f i)) (hh : ∀ i j, i < j → j < n → h i j = H2 (f i) (f j)) (hf : ∀ i j, i < n → j < n → (f i < f j ↔ i < j)) {s t : CS} (hs : csM f s t) : ∀ k, k ≤ n → csM f (fo (sg2 g h i) s k) (fo (fun s j => sg2 G H2 (f i) s (f j)) t k)
  | 0, _ => hs
  | k + 1, hk => by
    have ih := csM_2 hi hg hh hf hs k (by omega)
    show csM f (sg2 g h i (fo (sg2 g h i) s k) k) (sg2 G H2 (f i) (fo (fun s j => sg2 G H2 (f i) s (f j)) t k) (f k))
    generalize fo (sg2 g h i) s k = s1 at ih
    generalize fo (fun s j => sg2 G H2 (f i) s (f j)) t k = t1 at ih
    unfold sg2
    have e1 := hf i k hi (by omega)
    rw [ih.1, ← hg i hi, ← hg k (by omega)]
    by_cases c : i < k
    · rw [← hh i k c (by omega)]
      by_cases c2 : s1.1 < g i + g k ∧ s1.1 < h i k
      · rw [if_pos ⟨c, c2⟩, if_pos ⟨e1.mpr c, c2⟩]
        exact ⟨rfl, rfl, fun _ => rfl, fun _ => rfl⟩
      · rw [if_neg (fun q => c2 q.2), if_neg (fun q => c2 q.2)]; exact ih
    · rw [if_neg (fun q => c q.1), if_neg (fun q => c (e1.mp q.1))]; exact ih
theorem csM_3 {f g G : Nat → Nat} {h H2 : Nat → Nat → Nat} {n : Nat} (hg : ∀ i, i < n → g i = G (f i)) (hh : ∀ i j, i < j → j < n → h i j = H2 (f i) (f j)) (hf : ∀ i j, i < n → j < n → (f i < f j ↔ i < j)) {s t : CS} (hs : csM f s t) : ∀ k, k ≤ n → csM f (fo (fun s i => fo (sg2 g h i) s n) s k) (fo (fun s i => fo (fun s j => sg2 G H2 (f i) s (f j)) s n) t k)
  | 0, _ => hs
  | k + 1, hk => csM_2 (by omega) hg hh hf (csM_3 hg hh hf hs k (by omega)) n (Nat.le_refl _)
/-! the search over what was gathered is the search -/
theorem gS_cz (V : iP σ) {c : Nat} {H : AIn} (h : gS c (stz σ way) H) : ∃ n E, czH n E (stz σ way) (fun k => gn σ way (bv (E k))) (fun i j => g2 σ way (bv (E i)) (bv (E j))) H ∧ (∀ k, k < n → (H 67 k = nI (E k) ∧ E k < 1048576) ∧ jOk (rwF (bv (E k))) 0 ∧ eR (rwF (bv (E k))) 0 = E k) ∧ (∀ i j, i < n → j < n → (bv (E i) < bv (E j) ↔ i < j)) ∧ ∀ kk, kk < 2147483648 → chS σ (nI kk) way = if kk = 1 then fo (fun s i => sg1 (gn σ way) s (bv (E i))) (0, 0, 0, 0) n else fo (fun s i => fo (fun s j => sg2 (gn σ way) (g2 σ way) (bv (E i)) s (bv (E j))) s n) (fo (fun s i => sg1 (gn σ way) s (bv (E i))) (0, 0, 0, 0) n) n := by
  obtain ⟨n, E, lsv, pl, en, sv, rw, hnc, hex, hr, hgs⟩ := h
  have hc := hgs.2.1.1
  have rowk : ∀ k, k < n → win σ (bv (E k)) ∧ dig (E k) ∧ eR (rwF (bv (E k))) 0 = E k := fun k hk => by
    obtain ⟨x, e, s, q⟩ := hex k hk
    obtain ⟨a, b, -⟩ := stz_row V q
    exact ⟨a, b, eR_bv V q⟩
  have inc : ∀ i j, i < j → j < n → bv (E i) < bv (E j) := fun i j hi hj => bv_lt (rowk i (by omega)).2.1 (rowk j hj).2.1 (hr.2.2.1 i j hi hj)
  refine ⟨n, E, ⟨by omega, ⟨c, lsv, pl, en, sv, rw, hr, hgs⟩, fun k hk => ⟨_, t_one V (rowk k hk).1 (rowk k hk).2.2⟩, fun i j hi hj => ⟨_, t_two V (rowk i (by omega)).1 (rowk i (by omega)).2.2 (rowk j hj).1 (rowk j hj).2.2⟩⟩, fun k hk => ⟨⟨(hr.2.1 k hk).1, (hr.2.1 k hk).2.1⟩, jOk_rwF V (rowk k hk).1, (rowk k hk).2.2⟩, fun i j hi hj => ⟨fun q => ?_, fun q => inc i j q hj⟩, fun kk hkk => ?_⟩
  · rcases Nat.lt_trichotomy i j with g | g | g
    · exact g
    · subst g; omega
    · have := inc j i g hi; omega
  · unfold chS
    rw [nv_nI hkk]
    refine sch_enum (e := fun i => bv (E i)) inc (fun i hi => ?_) (fun u hu => ?_) (fun u hu => gn_0 (fun hw => ?_))
    · have := (win_ok V (rowk i hi).1).lt
      show bv (E i) < 83521
      omega
    · by_cases hw : win σ u
      · obtain ⟨p, q, L, hp, hwA, rfl⟩ := id hw
        have hk := kd_15 V hp hwA
        have e1 := bv_e5 hwA.1 hk
        have no : ∀ x e s, ¬ stz σ way (e5 (kd σ p q) L) x e s := fun x e s g => by
          have hx := (stz_row V g).2.2
          have hne : ∀ k, k < n → E k ≠ e5 (kd σ p q) L := fun k hk9 e9 => hu k hk9 (by show bv (E k) = _; rw [e9]; exact e1)
          have hl := hr.2.2.2 _ hne
          rcases hgs.2.2.2 (e5 (kd σ p q) L) with ⟨-, b⟩ | ⟨i, ⟨a0, a1⟩, a2, -⟩
          · exact b x e s hx g
          · rw [hl] at a2
            exact nI_pos (n := i) (by omega) (by rw [← a2]; decide)
        have t := t_one (way := way) V (u := e5 (kd σ p q) L) (by rw [e1]; exact hw) (by rw [e1]; exact eR_rwF hwA.1 hk)
        rw [e1] at t
        rw [← t.2]
        exact t_none t.1 no (fun _ _ _ h => h)
      · exact gn_0 hw
    · have := (win_ok V hw).lt
      omega
theorem l_X0_searchE (S : St_c sh P) {n : Nat} {E : Nat → Nat} (hn : n ≤ 360) {x2 b : Int32} {kk pl0 : Nat} {t s : CS} (hpl : pl0 ≤ 2400000) (ht : t.1 ≤ pl0) (hM : csM (fun i => bv (E i)) s t) (hE : ∀ k, k < n → (I 67 k = nI (E k) ∧ E k < 1048576) ∧ jOk (rwF (bv (E k))) 0 ∧ eR (rwF (bv (E k))) 0 = E k) (hC : chR n s I) : am_R mX0_search (po_i (fun v sh' I' P' => v = nI (pl0 - t.1) ∧ (∀ r, r ≠ 134 → r ≠ 135 → I' r = I r) ∧ t.2.1 ≤ 2 ∧ RwR I' 134 t.2.1 (fun i => eR (rw2 t.2.2.1 t.2.2.2) (5 * i)) ∧ sh = sh' ∧ P = P')) 5 135 0 0 21 [some (.ref 66), some (.ref 100), some (.int x2), some (.int b), some (.int (nI pl0))] [] sh I P := by
  obtain ⟨m1, m2, m3, m4⟩ := hM
  have e12 : I 66 12 = nI t.1 := by rw [m1]; exact hC.1.1
  rcases hC.2 with ⟨c0, c1, c2⟩ | ⟨c0, ca, c1, c2⟩ | ⟨c0, ca, cb, c1, c2⟩
  · have z : t.2.1 = 0 := m2.trans c0
    refine r_aload_n dX0_search_21 rfl ?_
    refine r_getP dX0_search_22 g_X0_56 (by first | assumption | exact S.1 _ _ rfl) rfl (by first | assumption | exact S.2 _ _ _ rfl) ?_
    refine r_iconst dX0_search_25 (v := nI 0) kc_0 ?_
    refine r_putI dX0_search_26 f_X0_60 (by first | assumption | exact S.1 _ _ rfl) rfl rfl rfl ?_
    refine r_aload_n dX0_search_29 rfl ?_
    refine r_getI dX0_search_30 g_X0_66 (by first | assumption | exact S.1 _ _ rfl) rfl ?_
    rw [va_up_ne _ _ (by decide), c1]
    refine r_iconst dX0_search_33 (v := (-1)) kc_m1 ?_
    refine r_icmp_eq 54 dX0_search_34 (by decide) (fun h34 => ?_) (fun h34 => ?_)
    · refine r_aload_n dX0_search_54 rfl ?_
      refine r_getI dX0_search_55 g_X0_73 (by first | assumption | exact S.1 _ _ rfl) rfl ?_
      rw [va_up_ne _ _ (by decide), c2]
      refine r_iconst dX0_search_58 (v := (-1)) kc_m1 ?_
      refine r_icmp_eq 79 dX0_search_59 (by decide) (fun h59 => ?_) (fun h59 => ?_)
      · refine r_iload dX0_search_79 rfl ?_
        refine r_aload_n dX0_search_81 rfl ?_
        refine r_getI dX0_search_82 g_X0_76 (by first | assumption | exact S.1 _ _ rfl) rfl ?_
        rw [va_up_ne _ _ (by decide), e12]
        first | refine r_isubN dX0_search_85 (by omega) ?_ | refine r_isub dX0_search_85 ?_
        refine r_ireturn dX0_search_86 .int rfl rfl ?_
        refine ⟨_, rfl, rfl, fun r a b => va_up_ne _ _ a, by omega, ?_, rfl, rfl⟩
        rw [z]
        exact ⟨by rw [va_up_self]; exact pk_us, by decide, fun j hj => absurd hj (Nat.not_lt_zero j)⟩
      · exact absurd rfl h59
    · exact absurd rfl h34
  · obtain ⟨⟨r1, r2⟩, r3, r4⟩ := hE s.2.2.1 ca
    have z : t.2.1 = 1 := m2.trans c0
    have zv : t.2.2.1 = bv (E s.2.2.1) := m3 (by omega)
    refine r_aload_n dX0_search_21 rfl ?_
    refine r_getP dX0_search_22 g_X0_56 (by first | assumption | exact S.1 _ _ rfl) rfl (by first | assumption | exact S.2 _ _ _ rfl) ?_
    refine r_iconst dX0_search_25 (v := nI 0) kc_0 ?_
    refine r_putI dX0_search_26 f_X0_60 (by first | assumption | exact S.1 _ _ rfl) rfl rfl rfl ?_
    refine r_aload_n dX0_search_29 rfl ?_
    refine r_getI dX0_search_30 g_X0_66 (by first | assumption | exact S.1 _ _ rfl) rfl ?_
    rw [va_up_ne _ _ (by decide), c1]
    refine r_iconst dX0_search_33 (v := (-1)) kc_m1 ?_
    refine r_icmp_eq 54 dX0_search_34 (by decide) (fun h34 => ?_) (fun h34 => ?_)
    · exact (nI_pos (n := s.2.2.1) (by omega) (by rw [h34]; decide)).elim
    · refine r_aload_n dX0_search_37 rfl ?_
      refine r_getP dX0_search_38 g_X0_56 (by first | assumption | exact S.1 _ _ rfl) rfl (by first | assumption | exact S.2 _ _ _ rfl) ?_
      refine r_aload_n dX0_search_41 rfl ?_
      refine r_getP dX0_search_42 g_X0_15 (by first | assumption | exact S.1 _ _ rfl) rfl (by first | assumption | exact S.2 _ _ _ rfl) ?_
      refine r_aload_n dX0_search_45 rfl ?_
      refine r_getI dX0_search_46 g_X0_66 (by first | assumption | exact S.1 _ _ rfl) rfl ?_
      rw [va_up_ne _ _ (by decide), c1]
      refine r_iaload s.2.2.1 dX0_search_49 (by first | assumption | exact S.1 _ _ rfl) rfl (by first | decide | omega) (by decide) ?_
      rw [va_up_ne _ _ (by decide), r1]
      refine r_callV1 (fr' := 0) (lo' := 0) (mc' := 0) (ms' := 0) dX0_search_50 mm_X5_append mv_X5_append l_X0_69 (by first | assumption | exact S.1 _ _ rfl) mc_X5_append (by decide) ⟨by decide, by decide⟩ (Nat.zero_le _) (Nat.zero_le _) (Nat.le_of_ble_eq_true rfl) (c_X5_append (SRw_c S) (m := 0) (by rw [va_up_self]; exact pk_us) (by decide) _) (am_ki ?_)
      rintro v50 _ _ _ ⟨hb50, hY50, hN50, rfl, rfl⟩
      have ee50 := hY50 (by decide)
      subst ee50
      refine r_pop dX0_search_53 ?_
      refine r_aload_n dX0_search_54 rfl ?_
      refine r_getI dX0_search_55 g_X0_73 (by first | assumption | exact S.1 _ _ rfl) rfl ?_
      simp (decide := true) only [va_up_ne]
      rw [c2]
      refine r_iconst dX0_search_58 (v := (-1)) kc_m1 ?_
      refine r_icmp_eq 79 dX0_search_59 (by decide) (fun h59 => ?_) (fun h59 => ?_)
      · refine r_iload dX0_search_79 rfl ?_
        refine r_aload_n dX0_search_81 rfl ?_
        refine r_getI dX0_search_82 g_X0_76 (by first | assumption | exact S.1 _ _ rfl) rfl ?_
        simp (decide := true) only [va_up_ne]
        rw [e12]
        first | refine r_isubN dX0_search_85 (by omega) ?_ | refine r_isub dX0_search_85 ?_
        refine r_ireturn dX0_search_86 .int rfl rfl ?_
        refine ⟨_, rfl, rfl, fun r a b => ?_, by omega, ?_, rfl, rfl⟩
        · rw [va_up_ne _ _ a, va_up_ne _ _ b, va_up_ne _ _ a]
        · rw [z, zv]
          refine ⟨by rw [va_up_self]; exact pk_us, by decide, fun j hj => ?_⟩
          have e : j = 0 := by omega
          subst e
          have g := jOk_eq r3 (G := rw2 (bv (E s.2.2.1)) t.2.2.2) (w := 0) (fun i hi => (rw2_0 hi).symm)
          show _ = nI (eR (rw2 (bv (E s.2.2.1)) t.2.2.2) 0) ∧ eR (rw2 (bv (E s.2.2.1)) t.2.2.2) 0 < 1048576
          rw [g.2, r4]
          exact ⟨by rw [va_up_ne _ _ (by decide), va_up_self]; exact pk_us, r2⟩
      · exact absurd rfl h59
  · obtain ⟨⟨r1, r2⟩, r3, r4⟩ := hE s.2.2.1 ca
    obtain ⟨⟨q1, q2⟩, q3, q4⟩ := hE s.2.2.2 cb
    have z : t.2.1 = 2 := m2.trans c0
    have zv : t.2.2.1 = bv (E s.2.2.1) := m3 (by omega)
    have zw : t.2.2.2 = bv (E s.2.2.2) := m4 (by omega)
    obtain ⟨⟨g1, g2⟩, g3, g4⟩ := jOk_rw2 r3 q3
    refine r_aload_n dX0_search_21 rfl ?_
    refine r_getP dX0_search_22 g_X0_56 (by first | assumption | exact S.1 _ _ rfl) rfl (by first | assumption | exact S.2 _ _ _ rfl) ?_
    refine r_iconst dX0_search_25 (v := nI 0) kc_0 ?_
    refine r_putI dX0_search_26 f_X0_60 (by first | assumption | exact S.1 _ _ rfl) rfl rfl rfl ?_
    refine r_aload_n dX0_search_29 rfl ?_
    refine r_getI dX0_search_30 g_X0_66 (by first | assumption | exact S.1 _ _ rfl) rfl ?_
    rw [va_up_ne _ _ (by decide), c1]
    refine r_iconst dX0_search_33 (v := (-1)) kc_m1 ?_
    refine r_icmp_eq 54 dX0_search_34 (by decide) (fun h34 => ?_) (fun h34 => ?_)
    · exact (nI_pos (n := s.2.2.1) (by omega) (by rw [h34]; decide)).elim
    · refine r_aload_n dX0_search_37 rfl ?_
      refine r_getP dX0_search_38 g_X0_56 (by first | assumption | exact S.1 _ _ rfl) rfl (by first | assumption | exact S.2 _ _ _ rfl) ?_
      refine r_aload_n dX0_search_41 rfl ?_
      refine r_getP dX0_search_42 g_X0_15 (by first | assumption | exact S.1 _ _ rfl) rfl (by first | assumption | exact S.2 _ _ _ rfl) ?_
      refine r_aload_n dX0_search_45 rfl ?_
      refine r_getI dX0_search_46 g_X0_66 (by first | assumption | exact S.1 _ _ rfl) rfl ?_
      rw [va_up_ne _ _ (by decide), c1]
      refine r_iaload s.2.2.1 dX0_search_49 (by first | assumption | exact S.1 _ _ rfl) rfl (by first | decide | omega) (by decide) ?_
      rw [va_up_ne _ _ (by decide), r1]
      refine r_callV1 (fr' := 0) (lo' := 0) (mc' := 0) (ms' := 0) dX0_search_50 mm_X5_append mv_X5_append l_X0_69 (by first | assumption | exact S.1 _ _ rfl) mc_X5_append (by decide) ⟨by decide, by decide⟩ (Nat.zero_le _) (Nat.zero_le _) (Nat.le_of_ble_eq_true rfl) (c_X5_append (SRw_c S) (m := 0) (by rw [va_up_self]; exact pk_us) (by decide) _) (am_ki ?_)
      rintro v50 _ _ _ ⟨hb50, hY50, hN50, rfl, rfl⟩
      have ee50 := hY50 (by decide)
      subst ee50
      refine r_pop dX0_search_53 ?_
      refine r_aload_n dX0_search_54 rfl ?_
      refine r_getI dX0_search_55 g_X0_73 (by first | assumption | exact S.1 _ _ rfl) rfl ?_
      simp (decide := true) only [va_up_ne]
      rw [c2]
      refine r_iconst dX0_search_58 (v := (-1)) kc_m1 ?_
      refine r_icmp_eq 79 dX0_search_59 (by decide) (fun h59 => ?_) (fun h59 => ?_)
      · exact (nI_pos (n := s.2.2.2) (by omega) (by rw [h59]; decide)).elim
      · refine r_aload_n dX0_search_62 rfl ?_
        refine r_getP dX0_search_63 g_X0_56 (by first | assumption | exact S.1 _ _ rfl) rfl (by first | assumption | exact S.2 _ _ _ rfl) ?_
        refine r_aload_n dX0_search_66 rfl ?_
        refine r_getP dX0_search_67 g_X0_15 (by first | assumption | exact S.1 _ _ rfl) rfl (by first | assumption | exact S.2 _ _ _ rfl) ?_
        refine r_aload_n dX0_search_70 rfl ?_
        refine r_getI dX0_search_71 g_X0_73 (by first | assumption | exact S.1 _ _ rfl) rfl ?_
        simp (decide := true) only [va_up_ne]
        rw [c2]
        refine r_iaload s.2.2.2 dX0_search_74 (by first | assumption | exact S.1 _ _ rfl) rfl (by first | decide | omega) (by decide) ?_
        simp (decide := true) only [va_up_ne]
        rw [q1]
        refine r_callV1 (fr' := 0) (lo' := 0) (mc' := 0) (ms' := 0) dX0_search_75 mm_X5_append mv_X5_append l_X0_69 (by first | assumption | exact S.1 _ _ rfl) mc_X5_append (by decide) ⟨by decide, by decide⟩ (Nat.zero_le _) (Nat.zero_le _) (Nat.le_of_ble_eq_true rfl) (c_X5_append (SRw_c S) (m := 1) (by rw [va_up_self]; exact pk_us) (by decide) _) (am_ki ?_)
        rintro v75 _ _ _ ⟨hb75, hY75, hN75, rfl, rfl⟩
        have ee75 := hY75 (by decide)
        subst ee75
        refine r_pop dX0_search_78 ?_
        refine r_iload dX0_search_79 rfl ?_
        refine r_aload_n dX0_search_81 rfl ?_
        refine r_getI dX0_search_82 g_X0_76 (by first | assumption | exact S.1 _ _ rfl) rfl ?_
        simp (decide := true) only [va_up_ne]
        rw [e12]
        first | refine r_isubN dX0_search_85 (by omega) ?_ | refine r_isub dX0_search_85 ?_
        refine r_ireturn dX0_search_86 .int rfl rfl ?_
        refine ⟨_, rfl, rfl, fun r a b => ?_, by omega, ?_, rfl, rfl⟩
        · rw [va_up_ne _ _ a, va_up_ne _ _ b, va_up_ne _ _ a, va_up_ne _ _ b, va_up_ne _ _ a]
        · rw [z, zv, zw]
          refine ⟨by rw [va_up_self]; exact pk_us, by decide, fun j hj => ?_⟩
          rcases (show j = 0 ∨ j = 1 by omega) with rfl | rfl
          · show _ = nI (eR (rw2 (bv (E s.2.2.1)) (bv (E s.2.2.2))) 0) ∧ eR (rw2 (bv (E s.2.2.1)) (bv (E s.2.2.2))) 0 < 1048576
            rw [g2, r4]
            refine ⟨?_, r2⟩
            simp (decide := true) only [va_up_ne, va_up_self]
            rw [pk_un (by decide)]; exact pk_us
          · show _ = nI (eR (rw2 (bv (E s.2.2.1)) (bv (E s.2.2.2))) 5) ∧ eR (rw2 (bv (E s.2.2.1)) (bv (E s.2.2.2))) 5 < 1048576
            rw [g4, q4]
            refine ⟨?_, q2⟩
            simp (decide := true) only [va_up_ne, va_up_self]
            exact pk_us
theorem chS_le (V : iP σ) (kk : Int32) (way : Int32) : (chS σ kk way).1 ≤ pl σ way := by
  have q : ∀ (s : CS) (u : Nat), s.1 ≤ pl σ way → (sg1 (gn σ way) s u).1 ≤ pl σ way := fun s u hs => by
    unfold sg1
    split
    · exact gn_le V way u
    · exact hs
  have q2 : ∀ v (s : CS) (u : Nat), s.1 ≤ pl σ way → (sg2 (gn σ way) (g2 σ way) v s u).1 ≤ pl σ way := fun v s u hs => by
    unfold sg2
    split
    · exact Nat.sub_le _ _
    · exact hs
  have q1 : ∀ n, (fo (sg1 (gn σ way)) (0, 0, 0, 0) n).1 ≤ pl σ way := fo_inv (Q := fun s : CS => s.1 ≤ pl σ way) q (Nat.zero_le _)
  unfold chS sch
  split
  · exact q1 _
  · exact fo_inv (Q := fun s : CS => s.1 ≤ pl σ way) (fun s v hs => fo_inv (Q := fun s : CS => s.1 ≤ pl σ way) (q2 v) hs _) (q1 _) _
theorem c_X0_search (S : St_c sh P) (V : Inv σ) (R : rpP I 100 σ) {b : Int32} (hw : way = if b = 0 then nI 0 else nI 1) {kk : Nat} (hk : kk = 1 ∨ kk = 2) : am_R mX0_search (po_i (fun v sh' I' P' => v = nI (pl σ way - (chS σ (nI kk) way).1) ∧ (∀ r, r < 66 ∨ (76 < r ∧ r ≠ 134 ∧ r ≠ 135) → I' r = I r) ∧ (chS σ (nI kk) way).2.1 ≤ 2 ∧ RwR I' 134 (chS σ (nI kk) way).2.1 (fun i => eR (rw2 (chS σ (nI kk) way).2.2.1 (chS σ (nI kk) way).2.2.2) (5 * i)) ∧ sh = sh' ∧ P = P')) 5 135 0 0 0 [some (.ref 66), some (.ref 100), some (.int (nI kk)), some (.int b), none] [] sh I P := by
  have hpl := pl_le V.1 way
  have hcl := chS_le V.1 (nI kk) way
  refine r_aload_n dX0_search_0 rfl ?_
  refine r_aload_n dX0_search_1 rfl ?_
  refine r_iload_n dX0_search_2 rfl ?_
  refine r_callV2 (fr' := 4) (lo' := 109) (mc' := 0) (ms' := 0) dX0_search_3 mm_X0_gather mv_X0_gather l_X0_46 (S.1 _ _ rfl) mc_X0_gather (by decide) ⟨by decide, by decide⟩ (Nat.zero_le _) (Nat.zero_le _) (Nat.le_of_ble_eq_true rfl) (c_X0_gather S V R hw) (am_ki ?_)
  rintro v3 _ H _ ⟨rfl, ⟨c, hG⟩, hF, rfl, rfl⟩
  obtain ⟨n, E, Z, hE, hinc, hch⟩ := gS_cz V.1 hG
  refine r_istore dX0_search_6 (Nat.le_of_ble_eq_true rfl) ?_
  dsimp only [List.set]
  refine r_aload_n dX0_search_8 rfl ?_
  refine r_callV0 (fr' := 2) (lo' := 51) (mc' := 0) (ms' := 0) dX0_search_9 mm_X0_chooseOne mv_X0_chooseOne l_X0_50 (S.1 _ _ rfl) mc_X0_chooseOne (by decide) ⟨by decide, by decide⟩ (Nat.zero_le _) (Nat.zero_le _) (Nat.le_of_ble_eq_true rfl) (c_X0_chooseOne S Z) (am_kv ?_)
  rintro _ H1 _ ⟨f1, hC1, h69, rfl, rfl⟩
  have hM1 := csM_1 (f := fun i => bv (E i)) (g := fun k => gn σ way (bv (E k))) (G := gn σ way) (n := n) (fun _ _ => rfl) n (Nat.le_refl _)
  refine r_iload_n dX0_search_12 rfl ?_
  refine r_iconst dX0_search_13 (v := nI 1) kc_1 ?_
  refine r_icmp_leN 21 dX0_search_14 (by decide) (by omega) (by omega) (fun h14 => ?_) (fun h14 => ?_)
  · have e1 : kk = 1 := by omega
    subst e1
    have eS := hch 1 (by decide)
    rw [if_pos rfl] at eS
    rw [← eS] at hM1
    refine am_mono (l_X0_searchE (kk := 0) (E := E) (t := chS σ (nI 1) way) (s := fo (sg1 (fun k => gn σ way (bv (E k)))) (0, 0, 0, 0) n) S Z.1 hpl hcl hM1 (fun k hk9 => ?_) hC1) ?_
    · rw [f1.1 67 (by decide) (by decide) (by decide) (by decide) (by decide)]; exact hE k hk9
    · rintro _ _ _ _ ⟨v, rfl, a1, a2, a3, a4, a5⟩
      exact ⟨v, rfl, a1, fun r hr => by rw [a2 r (by omega) (by omega), f1.1 r (by omega) (by omega) (by omega) (by omega) (by omega)]; exact hF r (by omega), a3, a4, a5⟩
  · have e1 : kk = 2 := by omega
    subst e1
    have eS := hch 2 (by decide)
    rw [if_neg (by decide)] at eS
    refine r_aload_n dX0_search_17 rfl ?_
    refine r_callV0 (fr' := 3) (lo' := 74) (mc' := 0) (ms' := 0) dX0_search_18 mm_X0_chooseTwo mv_X0_chooseTwo l_X0_53 (S.1 _ _ rfl) mc_X0_chooseTwo (by decide) ⟨by decide, by decide⟩ (Nat.zero_le _) (Nat.zero_le _) (Nat.le_of_ble_eq_true rfl) (c_X0_chooseTwo S Z f1 hC1 h69) (am_kv ?_)
    rintro _ H2 _ ⟨f2, hC2, rfl, rfl⟩
    have hM2 := csM_3 (f := fun i => bv (E i)) (g := fun k => gn σ way (bv (E k))) (G := gn σ way) (h := fun i j => g2 σ way (bv (E i)) (bv (E j))) (H2 := g2 σ way) (n := n) (fun _ _ => rfl) (fun _ _ _ _ => rfl) hinc hM1 n (Nat.le_refl _)
    rw [← eS] at hM2
    refine am_mono (l_X0_searchE (kk := 0) (E := E) (t := chS σ (nI 2) way) (s := fo (fun s i => fo (sg2 (fun k => gn σ way (bv (E k))) (fun i j => g2 σ way (bv (E i)) (bv (E j))) i) s n) (fo (sg1 (fun k => gn σ way (bv (E k)))) (0, 0, 0, 0) n) n) S Z.1 hpl hcl hM2 (fun k hk9 => ?_) hC2) ?_
    · rw [f2.1 67 (by decide) (by decide) (by decide) (by decide) (by decide)]; exact hE k hk9
    · rintro _ _ _ _ ⟨v, rfl, a1, a2, a3, a4, a5⟩
      exact ⟨v, rfl, a1, fun r hr => by rw [a2 r (by omega) (by omega), f2.1 r (by omega) (by omega) (by omega) (by omega) (by omega)]; exact hF r (by omega), a3, a4, a5⟩
theorem co_fin {H : AIn} (V : Inv σ) (R : RepS I 100 σ) {t : CS} (ht : t.2.1 ≤ 2) (hF : ∀ r, r < 66 ∨ (76 < r ∧ r ≠ 134 ∧ r ≠ 135) → H r = va_up I 100 (upd (I 100) 5 (nI 1)) r) (hR : RwR H 134 t.2.1 (fun i => eR (rw2 t.2.2.1 t.2.2.2) (5 * i))) : RepS H 100 (ch_row σ t) ∧ cF H I := by
  have hG : ∀ r, r < 66 ∨ (76 < r ∧ r ≠ 134 ∧ r ≠ 135) → r ≠ 100 → H r = I r := fun r a b => by rw [hF r a, va_up_ne _ _ b]
  have h100 : H 100 = upd (I 100) 5 (nI 1) := by rw [hF 100 (by omega), va_up_self]
  refine ⟨⟨rpP_σ (rpP_fr R.1 (by rw [h100, pk_un (by decide)]) (fun r h1 h2 => hG r (by omega) (by omega)) V.1.np.2) rfl rfl rfl rfl rfl, rpJ_σ (rpJ_fr R.2.1 (fun r h1 h2 => hG r (by omega) (by omega))) rfl rfl, rpK_σ (rpK_fr R.2.2.1 (fun r h1 h2 => hG r (by omega) (by omega))) rfl rfl rfl rfl rfl rfl rfl, rpR_σ (rpR_fr R.2.2.2.1 (fun r h1 h2 => hG r (by omega) (by omega))) rfl rfl rfl rfl rfl rfl rfl rfl rfl, ?_, rpT_σ (rpT_fr R.2.2.2.2.2 (by rw [hG 136 (by omega) (by omega)]) (hG 137 (by omega) (by omega))) rfl rfl⟩, fun r hr => hG r (by omega) (by omega)⟩
  have e24 : ch_row σ t 24 0 = nI t.2.1 := rfl
  have e25 : ch_row σ t 25 = fun j => if j < 5 * t.2.1 then rw2 t.2.2.1 t.2.2.2 j else σ 25 j := rfl
  unfold rpW
  rw [e24, e25, h100, pk_us, nv_nI (by omega)]
  refine ⟨bo_1 (fun e => nI_pos (n := t.2.1) (by omega) (by rw [e]; decide)), RwR_E hR (fun j hj => ?_)⟩
  have e0 : (if 5 * j < 5 * t.2.1 then rw2 t.2.2.1 t.2.2.2 (5 * j) else σ 25 (5 * j)) = rw2 t.2.2.1 t.2.2.2 (5 * j) := if_pos (by omega)
  show e5 (fun i => nv (if 5 * j + 1 + i < 5 * t.2.1 then rw2 t.2.2.1 t.2.2.2 (5 * j + 1 + i) else σ 25 (5 * j + 1 + i))) (nv (if 5 * j < 5 * t.2.1 then rw2 t.2.2.1 t.2.2.2 (5 * j) else σ 25 (5 * j))) = eR (rw2 t.2.2.1 t.2.2.2) (5 * j)
  rw [e0]
  have hl : nv (rw2 t.2.2.1 t.2.2.2 (5 * j)) ≤ 4 := by
    have key : ∀ v, nv (rwF v 0) ≤ 4 := fun v => by
      show nv (nI (lnv v)) ≤ 4
      have : lnv v ≤ 4 := by unfold lnv; split; decide; split <;> decide
      rw [nv_nI (by omega)]; exact this
    rcases (show j = 0 ∨ j = 1 by omega) with rfl | rfl
    · exact key t.2.2.1
    · exact key t.2.2.2
  exact e5_congr (fun i hi => by show nv (if 5 * j + 1 + i < 5 * t.2.1 then rw2 t.2.2.1 t.2.2.2 (5 * j + 1 + i) else _) = _; rw [if_pos (by omega)])
theorem c_X10_choose (S : St_c sh P) (V : Inv σ) (R : RepS I 100 σ) (x y : Int32) : am_R mX10_choose (cpo sh P I (ch_op σ x y) (ch_ans σ x y)) 6 159 0 0 0 [some (.ref 60), some (.int x), some (.int y)] [] sh I P := by
  have b1 : np σ ≤ 3 := V.1.np.2
  have e1 : I 100 0 = nI (np σ) := R.1.1
  refine r_iload_n dX10_choose_0 rfl ?_
  refine r_iconst dX10_choose_1 (v := nI 1) kc_1 ?_
  refine r_icmp_lt 10 dX10_choose_2 (by decide) (fun h2 => ?_) (fun h2 => ?_)
  · have hf : ¬ (x = nI 1 ∨ x = nI 2) := by
      rintro (rfl | rfl)
      · exact absurd h2 (by decide)
      · exact absurd h2 (by decide)
    refine r_iconst dX10_choose_10 (v := (-1)) kc_m1 ?_
    refine r_ireturn dX10_choose_11 .int rfl rfl ?_
    exact ⟨_, rfl, by rw [ch_ans, cif_f hf], by rw [ch_op, cif_f hf]; exact R, cF_rf _, rfl, rfl⟩
  · refine r_iload_n dX10_choose_5 rfl ?_
    refine r_iconst dX10_choose_6 (v := nI 2) kc_2 ?_
    refine r_icmp_le 12 dX10_choose_7 (by decide) (fun h7 => ?_) (fun h7 => ?_)
    · have hk := ch_k ⟨Int32.not_lt.mp h2, h7⟩
      obtain ⟨kk, hkk, rfl⟩ : ∃ kk, (kk = 1 ∨ kk = 2) ∧ x = nI kk := by
        rcases hk with rfl | rfl
        · exact ⟨1, Or.inl rfl, rfl⟩
        · exact ⟨2, Or.inr rfl, rfl⟩
      refine r_aload_n dX10_choose_12 rfl ?_
      refine r_getP dX10_choose_13 g_X10_10 (by first | assumption | exact S.1 _ _ rfl) rfl (by first | assumption | exact S.2 _ _ _ rfl) ?_
      refine r_iconst dX10_choose_16 (v := nI 1) kc_1 ?_
      refine r_putI dX10_choose_17 f_X10_185 (by first | assumption | exact S.1 _ _ rfl) rfl (by decide) (by decide) ?_
      refine r_aload_n dX10_choose_20 rfl ?_
      refine r_getP dX10_choose_21 g_X10_30 (by first | assumption | exact S.1 _ _ rfl) rfl (by first | assumption | exact S.2 _ _ _ rfl) ?_
      refine r_aload_n dX10_choose_24 rfl ?_
      refine r_getP dX10_choose_25 g_X10_10 (by first | assumption | exact S.1 _ _ rfl) rfl (by first | assumption | exact S.2 _ _ _ rfl) ?_
      refine r_iload_n dX10_choose_28 rfl ?_
      refine r_iload_n dX10_choose_29 rfl ?_
      refine r_callV3 (fr' := 5) (lo' := 135) (mc' := 0) (ms' := 0) dX10_choose_30 mm_X0_search mv_X0_search l_X10_188 (by first | assumption | exact S.1 _ _ rfl) mc_X0_search (by decide) ⟨by decide, by decide⟩ (Nat.zero_le _) (Nat.zero_le _) (Nat.le_of_ble_eq_true rfl) (c_X0_search S V (rpP_fr R.1 (by rw [va_up_self, pk_un (by decide)]) (fun r h1 h2 => va_up_ne _ _ (by omega)) b1) (way := if y = 0 then nI 0 else nI 1) rfl hkk) (am_ki ?_)
      rintro v30 _ H _ ⟨rfl, hF, ht, hR, rfl, rfl⟩
      refine r_ireturn dX10_choose_33 .int rfl rfl ?_
      obtain ⟨g1, g2⟩ := co_fin V R ht hF hR
      exact ⟨_, rfl, by rw [ch_ans, cif_t hk], by rw [ch_op, cif_t hk]; exact g1, g2, rfl, rfl⟩
    · have hf : ¬ (x = nI 1 ∨ x = nI 2) := by
        rintro (rfl | rfl)
        · exact absurd (by decide) h7
        · exact absurd (by decide) h7
      refine r_iconst dX10_choose_10 (v := (-1)) kc_m1 ?_
      refine r_ireturn dX10_choose_11 .int rfl rfl ?_
      exact ⟨_, rfl, by rw [ch_ans, cif_f hf], by rw [ch_op, cif_f hf]; exact R, cF_rf _, rfl, rfl⟩
end K26
