/-! the least cost of the ways to pack one program: a table from its end to its beginning -/
noncomputable def bstR (sd : Nat → Nat → Prop) (ln : Nat → Nat) (T : Nat → Nat) (q : Nat) : Nat → Nat
  | 0 => T (q + 1)
  | r + 1 => cif (sd q r) (Nat.min (bstR sd ln T q r) (T (q + ln r))) (bstR sd ln T q r)
noncomputable def dpA (n : Nat) (w : Nat → Nat) (sd : Nat → Nat → Prop) (ln : Nat → Nat) (m : Nat) : Nat → Nat → Nat
  | 0 => fun _ => 0
  | i + 1 => fun q => if q + (i + 1) = n then w q + bstR sd ln (dpA n w sd ln m i) q m else dpA n w sd ln m i q
noncomputable def lst (n : Nat) (w : Nat → Nat) (sd : Nat → Nat → Prop) (ln : Nat → Nat) (m : Nat) : Nat → Nat := dpA n w sd ln m n
theorem bstR_congr {sd sd' : Nat → Nat → Prop} {ln ln' : Nat → Nat} {T T' : Nat → Nat} {q : Nat} : ∀ {m : Nat}, (∀ r, r < m → (sd q r ↔ sd' q r)) → (∀ r, r < m → sd q r → ln r = ln' r ∧ T (q + ln r) = T' (q + ln r)) → T (q + 1) = T' (q + 1) → bstR sd ln T q m = bstR sd' ln' T' q m
  | 0, _, _, h => h
  | m + 1, h1, h2, h3 => by
    have ih := bstR_congr (m := m) (fun r hr => h1 r (by omega)) (fun r hr => h2 r (by omega)) h3
    unfold bstR
    by_cases h : sd q m
    · rw [cif_t h, cif_t ((h1 m (by omega)).mp h), ih]
      obtain ⟨e1, e2⟩ := h2 m (by omega) h
      rw [e2, e1]
    · rw [cif_f h, cif_f (fun g => h ((h1 m (by omega)).mpr g)), ih]
theorem dpA_stay (n : Nat) (w : Nat → Nat) (sd : Nat → Nat → Prop) (ln : Nat → Nat) (m : Nat) (q : Nat) : ∀ (i d : Nat), n ≤ q + i → dpA n w sd ln m (i + d) q = dpA n w sd ln m i q
  | i, 0, _ => rfl
  | i, d + 1, h => by
    have ih := dpA_stay n w sd ln m q i d h
    show (if q + (i + d + 1) = n then _ else dpA n w sd ln m (i + d) q) = _
    rw [if_neg (by omega), ih]
theorem dpA_zero (n : Nat) (w : Nat → Nat) (sd : Nat → Nat → Prop) (ln : Nat → Nat) (m : Nat) (q : Nat) : ∀ i, n ≤ q ∨ q + i < n → dpA n w sd ln m i q = 0
  | 0, _ => rfl
  | i + 1, h => by
    show (if q + (i + 1) = n then _ else dpA n w sd ln m i q) = 0
    rw [if_neg (by omega)]
    exact dpA_zero n w sd ln m q i (by omega)
theorem lst_end {n : Nat} {w : Nat → Nat} {sd : Nat → Nat → Prop} {ln : Nat → Nat} {m : Nat} : lst n w sd ln m n = 0 := dpA_zero n w sd ln m n n (Or.inl (Nat.le_refl _))
theorem lst_eq {n : Nat} {w : Nat → Nat} {sd : Nat → Nat → Prop} {ln : Nat → Nat} {m q : Nat} (hq : q < n) (hs : ∀ r, r < m → sd q r → 1 ≤ ln r ∧ q + ln r ≤ n) : lst n w sd ln m q = w q + bstR sd ln (lst n w sd ln m) q m := by
  obtain ⟨i, hi⟩ : ∃ i, q + (i + 1) = n := ⟨n - q - 1, by omega⟩
  have h1 : lst n w sd ln m q = dpA n w sd ln m (i + 1) q := by
    unfold lst
    obtain ⟨d, hd⟩ : ∃ d, n = (i + 1) + d := ⟨n - (i + 1), by omega⟩
    have h := dpA_stay n w sd ln m q (i + 1) d (by omega)
    rw [← hd] at h
    exact h
  have h2 : dpA n w sd ln m (i + 1) q = w q + bstR sd ln (dpA n w sd ln m i) q m := by
    show (if q + (i + 1) = n then _ else _) = _
    rw [if_pos hi]
  rw [h1, h2]
  congr 1
  have key : ∀ t, q < t → t ≤ n → dpA n w sd ln m i t = lst n w sd ln m t := by
    intro t h3 h4
    unfold lst
    obtain ⟨d, hd⟩ : ∃ d, n = i + d := ⟨n - i, by omega⟩
    have h := dpA_stay n w sd ln m t i d (by omega)
    rw [← hd] at h
    exact h.symm
  refine bstR_congr (fun r _ => Iff.rfl) (fun r hr hsd => ⟨rfl, ?_⟩) (key _ (by omega) (by omega))
  obtain ⟨h5, h6⟩ := hs r hr hsd
  exact key _ (by omega) h6
/-- what fulfils the equations is that table -/
theorem lst_one {n : Nat} {w : Nat → Nat} {sd : Nat → Nat → Prop} {ln : Nat → Nat} {m : Nat} {T : Nat → Nat} (h0 : T n = 0) (hs : ∀ q r, q < n → r < m → sd q r → 1 ≤ ln r ∧ q + ln r ≤ n) (hT : ∀ q, q < n → T q = w q + bstR sd ln T q m) : ∀ q, q ≤ n → T q = lst n w sd ln m q := by
  have key : ∀ i q, q + i = n → ∀ t, q ≤ t → t ≤ n → T t = lst n w sd ln m t := by
    intro i
    induction i with
    | zero =>
      intro q hq t h1 h2
      have e : t = n := by omega
      rw [e, h0, lst_end]
    | succ i ih =>
      intro q hq t h1 h2
      rcases Nat.lt_or_ge q t with g | g
      · exact ih (q + 1) (by omega) t g h2
      · have e : t = q := by omega
        subst e
        rw [hT t (by omega), lst_eq (by omega) (fun r hr hsd => hs t r (by omega) hr hsd)]
        congr 1
        refine bstR_congr (fun r _ => Iff.rfl) (fun r hr hsd => ⟨rfl, ?_⟩) (ih (t + 1) (by omega) _ (by omega) (by omega))
        obtain ⟨h5, h6⟩ := hs t r (by omega) hr hsd
        exact ih (t + 1) (by omega) _ (by omega) h6
  intro q hq
  exact key (n - q) q (by omega) q (Nat.le_refl _) hq
theorem bstR_le {sd : Nat → Nat → Prop} {ln : Nat → Nat} {T : Nat → Nat} {q : Nat} : ∀ m, bstR sd ln T q m ≤ T (q + 1)
  | 0 => Nat.le_refl _
  | m + 1 => by
    have ih := bstR_le (sd := sd) (ln := ln) (T := T) (q := q) m
    unfold bstR
    by_cases h : sd q m
    · rw [cif_t h]
      exact Nat.le_trans (Nat.min_le_left _ _) ih
    · rw [cif_f h]
      exact ih
theorem lst_le {n : Nat} {w : Nat → Nat} {sd : Nat → Nat → Prop} {ln : Nat → Nat} {m W : Nat} (hw : ∀ q, q < n → w q ≤ W) (hs : ∀ q r, q < n → r < m → sd q r → 1 ≤ ln r ∧ q + ln r ≤ n) : ∀ i q, q + i = n → lst n w sd ln m q ≤ W * i
  | 0, q, h => by
    have e : q = n := by omega
    rw [e, lst_end]
    exact Nat.zero_le _
  | i + 1, q, h => by
    have ih := lst_le (m := m) hw hs i (q + 1) (by omega)
    rw [lst_eq (by omega) (fun r hr hsd => hs q r (by omega) hr hsd)]
    have h1 := bstR_le (sd := sd) (ln := ln) (T := lst n w sd ln m) (q := q) m
    have h2 := hw q (by omega)
    have h3 : W * (i + 1) = W * i + W := Nat.mul_succ W i
    omega
/-! the same of a program's rows -/
def sdp (σ : AIn) (F : Nat → Int32) (p q r : Nat) : Prop := q + nv (F (5 * r)) ≤ sz σ p ∧ ∀ k, k < nv (F (5 * r)) → σ 3 (40 * p + q + k) = F (5 * r + 1 + k) ∧ (0 < k → ¬ led σ p (q + k))
def wt (σ : AIn) (p : Nat) (way : Int32) (q : Nat) : Nat := if way = nI 1 then nv (σ 5 (40 * p + q)) else 1
def rln (F : Nat → Int32) (r : Nat) : Nat := nv (F (5 * r))
noncomputable def lsp (σ : AIn) (F : Nat → Int32) (m p : Nat) (way : Int32) : Nat → Nat := lst (sz σ p) (wt σ p way) (sdp σ F p) (rln F) m
/-- of a row only its number of kinds counts here: behind them may lie what was there -/
def jOl (F : Nat → Int32) (z : Nat) : Prop := (2 ≤ nv (F z) ∧ isN (F z) 4) ∧ True
def rOk (F : Nat → Int32) (m : Nat) : Prop := m ≤ 6 ∧ ∀ r, r < m → jOl F (5 * r)
theorem sdp_in {σ : AIn} {F : Nat → Int32} {m p : Nat} (h : rOk F m) : ∀ q r, q < sz σ p → r < m → sdp σ F p q r → 1 ≤ rln F r ∧ q + rln F r ≤ sz σ p := fun q r _ hr hsd => ⟨by have := (h.2 r hr).1.1; unfold rln; omega, hsd.1⟩
theorem wt_le {σ : AIn} (h : iP σ) {p : Nat} (hp : p < 3) (way : Int32) {q : Nat} (hq : q < 40) : wt σ p way q ≤ 20000 := by
  unfold wt
  split
  · exact (h.2.2.2 (40 * p + q) (by omega)).2
  · decide
theorem lsp_le {σ : AIn} (h : iP σ) {F : Nat → Int32} {m p : Nat} (hF : rOk F m) (hp : p < 3) (way : Int32) {q : Nat} (hq : q ≤ sz σ p) : lsp σ F m p way q ≤ 800000 := by
  have hb := (h.2.1 p hp).2
  have hb : sz σ p ≤ 40 := hb
  have h1 := lst_le (n := sz σ p) (sd := sdp σ F p) (ln := rln F) (m := m) (W := 20000) (w := wt σ p way) (fun t ht => wt_le h hp way (by omega)) (sdp_in hF) (sz σ p - q) q (by omega)
  unfold lsp
  have h2 : 20000 * (sz σ p - q) ≤ 20000 * 40 := Nat.mul_le_mul_left _ (by omega)
  omega
def csum (f : Nat → Nat) : Nat → Nat
  | 0 => 0
  | n + 1 => csum f n + f n
noncomputable def co_res (σ : AIn) (way : Int32) : Int32 := nI (csum (fun p => lsp σ (σ 7) (nj σ) p way 0) (np σ))
theorem csum_congr {f g : Nat → Nat} : ∀ {n : Nat}, (∀ k, k < n → f k = g k) → csum f n = csum g n
  | 0, _ => rfl
  | n + 1, h => by
    have ih := csum_congr (n := n) (fun k hk => h k (by omega))
    show csum f n + f n = csum g n + g n
    rw [ih, h n (by omega)]
theorem csum_le {f : Nat → Nat} {W : Nat} : ∀ {n : Nat}, (∀ k, k < n → f k ≤ W) → csum f n ≤ n * W
  | 0, _ => Nat.zero_le _
  | n + 1, h => by
    have ih := csum_le (n := n) (fun k hk => h k (by omega))
    have h1 := h n (by omega)
    show csum f n + f n ≤ (n + 1) * W
    rw [Nat.succ_mul]
    omega
/-- only the rows told count -/
theorem sdp_congr {σ : AIn} {F F' : Nat → Int32} {p q r : Nat} (h : ∀ i, i < 5 → F (5 * r + i) = F' (5 * r + i)) (hl : nv (F (5 * r)) ≤ 4) : sdp σ F p q r ↔ sdp σ F' p q r := by
  have h0 : F (5 * r) = F' (5 * r) := h 0 (by decide)
  unfold sdp
  rw [← h0]
  constructor
  · rintro ⟨a, b⟩
    refine ⟨a, fun k hk => ?_⟩
    have e := h (1 + k) (by omega)
    rw [← Nat.add_assoc] at e
    rw [← e]
    exact b k hk
  · rintro ⟨a, b⟩
    refine ⟨a, fun k hk => ?_⟩
    have e := h (1 + k) (by omega)
    rw [← Nat.add_assoc] at e
    rw [e]
    exact b k hk
theorem lsp_congr {σ : AIn} {F F' : Nat → Int32} {m p : Nat} {way : Int32} (hF : rOk F m) (h : ∀ j, j < 5 * m → F j = F' j) : ∀ q, q ≤ sz σ p → lsp σ F m p way q = lsp σ F' m p way q := by
  have hr : ∀ r, r < m → ∀ i, i < 5 → F (5 * r + i) = F' (5 * r + i) := fun r hr i hi => h _ (by omega)
  have hl : ∀ r, r < m → rln F r = rln F' r := fun r hr2 => by unfold rln; rw [show F (5 * r) = F' (5 * r) from hr r hr2 0 (by decide)]
  refine lst_one lst_end (fun q r hq hr2 hsd => ?_) (fun q hq => ?_)
  · have hsd2 := (sdp_congr (hr r hr2) (hF.2 r hr2).1.2.2).mpr hsd
    rw [← hl r hr2]
    exact sdp_in hF q r hq hr2 hsd2
  · unfold lsp
    rw [lst_eq hq (fun r hr2 hsd => sdp_in hF q r hq hr2 hsd)]
    congr 1
    exact bstR_congr (fun r hr2 => sdp_congr (hr r hr2) (hF.2 r hr2).1.2.2) (fun r hr2 _ => ⟨hl r hr2, rfl⟩) rfl
