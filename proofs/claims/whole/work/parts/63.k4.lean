/-! the class: a State at B stands for the rows of one block -/
def cnt (n : Nat) (kd ag : Nat → Int32) (t : Nat) : Nat := match n with
  | 0 => 0
  | n + 1 => cnt n kd ag t + (if (kd n = nI 9 ∨ kd n = nI 10) ∧ ag n = nI t then 1 else 0)
theorem cnt_s (n : Nat) (kd ag : Nat → Int32) (t : Nat) : cnt (n + 1) kd ag t = cnt n kd ag t + (if (kd n = nI 9 ∨ kd n = nI 10) ∧ ag n = nI t then 1 else 0) := rfl
theorem cnt_le (kd ag : Nat → Int32) (t : Nat) : ∀ n, cnt n kd ag t ≤ n
  | 0 => Nat.le_refl _
  | n + 1 => by
    have ih := cnt_le kd ag t n
    rw [cnt_s]
    split <;> omega
theorem cnt_congr {kd ag kd' ag' : Nat → Int32} {t : Nat} : ∀ {n : Nat}, (∀ k, k < n → kd k = kd' k ∧ ag k = ag' k) → cnt n kd ag t = cnt n kd' ag' t
  | 0, _ => rfl
  | n + 1, h => by
    rw [cnt_s, cnt_s, cnt_congr (n := n) (fun k hk => h k (by omega)), (h n (by omega)).1, (h n (by omega)).2]
theorem cnt_pos {kd ag : Nat → Int32} {t : Nat} : ∀ {n : Nat}, 0 < cnt n kd ag t ↔ ∃ k, k < n ∧ (kd k = nI 9 ∨ kd k = nI 10) ∧ ag k = nI t
  | 0 => ⟨fun h => absurd h (Nat.lt_irrefl 0), fun ⟨k, hk, _⟩ => absurd hk (Nat.not_lt_zero k)⟩
  | n + 1 => by
    rw [cnt_s]
    have ih := cnt_pos (kd := kd) (ag := ag) (t := t) (n := n)
    constructor
    · intro h
      by_cases hc : (kd n = nI 9 ∨ kd n = nI 10) ∧ ag n = nI t
      · exact ⟨n, Nat.lt_succ_self n, hc⟩
      · rw [if_neg hc] at h
        obtain ⟨k, hk, h2⟩ := ih.mp h
        exact ⟨k, by omega, h2⟩
    · rintro ⟨k, hk, h2⟩
      rcases Nat.lt_or_ge k n with g | g
      · have := ih.mpr ⟨k, g, h2⟩
        omega
      · have e : k = n := by omega
        subst e
        rw [if_pos h2]
        omega
theorem cnt_nl {kd ag : Nat → Int32} {n j t : Nat} {a : Int32} (h : ¬ (kd j = nI 9 ∨ kd j = nI 10)) : cnt n kd (upd ag j a) t = cnt n kd ag t := by
  induction n with
  | zero => rfl
  | succ n ih =>
    rw [cnt_s, cnt_s, ih]
    by_cases e : n = j
    · subst e
      rw [if_neg (fun g => h g.1), if_neg (fun g => h g.1)]
    · rw [pk_un e]
theorem cnt_up {kd ag : Nat → Int32} {n j t : Nat} {a : Int32} (hj : j < n) (h : kd j = nI 9 ∨ kd j = nI 10) : cnt n kd (upd ag j a) t + (if ag j = nI t then 1 else 0) = cnt n kd ag t + (if a = nI t then 1 else 0) := by
  induction n with
  | zero => exact absurd hj (Nat.not_lt_zero j)
  | succ n ih =>
    rw [cnt_s, cnt_s]
    by_cases e : n = j
    · subst e
      have h0 : cnt n kd (upd ag n a) t = cnt n kd ag t := cnt_congr (fun k hk => ⟨rfl, pk_un (by omega)⟩)
      rw [h0, pk_us]
      have h1 : (((kd n = nI 9 ∨ kd n = nI 10) ∧ a = nI t) ↔ a = nI t) := ⟨fun g => g.2, fun g => ⟨h, g⟩⟩
      have h2 : (((kd n = nI 9 ∨ kd n = nI 10) ∧ ag n = nI t) ↔ ag n = nI t) := ⟨fun g => g.2, fun g => ⟨h, g⟩⟩
      simp only [h1, h2]
      omega
    · have := ih (by omega)
      rw [pk_un e]
      omega
def PgN (I : AIn) (q n : Nat) (kd ag tm : Nat → Int32) : Prop := I q 0 = nI n ∧ (∀ k, k < n → I (q + 1) k = kd k ∧ I (q + 2) k = ag k ∧ I (q + 3) k = tm k) ∧ ∀ t, t < 40 → I (q + 4) t = nI (cnt n kd ag t)
abbrev k3 (σ : AIn) (p : Nat) : Nat → Int32 := fun k => σ 3 (40 * p + k)
abbrev k4 (σ : AIn) (p : Nat) : Nat → Int32 := fun k => σ 4 (40 * p + k)
abbrev k5 (σ : AIn) (p : Nat) : Nat → Int32 := fun k => σ 5 (40 * p + k)
def Pg (I : AIn) (q : Nat) (σ : AIn) (p : Nat) : Prop := PgN I q (sz σ p) (k3 σ p) (k4 σ p) (k5 σ p)
theorem led_cnt {σ : AIn} {p t : Nat} : led σ p t ↔ 0 < cnt (sz σ p) (k3 σ p) (k4 σ p) t := cnt_pos.symm
theorem PgN.congr {I I' : AIn} {q n : Nat} {kd ag tm kd' ag' tm' : Nat → Int32} (h : PgN I q n kd ag tm) (h0 : I' q 0 = I q 0) (hI : ∀ r, q < r → r ≤ q + 4 → I' r = I r) (hk : ∀ k, k < n → kd k = kd' k ∧ ag k = ag' k ∧ tm k = tm' k) : PgN I' q n kd' ag' tm' := by
  refine ⟨by rw [h0]; exact h.1, fun k hk2 => ?_, fun t ht => ?_⟩
  · obtain ⟨a, b, c⟩ := h.2.1 k hk2
    obtain ⟨d, e, f⟩ := hk k hk2
    rw [hI (q + 1) (by omega) (by omega), hI (q + 2) (by omega) (by omega), hI (q + 3) (by omega) (by omega), a, b, c]
    exact ⟨d, e, f⟩
  · rw [hI (q + 4) (by omega) (by omega), h.2.2 t ht]
    rw [cnt_congr (fun k hk2 => ⟨(hk k hk2).1, (hk k hk2).2.1⟩)]
def eR (F : Nat → Int32) (z : Nat) : Nat := e5 (fun i => nv (F (z + 1 + i))) (nv (F z))
def rpP (I : AIn) (B : Nat) (σ : AIn) : Prop := I B 0 = nI (np σ) ∧ ∀ p, p < np σ → Pg I (B + 2 + 5 * p) σ p
def rpJ (I : AIn) (B : Nat) (σ : AIn) : Prop := RwR I (B + 17) (nj σ) (fun j => eR (σ 7) (5 * j))
def rpK (I : AIn) (B : Nat) (σ : AIn) : Prop := bo (I (B + 19) 0) (σ 11 0 ≠ -1) ∧ (σ 11 0 ≠ -1 → (I (B + 19) 2 = σ 11 0 ∧ I (B + 19) 6 = σ 13 0 ∧ I (B + 20) 0 = σ 8 0) ∧ (∀ k, k < nv (σ 8 0) → I (B + 21) k = σ 9 k ∧ I (B + 22) k = σ 10 k) ∧ (∀ k, k < nv (σ 11 0) → I (B + 25) k = σ 12 (3 * k) ∧ I (B + 26) k = σ 12 (3 * k + 1) ∧ I (B + 27) k = σ 12 (3 * k + 2)) ∧ (∀ k, k < nv (σ 13 0) → I (B + 28) k = σ 14 k) ∧ (∀ t, t < nv (σ 8 0) → (I (B + 29) t ≠ -1 ↔ ∃ k, k < nv (σ 11 0) ∧ σ 12 (3 * k + 1) = nI t)))
def rpR (I : AIn) (B : Nat) (σ : AIn) : Prop := bo (I (B + 30) 0) (σ 15 0 ≠ -1) ∧ (σ 15 0 = -1 → I (B + 30) 4 = nI 0 ∧ I (B + 30) 6 = nI 0 ∧ ∀ k, k < 8 → I (B + 33) k = nI 0) ∧ (σ 15 0 ≠ -1 → (I (B + 30) 1 = σ 16 0 ∧ I (B + 30) 2 = σ 17 0 ∧ I (B + 30) 3 = σ 18 0 ∧ I (B + 30) 4 = σ 19 0 ∧ I (B + 30) 6 = σ 21 0) ∧ (∀ k, k < nv (σ 19 0) → I (B + 31) k = σ 20 k) ∧ (∀ k, k < nv (σ 21 0) → I (B + 32) k = σ 22 k) ∧ ∀ k, k < 8 → I (B + 33) k = σ 23 k)
def rpW (I : AIn) (B : Nat) (σ : AIn) : Prop := bo (I B 5) (σ 24 0 ≠ -1) ∧ RwR I (B + 34) (nv (σ 24 0)) (fun j => eR (σ 25) (5 * j))
def rpT (I : AIn) (B : Nat) (σ : AIn) : Prop := I (B + 36) 0 = σ 26 0 ∧ ∀ k, k < nv (σ 26 0) → I (B + 37) k = σ 27 k
def RepS (I : AIn) (B : Nat) (σ : AIn) : Prop := rpP I B σ ∧ rpJ I B σ ∧ rpK I B σ ∧ rpR I B σ ∧ rpW I B σ ∧ rpT I B σ
section K4
variable {I I' σ σ' : AIn} {B : Nat}
theorem rpP_fr (h : rpP I B σ) (h0 : I' B 0 = I B 0) (hF : ∀ r, B + 2 ≤ r → r ≤ B + 16 → I' r = I r) (hb : np σ ≤ 3) : rpP I' B σ :=
  ⟨by rw [h0]; exact h.1, fun p hp => (h.2 p hp).congr (by rw [hF _ (by omega) (by omega)]) (fun r h1 h2 => hF r (by omega) (by omega)) (fun _ _ => ⟨rfl, rfl, rfl⟩)⟩
theorem RwR_fr {r m : Nat} {E : Nat → Nat} (h : RwR I r m E) (h0 : I' r 0 = I r 0) (h1 : I' (r + 1) = I (r + 1)) : RwR I' r m E := ⟨by rw [h0]; exact h.1, h.2.1, fun j hj => by rw [h1]; exact h.2.2 j hj⟩
theorem rpJ_fr (h : rpJ I B σ) (hF : ∀ r, B + 17 ≤ r → r ≤ B + 18 → I' r = I r) : rpJ I' B σ := RwR_fr h (by rw [hF _ (by omega) (by omega)]) (hF _ (by omega) (by omega))
theorem rpK_fr (h : rpK I B σ) (hF : ∀ r, B + 19 ≤ r → r ≤ B + 29 → I' r = I r) : rpK I' B σ := by
  unfold rpK
  rw [hF (B + 19) (by omega) (by omega), hF (B + 20) (by omega) (by omega), hF (B + 21) (by omega) (by omega), hF (B + 22) (by omega) (by omega), hF (B + 25) (by omega) (by omega), hF (B + 26) (by omega) (by omega), hF (B + 27) (by omega) (by omega), hF (B + 28) (by omega) (by omega), hF (B + 29) (by omega) (by omega)]
  exact h
theorem rpR_fr (h : rpR I B σ) (hF : ∀ r, B + 30 ≤ r → r ≤ B + 33 → I' r = I r) : rpR I' B σ := by
  unfold rpR
  rw [hF (B + 30) (by omega) (by omega), hF (B + 31) (by omega) (by omega), hF (B + 32) (by omega) (by omega), hF (B + 33) (by omega) (by omega)]
  exact h
theorem rpW_fr (h : rpW I B σ) (h5 : I' B 5 = I B 5) (hF : ∀ r, B + 34 ≤ r → r ≤ B + 35 → I' r = I r) : rpW I' B σ := ⟨by rw [h5]; exact h.1, RwR_fr h.2 (by rw [hF _ (by omega) (by omega)]) (hF _ (by omega) (by omega))⟩
theorem rpT_fr (h : rpT I B σ) (h0 : I' (B + 36) 0 = I (B + 36) 0) (hF : I' (B + 37) = I (B + 37)) : rpT I' B σ := by
  unfold rpT
  rw [h0, hF]
  exact h
theorem rpP_σ (h : rpP I B σ) (h1 : σ' 1 = σ 1) (h2 : σ' 2 = σ 2) (h3 : σ' 3 = σ 3) (h4 : σ' 4 = σ 4) (h5 : σ' 5 = σ 5) : rpP I B σ' := by
  unfold rpP Pg np sz k3 k4 k5
  rw [h1, h2, h3, h4, h5]
  exact h
theorem rpJ_σ (h : rpJ I B σ) (h6 : σ' 6 = σ 6) (h7 : σ' 7 = σ 7) : rpJ I B σ' := by
  unfold rpJ nj
  rw [h6, h7]
  exact h
theorem rpK_σ (h : rpK I B σ) (h8 : σ' 8 = σ 8) (h9 : σ' 9 = σ 9) (h10 : σ' 10 = σ 10) (h11 : σ' 11 = σ 11) (h12 : σ' 12 = σ 12) (h13 : σ' 13 = σ 13) (h14 : σ' 14 = σ 14) : rpK I B σ' := by
  unfold rpK
  rw [h8, h9, h10, h11, h12, h13, h14]
  exact h
theorem rpR_σ (h : rpR I B σ) (h15 : σ' 15 = σ 15) (h16 : σ' 16 = σ 16) (h17 : σ' 17 = σ 17) (h18 : σ' 18 = σ 18) (h19 : σ' 19 = σ 19) (h20 : σ' 20 = σ 20) (h21 : σ' 21 = σ 21) (h22 : σ' 22 = σ 22) (h23 : σ' 23 = σ 23) : rpR I B σ' := by
  unfold rpR
  rw [h15, h16, h17, h18, h19, h20, h21, h22, h23]
  exact h
theorem rpW_σ (h : rpW I B σ) (h24 : σ' 24 = σ 24) (h25 : σ' 25 = σ 25) : rpW I B σ' := by
  unfold rpW
  rw [h24, h25]
  exact h
theorem rpT_σ (h : rpT I B σ) (h26 : σ' 26 = σ 26) (h27 : σ' 27 = σ 27) : rpT I B σ' := by
  unfold rpT
  rw [h26, h27]
  exact h
/-- one program anew -/
theorem rpP_set {p : Nat} (h : rpP I B σ) (V : iP σ) (hb : np σ' ≤ 3) (h0 : I' B 0 = nI (np σ')) (hF : ∀ r, B + 2 ≤ r → r ≤ B + 16 → (r < B + 2 + 5 * p ∨ B + 2 + 5 * p + 4 < r) → I' r = I r) (hσ : ∀ p', p' < np σ' → p' ≠ p → p' < np σ ∧ σ' 2 p' = σ 2 p' ∧ ∀ k, k < 40 → σ 3 (40 * p' + k) = σ' 3 (40 * p' + k) ∧ σ 4 (40 * p' + k) = σ' 4 (40 * p' + k) ∧ σ 5 (40 * p' + k) = σ' 5 (40 * p' + k)) (hp : p < np σ' → Pg I' (B + 2 + 5 * p) σ' p) : rpP I' B σ' := by
  refine ⟨h0, fun p' hp' => ?_⟩
  by_cases e : p' = p
  · subst e; exact hp hp'
  · obtain ⟨a, b, c⟩ := hσ p' hp' e
    have hs := (V.sz (q := p') (by omega)).2
    unfold Pg
    have e2 : sz σ' p' = sz σ p' := by unfold sz; rw [b]
    rw [e2]
    exact (h.2 p' a).congr (by rw [hF _ (by omega) (by omega) (by omega)]) (fun r h1 h2 => hF r (by omega) (by omega) (by omega)) (fun k hk => c k (by omega))
end K4
def cF (I' I : AIn) : Prop := ∀ r, r < 60 ∨ 138 ≤ r → I' r = I r
theorem cF_rf (I : AIn) : cF I I := fun _ _ => rfl
def cpo (sh : ASh) (P : APt) (I σ' : AIn) (res : Int32) : APo := po_i (fun v sh' I' P' => v = res ∧ RepS I' 100 σ' ∧ cF I' I ∧ sh = sh' ∧ P = P')
def cpv (sh : ASh) (P : APt) (I σ' : AIn) : APo := po_v (fun sh' I' P' => RepS I' 100 σ' ∧ cF I' I ∧ sh = sh' ∧ P = P')
theorem SPg_of {sh : ASh} {P : APt} (S : St_c sh P) {p : Nat} (hp : p < 3) : P 101 p = some (102 + 5 * p) ∧ SPg sh P (102 + 5 * p) := by
  rcases (show p = 0 ∨ p = 1 ∨ p = 2 by omega) with rfl | rfl | rfl
  · exact ⟨S.2 _ _ _ rfl, S.1 102 _ rfl, S.1 103 _ rfl, S.1 104 _ rfl, S.1 105 _ rfl, S.1 106 _ rfl, S.2 102 _ _ rfl, S.2 102 _ _ rfl, S.2 102 _ _ rfl, S.2 102 _ _ rfl⟩
  · exact ⟨S.2 _ _ _ rfl, S.1 107 _ rfl, S.1 108 _ rfl, S.1 109 _ rfl, S.1 110 _ rfl, S.1 111 _ rfl, S.2 107 _ _ rfl, S.2 107 _ _ rfl, S.2 107 _ _ rfl, S.2 107 _ _ rfl⟩
  · exact ⟨S.2 _ _ _ rfl, S.1 112 _ rfl, S.1 113 _ rfl, S.1 114 _ rfl, S.1 115 _ rfl, S.1 116 _ rfl, S.2 112 _ _ rfl, S.2 112 _ _ rfl, S.2 112 _ _ rfl, S.2 112 _ _ rfl⟩
theorem SPg_k {sh : ASh} {P : APt} (S : St_c sh P) : SPg sh P 120 := ⟨S.1 120 _ rfl, S.1 121 _ rfl, S.1 122 _ rfl, S.1 123 _ rfl, S.1 124 _ rfl, S.2 120 _ _ rfl, S.2 120 _ _ rfl, S.2 120 _ _ rfl, S.2 120 _ _ rfl⟩
theorem SRw_j {sh : ASh} {P : APt} (S : St_c sh P) : SRw sh P 117 := ⟨S.1 117 _ rfl, S.1 118 _ rfl, S.2 117 _ _ rfl⟩
theorem SRw_c {sh : ASh} {P : APt} (S : St_c sh P) : SRw sh P 134 := ⟨S.1 134 _ rfl, S.1 135 _ rfl, S.2 134 _ _ rfl⟩
