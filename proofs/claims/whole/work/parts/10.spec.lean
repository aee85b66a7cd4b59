/-! the words of the promises, over the rows of the reference -/
noncomputable def cif {α : Type} (c : Prop) (x y : α) : α := @ite α c (Classical.propDecidable c) x y
theorem cif_t {α : Type} {c : Prop} {x y : α} (h : c) : cif c x y = x := if_pos h
theorem cif_f {α : Type} {c : Prop} {x y : α} (h : ¬ c) : cif c x y = y := if_neg h
def nv (x : Int32) : Nat := x.toNatClampNeg
theorem nv_nI {n : Nat} (h : n < 2147483648) : nv (nI n) = n := nI_clamp h
theorem nv_m1 : nv (-1) = 0 := by decide
def isN (x : Int32) (m : Nat) : Prop := x = nI (nv x) ∧ nv x ≤ m
theorem isN_nI {n m : Nat} (h : n ≤ m) (hm : m < 2147483648) : isN (nI n) m := by
  have e : nv (nI n) = n := nv_nI (by omega)
  exact ⟨by rw [e], by rw [e]; exact h⟩
def inR (x : Int32) (n : Nat) : Prop := ∃ j : Nat, j < n ∧ x = nI j
theorem inR_nI {j n : Nat} (h : j < n) : inR (nI j) n := ⟨j, h, rfl⟩
theorem inR.nv {x : Int32} {n : Nat} (h : inR x n) (hn : n < 2147483648) : x = nI (nv x) ∧ nv x < n := by
  obtain ⟨j, hj, rfl⟩ := h
  rw [nv_nI (by omega)]
  exact ⟨rfl, hj⟩
def mrow (r : Nat) : Bool := (Nat.ble 1 r && Nat.ble r 27) || Nat.beq r 47
def rs (I : AIn) : AIn := fun r => if mrow r = true then I r else fun _ => 0
theorem rs_at {I : AIn} {r : Nat} (h : mrow r = true) : rs I r = I r := if_pos h
theorem rs_up {I : AIn} {r : Nat} {f : Nat → Int32} (h : mrow r = true) : rs (va_up I r f) = va_up (rs I) r f := by
  funext k
  by_cases hk : k = r
  · subst hk
    simp only [rs, va_up, h, if_true]
  · simp only [rs, va_up, hk, if_false]
theorem rs_no {I : AIn} {r : Nat} {f : Nat → Int32} (h : mrow r = false) : rs (va_up I r f) = rs I := by
  funext k
  by_cases hk : k = r
  · subst hk
    simp only [rs, h]
    rfl
  · simp only [rs, va_up, hk, if_false]
def hi (I' I : AIn) : Prop := ∀ r, 48 ≤ r → I' r = I r
theorem hi_rf (I : AIn) : hi I I := fun _ _ => rfl
theorem hi_up {I' I : AIn} {r : Nat} {f : Nat → Int32} (h : hi I' I) (hr : r < 48) : hi (va_up I' r f) I := fun k hk => by
  have : k ≠ r := by omega
  simp only [va_up, this, if_false]
  exact h k hk
def np (σ : AIn) : Nat := nv (σ 1 0)
def sz (σ : AIn) (p : Nat) : Nat := nv (σ 2 p)
def nj (σ : AIn) : Nat := nv (σ 6 0)
def aOk (k : Nat) (a : Int32) : Prop := if k = 0 then (-128 ≤ a ∧ a ≤ nI 127) else if k = 7 ∨ k = 8 ∨ k = 15 then (nI 0 ≤ a ∧ a ≤ nI 7) else if k = 9 ∨ k = 10 then (nI 0 ≤ a ∧ a ≤ nI 39) else a = 0
def hasA (k : Nat) : Prop := k = 0 ∨ k = 7 ∨ k = 8 ∨ k = 9 ∨ k = 10 ∨ k = 15
def isLs (k : Nat) : Prop := k = 9 ∨ k = 10 ∨ k = 13
def fgt (σ : AIn) (q : Nat) : AIn := va_up σ 5 (fun j => if 40 * q ≤ j ∧ j < 40 * q + 40 then 0 else σ 5 j)
def led (σ : AIn) (p t : Nat) : Prop := ∃ k, k < sz σ p ∧ (σ 3 (40 * p + k) = nI 9 ∨ σ 3 (40 * p + k) = nI 10) ∧ σ 4 (40 * p + k) = nI t
/-! a row of kinds at a place z of a row f of the rows: its number, then its kinds, 0 behind -/
def jOk (f : Nat → Int32) (z : Nat) : Prop := (2 ≤ nv (f z) ∧ isN (f z) 4) ∧ (∀ i, i < nv (f z) → isN (f (z + 1 + i)) 15 ∧ (i + 1 < nv (f z) → ¬ isLs (nv (f (z + 1 + i))))) ∧ ∀ i, nv (f z) ≤ i → i < 4 → f (z + 1 + i) = nI 0
def jEq (f : Nat → Int32) (z w : Nat) : Prop := ∀ i, i < 5 → f (z + i) = f (w + i)
/-! what holds of the rows of one block -/
def iP (σ : AIn) : Prop := isN (σ 1 0) 3 ∧ (∀ p, p < 3 → isN (σ 2 p) 40) ∧ (∀ p k, p < 3 → k < sz σ p → isN (σ 3 (40 * p + k)) 15 ∧ aOk (nv (σ 3 (40 * p + k))) (σ 4 (40 * p + k))) ∧ ∀ j, j < 120 → isN (σ 5 j) 20000
def iJ (σ : AIn) : Prop := isN (σ 6 0) 6 ∧ (∀ j, j < nj σ → jOk (σ 7) (5 * j)) ∧ ∀ i j, i < nj σ → j < nj σ → jEq (σ 7) (5 * i) (5 * j) → i = j
def iK (σ : AIn) : Prop := σ 11 0 = -1 ∨ (isN (σ 11 0) 40 ∧ isN (σ 8 0) 40 ∧ isN (σ 13 0) 80 ∧ (∀ k, k < nv (σ 8 0) → isN (σ 9 k) 15 ∧ aOk (nv (σ 9 k)) (σ 10 k)) ∧ (∀ k, k < nv (σ 11 0) → isN (σ 12 (3 * k + 1)) 39 ∧ nv (σ 12 (3 * k + 1)) < nv (σ 8 0)))
def iR (σ : AIn) : Prop := σ 15 0 = -1 ∨ (isN (σ 15 0) 3 ∧ isN (σ 19 0) 24 ∧ isN (σ 21 0) 40)
def iC (σ : AIn) : Prop := σ 24 0 = -1 ∨ (isN (σ 24 0) 2 ∧ (∀ j, j < nv (σ 24 0) → jOk (σ 25) (5 * j)) ∧ ∀ i j, i < nv (σ 24 0) → j < nv (σ 24 0) → jEq (σ 25) (5 * i) (5 * j) → i = j)
def iT (σ : AIn) : Prop := isN (σ 26 0) 160 ∧ ∀ k, k < nv (σ 26 0) → isN (σ 27 k) 255
def Inv (σ : AIn) : Prop := iP σ ∧ iJ σ ∧ iK σ ∧ iR σ ∧ iC σ ∧ iT σ
/-! each call's answer, and the rows behind it -/
noncomputable def p_res (σ : AIn) : Int32 := cif (np σ = 3) (-1) (nI (np σ))
noncomputable def p_op (σ : AIn) : AIn := cif (np σ = 3) σ (fgt (va_up (va_up σ 1 (upd (σ 1) 0 (nI (np σ + 1)))) 2 (upd (σ 2) (np σ) (nI 0))) (np σ))
def o_c (σ : AIn) (p k a : Int32) : Prop := inR p (np σ) ∧ inR k 16 ∧ aOk (nv k) a ∧ sz σ (nv p) < 40
noncomputable def o_res (σ : AIn) (p k a : Int32) : Int32 := cif (o_c σ p k a) (nI (sz σ (nv p))) (-1)
noncomputable def o_op (σ : AIn) (p k a : Int32) : AIn := cif (o_c σ p k a) (fgt (va_up (va_up (va_up σ 3 (upd (σ 3) (40 * nv p + sz σ (nv p)) k)) 4 (upd (σ 4) (40 * nv p + sz σ (nv p)) a)) 2 (upd (σ 2) (nv p) (nI (sz σ (nv p) + 1)))) (nv p)) σ
def c_c (σ : AIn) (p x a : Int32) : Prop := inR p (np σ) ∧ inR x (sz σ (nv p)) ∧ hasA (nv (σ 3 (40 * nv p + nv x))) ∧ aOk (nv (σ 3 (40 * nv p + nv x))) a
noncomputable def c_res (σ : AIn) (p x a : Int32) : Int32 := cif (c_c σ p x a) (nI 1) (nI 0)
noncomputable def c_op (σ : AIn) (p x a : Int32) : AIn := cif (c_c σ p x a) (fgt (va_up σ 4 (upd (σ 4) (40 * nv p + nv x) a)) (nv p)) σ
noncomputable def t_res (σ : AIn) (p x w : Int32) : Int32 := cif (inR p (np σ) ∧ inR x (sz σ (nv p))) (if w = nI 0 then σ 3 (40 * nv p + nv x) else if w = nI 1 then σ 4 (40 * nv p + nv x) else if w = nI 2 then σ 5 (40 * nv p + nv x) else if w = nI 3 then cif (led σ (nv p) (nv x)) (nI 1) (nI 0) else (-1)) (-1)
def j_can (σ : AIn) (n a b c d : Int32) : Prop := (2 ≤ nv n ∧ inR n 5) ∧ inR a 16 ∧ inR b 16 ∧ (3 ≤ nv n → inR c 16) ∧ (4 ≤ nv n → inR d 16) ∧ nj σ < 6 ∧ ¬ isLs (nv a) ∧ (3 ≤ nv n → ¬ isLs (nv b)) ∧ (4 ≤ nv n → ¬ isLs (nv c))
def j_row (σ : AIn) (n a b c d : Int32) : Nat → Int32 := upd (upd (upd (upd (upd (σ 7) (5 * nj σ) n) (5 * nj σ + 1) a) (5 * nj σ + 2) b) (5 * nj σ + 3) (if 3 ≤ nv n then c else nI 0)) (5 * nj σ + 4) (if 4 ≤ nv n then d else nI 0)
def j_dup (σ : AIn) (n a b c d : Int32) : Prop := ∃ j, j < nj σ ∧ jEq (j_row σ n a b c d) (5 * j) (5 * nj σ)
noncomputable def j_res (σ : AIn) (n a b c d : Int32) : Int32 := cif (j_can σ n a b c d ∧ ¬ j_dup σ n a b c d) (nI (nj σ)) (-1)
noncomputable def j_op (σ : AIn) (n a b c d : Int32) : AIn := cif (j_can σ n a b c d) (cif (j_dup σ n a b c d) (va_up σ 7 (j_row σ n a b c d)) (va_up (va_up σ 7 (j_row σ n a b c d)) 6 (upd (σ 6) 0 (nI (nj σ + 1))))) σ
def pt_op (σ : AIn) : AIn := va_up σ 6 (upd (σ 6) 0 (nI 0))
noncomputable def jd_res (σ : AIn) (x y : Int32) : Int32 := cif (inR x (nj σ) ∧ inR y (nv (σ 7 (5 * nv x)))) (σ 7 (5 * nv x + 1 + nv y)) (-1)
noncomputable def cd_res (σ : AIn) (x y : Int32) : Int32 := cif (inR x (nv (σ 11 0)) ∧ inR y 3) (σ 12 (3 * nv x + nv y)) (-1)
noncomputable def by_res (σ : AIn) (x : Int32) : Int32 := cif (σ 11 0 ≠ -1 ∧ inR x (nv (σ 13 0))) (σ 14 (nv x)) (-1)
def ra_res (σ : AIn) (w : Int32) : Int32 := if σ 15 0 = -1 then -1 else if w = nI 0 then σ 16 0 else if w = nI 1 then σ 17 0 else if w = nI 2 then σ 19 0 else if w = nI 3 then σ 21 0 else if w = nI 4 then σ 18 0 else -1
noncomputable def ha_res (σ : AIn) (w x : Int32) : Int32 := if σ 15 0 = -1 then nI 0 else if w = nI 0 then cif (inR x (nv (σ 19 0))) (σ 20 (nv x)) (nI 0) else if w = nI 1 then cif (inR x (nv (σ 21 0))) (σ 22 (nv x)) (nI 0) else if w = nI 2 then cif (inR x 8) (σ 23 (nv x)) (nI 0) else nI 0
noncomputable def ch_res (σ : AIn) (x y : Int32) : Int32 := cif (inR x (nv (σ 24 0)) ∧ inR y (nv (σ 25 (5 * nv x)))) (σ 25 (5 * nv x + 1 + nv y)) (-1)
def tk_res (σ : AIn) : Int32 := σ 24 0
def tk_op (σ : AIn) : AIn := if σ 24 0 = -1 then σ else va_up (va_up σ 6 (upd (σ 6) 0 (σ 24 0))) 7 (fun j => if j < 5 * nv (σ 24 0) then σ 25 j else σ 7 j)
def fe_c (σ : AIn) (n : Int32) : Prop := (1 ≤ nv n ∧ inR n 5) ∧ nv (σ 26 0) + nv n ≤ 160
def fe_b (x : Int32) (i : Nat) : Int32 := (x >>> ((nI 24 - nI 8 * nI i) &&& 31)) &&& nI 255
noncomputable def fe_res (σ : AIn) (x n : Int32) : Int32 := cif (fe_c σ n) (nI (nv (σ 26 0) + nv n)) (-1)
noncomputable def fe_op (σ : AIn) (x n : Int32) : AIn := cif (fe_c σ n) (va_up (va_up σ 27 (fun j => if nv (σ 26 0) ≤ j ∧ j < nv (σ 26 0) + nv n then fe_b x (j - nv (σ 26 0)) else σ 27 j)) 26 (upd (σ 26) 0 (nI (nv (σ 26 0) + nv n)))) σ
noncomputable def cn_res (σ : AIn) (w : Int32) : Int32 := if w = nI 0 then σ 1 0 else if w = nI 1 then σ 6 0 else if w = nI 2 then σ 11 0 else if w = nI 3 then (if σ 11 0 = -1 then -1 else σ 13 0) else if w = nI 4 then (if σ 24 0 = -1 then nI 0 else σ 24 0) else if w = nI 5 then σ 26 0 else cif (∃ j, j < np σ ∧ w = nI (10 + j)) (σ 2 (nv w - 10)) (-1)
def bl (r : Nat) : Nat := match r with
  | 1 => 1 | 2 => 3 | 3 => 120 | 4 => 120 | 5 => 120 | 6 => 1 | 7 => 30 | 8 => 1 | 9 => 40 | 10 => 40 | 11 => 1 | 12 => 120 | 13 => 1 | 14 => 80 | 15 => 1 | 16 => 1 | 17 => 1 | 18 => 1 | 19 => 1 | 20 => 24 | 21 => 1 | 22 => 40 | 23 => 8 | 24 => 1 | 25 => 15 | 26 => 1 | 27 => 160
  | _ => 0
/-- block a comes into the stead of block b -/
def cpB (σ : AIn) (a b : Nat) : AIn := fun r => va_cpy (σ r) (σ r) (bl r * a) (bl r * b) (bl r)
def bk (σ : AIn) (b : Nat) : AIn := fun r i => σ r (bl r * b + i)
noncomputable def im_res (k : Int32) : Int32 := cif (inR k 3) (nI 1) (nI 0)
noncomputable def im_op (σ : AIn) (k : Int32) : AIn := cif (inR k 3) (va_up (cpB σ 0 (nv k + 1)) 47 (upd (σ 47) (nv k) (nI 1))) σ
def ag_c (σ : AIn) (k : Int32) : Prop := inR k 3 ∧ σ 47 (nv k) ≠ 0
noncomputable def ag_res (σ : AIn) (k : Int32) : Int32 := cif (ag_c σ k) (nI 1) (nI 0)
noncomputable def ag_op (σ : AIn) (k : Int32) : AIn := cif (ag_c σ k) (cpB σ (nv k + 1) 0) σ
