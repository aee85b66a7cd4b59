/-! read: its words -/
abbrev RD : Type := Nat × List (Nat × Int32)
def rdv (k : Nat) (x : Int32) : Int32 := if k = 0 then x.toInt8.toInt32 else x
/-- one order more, of kind k -/
noncomputable def rdO (T : Nat) (tb : Nat → Int32) (k : Nat) (s : RD) : Option RD :=
  cif (s.2.length = 40) none (cif (hasA k) (cif (s.1 = T) none (cif (aOk k (rdv k (tb s.1))) (some (s.1 + 1, s.2 ++ [(k, rdv k (tb s.1))])) none)) (some (s.1, s.2 ++ [(k, nI 0)])))
/-- the orders of a row, from its i-th on -/
noncomputable def rdR (T : Nat) (tb : Nat → Int32) (kf : Nat → Nat) : Nat → Nat → RD → Option RD
  | _, 0, s => some s
  | i, m + 1, s => match rdO T tb (kf i) s with
    | none => none
    | some s' => rdR T tb kf (i + 1) m s'
/-- code by code -/
noncomputable def rdA (T : Nat) (tb : Nat → Int32) (nj : Nat) (F : Nat → Int32) : Nat → RD → Option RD
  | 0, s => some s
  | m + 1, s => if T ≤ s.1 then some s else
      if nv (tb s.1) < 16 then
        match rdR T tb (fun _ => nv (tb s.1)) 0 1 (s.1 + 1, s.2) with
        | none => none
        | some s' => rdA T tb nj F m s'
      else if nj ≤ nv (tb s.1) - 16 then none
      else match rdR T tb (fun i => nv (F (5 * (nv (tb s.1) - 16) + 1 + i))) 0 (nv (F (5 * (nv (tb s.1) - 16)))) (s.1 + 1, s.2) with
        | none => none
        | some s' => rdA T tb nj F m s'
noncomputable def rdX (σ : AIn) : Option RD := rdA (nv (σ 26 0)) (σ 27) (nj σ) (σ 7) (nv (σ 26 0)) (0, [])
def rdW (σ : AIn) (l : List (Nat × Int32)) : AIn := va_up (va_up (va_up (fgt (va_up (va_up σ 1 (upd (σ 1) 0 (nI (np σ + 1)))) 2 (upd (σ 2) (np σ) (nI l.length))) (np σ)) 3 (fun j => if 40 * np σ ≤ j ∧ j < 40 * np σ + l.length then nI (l.getD (j - 40 * np σ) (0, 0)).1 else σ 3 j)) 4 (fun j => if 40 * np σ ≤ j ∧ j < 40 * np σ + l.length then (l.getD (j - 40 * np σ) (0, 0)).2 else σ 4 j)) 26 (upd (σ 26) 0 (nI 0))
noncomputable def rd_res (σ : AIn) : Int32 := cif (np σ = 3) (-1) (match rdX σ with
  | none => -1
  | some _ => nI (np σ))
noncomputable def rd_op (σ : AIn) : AIn := cif (np σ = 3) σ (match rdX σ with
  | none => σ
  | some s => rdW σ s.2)
theorem rdO_len {T : Nat} {tb : Nat → Int32} {k : Nat} {s s' : RD} (h : rdO T tb k s = some s') (hl : s.2.length ≤ 40) (hn : s.1 ≤ T) : s'.2.length ≤ 40 ∧ s'.2.length = s.2.length + 1 ∧ s.1 ≤ s'.1 ∧ s'.1 ≤ T := by
  unfold rdO at h
  by_cases h1 : s.2.length = 40
  · rw [cif_t h1] at h; cases h
  · rw [cif_f h1] at h
    by_cases h2 : hasA k
    · rw [cif_t h2] at h
      by_cases h3 : s.1 = T
      · rw [cif_t h3] at h; cases h
      · rw [cif_f h3] at h
        by_cases h4 : aOk k (rdv k (tb s.1))
        · rw [cif_t h4] at h
          cases h
          exact ⟨by show (s.2 ++ [_]).length ≤ 40; rw [List.length_append]; show s.2.length + 1 ≤ 40; omega, by show (s.2 ++ [_]).length = _; rw [List.length_append]; rfl, by show s.1 ≤ s.1 + 1; omega, by show s.1 + 1 ≤ T; omega⟩
        · rw [cif_f h4] at h; cases h
    · rw [cif_f h2] at h
      cases h
      exact ⟨by show (s.2 ++ [_]).length ≤ 40; rw [List.length_append]; show s.2.length + 1 ≤ 40; omega, by show (s.2 ++ [_]).length = _; rw [List.length_append]; rfl, Nat.le_refl _, hn⟩
