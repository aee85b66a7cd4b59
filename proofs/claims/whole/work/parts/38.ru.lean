/-! run: its words -/
noncomputable def rnP (σ : AIn) (most : Nat) : Nat × RC := rn (nv (σ 8 0)) (fun t => nv (σ 9 t)) (fun t => σ 10 t) (fun t => ∃ k, k < nv (σ 11 0) ∧ σ 12 (3 * k + 1) = nI t) most (0, 0, 0, ms0 σ, fun _ => nI 0)
noncomputable def rnU (σ : AIn) (p most : Nat) : Nat × RC := rn (sz σ p) (fun t => nv (σ 3 (40 * p + t))) (fun t => σ 4 (40 * p + t)) (fun _ => True) most (0, 0, 0, ms0 σ, fun _ => nI 0)
def ruW (σ : AIn) (e : Nat) (c : RC) : AIn := va_up (va_up (va_up (va_up (va_up (va_up (va_up (va_up (va_up σ 18 (upd (σ 18) 0 (nI c.1))) 16 (upd (σ 16) 0 (nI c.2.1))) 17 (upd (σ 17) 0 (nI c.2.2.1))) 15 (upd (σ 15) 0 (nI e))) 19 (upd (σ 19) 0 (nI c.2.2.2.1.1))) 20 c.2.2.2.1.2.2.1) 21 (upd (σ 21) 0 (nI c.2.2.2.1.2.1))) 22 c.2.2.2.1.2.2.2.1) 23 c.2.2.2.1.2.2.2.2
def ru5 (σ : AIn) (p n : Nat) (tm : Nat → Int32) : Nat → Int32 := fun j => if 40 * p ≤ j ∧ j < 40 * p + n then tm (j - 40 * p) else σ 5 j
def ru_c (σ : AIn) (p b most : Int32) : Prop := inR most 20001 ∧ (b ≠ 0 → σ 11 0 ≠ -1) ∧ (b = 0 → inR p (np σ))
noncomputable def ru_res (σ : AIn) (p b most : Int32) : Int32 := cif (ru_c σ p b most) (if b = 0 then nI (rnU σ (nv p) (nv most)).1 else nI (rnP σ (nv most)).1) (-1)
noncomputable def ru_op (σ : AIn) (p b most : Int32) : AIn := cif (ru_c σ p b most) (if b = 0 then va_up (ruW σ (rnU σ (nv p) (nv most)).1 (rnU σ (nv p) (nv most)).2) 5 (ru5 σ (nv p) (sz σ (nv p)) (rnU σ (nv p) (nv most)).2.2.2.2.2) else ruW σ (rnP σ (nv most)).1 (rnP σ (nv most)).2) σ
theorem rnE_rs {K H : AIn} {e : Nat} {c : RC} (h : rnE K e c H) : rs H = ruW (rs K) e c ∧ H 34 = c.2.2.2.2 ∧ hi H K := by
  obtain ⟨h1, h2, h3, h4, h5, h6⟩ := h
  refine ⟨?_, ?_, fun r hr => ?_⟩
  · funext r
    unfold ruW
    by_cases a : r = 23
    · subst a; rw [rs_at rfl, h6]; rfl
    · by_cases b : r = 22
      · subst b; rw [rs_at rfl, h5]; rfl
      · by_cases c : r = 21
        · subst c; rw [rs_at rfl, h4]; rfl
        · by_cases d : r = 20
          · subst d; rw [rs_at rfl, h3]; rfl
          · by_cases f : r = 19
            · subst f; rw [rs_at rfl, h2]; rfl
            · rw [va_up_ne _ _ a, va_up_ne _ _ b, va_up_ne _ _ c, va_up_ne _ _ d, va_up_ne _ _ f]
              have h7 := h1 r f d c b a
              by_cases g : r = 15
              · subst g; rw [rs_at rfl, h7]; rfl
              · by_cases i : r = 17
                · subst i; rw [rs_at rfl, h7]; rfl
                · by_cases j : r = 16
                  · subst j; rw [rs_at rfl, h7]; rfl
                  · by_cases k : r = 18
                    · subst k; rw [rs_at rfl, h7]; rfl
                    · rw [va_up_ne _ _ g, va_up_ne _ _ i, va_up_ne _ _ j, va_up_ne _ _ k]
                      by_cases l : r = 34
                      · subst l; rfl
                      · unfold rs
                        rw [h7, va_up_ne _ _ g, rcK, va_up_ne _ _ l, va_up_ne _ _ i, va_up_ne _ _ j, va_up_ne _ _ k]
  · exact h1 34 (by decide) (by decide) (by decide) (by decide) (by decide)
  · rw [h1 r (by omega) (by omega) (by omega) (by omega) (by omega), va_up_ne _ _ (by omega), rcK, va_up_ne _ _ (by omega), va_up_ne _ _ (by omega), va_up_ne _ _ (by omega), va_up_ne _ _ (by omega)]
