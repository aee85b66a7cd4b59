/-! a run: order by order to its end -/
abbrev RC : Type := Nat × Nat × Nat × MS × (Nat → Int32)
noncomputable def rn (n : Nat) (kd : Nat → Nat) (ag : Nat → Int32) (bg : Nat → Prop) : Nat → RC → Nat × RC
  | 0, c => (if n ≤ c.1 then 0 else 3, c)
  | m + 1, c => if n ≤ c.1 then (0, c) else
      cif (c.2.2.2.1.1 < wants (kd c.1)) (1, (c.1, c.2.1, c.2.2.1 + cif (bg c.1) 1 0, c.2.2.2.1, c.2.2.2.2))
        (cif (high (kd c.1) c.2.2.2.1) (2, (c.1, c.2.1, c.2.2.1 + cif (bg c.1) 1 0, c.2.2.2.1, c.2.2.2.2))
          (if kd c.1 = 13 then (0, (c.1, c.2.1 + 1, c.2.2.1 + cif (bg c.1) 1 0, c.2.2.2.1, upd c.2.2.2.2 c.1 (c.2.2.2.2 c.1 + nI 1)))
            else rn n kd ag bg m ((dos (kd c.1) (ag c.1) c.1 c.2.2.2.1).1, c.2.1 + 1, c.2.2.1 + cif (bg c.1) 1 0, (dos (kd c.1) (ag c.1) c.1 c.2.2.2.1).2, upd c.2.2.2.2 c.1 (c.2.2.2.2 c.1 + nI 1))))
theorem dos_b {k : Nat} {a : Int32} {t : Nat} {s : MS} (hk : k < 16) (ht : t < 40) (ha : aOk k a) (hw : wants k ≤ s.1) (hh : ¬ high k s) (hp : s.1 ≤ 24) (ho : s.2.1 ≤ 40) : (dos k a t s).1 ≤ 40 ∧ (dos k a t s).2.1 ≤ 24 ∧ (dos k a t s).2.2.1 ≤ 40 := by
  have g39 : ∀ a : Int32, nI 0 ≤ a ∧ a ≤ nI 39 → nv a ≤ 39 := fun a h => by
    obtain ⟨u, hu, rfl⟩ := (in_iff (by decide)).mp h
    rw [nv_nI (by omega)]
    exact hu
  rcases (show k = 0 ∨ k = 1 ∨ k = 2 ∨ k = 3 ∨ k = 4 ∨ k = 5 ∨ k = 6 ∨ k = 7 ∨ k = 8 ∨ k = 9 ∨ k = 10 ∨ k = 11 ∨ k = 12 ∨ k = 13 ∨ k = 14 ∨ k = 15 by omega) with rfl | rfl | rfl | rfl | rfl | rfl | rfl | rfl | rfl | rfl | rfl | rfl | rfl | rfl | rfl | rfl
  · have h9 : ¬ (s.1 = 24) := fun e => hh (Or.inl ⟨e, Or.inl rfl⟩)
    exact ⟨by show t + 1 ≤ 40; omega, by show s.1 + 1 ≤ 24; omega, ho⟩
  · exact ⟨by show t + 1 ≤ 40; omega, by show s.1 - 1 - 1 + 1 ≤ 24; omega, ho⟩
  · exact ⟨by show t + 1 ≤ 40; omega, by show s.1 - 1 - 1 + 1 ≤ 24; omega, ho⟩
  · exact ⟨by show t + 1 ≤ 40; omega, by show s.1 - 1 - 1 + 1 ≤ 24; omega, ho⟩
  · have h9 : ¬ (s.1 = 24) := fun e => hh (Or.inl ⟨e, Or.inr (Or.inl rfl)⟩)
    exact ⟨by show t + 1 ≤ 40; omega, by show s.1 + 1 ≤ 24; omega, ho⟩
  · have h2 : 2 ≤ s.1 := hw
    exact ⟨by show t + 1 ≤ 40; omega, by show s.1 - 1 - 1 + 1 + 1 ≤ 24; omega, ho⟩
  · exact ⟨by show t + 1 ≤ 40; omega, by show s.1 - 1 ≤ 24; omega, ho⟩
  · have h9 : ¬ (s.1 = 24) := fun e => hh (Or.inl ⟨e, Or.inr (Or.inr rfl)⟩)
    exact ⟨by show t + 1 ≤ 40; omega, by show s.1 + 1 ≤ 24; omega, ho⟩
  · exact ⟨by show t + 1 ≤ 40; omega, by show s.1 - 1 ≤ 24; omega, ho⟩
  · exact ⟨by show nv a ≤ 40; have := g39 a ha; omega, hp, ho⟩
  · have h3 := g39 a ha
    exact ⟨by show (if mtop s = 0 then nv a else t + 1) ≤ 40; split <;> omega, by show s.1 - 1 ≤ 24; omega, ho⟩
  · exact ⟨by show t + 1 ≤ 40; omega, by show s.1 - 1 - 1 + 1 ≤ 24; omega, ho⟩
  · have h9 : ¬ (s.2.1 = 40) := fun e => hh (Or.inr ⟨e, rfl⟩)
    exact ⟨by show t + 1 ≤ 40; omega, by show s.1 - 1 ≤ 24; omega, by show s.2.1 + 1 ≤ 40; omega⟩
  · exact ⟨by show t + 1 ≤ 40; omega, hp, ho⟩
  · exact ⟨by show t + 1 ≤ 40; omega, hp, ho⟩
  · exact ⟨by show t + 1 ≤ 40; omega, hp, ho⟩
theorem msR.up {K H : AIn} {s : MS} (h : msR K s H) {r : Nat} (hr : r < 19 ∨ 23 < r) (f : Nat → Int32) : msR (va_up K r f) s (va_up H r f) := by
  obtain ⟨h1, h2, h3, h4, h5, h6⟩ := h
  refine ⟨fun j a b c d e => ?_, ?_, ?_, ?_, ?_, ?_⟩
  · by_cases hj : j = r
    · subst hj; rw [va_up_self, va_up_self]
    · rw [va_up_ne _ _ hj, va_up_ne _ _ hj]; exact h1 j a b c d e
  · rw [va_up_ne _ _ (by omega), va_up_ne _ _ (by omega)]; exact h2
  · rw [va_up_ne _ _ (by omega)]; exact h3
  · rw [va_up_ne _ _ (by omega), va_up_ne _ _ (by omega)]; exact h4
  · rw [va_up_ne _ _ (by omega)]; exact h5
  · rw [va_up_ne _ _ (by omega)]; exact h6
def rcK (K : AIn) (d c : Nat) (tm : Nat → Int32) (x : Int32) : AIn := va_up (va_up (va_up (va_up K 18 (upd (K 18) 0 x)) 16 (upd (K 16) 0 (nI d))) 17 (upd (K 17) 0 (nI c))) 34 tm
theorem rcK_18 {K : AIn} {d c : Nat} {tm : Nat → Int32} {x y : Int32} : va_up (rcK K d c tm x) 18 (upd (upd (K 18) 0 x) 0 y) = rcK K d c tm y := by
  rw [fa_twice]
  funext r
  unfold rcK
  by_cases h1 : r = 18
  · subst h1; rfl
  · by_cases h2 : r = 34
    · subst h2; rfl
    · by_cases h3 : r = 17
      · subst h3; rfl
      · by_cases h4 : r = 16
        · subst h4; rfl
        · rw [va_up_ne _ _ h1, va_up_ne _ _ h2, va_up_ne _ _ h3, va_up_ne _ _ h4, va_up_ne _ _ h1, va_up_ne _ _ h2, va_up_ne _ _ h3, va_up_ne _ _ h4, va_up_ne _ _ h1]
theorem rcK_16 {K : AIn} {d c e : Nat} {tm : Nat → Int32} {x : Int32} : va_up (rcK K d c tm x) 16 (upd (upd (K 16) 0 (nI d)) 0 (nI e)) = rcK K e c tm x := by
  rw [fa_twice]
  funext r
  unfold rcK
  by_cases h1 : r = 16
  · subst h1; rfl
  · by_cases h2 : r = 34
    · subst h2; rfl
    · by_cases h3 : r = 17
      · subst h3; rfl
      · rw [va_up_ne _ _ h1, va_up_ne _ _ h2, va_up_ne _ _ h3, va_up_ne _ _ h1, va_up_ne _ _ h2, va_up_ne _ _ h3, va_up_ne _ _ h1]
theorem rcK_17 {K : AIn} {d c e : Nat} {tm : Nat → Int32} {x : Int32} : va_up (rcK K d c tm x) 17 (upd (upd (K 17) 0 (nI c)) 0 (nI e)) = rcK K d e tm x := by
  rw [fa_twice]
  funext r
  unfold rcK
  by_cases h1 : r = 17
  · subst h1; rfl
  · by_cases h2 : r = 34
    · subst h2; rfl
    · rw [va_up_ne _ _ h1, va_up_ne _ _ h2, va_up_ne _ _ h1, va_up_ne _ _ h2, va_up_ne _ _ h1]
theorem rcK_34 {K : AIn} {d c : Nat} {tm tm' : Nat → Int32} {x : Int32} : va_up (rcK K d c tm x) 34 tm' = rcK K d c tm' x := by
  unfold rcK
  rw [bx_uu]
