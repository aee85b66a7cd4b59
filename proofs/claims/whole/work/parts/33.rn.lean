/-! a run: the machine of orders -/
abbrev MS : Type := Nat × Nat × (Nat → Int32) × (Nat → Int32) × (Nat → Int32)
def psh (s : MS) (v : Int32) : MS := (s.1 + 1, s.2.1, upd s.2.2.1 s.1 v, s.2.2.2.1, s.2.2.2.2)
def ppd (s : MS) : MS := (s.1 - 1, s.2.1, s.2.2.1, s.2.2.2.1, s.2.2.2.2)
def mtop (s : MS) : Int32 := s.2.2.1 (s.1 - 1)
def sreg (s : MS) (i : Nat) (v : Int32) : MS := (s.1, s.2.1, s.2.2.1, s.2.2.2.1, upd s.2.2.2.2 i v)
def sout (s : MS) (v : Int32) : MS := (s.1, s.2.1 + 1, s.2.2.1, upd s.2.2.2.1 s.2.1 v, s.2.2.2.2)
def wk (k : Nat) (a b : Int32) : Int32 := if k = 1 then a + b else if k = 2 then a - b else if k = 3 then a * b else if a < b then nI 1 else nI 0
def wants (k : Nat) : Nat := match k with
  | 1 => 2 | 2 => 2 | 3 => 2 | 4 => 1 | 5 => 2 | 6 => 1 | 8 => 1 | 10 => 1 | 11 => 2 | 12 => 1
  | _ => 0
def high (k : Nat) (s : MS) : Prop := (s.1 = 24 ∧ (k = 0 ∨ k = 4 ∨ k = 7)) ∨ (s.2.1 = 40 ∧ k = 12)
def dos (k : Nat) (a : Int32) (t : Nat) (s : MS) : Nat × MS := match k with
  | 0 => (t + 1, psh s a)
  | 1 => (t + 1, psh (ppd (ppd s)) (wk 1 (mtop (ppd s)) (mtop s)))
  | 2 => (t + 1, psh (ppd (ppd s)) (wk 2 (mtop (ppd s)) (mtop s)))
  | 3 => (t + 1, psh (ppd (ppd s)) (wk 3 (mtop (ppd s)) (mtop s)))
  | 4 => (t + 1, psh s (mtop s))
  | 5 => (t + 1, psh (psh (ppd (ppd s)) (mtop s)) (mtop (ppd s)))
  | 6 => (t + 1, ppd s)
  | 7 => (t + 1, psh s (s.2.2.2.2 (nv a)))
  | 8 => (t + 1, sreg (ppd s) (nv a) (mtop s))
  | 9 => (nv a, s)
  | 10 => (if mtop s = 0 then nv a else t + 1, ppd s)
  | 11 => (t + 1, psh (ppd (ppd s)) (wk 11 (mtop (ppd s)) (mtop s)))
  | 12 => (t + 1, sout (ppd s) (mtop s))
  | 15 => (t + 1, sreg s (nv a) (s.2.2.2.2 (nv a) + nI 1))
  | _ => (t + 1, s)
/-- the heap H holds the machine s, over K -/
def msR (K : AIn) (s : MS) (H : AIn) : Prop := (∀ r, r ≠ 19 → r ≠ 20 → r ≠ 21 → r ≠ 22 → r ≠ 23 → H r = K r) ∧ H 19 = upd (K 19) 0 (nI s.1) ∧ H 20 = s.2.2.1 ∧ H 21 = upd (K 21) 0 (nI s.2.1) ∧ H 22 = s.2.2.2.1 ∧ H 23 = s.2.2.2.2
theorem msR.e19 {K H : AIn} {s : MS} (h : msR K s H) : H 19 0 = nI s.1 := by rw [h.2.1]; rfl
theorem msR.e21 {K H : AIn} {s : MS} (h : msR K s H) : H 21 0 = nI s.2.1 := by rw [h.2.2.2.1]; rfl
theorem msR.psh {K H : AIn} {s : MS} (h : msR K s H) (v : Int32) : msR K (psh s v) (va_up (va_up H 20 (upd (H 20) s.1 v)) 19 (upd (H 19) 0 (nI (s.1 + 1)))) := by
  obtain ⟨h1, h2, h3, h4, h5, h6⟩ := h
  refine ⟨fun r a b c d e => ?_, ?_, ?_, ?_, ?_, ?_⟩
  · rw [va_up_ne _ _ a, va_up_ne _ _ b]; exact h1 r a b c d e
  · rw [va_up_self, h2, fa_twice]; rfl
  · rw [va_up_ne _ _ (by decide), va_up_self, h3]; rfl
  · rw [va_up_ne _ _ (by decide), va_up_ne _ _ (by decide)]; exact h4
  · rw [va_up_ne _ _ (by decide), va_up_ne _ _ (by decide)]; exact h5
  · rw [va_up_ne _ _ (by decide), va_up_ne _ _ (by decide)]; exact h6
theorem msR.ppd {K H : AIn} {s : MS} (h : msR K s H) : msR K (ppd s) (va_up H 19 (upd (H 19) 0 (nI (s.1 - 1)))) := by
  obtain ⟨h1, h2, h3, h4, h5, h6⟩ := h
  refine ⟨fun r a b c d e => ?_, ?_, ?_, ?_, ?_, ?_⟩
  · rw [va_up_ne _ _ a]; exact h1 r a b c d e
  · rw [va_up_self, h2, fa_twice]; rfl
  · rw [va_up_ne _ _ (by decide)]; exact h3
  · rw [va_up_ne _ _ (by decide)]; exact h4
  · rw [va_up_ne _ _ (by decide)]; exact h5
  · rw [va_up_ne _ _ (by decide)]; exact h6
theorem msR.sreg {K H : AIn} {s : MS} (h : msR K s H) (i : Nat) (v : Int32) : msR K (sreg s i v) (va_up H 23 (upd (H 23) i v)) := by
  obtain ⟨h1, h2, h3, h4, h5, h6⟩ := h
  refine ⟨fun r a b c d e => ?_, ?_, ?_, ?_, ?_, ?_⟩
  · rw [va_up_ne _ _ e]; exact h1 r a b c d e
  · rw [va_up_ne _ _ (by decide)]; exact h2
  · rw [va_up_ne _ _ (by decide)]; exact h3
  · rw [va_up_ne _ _ (by decide)]; exact h4
  · rw [va_up_ne _ _ (by decide)]; exact h5
  · rw [va_up_self, h6]; rfl
theorem msR.sout {K H : AIn} {s : MS} (h : msR K s H) (v : Int32) : msR K (sout s v) (va_up (va_up H 22 (upd (H 22) s.2.1 v)) 21 (upd (H 21) 0 (nI (s.2.1 + 1)))) := by
  obtain ⟨h1, h2, h3, h4, h5, h6⟩ := h
  refine ⟨fun r a b c d e => ?_, ?_, ?_, ?_, ?_, ?_⟩
  · rw [va_up_ne _ _ c, va_up_ne _ _ d]; exact h1 r a b c d e
  · rw [va_up_ne _ _ (by decide), va_up_ne _ _ (by decide)]; exact h2
  · rw [va_up_ne _ _ (by decide), va_up_ne _ _ (by decide)]; exact h3
  · rw [va_up_self, h4, fa_twice]; rfl
  · rw [va_up_ne _ _ (by decide), va_up_self, h5]; rfl
  · rw [va_up_ne _ _ (by decide), va_up_ne _ _ (by decide)]; exact h6
