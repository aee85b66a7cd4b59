/-! the cheapest way, its first code the longest of those -/
def bgE (T : Nat → Nat) (sd : Nat → Prop) (ln : Nat → Nat) (m j l : Nat) (k0 : Int32) (len : Nat) (num : Int32) : Prop := (1 ≤ len ∧ len ≤ l) ∧ T (j + len) ≤ T (j + 1) ∧ (∀ r, r < m → sd r → ln r ≤ l → T (j + len) ≤ T (j + ln r) ∧ (T (j + ln r) = T (j + len) → ln r ≤ len)) ∧ ((len = 1 ∧ num = k0) ∨ ∃ r, r < m ∧ sd r ∧ ln r = len ∧ num = nI (16 + r))
theorem bgE_0 {T : Nat → Nat} {sd : Nat → Prop} {ln : Nat → Nat} {m j : Nat} {k0 : Int32} (h : ∀ r, r < m → 2 ≤ ln r) : bgE T sd ln m j 1 k0 1 k0 :=
  ⟨⟨Nat.le_refl _, Nat.le_refl _⟩, Nat.le_refl _, fun r hr _ hl => by have := h r hr; omega, Or.inl ⟨rfl, rfl⟩⟩
theorem bgE_no {T : Nat → Nat} {sd : Nat → Prop} {ln : Nat → Nat} {m j l : Nat} {k0 : Int32} {len : Nat} {num : Int32} (h : bgE T sd ln m j l k0 len num) (hn : ∀ r, r < m → sd r → ln r = l + 1 → T (j + len) < T (j + (l + 1))) : bgE T sd ln m j (l + 1) k0 len num := by
  obtain ⟨h1, h2, h3, h4⟩ := h
  refine ⟨⟨h1.1, by omega⟩, h2, fun r hr hs hl => ?_, h4⟩
  by_cases e : ln r = l + 1
  · have := hn r hr hs e
    rw [e]
    exact ⟨by omega, fun g => by omega⟩
  · exact h3 r hr hs (by omega)
theorem bgE_up {T : Nat → Nat} {sd : Nat → Prop} {ln : Nat → Nat} {m j l : Nat} {k0 : Int32} {len r : Nat} {num : Int32} (h : bgE T sd ln m j l k0 len num) (hr : r < m) (hs : sd r) (hl : ln r = l + 1) (ht : T (j + (l + 1)) ≤ T (j + len)) : bgE T sd ln m j (l + 1) k0 (l + 1) (nI (16 + r)) := by
  obtain ⟨h1, h2, h3, h4⟩ := h
  refine ⟨⟨by omega, Nat.le_refl _⟩, by omega, fun r' hr' hs' hl' => ?_, Or.inr ⟨r, hr, hs, hl, rfl⟩⟩
  by_cases e : ln r' = l + 1
  · rw [e]; exact ⟨Nat.le_refl _, fun _ => Nat.le_refl _⟩
  · have := h3 r' hr' hs' (by omega)
    exact ⟨by omega, fun _ => hl'⟩
theorem bgE_all {T : Nat → Nat} {sd : Nat → Prop} {ln : Nat → Nat} {m j l : Nat} {k0 : Int32} {len : Nat} {num : Int32} (h : bgE T sd ln m j l k0 len num) (hl4 : l ≤ 4) (ha : ∀ r, r < m → sd r → ln r ≤ l) : bgE T sd ln m j 4 k0 len num :=
  ⟨⟨h.1.1, by have := h.1.2; omega⟩, h.2.1, fun r hr hs _ => h.2.2.1 r hr hs (ha r hr hs), h.2.2.2⟩
theorem bstR_lb {sd : Nat → Nat → Prop} {ln : Nat → Nat} {T : Nat → Nat} {q : Nat} : ∀ m r, r < m → sd q r → bstR sd ln T q m ≤ T (q + ln r)
  | 0, r, h, _ => absurd h (Nat.not_lt_zero r)
  | m + 1, r, h, hs => by
    unfold bstR
    rcases Nat.lt_or_ge r m with g | g
    · have ih := bstR_lb (ln := ln) (T := T) m r g hs
      by_cases hm : sd q m
      · rw [cif_t hm]; exact Nat.le_trans (Nat.min_le_left _ _) ih
      · rw [cif_f hm]; exact ih
    · have e : r = m := by omega
      subst e
      rw [cif_t hs]; exact Nat.min_le_right _ _
theorem bstR_ge {sd : Nat → Nat → Prop} {ln : Nat → Nat} {T : Nat → Nat} {q v : Nat} (h0 : v ≤ T (q + 1)) : ∀ m, (∀ r, r < m → sd q r → v ≤ T (q + ln r)) → v ≤ bstR sd ln T q m
  | 0, _ => h0
  | m + 1, h => by
    have ih := bstR_ge (sd := sd) (ln := ln) h0 m (fun r hr => h r (by omega))
    unfold bstR
    by_cases hm : sd q m
    · rw [cif_t hm]; exact Nat.le_min.mpr ⟨ih, h m (by omega) hm⟩
    · rw [cif_f hm]; exact ih
theorem bgE_bst {T : Nat → Nat} {sd : Nat → Nat → Prop} {ln : Nat → Nat} {m j : Nat} {k0 : Int32} {len : Nat} {num : Int32} (h : bgE T (sd j) ln m j 4 k0 len num) (hl : ∀ r, r < m → ln r ≤ 4) : bstR sd ln T j m = T (j + len) := by
  obtain ⟨h1, h2, h3, h4⟩ := h
  apply Nat.le_antisymm
  · rcases h4 with ⟨e, -⟩ | ⟨r, hr, hs, e, -⟩
    · rw [e]; exact bstR_le m
    · rw [← e]; exact bstR_lb m r hr hs
  · exact bstR_ge h2 m (fun r hr hs => (h3 r hr hs (hl r hr)).1)
theorem pkC_p {T : Nat → Nat} {sd : Nat → Nat → Prop} {ln : Nat → Nat} {q : Nat} {k0 : Int32} : ∀ m, (((pkC T sd ln q k0 m).1 = 1 ∧ (pkC T sd ln q k0 m).2 = k0) ∨ ∃ r, r < m ∧ sd q r ∧ 1 + T (q + ln r) = T q ∧ (pkC T sd ln q k0 m).1 = ln r ∧ (pkC T sd ln q k0 m).2 = nI (16 + r)) ∧ ∀ r, r < m → sd q r → 1 + T (q + ln r) = T q → ln r ≤ (pkC T sd ln q k0 m).1
  | 0 => ⟨Or.inl ⟨rfl, rfl⟩, fun r h => absurd h (Nat.not_lt_zero r)⟩
  | m + 1 => by
    obtain ⟨i1, i2⟩ := pkC_p (T := T) (sd := sd) (ln := ln) (q := q) (k0 := k0) m
    unfold pkC
    by_cases hc : (pkC T sd ln q k0 m).1 < ln m ∧ sd q m ∧ 1 + T (q + ln m) = T q
    · rw [cif_t hc]
      refine ⟨Or.inr ⟨m, Nat.lt_succ_self m, hc.2.1, hc.2.2, rfl, rfl⟩, fun r hr hs hg => ?_⟩
      show ln r ≤ ln m
      rcases Nat.lt_or_ge r m with g | g
      · have := i2 r g hs hg
        omega
      · have e : r = m := by omega
        rw [e]; exact Nat.le_refl _
    · rw [cif_f hc]
      refine ⟨?_, fun r hr hs hg => ?_⟩
      · rcases i1 with a | ⟨r, hr, b⟩
        · exact Or.inl a
        · exact Or.inr ⟨r, by omega, b⟩
      · rcases Nat.lt_or_ge r m with g | g
        · exact i2 r g hs hg
        · have e : r = m := by omega
          subst e
          exact Nat.not_lt.mp (fun h9 => hc ⟨h9, hs, hg⟩)
theorem bgE_pkC {T : Nat → Nat} {sd : Nat → Nat → Prop} {ln : Nat → Nat} {m j : Nat} {k0 : Int32} {len : Nat} {num : Int32} (h : bgE T (sd j) ln m j 4 k0 len num) (hl : ∀ r, r < m → 2 ≤ ln r ∧ ln r ≤ 4) (hT : T j = 1 + T (j + len)) (hu : ∀ r r', r < m → r' < m → sd j r → sd j r' → ln r = ln r' → r = r') : pkC T sd ln j k0 m = (len, num) := by
  obtain ⟨h1, h2, h3, h4⟩ := h
  obtain ⟨i1, i2⟩ := pkC_p (T := T) (sd := sd) (ln := ln) (q := j) (k0 := k0) m
  rcases h4 with ⟨e, en⟩ | ⟨r, hr, hs, e, en⟩
  · subst e
    rcases i1 with a | ⟨r, hr, hs, hg, e1, e2⟩
    · exact Prod.ext a.1 (a.2.trans en.symm)
    · have := (h3 r hr hs (hl r hr).2).2 (by omega)
      have := (hl r hr).1
      omega
  · have hlen := i2 r hr hs (by rw [e]; omega)
    have h2r := (hl r hr).1
    rcases i1 with a | ⟨r', hr', hs', hg', e1, e2⟩
    · have := a.1
      omega
    · have h9 := (h3 r' hr' hs' (hl r' hr').2).2 (by omega)
      have e3 : r' = r := hu r' r hr' hr hs' hs (by omega)
      subst e3
      exact Prod.ext (by rw [e1]; exact e) (by rw [e2, en])
/-! rows that stand, by their numbers -/
theorem rcR_le {n : Nat} {kd L : Nat → Nat} {j R R' : Nat} (h : rcR n kd L j R) (h1 : 1 ≤ R') (h2 : R' ≤ R) : rcR n kd L j R' := ⟨⟨h1, by have := h.1.2; omega⟩, by have := h.2.1; omega, fun i a b => h.2.2.1 i a (by omega), fun i a => h.2.2.2 i (by omega)⟩
theorem rcE_le {n : Nat} {kd L : Nat → Nat} {j R R' : Nat} (h : rcE n kd L j R) (h' : rcR n kd L j R') : R' ≤ R := by
  rcases Nat.lt_or_ge R R' with g | g
  · exact absurd (rcR_le h' (by omega) g) h.2
  · exact g
abbrev kdN (σ : AIn) (p : Nat) : Nat → Nat := fun k => nv (σ 3 (40 * p + k))
abbrev ldN (σ : AIn) (p : Nat) : Nat → Nat := fun t => cnt (sz σ p) (k3 σ p) (k4 σ p) t
abbrev kpN (σ : AIn) (p j : Nat) : Nat → Nat := fun i => nv (σ 3 (40 * p + (j + i)))
theorem ld0 {σ : AIn} {p t : Nat} : ¬ led σ p t ↔ ldN σ p t = 0 := by
  rw [led_cnt]
  show ¬ 0 < cnt _ _ _ t ↔ cnt _ _ _ t = 0
  omega
theorem st_R {σ : AIn} (V : iP σ) {p j r R : Nat} (hp : p < 3) {F : Nat → Int32} (hF : jOk F (5 * r)) (hR : rcE (sz σ p) (kdN σ p) (ldN σ p) j R) (hs : sdp σ F p j r) : rln F r ≤ R := by
  have h2 := hF.1.1
  refine rcE_le hR ⟨⟨by unfold rln; omega, hF.ln⟩, hs.1, fun i a b => ?_, fun i a => ?_⟩
  · exact ld0.mp ((hs.2 i b).2 a)
  · have a : i + 1 < nv (F (5 * r)) := a
    have e := (hs.2 i (by omega)).1
    show ¬ isLs (nv (σ 3 (40 * p + (j + i))))
    rw [← Nat.add_assoc, e]
    exact (hF.2.1 i (by omega)).2 a
theorem st_iff {σ : AIn} (V : iP σ) {p j r R l : Nat} (hp : p < 3) {F : Nat → Int32} (hF : jOk F (5 * r)) (hR : rcE (sz σ p) (kdN σ p) (ldN σ p) j R) (h1 : 1 ≤ l) (h2 : l ≤ R) : (sdp σ F p j r ∧ rln F r = l) ↔ eR F (5 * r) = e5 (kpN σ p j) l := by
  have hR4 := hR.1.1.2
  have hRn := hR.1.2.1
  have hk : ∀ i, i < l → isN (σ 3 (40 * p + (j + i))) 15 := fun i hi => (V.2.2.1 p (j + i) hp (by omega)).1
  constructor
  · rintro ⟨hs, hl⟩
    unfold eR
    have hl : nv (F (5 * r)) = l := hl
    rw [hl]
    refine e5_congr (fun i hi => ?_)
    have e := (hs.2 i (by omega)).1
    show nv (F (5 * r + 1 + i)) = nv (σ 3 (40 * p + (j + i)))
    rw [← e, Nat.add_assoc]
  · intro e
    obtain ⟨e1, e2⟩ := e5_inj hF.ln hF.kd (by omega) (fun i hi => (hk i hi).2) e
    have hr := rcR_le hR.1 h1 h2
    refine ⟨⟨by rw [e1]; exact hr.2.1, fun k hk2 => ⟨?_, fun h0 => ?_⟩⟩, e1⟩
    · have q1 := (hk k (by omega)).1
      have q2 := (hF.2.1 k hk2).1.1
      have q3 : nv (F (5 * r + 1 + k)) = nv (σ 3 (40 * p + (j + k))) := e2 k hk2
      rw [Nat.add_assoc, q1, q2, q3]
    · exact ld0.mpr (hr.2.2.1 k h0 (by omega))
/-- two rows of one length that stand at one place are one -/
theorem st_one {σ : AIn} (V : iJ σ) {p j r r' : Nat} (hr : r < nj σ) (hr' : r' < nj σ) (hs : sdp σ (σ 7) p j r) (hs' : sdp σ (σ 7) p j r') (e : rln (σ 7) r = rln (σ 7) r') : r = r' := by
  have e : nv (σ 7 (5 * r)) = nv (σ 7 (5 * r')) := e
  have o := V.2.1 r hr
  have o' := V.2.1 r' hr'
  refine V.2.2 r r' hr hr' (fun i hi => ?_)
  by_cases h0 : i = 0
  · subst h0
    show σ 7 (5 * r) = σ 7 (5 * r')
    rw [o.1.2.1, o'.1.2.1, e]
  · obtain ⟨k, rfl⟩ : ∃ k, i = 1 + k := ⟨i - 1, by omega⟩
    rw [← Nat.add_assoc, ← Nat.add_assoc]
    by_cases hk : k < nv (σ 7 (5 * r))
    · rw [← (hs.2 k hk).1, ← (hs'.2 k (by omega)).1]
    · rw [o.2.2 k (by omega) (by omega), o'.2.2 k (by omega) (by omega)]
