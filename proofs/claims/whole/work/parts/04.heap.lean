/-! rules of the abstract machine that read or write cells -/
theorem am_at.kept {D : va_G} {t : Nat → ClassId} {ad : Nat → Nat} {q : Nat × Nat} {Ik : Nat → Int32} {Pk : Nat → Option Nat} {a : Nat} {H H1 : Heap} (h : am_at D t ad q Ik Pk a H) (hq : H1[a]? = H[a]?) : am_at D t ad q Ik Pk a H1 := by
  unfold am_at at h ⊢
  split at h
  · trivial
  · obtain ⟨r, h1, h2⟩ := h
    exact ⟨r, h1, h2.kept hq⟩
  · rw [hq]; exact h
  · rw [hq]; exact h
  · rw [hq]; exact h
  · rw [hq]; exact h
  · exact h.elim
theorem am_at.lt {D : va_G} {t : Nat → ClassId} {ad : Nat → Nat} {q : Nat × Nat} {Ik : Nat → Int32} {Pk : Nat → Option Nat} {a : Nat} {H : Heap} (h : am_at D t ad q Ik Pk a H) (hq : q.1 ≠ 0) : a < H.size := by
  unfold am_at at h
  split at h
  · next e => exact absurd e hq
  · obtain ⟨r, h1, cell, h2, -⟩ := h
    exact (Array.getElem?_eq_some_iff.mp h2).1
  · exact (Array.getElem?_eq_some_iff.mp h).1
  · exact (Array.getElem?_eq_some_iff.mp h).1
  · exact (Array.getElem?_eq_some_iff.mp h).1
  · exact (Array.getElem?_eq_some_iff.mp h).1
  · exact h.elim
theorem am_W.at {D : va_G} {t : Nat → ClassId} {A : Nat → Prop} {ad : Nat → Nat} {sh : ASh} {I : AIn} {P : APt} {H : Heap} (h : am_W D t A ad sh I P H) {k : Nat} {q : Nat × Nat} (e : sh k = q) : am_at D t ad q (I k) (P k) (ad k) H := e ▸ h.2.2.2 k
theorem am_W.setI {D : va_G} {t : Nat → ClassId} {A : Nat → Prop} {ad : Nat → Nat} {sh : ASh} {I : AIn} {P : APt} {H H1 : Heap} (h : am_W D t A ad sh I P H) {q : Nat} {f : Nat → Int32} (hq : (sh q).1 ≠ 0) (hat : am_at D t ad (sh q) f (P q) (ad q) H1) (oq : ∀ a, a ≠ ad q → H1[a]? = H[a]?) : am_W D t A ad sh (va_up I q f) P H1 := by
  refine ⟨h.1, h.2.1, h.2.2.1, fun k => ?_⟩
  by_cases hk : k = q
  · subst hk
    simp only [va_up, if_true]
    exact hat
  · have e : va_up I q f k = I k := by simp [va_up, hk]
    rw [e]
    by_cases hb : (sh k).1 = 0
    · unfold am_at
      rw [hb]
      trivial
    · exact (h.2.2.2 k).kept (oq _ (fun z => hk (h.2.1 k q hb hq z)))
theorem am_W.setP {D : va_G} {t : Nat → ClassId} {A : Nat → Prop} {ad : Nat → Nat} {sh : ASh} {I : AIn} {P : APt} {H H1 : Heap} (h : am_W D t A ad sh I P H) {q : Nat} {f : Nat → Option Nat} (hq : (sh q).1 ≠ 0) (hf : ∀ j z, f j = some z → (sh z).1 ≠ 0) (hat : am_at D t ad (sh q) (I q) f (ad q) H1) (oq : ∀ a, a ≠ ad q → H1[a]? = H[a]?) : am_W D t A ad sh I (va_up P q f) H1 := by
  refine ⟨h.1, h.2.1, fun k j z hk hz => ?_, fun k => ?_⟩
  · by_cases hkq : k = q
    · subst hkq
      simp only [va_up, if_true] at hz
      exact hf j z hz
    · simp only [va_up, hkq, if_false] at hz
      exact h.2.2.1 k j z hk hz
  · by_cases hk : k = q
    · subst hk
      simp only [va_up, if_true]
      exact hat
    · have e : va_up P q f k = P k := by simp [va_up, hk]
      rw [e]
      by_cases hb : (sh k).1 = 0
      · unfold am_at
        rw [hb]
        trivial
      · exact (h.2.2.2 k).kept (oq _ (fun z => hk (h.2.1 k q hb hq z)))
theorem am_rf_up {sh : ASh} {ad : Nat → Nat} {k a : Nat} {q : Option Nat} (hk : (sh k).1 = 0) (hq : ∀ z, q = some z → (sh z).1 ≠ 0) : am_rf (va_up ad k a) q = am_rf ad q := by
  cases q with
  | none => rfl
  | some z =>
    have hz : z ≠ k := fun e => hq z rfl (by rw [e]; exact hk)
    simp [am_rf, va_up, hz]
theorem cv_up {sh : ASh} {ad : Nat → Nat} {k a : Nat} {v : Value} (hk : (sh k).1 = 0) (hv : am_ok sh v) : cv (va_up ad k a) v = cv ad v := by
  cases v with
  | ref z =>
    have hz : z ≠ k := fun e => hv (by rw [e]; exact hk)
    simp [cv, va_up, hz]
  | _ => rfl
theorem am_W.born {D : va_G} {t : Nat → ClassId} {A : Nat → Prop} {ad : Nat → Nat} {sh : ASh} {I : AIn} {P : APt} {H H1 : Heap} (h : am_W D t A ad sh I P H) {k : Nat} {q : Nat × Nat} (hk : (sh k).1 = 0) (hA : A H.size) (hat : am_at D t (va_up ad k H.size) q (fun _ => 0) (fun _ => none) H.size H1) (o1 : ∀ a, a < H.size → H1[a]? = H[a]?) :
    am_W D t A (va_up ad k H.size) (va_up sh k q) (va_up I k (fun _ => 0)) (va_up P k (fun _ => none)) H1 := by
  have lt : ∀ z, (sh z).1 ≠ 0 → ad z < H.size := fun z hz => (h.2.2.2 z).lt hz
  refine ⟨fun z hz => ?_, fun i j hi hj e => ?_, fun z j y hz hy => ?_, fun z => ?_⟩
  · by_cases e : z = k
    · subst e
      simp only [va_up, if_true]
      exact hA
    · simp only [va_up, e, if_false] at hz ⊢
      exact h.1 z hz
  · by_cases ei : i = k
    · by_cases ej : j = k
      · rw [ei, ej]
      · simp only [va_up, ei, ej, if_true, if_false] at hj e
        have := lt j hj
        omega
    · by_cases ej : j = k
      · simp only [va_up, ei, ej, if_true, if_false] at hi e
        have := lt i hi
        omega
      · simp only [va_up, ei, ej, if_false] at hi hj e
        exact h.2.1 i j hi hj e
  · by_cases ez : z = k
    · simp only [va_up, ez, if_true] at hy
      cases hy
    · simp only [va_up, ez, if_false] at hz hy
      have hb := h.2.2.1 z j y hz hy
      have ey : y ≠ k := fun e => hb (by rw [e]; exact hk)
      simp only [va_up, ey, if_false]
      exact hb
  · by_cases ez : z = k
    · subst ez
      simp only [va_up, if_true]
      exact hat
    · have e1 : va_up sh k q z = sh z := by simp [va_up, ez]
      have e2 : va_up I k (fun _ => 0) z = I z := by simp [va_up, ez]
      have e3 : va_up P k (fun _ => none) z = P z := by simp [va_up, ez]
      have e4 : va_up ad k H.size z = ad z := by simp [va_up, ez]
      rw [e1, e2, e3, e4]
      by_cases hb : (sh z).1 = 0
      · unfold am_at
        rw [hb]
        trivial
      · have hr : ∀ j, am_rf (va_up ad k H.size) (P z j) = am_rf ad (P z j) := fun j => am_rf_up hk (fun y hy => h.2.2.1 z j y hb hy)
        have h9 := (h.2.2.2 z).kept (o1 _ (lt z hb))
        unfold am_at at h9 ⊢
        split at h9
        · trivial
        · obtain ⟨r, g1, g2⟩ := h9
          refine ⟨r, g1, g2.to fun j _ => ?_⟩
          simp only [am_ov, hr]
        · exact h9
        · exact h9
        · simp only [hr]; exact h9
        · simp only [hr]; exact h9
        · exact h9
theorem am_E.up {sh0 : ASh} {ad0 : Nat → Nat} {sh : ASh} {ad : Nat → Nat} {k a : Nat} {q : Nat × Nat} (h : am_E sh0 ad0 sh ad) (hk : (sh k).1 = 0) : am_E sh0 ad0 (va_up sh k q) (va_up ad k a) := fun z hz => by
  have h1 := h z hz
  have e : z ≠ k := fun e => h1.1 (by rw [e]; exact hk)
  simp only [va_up, e, if_false]
  exact h1
theorem am_ok_up {sh : ASh} {k : Nat} {q : Nat × Nat} {v : Value} (hk : (sh k).1 = 0) (h : am_ok sh v) : am_ok (va_up sh k q) v := by
  cases v with
  | ref z =>
    have e : z ≠ k := fun e => h (by rw [e]; exact hk)
    simp only [am_ok, va_up, e, if_false]
    exact h
  | _ => exact h
/-- a field of a kind of object: its place in the constants, and what the tables say of it -/
def am_F (own : String) (idx ci f : Nat) (fin : Bool) : Prop := ∃ (C : String) (T : u_T) (N : Nat), am_cl[ci]? = some (C, T, N) ∧ f < N ∧ (∀ w ∈ u_ws C T N, w ∈ am_tb) ∧ Cond.fieldLink own idx (T f).1 (T f).2.1 (T f).2.2.1 ∈ am_tb ∧ (T f).2.2.2 = fin ∧ (∀ k, k < N → parseFieldDescriptor (T k).2.2.1 = some (am_ty ci k)) ∧ (∀ a, a < N → ∀ b, b < N → a ≠ b → (T a).2.1 ≠ (T b).2.1) ∧ (fin = true → (T f).1 = own)
def am_G (own : String) (idx ci f : Nat) : Prop := ∃ (C : String) (T : u_T) (N : Nat), am_cl[ci]? = some (C, T, N) ∧ f < N ∧ (∀ w ∈ u_ws C T N, w ∈ am_tb) ∧ Cond.fieldLink own idx (T f).1 (T f).2.1 (T f).2.2.1 ∈ am_tb
theorem am_F.g {own : String} {idx ci f : Nat} {fin : Bool} (h : am_F own idx ci f fin) : am_G own idx ci f := by
  obtain ⟨C, T, N, h1, h2, h3, h4, -⟩ := h
  exact ⟨C, T, N, h1, h2, h3, h4⟩
section AMH
variable {mi : MI} {post : APo} {fr lo c0 s0 pc : Nat} {lv : List (Option Value)} {st : List Value} {sh : ASh} {I : AIn} {P : APt}
theorem r_iaload {q n : Nat} {x : Int32} (i : Nat) (d : decode mi.2.1 pc = .ok (.iaload, 1)) (hs : sh q = (2, n)) (hx : x = nI i) (hi : i < n) (hn : n < 2147483648) (k : am_R mi post fr lo c0 s0 (pc + 1) lv (.int (I q i) :: st) sh I P) : am_R mi post fr lo c0 s0 pc lv (.int x :: .ref q :: st) sh I P := by
  intro l p e R s m args below meth c D t A sh0 ad0 ad mc ms H locs cells slots ls C hc0 hs0 X
  obtain ⟨hx0, hb, hml, hr, hown, hts, hlk, hnm, hroom, hN, hA⟩ := id C
  obtain ⟨x1, x2, x3, x4, x5, x6⟩ := X
  subst hx
  have hc : H[ad q]? = some (arrV (t 0) n (fun j => .int (I q j))) := x1.at hs
  exact W.iald (v := .int (I q i)) hx0 hb hc ((hN.1.2 0 _ rfl).1 n _) (fun h => by cases h) (by show ¬ (_ ∨ (arrV _ _ _).slots.size ≤ _); rw [arrV_size]; exact vp_in_nI hi hn) (by rw [nI_clamp (by omega)]; exact arrV_read _ _ hi) rfl rfl d
    (k l p e R s m args below meth c D t A sh0 ad0 ad mc ms H locs cells slots ls C hc0 hs0 ⟨x1, x2, x3, x4, am_okc trivial (am_okt (am_okt x5)), x6⟩)
theorem r_baload {q n : Nat} {x : Int32} (i : Nat) (d : decode mi.2.1 pc = .ok (.baload, 1)) (hs : sh q = (3, n)) (hx : x = nI i) (hi : i < n) (hn : n < 2147483648) (k : am_R mi post fr lo c0 s0 (pc + 1) lv (.int (I q i) :: st) sh I P) : am_R mi post fr lo c0 s0 pc lv (.int x :: .ref q :: st) sh I P := by
  intro l p e R s m args below meth c D t A sh0 ad0 ad mc ms H locs cells slots ls C hc0 hs0 X
  obtain ⟨hx0, hb, hml, hr, hown, hts, hlk, hnm, hroom, hN, hA⟩ := id C
  obtain ⟨x1, x2, x3, x4, x5, x6⟩ := X
  subst hx
  have hc : H[ad q]? = some (arrV (t 1) n (fun j => .int (I q j))) := x1.at hs
  exact W.zald (v := .int (I q i)) hx0 hb hc ((hN.1.2 1 _ rfl).1 n _) (fun h => by cases h) (by show ¬ (_ ∨ (arrV _ _ _).slots.size ≤ _); rw [arrV_size]; exact vp_in_nI hi hn) (by rw [nI_clamp (by omega)]; exact arrV_read _ _ hi) rfl rfl d
    (k l p e R s m args below meth c D t A sh0 ad0 ad mc ms H locs cells slots ls C hc0 hs0 ⟨x1, x2, x3, x4, am_okc trivial (am_okt (am_okt x5)), x6⟩)
theorem am_arrset (c : ClassId) (n i : Nat) (f : Nat → Int32) (y : Int32) : (arrV c n (fun j => .int (f j))).setSlot i (.int y) = arrV c n (fun j => .int (upd f i y j)) := by
  rw [arrV_store]
  congr 1
  funext j
  by_cases hj : j = i <;> simp [updV, upd, hj]
theorem r_iastore {q n : Nat} {x y : Int32} (i : Nat) (d : decode mi.2.1 pc = .ok (.iastore, 1)) (hs : sh q = (2, n)) (hx : x = nI i) (hi : i < n) (hn : n < 2147483648) (k : am_R mi post fr lo c0 s0 (pc + 1) lv st sh (va_up I q (upd (I q) i y)) P) : am_R mi post fr lo c0 s0 pc lv (.int y :: .int x :: .ref q :: st) sh I P := by
  intro l p e R s m args below meth c D t A sh0 ad0 ad mc ms H locs cells slots ls C hc0 hs0 X
  obtain ⟨hx0, hb, hml, hr, hown, hts, hlk, hnm, hroom, hN, hA⟩ := id C
  obtain ⟨x1, x2, x3, x4, x5, x6⟩ := X
  subst hx
  have hc : H[ad q]? = some (arrV (t 0) n (fun j => .int (I q j))) := x1.at hs
  refine W.iast (x := y) hx0 hb hc ((hN.1.2 0 _ rfl).1 n _) (fun h => by cases h) (by show ¬ (_ ∨ (arrV _ _ _).slots.size ≤ _); rw [arrV_size]; exact vp_in_nI hi hn) rfl rfl d (fun H1 e1 z1 o1 => ?_)
  rw [nI_clamp (by omega), am_arrset] at e1
  refine k l p e R s m args below meth c D t A sh0 ad0 ad mc ms H1 _ cells slots ls C hc0 hs0 ⟨x1.setI (by rw [hs]; exact Nat.succ_ne_zero _) (by rw [hs]; exact e1) o1, x2, x3.put z1 o1 (x1.1 q (by rw [hs]; exact Nat.succ_ne_zero _)), x4, am_okt (am_okt (am_okt x5)), x6⟩
theorem r_bastore {q n : Nat} {x y : Int32} (i : Nat) (d : decode mi.2.1 pc = .ok (.bastore, 1)) (hs : sh q = (3, n)) (hx : x = nI i) (hi : i < n) (hn : n < 2147483648) (hy : narrow .boolean (.int y) = .int y) (k : am_R mi post fr lo c0 s0 (pc + 1) lv st sh (va_up I q (upd (I q) i y)) P) : am_R mi post fr lo c0 s0 pc lv (.int y :: .int x :: .ref q :: st) sh I P := by
  intro l p e R s m args below meth c D t A sh0 ad0 ad mc ms H locs cells slots ls C hc0 hs0 X
  obtain ⟨hx0, hb, hml, hr, hown, hts, hlk, hnm, hroom, hN, hA⟩ := id C
  obtain ⟨x1, x2, x3, x4, x5, x6⟩ := X
  subst hx
  have hc : H[ad q]? = some (arrV (t 1) n (fun j => .int (I q j))) := x1.at hs
  refine W.zast (x := y) hx0 hb hc ((hN.1.2 1 _ rfl).1 n _) (fun h => by cases h) (by show ¬ (_ ∨ (arrV _ _ _).slots.size ≤ _); rw [arrV_size]; exact vp_in_nI hi hn) rfl rfl d (fun H1 e1 z1 o1 => ?_)
  rw [nI_clamp (by omega), hy, am_arrset] at e1
  refine k l p e R s m args below meth c D t A sh0 ad0 ad mc ms H1 _ cells slots ls C hc0 hs0 ⟨x1.setI (by rw [hs]; exact Nat.succ_ne_zero _) (by rw [hs]; exact e1) o1, x2, x3.put z1 o1 (x1.1 q (by rw [hs]; exact Nat.succ_ne_zero _)), x4, am_okt (am_okt (am_okt x5)), x6⟩
theorem am_obj {D : va_G} {t : Nat → ClassId} {A : Nat → Prop} {ad : Nat → Nat} {sh : ASh} {I : AIn} {P : APt} {H : Heap} {q ci : Nat} {C : String} {T : u_T} {N : Nat} (h : am_W D t A ad sh I P H) (hs : sh q = (1, ci)) (hc : am_cl[ci]? = some (C, T, N)) : va_P D am_cl [(ad q, .inr (ci, (List.range N).map (am_ov ci ad (I q) (P q))))] H := by
  intro k x hk
  have hz : k < 1 := (List.getElem?_eq_some_iff.mp hk).1
  rw [show k = 0 by omega] at hk
  cases hk
  obtain ⟨r, h1, h2⟩ := h.at hs
  have hr : r = (C, T, N) := Option.some.inj (h1.symm.trans hc)
  subst hr
  refine ⟨_, hc, h2.to fun j hj => ?_⟩
  have hj' : j < N := hj
  simp [vp_V, hj']
theorem r_getI {q ci f idx : Nat} (d : decode mi.2.1 pc = .ok (.getfield idx, 3)) (hF : am_G mi.1.cls idx ci f) (hs : sh q = (1, ci)) (ht : am_isR (am_ty ci f) = false) (k : am_R mi post fr lo c0 s0 (pc + 3) lv (.int (I q f) :: st) sh I P) : am_R mi post fr lo c0 s0 pc lv (.ref q :: st) sh I P := by
  intro l p e R s m args below meth c D t A sh0 ad0 ad mc ms H locs cells slots ls C hc0 hs0 X
  obtain ⟨hx0, hb, hml, hr, hown, hts, hlk, hnm, hroom, hN, hA⟩ := id C
  obtain ⟨x1, x2, x3, x4, x5, x6⟩ := X
  obtain ⟨C1, T1, N1, g1, g2, g3, g4⟩ := hF
  exact va_get (v := .int (I q f)) hx0 hb hts g3 hown hN.1 (am_obj x1 hs g1) 0 rfl g1 f g2 (hts _ g4) (fun _ h9 => h9) (by simp [g2, am_ov, ht]) d
    (k l p e R s m args below meth c D t A sh0 ad0 ad mc ms H locs cells slots ls C hc0 hs0 ⟨x1, x2, x3, x4, am_okc trivial (am_okt x5), x6⟩)
theorem r_getP {q ci f idx z : Nat} (d : decode mi.2.1 pc = .ok (.getfield idx, 3)) (hF : am_G mi.1.cls idx ci f) (hs : sh q = (1, ci)) (ht : am_isR (am_ty ci f) = true) (hp : P q f = some z) (k : am_R mi post fr lo c0 s0 (pc + 3) lv (.ref z :: st) sh I P) : am_R mi post fr lo c0 s0 pc lv (.ref q :: st) sh I P := by
  intro l p e R s m args below meth c D t A sh0 ad0 ad mc ms H locs cells slots ls C hc0 hs0 X
  obtain ⟨hx0, hb, hml, hr, hown, hts, hlk, hnm, hroom, hN, hA⟩ := id C
  obtain ⟨x1, x2, x3, x4, x5, x6⟩ := X
  obtain ⟨C1, T1, N1, g1, g2, g3, g4⟩ := hF
  exact va_get (v := .ref (ad z)) hx0 hb hts g3 hown hN.1 (am_obj x1 hs g1) 0 rfl g1 f g2 (hts _ g4) (fun _ h9 => h9) (by simp [g2, am_ov, ht, hp, am_rf]) d
    (k l p e R s m args below meth c D t A sh0 ad0 ad mc ms H locs cells slots ls C hc0 hs0 ⟨x1, x2, x3, x4, am_okc (x1.2.2.1 q f z (by rw [hs]; exact Nat.one_ne_zero) hp) (am_okt x5), x6⟩)
theorem am_ov_setI {ci f : Nat} {ad : Nat → Nat} {Ik : Nat → Int32} {Pk : Nat → Option Nat} {y : Int32} (ht : am_isR (am_ty ci f) = false) (j : Nat) : updV (am_ov ci ad Ik Pk) f (.int y) j = am_ov ci ad (upd Ik f y) Pk j := by
  by_cases hj : j = f
  · subst hj
    simp [updV, am_ov, upd, ht]
  · simp [updV, am_ov, upd, hj]
theorem am_ov_setP {ci f : Nat} {ad : Nat → Nat} {Ik : Nat → Int32} {Pk : Nat → Option Nat} {y : Option Nat} (ht : am_isR (am_ty ci f) = true) (j : Nat) : updV (am_ov ci ad Ik Pk) f (am_rf ad y) j = am_ov ci ad Ik (va_up Pk f y) j := by
  by_cases hj : j = f
  · subst hj
    simp [updV, am_ov, va_up, ht]
  · simp [updV, am_ov, va_up, hj]
theorem r_putI {q ci f idx : Nat} {y : Int32} (d : decode mi.2.1 pc = .ok (.putfield idx, 3)) (hF : am_F mi.1.cls idx ci f false) (hs : sh q = (1, ci)) (ht : am_isR (am_ty ci f) = false) (hn : narrow (am_ty ci f) (.int y) = .int y) (hfit : fits (am_ty ci f) (.int y) = true) (k : am_R mi post fr lo c0 s0 (pc + 3) lv st sh (va_up I q (upd (I q) f y)) P) : am_R mi post fr lo c0 s0 pc lv (.int y :: .ref q :: st) sh I P := by
  intro l p e R s m args below meth c D t A sh0 ad0 ad mc ms H locs cells slots ls C hc0 hs0 X
  obtain ⟨hx0, hb, hml, hr, hown, hts, hlk, hnm, hroom, hN, hA⟩ := id C
  obtain ⟨x1, x2, x3, x4, x5, x6⟩ := X
  obtain ⟨C1, T1, N1, g1, g2, g3, g4, g5, g6, g7, -⟩ := hF
  have hap := va_apart (own := mi.1.cls) hts g3 (am_ty ci) g6 g7 hN.1 g1
  obtain ⟨r, h1, cell, q1, q2, q3, q4⟩ := x1.at hs
  have hr : r = (C1, T1, N1) := Option.some.inj (h1.symm.trans g1)
  subst hr
  obtain ⟨hS, hfc, kC, hkC, hkind⟩ := hN.1.1 ci _ g1
  obtain ⟨cf, kf, fi, fd, hi, hsl⟩ := hS f g2
  have hlay := hts _ (g3 _ (u_in_lay g2))
  unfold u_lay at hlay
  rw [if_neg (by rw [g5]; decide)] at hlay
  have hst := (u_facts hfc hkC (u_lays hts g3 g2) hi).1
  have h6 := u_store hfc hkC hkind hlay hi (g6 f g2) hn hfit
  refine W.putK hx0 hb (f := fd) ⟨hown, hts _ g4, ⟨_, _, _, hi⟩, hst⟩ (by rw [q2]; exact h6) q1 q3 (by rw [hsl]; exact k2_hasslot (q4 f g2)) rfl rfl d fun H1 e1 e2 e3 => ?_
  rw [hsl] at e1 ⊢
  refine k l p e R s m args below meth c D t A sh0 ad0 ad mc ms H1 _ cells slots ls C hc0 hs0 ⟨x1.setI (by rw [hs]; exact Nat.one_ne_zero) (by rw [hs]; exact ⟨_, g1, t_OB.to (V := updV (am_ov ci ad (I q) (P q)) f (.int y)) ⟨_, e1, q2, q3, t_set q4 hap g2 (.int y)⟩ (fun j _ => am_ov_setI ht j)⟩) e3, x2, x3.put e2 e3 (x1.1 q (by rw [hs]; exact Nat.one_ne_zero)), x4, am_okt (am_okt x5), x6⟩
theorem r_putP {q ci f idx z : Nat} (d : decode mi.2.1 pc = .ok (.putfield idx, 3)) (hF : am_F mi.1.cls idx ci f true) (hs : sh q = (1, ci)) (ht : am_isR (am_ty ci f) = true) (hin : mi.1.name = "<init>") (hn : ∀ a, narrow (am_ty ci f) (.ref a) = .ref a) (hfit : ∀ a, fits (am_ty ci f) (.ref a) = true) (k : am_R mi post fr lo c0 s0 (pc + 3) lv st sh I (va_up P q (va_up (P q) f (some z)))) : am_R mi post fr lo c0 s0 pc lv (.ref z :: .ref q :: st) sh I P := by
  intro l p e R s m args below meth c D t A sh0 ad0 ad mc ms H locs cells slots ls C hc0 hs0 X
  obtain ⟨hx0, hb, hml, hr, hown, hts, hlk, hnm, hroom, hN, hA⟩ := id C
  obtain ⟨x1, x2, x3, x4, x5, x6⟩ := X
  obtain ⟨C1, T1, N1, g1, g2, g3, g4, g5, g6, g7, g8⟩ := hF
  have hap := va_apart (own := mi.1.cls) hts g3 (am_ty ci) g6 g7 hN.1 g1
  obtain ⟨r, h1, cell, q1, q2, q3, q4⟩ := x1.at hs
  have hr : r = (C1, T1, N1) := Option.some.inj (h1.symm.trans g1)
  subst hr
  obtain ⟨hS, hfc, kC, hkC, hkind⟩ := hN.1.1 ci _ g1
  obtain ⟨cf, kf, fi, fd, hi, hsl⟩ := hS f g2
  have hlay := hts _ (g3 _ (u_in_lay g2))
  unfold u_lay at hlay
  rw [if_pos g5] at hlay
  have hst := (u_facts hfc hkC (u_lays hts g3 g2) hi).1
  have hcf : m.cls = cf := by
    obtain ⟨_, _, c', _, _, _, -, -, hf', -, -, -, hown2, -⟩ := Cond.laysFinal_spec hlay
    have e1 : c' = cf := by have := hi.symm.trans hf'; simp at this; exact this.1.symm
    rw [g8 rfl] at hown2
    rw [← e1]; exact Option.some.inj (hown.symm.trans hown2)
  have h6 := u_fits hfc hkC hkind (Or.inr hlay) hi (g6 f g2) (hn (ad z)) (hfit (ad z))
  refine W.putFinK hx0 hb hown (hts _ g4) hi hst hcf (hnm.trans hin) (by rw [q2]; exact h6) q1 q3 (by rw [hsl]; exact k2_hasslot (q4 f g2)) rfl rfl d fun H1 e1 e2 e3 => ?_
  rw [hsl] at e1 ⊢
  have hz : (sh z).1 ≠ 0 := am_okh x5
  refine k l p e R s m args below meth c D t A sh0 ad0 ad mc ms H1 _ cells slots ls C hc0 hs0 ⟨x1.setP (by rw [hs]; exact Nat.one_ne_zero) (fun j y hy => ?_) (by rw [hs]; exact ⟨_, g1, t_OB.to (V := updV (am_ov ci ad (I q) (P q)) f (am_rf ad (some z))) ⟨_, e1, q2, q3, t_set q4 hap g2 (.ref (ad z))⟩ (fun j _ => am_ov_setP ht j)⟩) e3, x2, x3.put e2 e3 (x1.1 q (by rw [hs]; exact Nat.one_ne_zero)), x4, am_okt (am_okt x5), x6⟩
  by_cases hj : j = f
  · simp only [va_up, hj, if_true] at hy
    cases hy
    exact hz
  · simp only [va_up, hj, if_false] at hy
    exact x1.2.2.1 q j y (by rw [hs]; exact Nat.one_ne_zero) hy
end AMH
