/-! rules that make cells, and arrays of references -/
section AMB
variable {mi : MI} {post : APo} {fr lo c0 s0 pc : Nat} {lv : List (Option Value)} {st : List Value} {sh : ASh} {I : AIn} {P : APt}
theorem cv_mapup {ad : Nat → Nat} {k a : Nat} {st : List Value} (hk : (sh k).1 = 0) (h : ∀ v ∈ st, am_ok sh v) : st.map (cv (va_up ad k a)) = st.map (cv ad) := List.map_congr_left (fun v hv => cv_up hk (h v hv))
theorem am_L.up {ad : Nat → Nat} {ls : Array Slot} {n k a : Nat} (h : am_L ad ls n lv) (hok : ∀ (i : Nat) (v : Value), lv[i]? = some (some v) → am_ok sh v) (hk : (sh k).1 = 0) : am_L (va_up ad k a) ls n lv := ⟨h.1, h.2.1, h.2.2.1, fun i v hv => by rw [cv_up hk (hok i v hv)]; exact h.2.2.2 i v hv⟩
theorem am_X.born {D : va_G} {t : Nat → ClassId} {A : Nat → Prop} {sh0 : ASh} {ad0 ad : Nat → Nat} {H0 H H1 : Heap} {locs : List Loc} {ls : Array Slot} {n k : Nat} {q : Nat × Nat} {st0 : List Value} (X : am_X D t A sh0 ad0 ad H0 H locs ls n lv st0 sh I P) (hst : ∀ v ∈ st, am_ok sh v) (hk : (sh k).1 = 0) (hq : q.1 ≠ 0) (hA : ∀ q, H0.size ≤ q → A q) (hat : am_at D t (va_up ad k H.size) q (fun _ => 0) (fun _ => none) H.size H1) (z1 : H1.size = H.size + 1) (o1 : ∀ a, a < H.size → H1[a]? = H[a]?) :
    am_X D t A sh0 ad0 (va_up ad k H.size) H0 H1 locs ls n lv (.ref k :: st) (va_up sh k q) (va_up I k (fun _ => 0)) (va_up P k (fun _ => none)) := by
  obtain ⟨x1, x2, x3, x4, x5, x6⟩ := X
  refine ⟨x1.born hk (hA _ x3.1) hat o1, x2.up hk, ⟨Nat.le_trans x3.1 (by omega), fun a h1 h2 => (o1 a (Nat.lt_of_lt_of_le h1 x3.1)).trans (x3.2.1 a h1 h2), x3.2.2⟩, x4.up x6 hk, am_okc ?_ (fun v hv => am_ok_up hk (hst v hv)), fun i v hv => am_ok_up hk (x6 i v hv)⟩
  simp only [am_ok, va_up, if_true]
  exact hq
theorem r_newarrI {x : Int32} (k n : Nat) (d : decode mi.2.1 pc = .ok (.newarray .int, 2)) (hw : Cond.arrayClass .int ∈ am_tb) (hk : (sh k).1 = 0) (hx : x = nI n) (hn : n ≤ 100000) (hc1 : 1 ≤ c0) (hs1 : n ≤ s0) (kk : am_R mi post fr lo (c0 - 1) (s0 - n) (pc + 2) lv (.ref k :: st) (va_up sh k (2, n)) (va_up I k (fun _ => 0)) (va_up P k (fun _ => none))) : am_R mi post fr lo c0 s0 pc lv (.int x :: st) sh I P := by
  intro l p e R s m args below meth c D t A sh0 ad0 ad mc ms H locs cells slots ls C hc0 hs0 X
  obtain ⟨hx0, hb, hml, hr, hown, hts, hlk, hnm, hroom, hN, hA⟩ := id C
  subst hx
  have hst := am_okt X.2.2.2.2.1
  refine va_newaK hx0 hb (atype := .int) (hts _ hw) rfl d rfl (nI_pos (by omega)) (nI_clamp (by omega)) (Nat.le_trans (Nat.mul_le_mul_right _ hn) (by decide)) (by omega) (by omega) rfl fun H1 cA e1 z1 o1 hAr hNm => ?_
  have hcA : cA = t 0 := Option.some.inj (hNm.symm.trans (hN.1.2 0 _ rfl).2)
  subst hcA
  have X2 := X.born (st := st) (H1 := H1) (k := k) (q := (2, n)) hst hk (Nat.succ_ne_zero _) hA e1 z1 o1
  have h9 := kk l p e R s m args below meth c D t A sh0 ad0 _ mc ms H1 locs (cells + 1) (slots + n) ls C (by omega) (by omega) X2
  rw [List.map_cons, cv_mapup hk hst, show cv (va_up ad k H.size) (.ref k) = .ref H.size by simp [cv, va_up]] at h9
  exact h9
theorem r_newarrZ {x : Int32} (k n : Nat) (d : decode mi.2.1 pc = .ok (.newarray .boolean, 2)) (hw : Cond.arrayClass .boolean ∈ am_tb) (hk : (sh k).1 = 0) (hx : x = nI n) (hn : n ≤ 100000) (hc1 : 1 ≤ c0) (hs1 : n ≤ s0) (kk : am_R mi post fr lo (c0 - 1) (s0 - n) (pc + 2) lv (.ref k :: st) (va_up sh k (3, n)) (va_up I k (fun _ => 0)) (va_up P k (fun _ => none))) : am_R mi post fr lo c0 s0 pc lv (.int x :: st) sh I P := by
  intro l p e R s m args below meth c D t A sh0 ad0 ad mc ms H locs cells slots ls C hc0 hs0 X
  obtain ⟨hx0, hb, hml, hr, hown, hts, hlk, hnm, hroom, hN, hA⟩ := id C
  subst hx
  have hst := am_okt X.2.2.2.2.1
  refine va_newaK hx0 hb (atype := .boolean) (hts _ hw) rfl d rfl (nI_pos (by omega)) (nI_clamp (by omega)) (Nat.le_trans (Nat.mul_le_mul_right _ hn) (by decide)) (by omega) (by omega) rfl fun H1 cA e1 z1 o1 hAr hNm => ?_
  have hcA : cA = t 1 := Option.some.inj (hNm.symm.trans (hN.1.2 1 _ rfl).2)
  subst hcA
  have X2 := X.born (st := st) (H1 := H1) (k := k) (q := (3, n)) hst hk (Nat.succ_ne_zero _) hA e1 z1 o1
  have h9 := kk l p e R s m args below meth c D t A sh0 ad0 _ mc ms H1 locs (cells + 1) (slots + n) ls C (by omega) (by omega) X2
  rw [List.map_cons, cv_mapup hk hst, show cv (va_up ad k H.size) (.ref k) = .ref H.size by simp [cv, va_up]] at h9
  exact h9
theorem r_anewP {x : Int32} {idx : Nat} (k n : Nat) (d : decode mi.2.1 pc = .ok (.anewarray idx, 3)) (hw : Cond.classLink mi.1.cls idx RX3 ∈ am_tb) (hk : (sh k).1 = 0) (hx : x = nI n) (hn : n ≤ 100000) (hc1 : 1 ≤ c0) (hs1 : n ≤ s0) (kk : am_R mi post fr lo (c0 - 1) (s0 - n) (pc + 3) lv (.ref k :: st) (va_up sh k (4, n)) (va_up I k (fun _ => 0)) (va_up P k (fun _ => none))) : am_R mi post fr lo c0 s0 pc lv (.int x :: st) sh I P := by
  intro l p e R s m args below meth c D t A sh0 ad0 ad mc ms H locs cells slots ls C hc0 hs0 X
  obtain ⟨hx0, hb, hml, hr, hown, hts, hlk, hnm, hroom, hN, hA⟩ := id C
  subst hx
  have hst := am_okt X.2.2.2.2.1
  have hcl : (nI n).toNatClampNeg = n := nI_clamp (by omega)
  refine W.anew hx0 hb hown (hts _ hw) (va_AO.use hN.2.1.1) rfl d rfl (nI_pos (by omega)) (by rw [hcl]; omega) (by omega) (by rw [hcl]; omega) fun cA kA comp f1 f2 f3 f4 => ?_
  obtain ⟨kA2, comp2, g1, g2, g3, g4⟩ := (hN.1.2 2 _ rfl).2
  have hcA : cA = t 2 := Option.some.inj (f1.symm.trans g4)
  subst hcA
  rw [hcl]
  generalize hH1 : H.push ({ cls := t 2, slots := Array.replicate n .null, vm := .none } : Cell) = H1
  have z1 : H1.size = H.size + 1 := by rw [← hH1, Array.size_push]
  have e1 : H1[H.size]? = some (arrV (t 2) n (fun _ => .null)) := by rw [← hH1, Array.getElem?_push_size, ← arrV_new]
  have o1 : ∀ q : Nat, q < H.size → H1[q]? = H[q]? := fun q hq => by rw [← hH1, Array.getElem?_push, if_neg (Nat.ne_of_lt hq)]
  have X2 := X.born (st := st) (H1 := H1) (k := k) (q := (4, n)) hst hk (Nat.succ_ne_zero _) hA e1 z1 o1
  have h9 := kk l p e R s m args below meth c D t A sh0 ad0 _ mc ms H1 locs (cells + 1) (slots + n) ls C (by omega) (by omega) X2
  rw [List.map_cons, cv_mapup hk hst, show cv (va_up ad k H.size) (.ref k) = .ref H.size by simp [cv, va_up]] at h9
  exact h9
theorem r_aaloadP {q n z : Nat} {x : Int32} (i : Nat) (d : decode mi.2.1 pc = .ok (.aaload, 1)) (hs : sh q = (4, n)) (hx : x = nI i) (hi : i < n) (hn : n < 2147483648) (hp : P q i = some z) (k : am_R mi post fr lo c0 s0 (pc + 1) lv (.ref z :: st) sh I P) : am_R mi post fr lo c0 s0 pc lv (.int x :: .ref q :: st) sh I P := by
  intro l p e R s m args below meth c D t A sh0 ad0 ad mc ms H locs cells slots ls C hc0 hs0 X
  obtain ⟨hx0, hb, hml, hr, hown, hts, hlk, hnm, hroom, hN, hA⟩ := id C
  obtain ⟨x1, x2, x3, x4, x5, x6⟩ := X
  subst hx
  have hc : H[ad q]? = some (arrV (t 2) n (fun j => am_rf ad (P q j))) := x1.at hs
  exact W.aald (v := .ref (ad z)) (ty := .object RX3) hx0 hb hc ((hN.1.2 2 _ rfl).1 n _) rfl (fun h => by cases h) (by show ¬ (_ ∨ (arrV _ _ _).slots.size ≤ _); rw [arrV_size]; exact vp_in_nI hi hn) (by rw [nI_clamp (by omega), arrV_read _ _ hi, hp]; rfl) rfl rfl d
    (k l p e R s m args below meth c D t A sh0 ad0 ad mc ms H locs cells slots ls C hc0 hs0 ⟨x1, x2, x3, x4, am_okc (x1.2.2.1 q i z (by rw [hs]; exact Nat.succ_ne_zero _) hp) (am_okt (am_okt x5)), x6⟩)
theorem r_aaloadPN {q n : Nat} {x : Int32} (i : Nat) (d : decode mi.2.1 pc = .ok (.aaload, 1)) (hs : sh q = (4, n)) (hx : x = nI i) (hi : i < n) (hn : n < 2147483648) (hp : P q i = none) (k : am_R mi post fr lo c0 s0 (pc + 1) lv (.null :: st) sh I P) : am_R mi post fr lo c0 s0 pc lv (.int x :: .ref q :: st) sh I P := by
  intro l p e R s m args below meth c D t A sh0 ad0 ad mc ms H locs cells slots ls C hc0 hs0 X
  obtain ⟨hx0, hb, hml, hr, hown, hts, hlk, hnm, hroom, hN, hA⟩ := id C
  obtain ⟨x1, x2, x3, x4, x5, x6⟩ := X
  subst hx
  have hc : H[ad q]? = some (arrV (t 2) n (fun j => am_rf ad (P q j))) := x1.at hs
  exact W.aald (v := .null) (ty := .object RX3) hx0 hb hc ((hN.1.2 2 _ rfl).1 n _) rfl (fun h => by cases h) (by show ¬ (_ ∨ (arrV _ _ _).slots.size ≤ _); rw [arrV_size]; exact vp_in_nI hi hn) (by rw [nI_clamp (by omega), arrV_read _ _ hi, hp]; rfl) rfl rfl d
    (k l p e R s m args below meth c D t A sh0 ad0 ad mc ms H locs cells slots ls C hc0 hs0 ⟨x1, x2, x3, x4, am_okc trivial (am_okt (am_okt x5)), x6⟩)
theorem r_aastoreP {q n z : Nat} {x : Int32} (i : Nat) (d : decode mi.2.1 pc = .ok (.aastore, 1)) (hs : sh q = (4, n)) (hz : sh z = (1, 2)) (hx : x = nI i) (hi : i < n) (hn : n < 2147483648) (k : am_R mi post fr lo c0 s0 (pc + 1) lv st sh I (va_up P q (va_up (P q) i (some z)))) : am_R mi post fr lo c0 s0 pc lv (.ref z :: .int x :: .ref q :: st) sh I P := by
  intro l p e R s m args below meth c D t A sh0 ad0 ad mc ms H locs cells slots ls C hc0 hs0 X
  obtain ⟨hx0, hb, hml, hr, hown, hts, hlk, hnm, hroom, hN, hA⟩ := id C
  obtain ⟨x1, x2, x3, x4, x5, x6⟩ := X
  subst hx
  have hc : H[ad q]? = some (arrV (t 2) n (fun j => am_rf ad (P q j))) := x1.at hs
  obtain ⟨r', hr', cellV, g1, g2, g3, -⟩ := x1.at hz
  have hcls := (hN.1.1 2 _ rfl).2
  obtain ⟨kA, comp, k1, k2, k3, -⟩ := (hN.1.2 2 _ rfl).2
  have hcomp : comp = D.1 2 := Option.some.inj (k3.symm.trans hcls.1)
  subst hcomp
  obtain ⟨kC, hkC, -⟩ := hcls.2
  have hcl : (nI i).toNatClampNeg = i := nI_clamp (by omega)
  have hzb : (sh z).1 ≠ 0 := by rw [hz]; exact Nat.one_ne_zero
  refine W.aast hx0 hb hc (fun q h => by cases h) (fun h => by cases h) k1 k2 rfl hkC ⟨nI_pos (by omega), by show _ < (arrV _ _ _).slots.size; rw [arrV_size, hcl]; exact hi⟩ g1 (fun q h => by rw [g3] at h; cases h) (by rw [g2]; exact hkC) (by rw [g2]; exact va_assign hcls) rfl rfl d fun H1 e1 z1 oq => ?_
  have e2 : H1[ad q]? = some (arrV (t 2) n (fun j => am_rf ad (va_up (P q) i (some z) j))) := by
    rw [e1, hcl, arrV_store]
    congr 2
    funext j
    by_cases hj : j = i <;> simp [updV, va_up, hj, am_rf]
  refine k l p e R s m args below meth c D t A sh0 ad0 ad mc ms H1 _ cells slots ls C hc0 hs0 ⟨x1.setP (by rw [hs]; exact Nat.succ_ne_zero _) (fun j y hy => ?_) (by rw [hs]; exact e2) oq, x2, x3.put z1 oq (x1.1 q (by rw [hs]; exact Nat.succ_ne_zero _)), x4, am_okt (am_okt (am_okt x5)), x6⟩
  by_cases hj : j = i
  · simp only [va_up, hj, if_true] at hy
    cases hy
    exact hzb
  · simp only [va_up, hj, if_false] at hy
    exact x1.2.2.1 q j y (by rw [hs]; exact Nat.succ_ne_zero _) hy
theorem r_anewS {x : Int32} {idx : Nat} (k n : Nat) (d : decode mi.2.1 pc = .ok (.anewarray idx, 3)) (hw : Cond.classLink mi.1.cls idx RX7 ∈ am_tb) (hk : (sh k).1 = 0) (hx : x = nI n) (hn : n ≤ 100000) (hc1 : 1 ≤ c0) (hs1 : n ≤ s0) (kk : am_R mi post fr lo (c0 - 1) (s0 - n) (pc + 3) lv (.ref k :: st) (va_up sh k (5, n)) (va_up I k (fun _ => 0)) (va_up P k (fun _ => none))) : am_R mi post fr lo c0 s0 pc lv (.int x :: st) sh I P := by
  intro l p e R s m args below meth c D t A sh0 ad0 ad mc ms H locs cells slots ls C hc0 hs0 X
  obtain ⟨hx0, hb, hml, hr, hown, hts, hlk, hnm, hroom, hN, hA⟩ := id C
  subst hx
  have hst := am_okt X.2.2.2.2.1
  have hcl : (nI n).toNatClampNeg = n := nI_clamp (by omega)
  refine W.anew hx0 hb hown (hts _ hw) (va_AO.use hN.2.1.2) rfl d rfl (nI_pos (by omega)) (by rw [hcl]; omega) (by omega) (by rw [hcl]; omega) fun cA kA comp f1 f2 f3 f4 => ?_
  obtain ⟨kA2, comp2, g1, g2, g3, g4⟩ := (hN.1.2 3 _ rfl).2
  have hcA : cA = t 3 := Option.some.inj (f1.symm.trans g4)
  subst hcA
  rw [hcl]
  generalize hH1 : H.push ({ cls := t 3, slots := Array.replicate n .null, vm := .none } : Cell) = H1
  have z1 : H1.size = H.size + 1 := by rw [← hH1, Array.size_push]
  have e1 : H1[H.size]? = some (arrV (t 3) n (fun _ => .null)) := by rw [← hH1, Array.getElem?_push_size, ← arrV_new]
  have o1 : ∀ q : Nat, q < H.size → H1[q]? = H[q]? := fun q hq => by rw [← hH1, Array.getElem?_push, if_neg (Nat.ne_of_lt hq)]
  have X2 := X.born (st := st) (H1 := H1) (k := k) (q := (5, n)) hst hk (Nat.succ_ne_zero _) hA e1 z1 o1
  have h9 := kk l p e R s m args below meth c D t A sh0 ad0 _ mc ms H1 locs (cells + 1) (slots + n) ls C (by omega) (by omega) X2
  rw [List.map_cons, cv_mapup hk hst, show cv (va_up ad k H.size) (.ref k) = .ref H.size by simp [cv, va_up]] at h9
  exact h9
theorem r_aaloadS {q n z : Nat} {x : Int32} (i : Nat) (d : decode mi.2.1 pc = .ok (.aaload, 1)) (hs : sh q = (5, n)) (hx : x = nI i) (hi : i < n) (hn : n < 2147483648) (hp : P q i = some z) (k : am_R mi post fr lo c0 s0 (pc + 1) lv (.ref z :: st) sh I P) : am_R mi post fr lo c0 s0 pc lv (.int x :: .ref q :: st) sh I P := by
  intro l p e R s m args below meth c D t A sh0 ad0 ad mc ms H locs cells slots ls C hc0 hs0 X
  obtain ⟨hx0, hb, hml, hr, hown, hts, hlk, hnm, hroom, hN, hA⟩ := id C
  obtain ⟨x1, x2, x3, x4, x5, x6⟩ := X
  subst hx
  have hc : H[ad q]? = some (arrV (t 3) n (fun j => am_rf ad (P q j))) := x1.at hs
  exact W.aald (v := .ref (ad z)) (ty := .object RX7) hx0 hb hc ((hN.1.2 3 _ rfl).1 n _) rfl (fun h => by cases h) (by show ¬ (_ ∨ (arrV _ _ _).slots.size ≤ _); rw [arrV_size]; exact vp_in_nI hi hn) (by rw [nI_clamp (by omega), arrV_read _ _ hi, hp]; rfl) rfl rfl d
    (k l p e R s m args below meth c D t A sh0 ad0 ad mc ms H locs cells slots ls C hc0 hs0 ⟨x1, x2, x3, x4, am_okc (x1.2.2.1 q i z (by rw [hs]; exact Nat.succ_ne_zero _) hp) (am_okt (am_okt x5)), x6⟩)
theorem r_aaloadSN {q n : Nat} {x : Int32} (i : Nat) (d : decode mi.2.1 pc = .ok (.aaload, 1)) (hs : sh q = (5, n)) (hx : x = nI i) (hi : i < n) (hn : n < 2147483648) (hp : P q i = none) (k : am_R mi post fr lo c0 s0 (pc + 1) lv (.null :: st) sh I P) : am_R mi post fr lo c0 s0 pc lv (.int x :: .ref q :: st) sh I P := by
  intro l p e R s m args below meth c D t A sh0 ad0 ad mc ms H locs cells slots ls C hc0 hs0 X
  obtain ⟨hx0, hb, hml, hr, hown, hts, hlk, hnm, hroom, hN, hA⟩ := id C
  obtain ⟨x1, x2, x3, x4, x5, x6⟩ := X
  subst hx
  have hc : H[ad q]? = some (arrV (t 3) n (fun j => am_rf ad (P q j))) := x1.at hs
  exact W.aald (v := .null) (ty := .object RX7) hx0 hb hc ((hN.1.2 3 _ rfl).1 n _) rfl (fun h => by cases h) (by show ¬ (_ ∨ (arrV _ _ _).slots.size ≤ _); rw [arrV_size]; exact vp_in_nI hi hn) (by rw [nI_clamp (by omega), arrV_read _ _ hi, hp]; rfl) rfl rfl d
    (k l p e R s m args below meth c D t A sh0 ad0 ad mc ms H locs cells slots ls C hc0 hs0 ⟨x1, x2, x3, x4, am_okc trivial (am_okt (am_okt x5)), x6⟩)
theorem r_aastoreS {q n z : Nat} {x : Int32} (i : Nat) (d : decode mi.2.1 pc = .ok (.aastore, 1)) (hs : sh q = (5, n)) (hz : sh z = (1, 5)) (hx : x = nI i) (hi : i < n) (hn : n < 2147483648) (k : am_R mi post fr lo c0 s0 (pc + 1) lv st sh I (va_up P q (va_up (P q) i (some z)))) : am_R mi post fr lo c0 s0 pc lv (.ref z :: .int x :: .ref q :: st) sh I P := by
  intro l p e R s m args below meth c D t A sh0 ad0 ad mc ms H locs cells slots ls C hc0 hs0 X
  obtain ⟨hx0, hb, hml, hr, hown, hts, hlk, hnm, hroom, hN, hA⟩ := id C
  obtain ⟨x1, x2, x3, x4, x5, x6⟩ := X
  subst hx
  have hc : H[ad q]? = some (arrV (t 3) n (fun j => am_rf ad (P q j))) := x1.at hs
  obtain ⟨r', hr', cellV, g1, g2, g3, -⟩ := x1.at hz
  have hcls := (hN.1.1 5 _ rfl).2
  obtain ⟨kA, comp, k1, k2, k3, -⟩ := (hN.1.2 3 _ rfl).2
  have hcomp : comp = D.1 5 := Option.some.inj (k3.symm.trans hcls.1)
  subst hcomp
  obtain ⟨kC, hkC, -⟩ := hcls.2
  have hcl : (nI i).toNatClampNeg = i := nI_clamp (by omega)
  have hzb : (sh z).1 ≠ 0 := by rw [hz]; exact Nat.one_ne_zero
  refine W.aast hx0 hb hc (fun q h => by cases h) (fun h => by cases h) k1 k2 rfl hkC ⟨nI_pos (by omega), by show _ < (arrV _ _ _).slots.size; rw [arrV_size, hcl]; exact hi⟩ g1 (fun q h => by rw [g3] at h; cases h) (by rw [g2]; exact hkC) (by rw [g2]; exact va_assign hcls) rfl rfl d fun H1 e1 z1 oq => ?_
  have e2 : H1[ad q]? = some (arrV (t 3) n (fun j => am_rf ad (va_up (P q) i (some z) j))) := by
    rw [e1, hcl, arrV_store]
    congr 2
    funext j
    by_cases hj : j = i <;> simp [updV, va_up, hj, am_rf]
  refine k l p e R s m args below meth c D t A sh0 ad0 ad mc ms H1 _ cells slots ls C hc0 hs0 ⟨x1.setP (by rw [hs]; exact Nat.succ_ne_zero _) (fun j y hy => ?_) (by rw [hs]; exact e2) oq, x2, x3.put z1 oq (x1.1 q (by rw [hs]; exact Nat.succ_ne_zero _)), x4, am_okt (am_okt (am_okt x5)), x6⟩
  by_cases hj : j = i
  · simp only [va_up, hj, if_true] at hy
    cases hy
    exact hzb
  · simp only [va_up, hj, if_false] at hy
    exact x1.2.2.1 q j y (by rw [hs]; exact Nat.succ_ne_zero _) hy
theorem r_alen {q n : Nat} (d : decode mi.2.1 pc = .ok (.arraylength, 1)) (hs : sh q = (2, n)) (k : am_R mi post fr lo c0 s0 (pc + 1) lv (.int (nI n) :: st) sh I P) : am_R mi post fr lo c0 s0 pc lv (.ref q :: st) sh I P := by
  intro l p e R s m args below meth c D t A sh0 ad0 ad mc ms H locs cells slots ls C hc0 hs0 X
  obtain ⟨hx0, hb, hml, hr, hown, hts, hlk, hnm, hroom, hN, hA⟩ := id C
  obtain ⟨x1, x2, x3, x4, x5, x6⟩ := X
  have hc : H[ad q]? = some (arrV (t 0) n (fun j => .int (I q j))) := x1.at hs
  exact W.alen hx0 hb hc ((hN.1.2 0 _ rfl).1 n _) (by rw [arrV_size]; rfl) rfl rfl d
    (k l p e R s m args below meth c D t A sh0 ad0 ad mc ms H locs cells slots ls C hc0 hs0 ⟨x1, x2, x3, x4, am_okc trivial (am_okt x5), x6⟩)
/-- a kind of object that is made -/
def am_K (own : String) (idx ci N : Nat) : Prop := ∃ (C : String) (T : u_T), am_cl[ci]? = some (C, T, N) ∧ (∀ w ∈ u_ws C T N, w ∈ am_tb) ∧ Cond.classLink own idx C ∈ am_tb ∧ Cond.instantiable C N ∈ am_tb ∧ Cond.initialized C ∈ am_tb ∧ (∀ k, k < N → parseFieldDescriptor (T k).2.2.1 = some (am_ty ci k)) ∧ ∀ k, k < N → defaultValue (am_ty ci k) = if am_isR (am_ty ci k) = true then .null else .int 0
theorem r_new {idx ci N : Nat} (k : Nat) (d : decode mi.2.1 pc = .ok (.new idx, 3)) (hK : am_K mi.1.cls idx ci N) (hk : (sh k).1 = 0) (hc1 : 1 ≤ c0) (hs1 : N ≤ s0) (kk : am_R mi post fr lo (c0 - 1) (s0 - N) (pc + 3) lv (.ref k :: st) (va_up sh k (1, ci)) (va_up I k (fun _ => 0)) (va_up P k (fun _ => none))) : am_R mi post fr lo c0 s0 pc lv st sh I P := by
  intro l p e R s m args below meth c D t A sh0 ad0 ad mc ms H locs cells slots ls C hc0 hs0 X
  obtain ⟨hx0, hb, hml, hr, hown, hts, hlk, hnm, hroom, hN, hA⟩ := id C
  obtain ⟨C1, T1, g1, g2, g3, g4, g5, g6, g7⟩ := hK
  have hst := X.2.2.2.2.1
  have hKn := hN.1.1 ci _ g1
  refine W.newcK hx0 hb hown (hts _ g3) (hts _ g4) (hts _ g5) rfl d (by omega) (by omega) hKn.2.1 rfl fun H1 kC hkC e1 z1 o1 => ?_
  have X2 := X.born (st := st) (H1 := H1) (k := k) (q := (1, ci)) hst hk Nat.one_ne_zero hA ⟨_, g1, (u_born (am_ty ci) hts g2 hKn hkC e1 g6).to (fun j hj => by rw [g7 j hj]; rfl)⟩ z1 o1
  have h9 := kk l p e R s m args below meth c D t A sh0 ad0 _ mc ms H1 locs (cells + 1) (slots + N) ls C (by omega) (by omega) X2
  rw [List.map_cons, cv_mapup hk hst, show cv (va_up ad k H.size) (.ref k) = .ref H.size by simp [cv, va_up]] at h9
  exact h9
theorem am_sum (ad : Nat → Nat) (h : ∀ v ∈ st, am_ok sh v) : ((st.map (cv ad)).map fun v => v.category).sum = st.length := by
  induction st with
  | nil => rfl
  | cons v st ih =>
    rw [List.map_cons, List.map_cons, List.sum_cons, ih (am_okt h), am_catc ad (am_okh h), List.length_cons]
    omega
theorem r_obj {idx q : Nat} (d : decode mi.2.1 pc = .ok (.invokespecial idx, 3)) (hw : Cond.methodLink mi.1.cls idx objectInit ∈ am_tb ∧ Cond.instanceMethod objectInit ∈ am_tb ∧ Cond.code objectInit ⟨#[0xb1]⟩ 1 none ∈ am_tb) (hroom : 1 ≤ fr ∧ st.length + 12 ≤ lo) (k : am_R mi post fr lo c0 s0 (pc + 3) lv st sh I P) : am_R mi post fr lo c0 s0 pc lv (.ref q :: st) sh I P := by
  intro l p e R s m args below meth c D t A sh0 ad0 ad mc ms H locs cells slots ls C hc0 hs0 X
  obtain ⟨hx0, hb, hml, hr, hown, hts, hlk, hnm, hrm, hN, hA⟩ := id C
  obtain ⟨x1, x2, x3, x4, x5, x6⟩ := X
  have h1 := am_sum ad (am_okt x5)
  exact W.objInit hx0 hb hown (hts _ hw.1) (hts _ hw.2.1) (hts _ hw.2.2) rfl (by rw [hml]; exact x4.2.1) (rest := st.map (cv ad)) rfl d (by omega) (by show 2 * 0 + _ + 12 ≤ _; omega)
    (k l p e R s m args below meth c D t A sh0 ad0 ad mc ms H locs cells slots ls C hc0 hs0 ⟨x1, x2, x3, x4, am_okt x5, x6⟩)
theorem r_ireturn {v : Int32} (d : decode mi.2.1 pc = .ok (.ireturn, 1)) (ty : FieldType) (hty : mi.2.2.2 = some ty) (hn : narrow ty (.int v) = .int v) (hp : post (some v) sh I P) : am_R mi post fr lo c0 s0 pc lv [.int v] sh I P := by
  intro l p e R s m args below meth c D t A sh0 ad0 ad mc ms H locs cells slots ls C hc0 hs0 X
  obtain ⟨hx0, hb, hml, hr, hown, hts, hlk, hnm, hrm, hN, hA⟩ := id C
  obtain ⟨x1, x2, x3, x4, x5, x6⟩ := X
  refine W.widen (k := mc) (n := ms) (by omega) (by omega) ?_
  exact W.zret hx0 hb (hr.trans hty) hn (fun u hu hW => ⟨⟨some v, ad, sh, I, P, rfl, hp, x2, by rw [hu]; exact x1⟩, x3.F hu⟩) x3.2.2 d
theorem r_return (d : decode mi.2.1 pc = .ok (.return_, 1)) (hty : mi.2.2.2 = none) (hp : post none sh I P) : am_R mi post fr lo c0 s0 pc lv [] sh I P := by
  intro l p e R s m args below meth c D t A sh0 ad0 ad mc ms H locs cells slots ls C hc0 hs0 X
  obtain ⟨hx0, hb, hml, hr, hown, hts, hlk, hnm, hrm, hN, hA⟩ := id C
  obtain ⟨x1, x2, x3, x4, x5, x6⟩ := X
  refine W.widen (k := mc) (n := ms) (by omega) (by omega) ?_
  exact W.vret hx0 hb (hr.trans hty) (fun u hu hW => ⟨⟨none, ad, sh, I, P, rfl, hp, x2, by rw [hu]; exact x1⟩, x3.F hu⟩) x3.2.2 d
/-! a contract out of a run, and calls -/
def am_ent (As : List Value) (n : Nat) : List (Option Value) := As.map some ++ List.replicate (n - As.length) none
def am_Pc (D : va_G) (t : Nat → ClassId) (A : Nat → Prop) (ad : Nat → Nat) (sh : ASh) (I : AIn) (P : APt) (As : List Value) : Array Value → State → Prop := fun v U => v = (As.map (cv ad)).toArray ∧ am_W D t A ad sh I P U.heap ∧ am_N D t A U U.heap ∧ (∀ q, U.heap.size ≤ q → A q) ∧ ∀ v ∈ As, am_ok sh v
theorem am_sl {ad : Nat → Nat} {As : List Value} (h : ∀ v ∈ As, am_ok sh v) : lg_sl (As.map (cv ad)) = (As.map (cv ad)).map Slot.val := by
  induction As with
  | nil => rfl
  | cons v As ih =>
    have h1 := am_catc ad (am_okh h)
    have h2 := ih (am_okt h)
    unfold lg_sl at h2 ⊢
    rw [List.map_cons, List.flatMap_cons, h2, List.map_cons, if_neg (by rw [h1]; decide)]
    rfl
theorem am_entL {ad : Nat → Nat} {As : List Value} {n : Nat} (h : ∀ v ∈ As, am_ok sh v) (hn : As.length ≤ n) : am_L ad ((lg_sl (As.map (cv ad)) ++ List.replicate (n - (lg_sl (As.map (cv ad))).length) Slot.unset).toArray) n (am_ent As n) := by
  have hl := lv_entry (As.map (cv ad)) (n := n) (by rw [am_sl h]; simpa using hn)
  refine ⟨by simp [am_ent]; omega, hl.1, hl.2.1, fun i v hv => ?_⟩
  have hi : i < As.length := by
    rcases Nat.lt_or_ge i As.length with q | q
    · exact q
    · unfold am_ent at hv
      rw [List.getElem?_append_right (by simpa using q)] at hv
      have := List.mem_of_getElem? hv
      rw [List.mem_replicate] at this
      cases this.2
  unfold am_ent at hv
  rw [List.getElem?_append_left (by simpa using hi), List.getElem?_map] at hv
  cases hA : As[i]? with
  | none => rw [hA] at hv; cases hv
  | some w =>
    rw [hA] at hv
    cases hv
    rw [am_sl h, List.getElem?_toArray, List.getElem?_append_left (by simpa using hi), List.getElem?_map, List.getElem?_map, hA]
    rfl
theorem am_ent_ok {As : List Value} {n : Nat} (h : ∀ v ∈ As, am_ok sh v) : ∀ (i : Nat) (v : Value), (am_ent As n)[i]? = some (some v) → am_ok sh v := by
  intro i v hv
  have h1 := List.mem_of_getElem? hv
  unfold am_ent at h1
  rcases List.mem_append.mp h1 with h1 | h1
  · obtain ⟨w, hw, e⟩ := List.mem_map.mp h1
    cases e
    exact h v hw
  · rw [List.mem_replicate] at h1
    cases h1.2
theorem am_met {As : List Value} {mc ms : Nat} (hrun : am_R mi post fr lo mc ms 0 (am_ent As mi.2.2.1) [] sh I P) (hy : plainName mi.1.cls = true) (hAs : As.length ≤ mi.2.2.1) (l : Launch) (D : va_G) (t : Nat → ClassId) (A : Nat → Prop) (ad : Nat → Nat) :
    Met l mi.1 (Cond.code mi.1 mi.2.1 mi.2.2.1 mi.2.2.2 :: am_tb) ({ frames := fr, cells := mc, slots := ms, locals := lo }) (am_Pc D t A ad sh I P As) (am_Q D t A ad sh post) mc ms A := by
  refine Met.ofW (cc := mi.2.1) (maxL := mi.2.2.1) (ret := mi.2.2.2) hy rfl ?_
  intro p e s m args below meth c s₁ B hml hv
  obtain ⟨rfl, hW, hN, hA, hok⟩ := hv
  have hts := atoms_spec (ws := Cond.code mi.1 mi.2.1 mi.2.2.1 mi.2.2.2 :: am_tb) B.pre
  rw [lg_entry_eq]
  exact hrun l p e _ s m _ below meth c D t A sh ad ad mc ms s.heap [] 0 0 _ ⟨B.exec, B.bytes, hml, B.returns, findClass_of_methodNamed B.named, fun w hw => hts w (List.mem_cons_of_mem _ hw), B.notSynchronized, (name_of_methodNamed B.named B.method).1, ⟨Nat.le_refl _, Nat.le_refl _, Nat.le_refl _, Nat.le_refl _⟩, hN, hA⟩ (by omega) (by omega)
    ⟨hW, fun k hk => ⟨hk, rfl⟩, va_S.rf, am_entL hok hAs, (fun v hv => absurd hv List.not_mem_nil), am_ent_ok hok⟩
theorem am_blind (D : va_G) (t : Nat → ClassId) (A : Nat → Prop) (ad : Nat → Nat) (As : List Value) : FrameBlind (am_Pc D t A ad sh I P As) := fun a U g mk q => by
  obtain ⟨q0, q1, q2, q3, q4⟩ := q
  exact ⟨q0, q1, q2.same rfl, q3, q4⟩
theorem am_ret {p : Program} {l : Launch} {e : Env} {R : Room} {s : State} {m : MethodId} {args : Array Value} {below : List Frame} {meth : Method} {c : Code} {H : Heap} {locs : List Loc} {cells slots mc ms : Nat} {Q : State → Prop} {ls : Array Slot} {rest st0 : List Value} {a : Array Value} {D : va_G} {t : Nat → ClassId} {A : Nat → Prop} {ad : Nat → Nat}
    (hr : va_Run p l e R s m args below meth c H locs cells slots mc ms (F0 m pc ls st0) rest (am_Q D t A ad sh post a) A) (hS : va_S A s.heap H locs)
    (kk : ∀ (r : Option Int32) (ad' : Nat → Nat) (sh' : ASh) (I' : AIn) (P' : APt) (H1 : Heap) (locs1 : List Loc), post r sh' I' P' → am_E sh ad sh' ad' → am_W D t A ad' sh' I' P' H1 → va_S A s.heap H1 locs1 → W p l e R s m args below meth c H1 locs1 (cells + mc) (slots + ms) Q (F0 m (pc + 3) ls ((r.map Value.int).toList ++ rest))) : W p l e R s m args below meth c H locs cells slots Q (F0 m pc ls st0) := by
  intro T hT X
  obtain ⟨v, st₀, u, T', L, h0, X', hL, e1, e2, ⟨⟨r, ad', sh', I', P', hv, hp, hE, hw⟩, hz, hk⟩, stp⟩ := hr T hT X
  cases hv
  rw [h0] at hz hk
  obtain ⟨t2, a1, b1⟩ := kk r ad' sh' I' P' T'.heap (locs ++ L) hp hE (by rw [e1]; exact hw)
    ⟨Nat.le_trans hS.1 (by rw [e1]; exact hz), fun q h1 h2 => by rw [e1, hk q (Nat.lt_of_lt_of_le h1 hS.1) h2]; exact hS.2.1 q h1 h2, fun q hq => by
      rcases List.mem_append.mp hq with h | h
      · exact hS.2.2 q h
      · exact hL q h⟩ T' rfl X'
  exact ⟨t2, stp t2 a1, b1⟩
theorem cv_E {sh0 : ASh} {ad0 ad : Nat → Nat} {v : Value} (hE : am_E sh0 ad0 sh ad) (h : am_ok sh0 v) : cv ad v = cv ad0 v := by
  cases v with
  | ref z => simp only [cv, (hE z h).2]
  | _ => rfl
theorem am_ok_E {sh0 : ASh} {ad0 ad : Nat → Nat} {v : Value} (hE : am_E sh0 ad0 sh ad) (h : am_ok sh0 v) : am_ok sh v := by
  cases v with
  | ref z => exact (hE z h).1
  | _ => exact h
theorem am_after {D : va_G} {t : Nat → ClassId} {A : Nat → Prop} {sh0 sh' : ASh} {ad0 ad ad' : Nat → Nat} {H0 H H1 : Heap} {locs locs1 : List Loc} {ls : Array Slot} {n : Nat} {I' : AIn} {P' : APt} {st0 : List Value} {r : Option Int32} (X : am_X D t A sh0 ad0 ad H0 H locs ls n lv st0 sh I P) (hst : ∀ v ∈ st, am_ok sh v) (hE : am_E sh ad sh' ad') (hw : am_W D t A ad' sh' I' P' H1) (hS : va_S A H0 H1 locs1) :
    am_X D t A sh0 ad0 ad' H0 H1 locs1 ls n lv ((r.map Value.int).toList ++ st) sh' I' P' ∧ ((r.map Value.int).toList ++ st).map (cv ad') = (r.map Value.int).toList ++ st.map (cv ad) := by
  obtain ⟨x1, x2, x3, x4, x5, x6⟩ := X
  refine ⟨⟨hw, fun k hk => ⟨(hE k (x2 k hk).1).1, (hE k (x2 k hk).1).2.trans (x2 k hk).2⟩, hS, ⟨x4.1, x4.2.1, x4.2.2.1, fun i v hv => by rw [cv_E hE (x6 i v hv)]; exact x4.2.2.2 i v hv⟩, fun v hv => ?_, fun i v hv => am_ok_E hE (x6 i v hv)⟩, ?_⟩
  · rcases List.mem_append.mp hv with h | h
    · cases r with
      | none => cases h
      | some x =>
        rw [List.mem_singleton.mp h]
        trivial
    · exact am_ok_E hE (hst v h)
  · rw [List.map_append]
    congr 1
    · cases r <;> rfl
    · exact List.map_congr_left (fun v hv => cv_E hE (hst v hv))
/-- what the tables say of a method that is called -/
def am_M (mi : MI) (n : Nat) : Prop := Cond.code mi.1 mi.2.1 mi.2.2.1 mi.2.2.2 ∈ am_tb ∧ Cond.initialized mi.1.cls ∈ am_tb ∧ (mi.1.cls ≠ "java/lang/invoke/MethodHandle" ∧ mi.1.cls ≠ "java/lang/invoke/VarHandle") ∧ (parseMethodDescriptor mi.1.desc).map (fun d => d.parameters.length) = some n ∧ plainName mi.1.cls = true
theorem am_cb {mi' : MI} {R : Room} {s : State} {args : Array Value} {fr' lo' mc' ms' n idx : Nat} (hM : am_M mi' n) (hl : Cond.methodLink mi.1.cls idx mi'.1 ∈ am_tb) (hts : ∀ w ∈ am_tb, w.before args s = true) (hR : fr' + 1 ≤ R.frames ∧ 8 + (mi'.2.2.1 + 11) + lo' ≤ R.locals) :
    CallB R s args mi.1.cls idx mi'.1 mi'.2.1 mi'.2.2.1 mi'.2.2.2 (Cond.code mi'.1 mi'.2.1 mi'.2.2.1 mi'.2.2.2 :: am_tb) ({ frames := fr', cells := mc', slots := ms', locals := lo' }) mc' ms' n := by
  obtain ⟨h1, h2, h3, h4, h5⟩ := hM
  have hG : GoodIn am_tb (Cond.code mi'.1 mi'.2.1 mi'.2.2.1 mi'.2.2.2 :: am_tb) := fun w hw => by
    rcases List.mem_cons.mp hw with rfl | hw
    · exact ⟨h1, am_good _ h1⟩
    · exact ⟨hw, am_good _ hw⟩
  exact callB_of n hts hG rfl rfl rfl (hts _ h2) (hts _ hl) ⟨h3.1, h3.2, h4⟩ hR
theorem am_pre {D : va_G} {t : Nat → ClassId} {A : Nat → Prop} {sh0 : ASh} {ad0 ad : Nat → Nat} {s : State} {H : Heap} {locs : List Loc} {ls : Array Slot} {n : Nat} {st0 As : List Value} (X : am_X D t A sh0 ad0 ad s.heap H locs ls n lv st0 sh I P) (hN : am_N D t A s s.heap) (hA : ∀ q, s.heap.size ≤ q → A q) (hAs : ∀ v ∈ As, am_ok sh v) : ∀ U : State, U.heap = H → s.WarmedH U.vm → am_Pc D t A ad sh I P As (As.map (cv ad)).toArray U := by
  intro U hU hW
  obtain ⟨x1, x2, x3, x4, x5, x6⟩ := X
  exact ⟨rfl, by rw [hU]; exact x1, by rw [hU]; exact hN.moved hW x3.2.1, fun q hq => hA q (Nat.le_trans x3.1 (by rw [← hU]; exact hq)), hAs⟩
theorem am_ok_rev {As : List Value} {v : Value} (h : ∀ w ∈ As.reverse ++ v :: st, am_ok sh w) : (∀ w ∈ v :: As, am_ok sh w) ∧ ∀ w ∈ st, am_ok sh w := by
  refine ⟨fun w hw => h w ?_, fun w hw => h w (List.mem_append_right _ (List.mem_cons_of_mem _ hw))⟩
  rcases List.mem_cons.mp hw with rfl | hw
  · exact List.mem_append_right _ List.mem_cons_self
  · exact List.mem_append_left _ (List.mem_reverse.mpr hw)
theorem am_callV {mi' : MI} {post' : APo} {fr' lo' mc' ms' n idx q ci : Nat} (As : List Value) (d : decode mi.2.1 pc = .ok (.invokevirtual idx, 3)) (hM : am_M mi' n) (hi : Cond.instanceMethod mi'.1 ∈ am_tb ∧ Cond.selects mi'.1.cls mi'.1 mi'.1 ∈ am_tb) (hl : Cond.methodLink mi.1.cls idx mi'.1 ∈ am_tb) (hs : sh q = (1, ci)) (hci : ∃ T N, am_cl[ci]? = some (mi'.1.cls, T, N)) (hn : As.length = n) (hmx : n + 1 ≤ mi'.2.2.1) (hroom : fr' + 1 ≤ fr ∧ 8 + (mi'.2.2.1 + 11) + lo' ≤ lo) (hmc : mc' ≤ c0) (hms : ms' ≤ s0) (hst : st.length ≤ 8)
    (hc : am_R mi' post' fr' lo' mc' ms' 0 (am_ent (.ref q :: As) mi'.2.2.1) [] sh I P) (k : ∀ r sh' I' P', post' r sh' I' P' → am_R mi post fr lo (c0 - mc') (s0 - ms') (pc + 3) lv ((r.map Value.int).toList ++ st) sh' I' P') : am_R mi post fr lo c0 s0 pc lv (As.reverse ++ .ref q :: st) sh I P := by
  intro l p e R s m args below meth c D t A sh0 ad0 ad mc ms H locs cells slots ls C hc0 hs0 X
  obtain ⟨hx0, hb, hml, hr, hown, hts, hlk, hnm, hrm, hN, hA⟩ := id C
  obtain ⟨hok, hst2⟩ := am_ok_rev X.2.2.2.2.1
  obtain ⟨T1, N1, g1⟩ := hci
  have h1 := am_sum ad hst2
  have hrecv : ∃ cellB : Cell, H[ad q]? = some cellB ∧ cellB.vm.isStatics = false ∧ s.vm.findClass mi'.1.cls = some cellB.cls := by
    obtain ⟨r, h1, cell, q1, q2, q3, -⟩ := X.1.at hs
    exact ⟨cell, q1, by rw [q3]; rfl, by rw [q2]; exact (hN.1.1 ci _ g1).2.1⟩
  have hstk : (As.reverse ++ .ref q :: st).map (cv ad) = (As.map (cv ad)).reverse ++ .ref (ad q) :: st.map (cv ad) := by rw [List.map_append, List.map_reverse]; rfl
  refine am_ret (va_runV (As := As.map (cv ad)) (rest := st.map (cv ad)) (b := ad q) ⟨hx0, hb, hml, hown, hts⟩ (am_met hc hM.2.2.2.2 (by rw [List.length_cons, hn]; exact hmx) l D t A ad) ⟨am_cb hM hl hts ⟨by omega, by omega⟩, hts _ hi.1, hts _ hi.2⟩ ⟨am_blind D t A ad _, hrecv, am_pre X hN hA hok⟩ rfl (by rw [List.length_map]; exact hn) X.2.2.2.1.2.1 hstk ?_ d ⟨by omega, by omega⟩) X.2.2.1 (fun r ad' sh' I' P' H1 locs1 hp hE hw hS => ?_)
  · show 2 * 0 + _ ≤ 8
    omega
  · obtain ⟨X2, e2⟩ := am_after (r := r) X hst2 hE hw hS
    have h9 := k r sh' I' P' hp l p e R s m args below meth c D t A sh0 ad0 ad' mc ms H1 locs1 (cells + mc') (slots + ms') ls C (by omega) (by omega) X2
    rw [e2] at h9
    exact h9
theorem am_callS {mi' : MI} {post' : APo} {fr' lo' mc' ms' n idx : Nat} (As : List Value) (d : decode mi.2.1 pc = .ok (.invokestatic idx, 3)) (hM : am_M mi' n) (hi : Cond.static mi'.1 ∈ am_tb) (hl : Cond.methodLink mi.1.cls idx mi'.1 ∈ am_tb) (hn : As.length = n) (hmx : n ≤ mi'.2.2.1) (hroom : fr' + 1 ≤ fr ∧ 8 + (mi'.2.2.1 + 11) + lo' ≤ lo) (hmc : mc' ≤ c0) (hms : ms' ≤ s0) (hst : st.length ≤ 8)
    (hc : am_R mi' post' fr' lo' mc' ms' 0 (am_ent As mi'.2.2.1) [] sh I P) (k : ∀ r sh' I' P', post' r sh' I' P' → am_R mi post fr lo (c0 - mc') (s0 - ms') (pc + 3) lv ((r.map Value.int).toList ++ st) sh' I' P') : am_R mi post fr lo c0 s0 pc lv (As.reverse ++ st) sh I P := by
  intro l p e R s m args below meth c D t A sh0 ad0 ad mc ms H locs cells slots ls C hc0 hs0 X
  obtain ⟨hx0, hb, hml, hr, hown, hts, hlk, hnm, hrm, hN, hA⟩ := id C
  have hok : ∀ w ∈ As, am_ok sh w := fun w hw => X.2.2.2.2.1 w (List.mem_append_left _ (List.mem_reverse.mpr hw))
  have hst2 : ∀ w ∈ st, am_ok sh w := fun w hw => X.2.2.2.2.1 w (List.mem_append_right _ hw)
  have h1 := am_sum ad hst2
  have hstk : (As.reverse ++ st).map (cv ad) = (As.map (cv ad)).reverse ++ st.map (cv ad) := by rw [List.map_append, List.map_reverse]
  refine am_ret (va_runS (As := As.map (cv ad)) (rest := st.map (cv ad)) ⟨hx0, hb, hml, hown, hts⟩ (am_met hc hM.2.2.2.2 (by rw [hn]; exact hmx) l D t A ad) ⟨am_cb hM hl hts ⟨by omega, by omega⟩, hts _ hi⟩ ⟨am_blind D t A ad _, am_pre X hN hA hok⟩ rfl (by rw [List.length_map]; exact hn) X.2.2.2.1.2.1 hstk ?_ d ⟨by omega, by omega⟩) X.2.2.1 (fun r ad' sh' I' P' H1 locs1 hp hE hw hS => ?_)
  · show 2 * 0 + _ ≤ 8
    omega
  · obtain ⟨X2, e2⟩ := am_after (r := r) X hst2 hE hw hS
    have h9 := k r sh' I' P' hp l p e R s m args below meth c D t A sh0 ad0 ad' mc ms H1 locs1 (cells + mc') (slots + ms') ls C (by omega) (by omega) X2
    rw [e2] at h9
    exact h9
theorem am_callI {mi' : MI} {post' : APo} {fr' lo' mc' ms' n idx q : Nat} (As : List Value) (d : decode mi.2.1 pc = .ok (.invokespecial idx, 3)) (hM : am_M mi' n) (hret : mi'.2.2.2 = none) (hi : Cond.instanceMethod mi'.1 ∈ am_tb) (hnm2 : mi'.1.name = "<init>") (hl : Cond.methodLink mi.1.cls idx mi'.1 ∈ am_tb) (hn : As.length = n) (hmx : n + 1 ≤ mi'.2.2.1) (hroom : fr' + 1 ≤ fr ∧ 8 + (mi'.2.2.1 + 11) + lo' ≤ lo) (hmc : mc' ≤ c0) (hms : ms' ≤ s0) (hst : st.length ≤ 8)
    (hc : am_R mi' post' fr' lo' mc' ms' 0 (am_ent (.ref q :: As) mi'.2.2.1) [] sh I P) (k : ∀ r sh' I' P', post' r sh' I' P' → am_R mi post fr lo (c0 - mc') (s0 - ms') (pc + 3) lv ((r.map Value.int).toList ++ st) sh' I' P') : am_R mi post fr lo c0 s0 pc lv (As.reverse ++ .ref q :: st) sh I P := by
  intro l p e R s m args below meth c D t A sh0 ad0 ad mc ms H locs cells slots ls C hc0 hs0 X
  obtain ⟨hx0, hb, hml, hr, hown, hts, hlk, hnm, hrm, hN, hA⟩ := id C
  obtain ⟨hok, hst2⟩ := am_ok_rev X.2.2.2.2.1
  have h1 := am_sum ad hst2
  have hstk : (As.reverse ++ .ref q :: st).map (cv ad) = (As.map (cv ad)).reverse ++ .ref (ad q) :: st.map (cv ad) := by rw [List.map_append, List.map_reverse]; rfl
  have hcb := am_cb (mi := mi) (mc' := mc') (ms' := ms') (R := R) hM hl hts (fr' := fr') (lo' := lo') ⟨by omega, by omega⟩
  have hmt := am_met hc hM.2.2.2.2 (by rw [List.length_cons, hn]; exact hmx) l D t A ad
  rw [hret] at hcb hmt
  refine am_ret (va_runI (As := As.map (cv ad)) (rest := st.map (cv ad)) (b := ad q) ⟨hx0, hb, hml, hown, hts⟩ hmt ⟨hcb, hnm2, hts _ hi⟩ ⟨am_blind D t A ad _, am_pre X hN hA hok⟩ rfl (by rw [List.length_map]; exact hn) X.2.2.2.1.2.1 hstk ?_ d ⟨by omega, by omega⟩) X.2.2.1 (fun r ad' sh' I' P' H1 locs1 hp hE hw hS => ?_)
  · show 2 * 0 + _ ≤ 8
    omega
  · obtain ⟨X2, e2⟩ := am_after (r := r) X hst2 hE hw hS
    have h9 := k r sh' I' P' hp l p e R s m args below meth c D t A sh0 ad0 ad' mc ms H1 locs1 (cells + mc') (slots + ms') ls C (by omega) (by omega) X2
    rw [e2] at h9
    exact h9
theorem am_callN {mi' : MI} {post' : APo} {fr' lo' mc' ms' n idx q : Nat} (As : List Value) (d : decode mi.2.1 pc = .ok (.invokespecial idx, 3)) (hM : am_M mi' n) (hret : mi'.2.2.2 = none) (hi : Cond.instanceMethod mi'.1 ∈ am_tb) (hnm2 : mi'.1.name = "<init>") (host : String) (hl : (mi.1.cls, idx, mi'.1, host) ∈ am_ne) (hn : As.length = n) (hmx : n + 1 ≤ mi'.2.2.1) (hroom : fr' + 1 ≤ fr ∧ 8 + (mi'.2.2.1 + 11) + lo' ≤ lo) (hmc : mc' ≤ c0) (hms : ms' ≤ s0) (hst : st.length ≤ 8)
    (hc : am_R mi' post' fr' lo' mc' ms' 0 (am_ent (.ref q :: As) mi'.2.2.1) [] sh I P) (k : ∀ r sh' I' P', post' r sh' I' P' → am_R mi post fr lo (c0 - mc') (s0 - ms') (pc + 3) lv ((r.map Value.int).toList ++ st) sh' I' P') : am_R mi post fr lo c0 s0 pc lv (As.reverse ++ .ref q :: st) sh I P := by
  intro l p e R s m args below meth c D t A sh0 ad0 ad mc ms H locs cells slots ls C hc0 hs0 X
  obtain ⟨hx0, hb, hml, hr, hown, hts, hlk, hnm, hrm, hN, hA⟩ := id C
  obtain ⟨hok, hst2⟩ := am_ok_rev X.2.2.2.2.1
  have h1 := am_sum ad hst2
  have hstk : (As.reverse ++ .ref q :: st).map (cv ad) = (As.map (cv ad)).reverse ++ .ref (ad q) :: st.map (cv ad) := by rw [List.map_append, List.map_reverse]; rfl
  have hmt := am_met hc hM.2.2.2.2 (by rw [List.length_cons, hn]; exact hmx) l D t A ad
  have hG : GoodIn am_tb (Cond.code mi'.1 mi'.2.1 mi'.2.2.1 mi'.2.2.2 :: am_tb) := fun w hw => by
    rcases List.mem_cons.mp hw with rfl | hw
    · exact ⟨hM.1, am_good _ hM.1⟩
    · exact ⟨hw, am_good _ hw⟩
  have hcn := va_cnB (R := R) (args := args) (own := mi.1.cls) (host := host) (index := idx) (mc := mc') (ms := ms') (rm := { frames := fr', cells := mc', slots := ms', locals := lo' }) n hts hG rfl rfl rfl (hN.2.2.1 _ hl) (hts _ hM.2.1) ⟨hM.2.2.1.1, hM.2.2.1.2, hM.2.2.2.1⟩ ⟨by show fr' + 1 ≤ _; omega, by show 8 + (mi'.2.2.1 + 11) + lo' ≤ _; omega⟩
  rw [hret] at hcn hmt
  refine am_ret (va_runIN (As := As.map (cv ad)) (rest := st.map (cv ad)) (b := ad q) ⟨hx0, hb, hml, hown, hts⟩ hmt ⟨hcn, hnm2, hts _ hi⟩ ⟨am_blind D t A ad _, am_pre X hN hA hok⟩ rfl (by rw [List.length_map]; exact hn) X.2.2.2.1.2.1 hstk ?_ d ⟨by omega, by omega⟩) X.2.2.1 (fun r ad' sh' I' P' H1 locs1 hp hE hw hS => ?_)
  · show 2 * 0 + _ ≤ 8
    omega
  · obtain ⟨X2, e2⟩ := am_after (r := r) X hst2 hE hw hS
    have h9 := k r sh' I' P' hp l p e R s m args below meth c D t A sh0 ad0 ad' mc ms H1 locs1 (cells + mc') (slots + ms') ls C (by omega) (by omega) X2
    rw [e2] at h9
    exact h9
end AMB
