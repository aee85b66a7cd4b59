/-! calls by the number of what they take; fixed tables; copies -/
section AMV
variable {mi mi' : MI} {post post' : APo} {fr lo c0 s0 pc fr' lo' mc' ms' idx q ci : Nat} {lv : List (Option Value)} {st : List Value} {sh : ASh} {I : AIn} {P : APt}
theorem r_callV0 (d : decode mi.2.1 pc = .ok (.invokevirtual idx, 3)) (hM : am_M mi' 0) (hi : Cond.instanceMethod mi'.1 ∈ am_tb ∧ Cond.selects mi'.1.cls mi'.1 mi'.1 ∈ am_tb) (hl : Cond.methodLink mi.1.cls idx mi'.1 ∈ am_tb) (hs : sh q = (1, ci)) (hci : ∃ T N, am_cl[ci]? = some (mi'.1.cls, T, N)) (hmx : 1 ≤ mi'.2.2.1) (hroom : fr' + 1 ≤ fr ∧ 8 + (mi'.2.2.1 + 11) + lo' ≤ lo) (hmc : mc' ≤ c0) (hms : ms' ≤ s0) (hst : st.length ≤ 8)
    (hc : am_R mi' post' fr' lo' mc' ms' 0 (am_ent [.ref q] mi'.2.2.1) [] sh I P) (k : ∀ r sh' I' P', post' r sh' I' P' → am_R mi post fr lo (c0 - mc') (s0 - ms') (pc + 3) lv ((r.map Value.int).toList ++ st) sh' I' P') : am_R mi post fr lo c0 s0 pc lv (.ref q :: st) sh I P :=
  am_callV [] d hM hi hl hs hci rfl hmx hroom hmc hms hst hc k
theorem r_callV1 {a1 : Value} (d : decode mi.2.1 pc = .ok (.invokevirtual idx, 3)) (hM : am_M mi' 1) (hi : Cond.instanceMethod mi'.1 ∈ am_tb ∧ Cond.selects mi'.1.cls mi'.1 mi'.1 ∈ am_tb) (hl : Cond.methodLink mi.1.cls idx mi'.1 ∈ am_tb) (hs : sh q = (1, ci)) (hci : ∃ T N, am_cl[ci]? = some (mi'.1.cls, T, N)) (hmx : 2 ≤ mi'.2.2.1) (hroom : fr' + 1 ≤ fr ∧ 8 + (mi'.2.2.1 + 11) + lo' ≤ lo) (hmc : mc' ≤ c0) (hms : ms' ≤ s0) (hst : st.length ≤ 8)
    (hc : am_R mi' post' fr' lo' mc' ms' 0 (am_ent [.ref q, a1] mi'.2.2.1) [] sh I P) (k : ∀ r sh' I' P', post' r sh' I' P' → am_R mi post fr lo (c0 - mc') (s0 - ms') (pc + 3) lv ((r.map Value.int).toList ++ st) sh' I' P') : am_R mi post fr lo c0 s0 pc lv (a1 :: .ref q :: st) sh I P :=
  am_callV [a1] d hM hi hl hs hci rfl hmx hroom hmc hms hst hc k
theorem r_callS1 {a1 : Value} (d : decode mi.2.1 pc = .ok (.invokestatic idx, 3)) (hM : am_M mi' 1) (hi : Cond.static mi'.1 ∈ am_tb) (hl : Cond.methodLink mi.1.cls idx mi'.1 ∈ am_tb) (hmx : 1 ≤ mi'.2.2.1) (hroom : fr' + 1 ≤ fr ∧ 8 + (mi'.2.2.1 + 11) + lo' ≤ lo) (hmc : mc' ≤ c0) (hms : ms' ≤ s0) (hst : st.length ≤ 8)
    (hc : am_R mi' post' fr' lo' mc' ms' 0 (am_ent [a1] mi'.2.2.1) [] sh I P) (k : ∀ r sh' I' P', post' r sh' I' P' → am_R mi post fr lo (c0 - mc') (s0 - ms') (pc + 3) lv ((r.map Value.int).toList ++ st) sh' I' P') : am_R mi post fr lo c0 s0 pc lv (a1 :: st) sh I P :=
  am_callS [a1] d hM hi hl rfl hmx hroom hmc hms hst hc k
theorem r_callV2 {a1 a2 : Value} (d : decode mi.2.1 pc = .ok (.invokevirtual idx, 3)) (hM : am_M mi' 2) (hi : Cond.instanceMethod mi'.1 ∈ am_tb ∧ Cond.selects mi'.1.cls mi'.1 mi'.1 ∈ am_tb) (hl : Cond.methodLink mi.1.cls idx mi'.1 ∈ am_tb) (hs : sh q = (1, ci)) (hci : ∃ T N, am_cl[ci]? = some (mi'.1.cls, T, N)) (hmx : 3 ≤ mi'.2.2.1) (hroom : fr' + 1 ≤ fr ∧ 8 + (mi'.2.2.1 + 11) + lo' ≤ lo) (hmc : mc' ≤ c0) (hms : ms' ≤ s0) (hst : st.length ≤ 8)
    (hc : am_R mi' post' fr' lo' mc' ms' 0 (am_ent [.ref q, a1, a2] mi'.2.2.1) [] sh I P) (k : ∀ r sh' I' P', post' r sh' I' P' → am_R mi post fr lo (c0 - mc') (s0 - ms') (pc + 3) lv ((r.map Value.int).toList ++ st) sh' I' P') : am_R mi post fr lo c0 s0 pc lv (a2 :: a1 :: .ref q :: st) sh I P :=
  am_callV [a1, a2] d hM hi hl hs hci rfl hmx hroom hmc hms hst hc k
theorem r_callS2 {a1 a2 : Value} (d : decode mi.2.1 pc = .ok (.invokestatic idx, 3)) (hM : am_M mi' 2) (hi : Cond.static mi'.1 ∈ am_tb) (hl : Cond.methodLink mi.1.cls idx mi'.1 ∈ am_tb) (hmx : 2 ≤ mi'.2.2.1) (hroom : fr' + 1 ≤ fr ∧ 8 + (mi'.2.2.1 + 11) + lo' ≤ lo) (hmc : mc' ≤ c0) (hms : ms' ≤ s0) (hst : st.length ≤ 8)
    (hc : am_R mi' post' fr' lo' mc' ms' 0 (am_ent [a1, a2] mi'.2.2.1) [] sh I P) (k : ∀ r sh' I' P', post' r sh' I' P' → am_R mi post fr lo (c0 - mc') (s0 - ms') (pc + 3) lv ((r.map Value.int).toList ++ st) sh' I' P') : am_R mi post fr lo c0 s0 pc lv (a2 :: a1 :: st) sh I P :=
  am_callS [a1, a2] d hM hi hl rfl hmx hroom hmc hms hst hc k
theorem r_callV3 {a1 a2 a3 : Value} (d : decode mi.2.1 pc = .ok (.invokevirtual idx, 3)) (hM : am_M mi' 3) (hi : Cond.instanceMethod mi'.1 ∈ am_tb ∧ Cond.selects mi'.1.cls mi'.1 mi'.1 ∈ am_tb) (hl : Cond.methodLink mi.1.cls idx mi'.1 ∈ am_tb) (hs : sh q = (1, ci)) (hci : ∃ T N, am_cl[ci]? = some (mi'.1.cls, T, N)) (hmx : 4 ≤ mi'.2.2.1) (hroom : fr' + 1 ≤ fr ∧ 8 + (mi'.2.2.1 + 11) + lo' ≤ lo) (hmc : mc' ≤ c0) (hms : ms' ≤ s0) (hst : st.length ≤ 8)
    (hc : am_R mi' post' fr' lo' mc' ms' 0 (am_ent [.ref q, a1, a2, a3] mi'.2.2.1) [] sh I P) (k : ∀ r sh' I' P', post' r sh' I' P' → am_R mi post fr lo (c0 - mc') (s0 - ms') (pc + 3) lv ((r.map Value.int).toList ++ st) sh' I' P') : am_R mi post fr lo c0 s0 pc lv (a3 :: a2 :: a1 :: .ref q :: st) sh I P :=
  am_callV [a1, a2, a3] d hM hi hl hs hci rfl hmx hroom hmc hms hst hc k
theorem r_callS3 {a1 a2 a3 : Value} (d : decode mi.2.1 pc = .ok (.invokestatic idx, 3)) (hM : am_M mi' 3) (hi : Cond.static mi'.1 ∈ am_tb) (hl : Cond.methodLink mi.1.cls idx mi'.1 ∈ am_tb) (hmx : 3 ≤ mi'.2.2.1) (hroom : fr' + 1 ≤ fr ∧ 8 + (mi'.2.2.1 + 11) + lo' ≤ lo) (hmc : mc' ≤ c0) (hms : ms' ≤ s0) (hst : st.length ≤ 8)
    (hc : am_R mi' post' fr' lo' mc' ms' 0 (am_ent [a1, a2, a3] mi'.2.2.1) [] sh I P) (k : ∀ r sh' I' P', post' r sh' I' P' → am_R mi post fr lo (c0 - mc') (s0 - ms') (pc + 3) lv ((r.map Value.int).toList ++ st) sh' I' P') : am_R mi post fr lo c0 s0 pc lv (a3 :: a2 :: a1 :: st) sh I P :=
  am_callS [a1, a2, a3] d hM hi hl rfl hmx hroom hmc hms hst hc k
theorem r_callV4 {a1 a2 a3 a4 : Value} (d : decode mi.2.1 pc = .ok (.invokevirtual idx, 3)) (hM : am_M mi' 4) (hi : Cond.instanceMethod mi'.1 ∈ am_tb ∧ Cond.selects mi'.1.cls mi'.1 mi'.1 ∈ am_tb) (hl : Cond.methodLink mi.1.cls idx mi'.1 ∈ am_tb) (hs : sh q = (1, ci)) (hci : ∃ T N, am_cl[ci]? = some (mi'.1.cls, T, N)) (hmx : 5 ≤ mi'.2.2.1) (hroom : fr' + 1 ≤ fr ∧ 8 + (mi'.2.2.1 + 11) + lo' ≤ lo) (hmc : mc' ≤ c0) (hms : ms' ≤ s0) (hst : st.length ≤ 8)
    (hc : am_R mi' post' fr' lo' mc' ms' 0 (am_ent [.ref q, a1, a2, a3, a4] mi'.2.2.1) [] sh I P) (k : ∀ r sh' I' P', post' r sh' I' P' → am_R mi post fr lo (c0 - mc') (s0 - ms') (pc + 3) lv ((r.map Value.int).toList ++ st) sh' I' P') : am_R mi post fr lo c0 s0 pc lv (a4 :: a3 :: a2 :: a1 :: .ref q :: st) sh I P :=
  am_callV [a1, a2, a3, a4] d hM hi hl hs hci rfl hmx hroom hmc hms hst hc k
theorem r_callS4 {a1 a2 a3 a4 : Value} (d : decode mi.2.1 pc = .ok (.invokestatic idx, 3)) (hM : am_M mi' 4) (hi : Cond.static mi'.1 ∈ am_tb) (hl : Cond.methodLink mi.1.cls idx mi'.1 ∈ am_tb) (hmx : 4 ≤ mi'.2.2.1) (hroom : fr' + 1 ≤ fr ∧ 8 + (mi'.2.2.1 + 11) + lo' ≤ lo) (hmc : mc' ≤ c0) (hms : ms' ≤ s0) (hst : st.length ≤ 8)
    (hc : am_R mi' post' fr' lo' mc' ms' 0 (am_ent [a1, a2, a3, a4] mi'.2.2.1) [] sh I P) (k : ∀ r sh' I' P', post' r sh' I' P' → am_R mi post fr lo (c0 - mc') (s0 - ms') (pc + 3) lv ((r.map Value.int).toList ++ st) sh' I' P') : am_R mi post fr lo c0 s0 pc lv (a4 :: a3 :: a2 :: a1 :: st) sh I P :=
  am_callS [a1, a2, a3, a4] d hM hi hl rfl hmx hroom hmc hms hst hc k
theorem r_callV5 {a1 a2 a3 a4 a5 : Value} (d : decode mi.2.1 pc = .ok (.invokevirtual idx, 3)) (hM : am_M mi' 5) (hi : Cond.instanceMethod mi'.1 ∈ am_tb ∧ Cond.selects mi'.1.cls mi'.1 mi'.1 ∈ am_tb) (hl : Cond.methodLink mi.1.cls idx mi'.1 ∈ am_tb) (hs : sh q = (1, ci)) (hci : ∃ T N, am_cl[ci]? = some (mi'.1.cls, T, N)) (hmx : 6 ≤ mi'.2.2.1) (hroom : fr' + 1 ≤ fr ∧ 8 + (mi'.2.2.1 + 11) + lo' ≤ lo) (hmc : mc' ≤ c0) (hms : ms' ≤ s0) (hst : st.length ≤ 8)
    (hc : am_R mi' post' fr' lo' mc' ms' 0 (am_ent [.ref q, a1, a2, a3, a4, a5] mi'.2.2.1) [] sh I P) (k : ∀ r sh' I' P', post' r sh' I' P' → am_R mi post fr lo (c0 - mc') (s0 - ms') (pc + 3) lv ((r.map Value.int).toList ++ st) sh' I' P') : am_R mi post fr lo c0 s0 pc lv (a5 :: a4 :: a3 :: a2 :: a1 :: .ref q :: st) sh I P :=
  am_callV [a1, a2, a3, a4, a5] d hM hi hl hs hci rfl hmx hroom hmc hms hst hc k
theorem r_callS5 {a1 a2 a3 a4 a5 : Value} (d : decode mi.2.1 pc = .ok (.invokestatic idx, 3)) (hM : am_M mi' 5) (hi : Cond.static mi'.1 ∈ am_tb) (hl : Cond.methodLink mi.1.cls idx mi'.1 ∈ am_tb) (hmx : 5 ≤ mi'.2.2.1) (hroom : fr' + 1 ≤ fr ∧ 8 + (mi'.2.2.1 + 11) + lo' ≤ lo) (hmc : mc' ≤ c0) (hms : ms' ≤ s0) (hst : st.length ≤ 8)
    (hc : am_R mi' post' fr' lo' mc' ms' 0 (am_ent [a1, a2, a3, a4, a5] mi'.2.2.1) [] sh I P) (k : ∀ r sh' I' P', post' r sh' I' P' → am_R mi post fr lo (c0 - mc') (s0 - ms') (pc + 3) lv ((r.map Value.int).toList ++ st) sh' I' P') : am_R mi post fr lo c0 s0 pc lv (a5 :: a4 :: a3 :: a2 :: a1 :: st) sh I P :=
  am_callS [a1, a2, a3, a4, a5] d hM hi hl rfl hmx hroom hmc hms hst hc k
theorem r_callI0 (d : decode mi.2.1 pc = .ok (.invokespecial idx, 3)) (hM : am_M mi' 0) (hret : mi'.2.2.2 = none) (hi : Cond.instanceMethod mi'.1 ∈ am_tb) (hnm2 : mi'.1.name = "<init>") (hl : Cond.methodLink mi.1.cls idx mi'.1 ∈ am_tb) (hmx : 1 ≤ mi'.2.2.1) (hroom : fr' + 1 ≤ fr ∧ 8 + (mi'.2.2.1 + 11) + lo' ≤ lo) (hmc : mc' ≤ c0) (hms : ms' ≤ s0) (hst : st.length ≤ 8)
    (hc : am_R mi' post' fr' lo' mc' ms' 0 (am_ent [.ref q] mi'.2.2.1) [] sh I P) (k : ∀ r sh' I' P', post' r sh' I' P' → am_R mi post fr lo (c0 - mc') (s0 - ms') (pc + 3) lv ((r.map Value.int).toList ++ st) sh' I' P') : am_R mi post fr lo c0 s0 pc lv (.ref q :: st) sh I P :=
  am_callI [] d hM hret hi hnm2 hl rfl hmx hroom hmc hms hst hc k
theorem r_callN0 (d : decode mi.2.1 pc = .ok (.invokespecial idx, 3)) (hM : am_M mi' 0) (hret : mi'.2.2.2 = none) (hi : Cond.instanceMethod mi'.1 ∈ am_tb) (hnm2 : mi'.1.name = "<init>") (host : String) (hl : (mi.1.cls, idx, mi'.1, host) ∈ am_ne) (hmx : 1 ≤ mi'.2.2.1) (hroom : fr' + 1 ≤ fr ∧ 8 + (mi'.2.2.1 + 11) + lo' ≤ lo) (hmc : mc' ≤ c0) (hms : ms' ≤ s0) (hst : st.length ≤ 8)
    (hc : am_R mi' post' fr' lo' mc' ms' 0 (am_ent [.ref q] mi'.2.2.1) [] sh I P) (k : ∀ r sh' I' P', post' r sh' I' P' → am_R mi post fr lo (c0 - mc') (s0 - ms') (pc + 3) lv ((r.map Value.int).toList ++ st) sh' I' P') : am_R mi post fr lo c0 s0 pc lv (.ref q :: st) sh I P :=
  am_callN [] d hM hret hi hnm2 host hl rfl hmx hroom hmc hms hst hc k
/-- a fixed table of sixteen ints, read at an int that lies in the frame -/
theorem r_tab {j : Fin 4} {x : Int32} (w i : Nat) (hw : w < 4) (d1 : decode mi.2.1 pc = .ok (.getstatic idx, 3)) (d2 : decode mi.2.1 (pc + 3) = .ok (.iload_n j, 1)) (d3 : decode mi.2.1 (pc + 4) = .ok (.iaload, 1)) (hl : Cond.fieldLink mi.1.cls idx RX1 (am_sn w) "[I" ∈ am_tb) (h : lv[(j : Nat)]? = some (some (.int x))) (hx : x = nI i) (hi : i < 16) (k : am_R mi post fr lo c0 s0 (pc + 5) lv (.int (am_st w i) :: st) sh I P) : am_R mi post fr lo c0 s0 pc lv st sh I P := by
  intro l p e R s m args below meth c D t A sh0 ad0 ad mc ms H locs cells slots ls C hc0 hs0 X
  obtain ⟨hx0, hb, hml, hr, hown, hts, hlk, hnm, hroom, hN, hA⟩ := id C
  obtain ⟨x1, x2, x3, x4, x5, x6⟩ := X
  subst hx
  obtain ⟨a, hZ, cell, h1, h2, h3, h4, h5, h6, h7⟩ := hN.2.2.2 w hw
  have hcell : H[a]? = some cell := by rw [x3.2.1 a (Array.getElem?_eq_some_iff.mp h1).1 h7]; exact h1
  refine va_gets hx0 hb hZ x3 hown (hts _ hl) (fun _ h9 => h9) d1 ?_
  refine lv_iload_n hx0 hb d2 rfl (x4.2.2.2 _ _ h) ?_
  exact W.iald (v := .int (am_st w i)) hx0 hb hcell h2 h3 (by rw [nI_clamp (by omega)]; intro h9; rcases h9 with h9 | h9; exact nI_pos (by omega) h9; omega) (by rw [nI_clamp (by omega)]; exact h6 i hi) rfl rfl d3
    (k l p e R s m args below meth c D t A sh0 ad0 ad mc ms H locs cells slots ls C hc0 hs0 ⟨x1, x2, x3, x4, am_okc trivial x5, x6⟩)
theorem r_max {x y : Int32} (d : decode mi.2.1 pc = .ok (.invokestatic idx, 3)) (hw : Cond.methodLink mi.1.cls idx Lib.Math.max.name ∈ am_tb ∧ Cond.static Lib.Math.max.name ∈ am_tb ∧ Cond.initialized "java/lang/Math" ∈ am_tb ∧ Cond.code Lib.Math.max.name Lib.Math.max.code 2 (some .int) ∈ am_tb) (hroom : 1 ≤ fr ∧ st.length + 13 ≤ lo) (k : am_R mi post fr lo c0 s0 (pc + 3) lv (.int (if x < y then y else x) :: st) sh I P) : am_R mi post fr lo c0 s0 pc lv (.int y :: .int x :: st) sh I P := by
  intro l p e R s m args below meth c D t A sh0 ad0 ad mc ms H locs cells slots ls C hc0 hs0 X
  obtain ⟨hx0, hb, hml, hr, hown, hts, hlk, hnm, hrm, hN, hA⟩ := id C
  obtain ⟨x1, x2, x3, x4, x5, x6⟩ := X
  have h1 := am_sum ad (am_okt (am_okt x5))
  exact va_mmax hx0 hb (by rw [hml]; exact x4.2.1.symm) hown (hts _ hw.1) (hts _ hw.2.1) (hts _ hw.2.2.1) (hts _ hw.2.2.2) (rest := st.map (cv ad)) (by omega) (by omega) (by omega) (by omega) d
    (k l p e R s m args below meth c D t A sh0 ad0 ad mc ms H locs cells slots ls C hc0 hs0 ⟨x1, x2, x3, x4, am_okc trivial (am_okt (am_okt x5)), x6⟩)
theorem r_copy {q0 q1 n0 n1 : Nat} {x y z : Int32} (sp dp n : Nat) (d : decode mi.2.1 pc = .ok (.invokestatic idx, 3)) (hw : Cond.methodLink mi.1.cls idx arraycopyName ∈ am_tb ∧ Cond.native arraycopyName ∈ am_tb ∧ Cond.static arraycopyName ∈ am_tb ∧ Cond.initialized "java/lang/System" ∈ am_tb) (hs0 : sh q0 = (2, n0)) (hs1 : sh q1 = (2, n1)) (hx : x = nI sp) (hy : y = nI dp) (hz : z = nI n) (h0 : sp + n ≤ n0) (h1 : dp + n ≤ n1) (hn0 : n0 < 2147483648) (hn1 : n1 < 2147483648) (hroom : 1 ≤ fr ∧ st.length + (nativeFrameWords "java/lang/System" "arraycopy" 5 + 11) ≤ lo) (k : am_R mi post fr lo c0 s0 (pc + 3) lv st sh (va_up I q1 (va_cpy (I q0) (I q1) sp dp n)) P) : am_R mi post fr lo c0 s0 pc lv (.int z :: .int y :: .ref q1 :: .int x :: .ref q0 :: st) sh I P := by
  intro l p e R s m args below meth c D t A sh0 ad0 ad mc ms H locs cells slots ls C hc0 hsl0 X
  obtain ⟨hx0, hb, hml, hr, hown, hts, hlk, hnm, hrm, hN, hA⟩ := id C
  obtain ⟨x1, x2, x3, x4, x5, x6⟩ := X
  subst hx hy hz
  have hst2 := am_okt (am_okt (am_okt (am_okt (am_okt x5))))
  have hsum := am_sum ad hst2
  have hsp : (nI sp).toNatClampNeg = sp := nI_clamp (by omega)
  have hdp : (nI dp).toNatClampNeg = dp := nI_clamp (by omega)
  have hnn : (nI n).toNatClampNeg = n := nI_clamp (by omega)
  have hc0' : H[ad q0]? = some (vp_cell (t 0) (n0, .inl (I q0))) := x1.at hs0
  have hc1' : H[ad q1]? = some (vp_cell (t 0) (n1, .inl (I q1))) := x1.at hs1
  intro T hT XS
  obtain ⟨-, k0, hk0, cm0, hkk0⟩ := (hN.1.2 0 _ rfl).1 n0 (fun j => .int (I q0 j))
  obtain ⟨vm', X', step⟩ := XS.arraycopy hx0 hown (hts _ hw.1) (hts _ hw.2.1) (hts _ hw.2.2.1) (hts _ hw.2.2.2) (src := ad q0) (dst := ad q1) (cs := vp_cell (t 0) (n0, .inl (I q0))) (cd := vp_cell (t 0) (n1, .inl (I q1))) (srcPos := nI sp) (destPos := nI dp) (n := nI n) (by rw [hT]; exact hc0') (by rw [hT]; exact hc1')
    (fun _ h => by cases h) (fun _ h => by cases h) (fun h => by cases h) (fun h => by cases h) hk0 hk0 hkk0 hkk0 (by simp [refKind]) (nI_pos (by omega)) (nI_pos (by omega)) (nI_pos (by omega))
    (by rw [nI_toInt (by omega), nI_toInt (by omega)]; show ¬ _ > ((arrV (t 0) n0 (fun j => .int (I q0 j))).slots.size : Int); rw [arrV_size]; omega)
    (by rw [nI_toInt (by omega), nI_toInt (by omega)]; show ¬ _ > ((arrV (t 0) n1 (fun j => .int (I q1 j))).slots.size : Int); rw [arrV_size]; omega)
    (fun vm₁ _ i hi => by
      rw [hnn] at hi
      have e : (vp_cell (t 0) (n0, .inl (I q0))).slots.getD ((nI sp).toNatClampNeg + i) .null = .int (I q0 ((nI sp).toNatClampNeg + i)) := by
        show (arrV (t 0) n0 (fun j => .int (I q0 j))).slots.getD _ _ = _
        rw [Array.getD_eq_getD_getElem?, arrV_read _ _ (by rw [hsp]; omega)]
        rfl
      refine ⟨?_, ?_⟩
      · rw [e]
        rfl
      · rw [e]
        exact trivial)
    (g := F0 m pc ls (.int (nI n) :: .int (nI dp) :: .ref (ad q1) :: .int (nI sp) :: .ref (ad q0) :: st.map (cv ad))) rfl (by rw [hml]; exact x4.2.1) (rest := st.map (cv ad)) rfl (by rw [hb]; exact d) (by omega) (by show 2 * 0 + _ + _ ≤ _; omega)
  have e1 : copied (vp_cell (t 0) (n0, .inl (I q0))) (vp_cell (t 0) (n1, .inl (I q1))) (nI sp) (nI dp) (nI n) = vp_cell (t 0) (n1, .inl (va_cpy (I q0) (I q1) (nI sp).toNatClampNeg (nI dp).toNatClampNeg (nI n).toNatClampNeg)) := va_copied (fun z => .int z) (t 0) (t 0) (I q0) (I q1) (by rw [hsp, hnn]; exact h0)
  rw [e1, hsp, hdp, hnn] at X' step
  have hl : ad q1 < H.size := (Array.getElem?_eq_some_iff.mp hc1').1
  have hheap : ((T.setVm vm').setCell (ad q1) (vp_cell (t 0) (n1, .inl (va_cpy (I q0) (I q1) sp dp n)))).heap = H.setIfInBounds (ad q1) (vp_cell (t 0) (n1, .inl (va_cpy (I q0) (I q1) sp dp n))) := by rw [← hT]; rfl
  have oq : ∀ a : Nat, a ≠ ad q1 → (H.setIfInBounds (ad q1) (vp_cell (t 0) (n1, .inl (va_cpy (I q0) (I q1) sp dp n))))[a]? = H[a]? := fun a ha => by simp [Array.getElem?_setIfInBounds, Ne.symm ha]
  have hq1 : (sh q1).1 ≠ 0 := by rw [hs1]; exact Nat.succ_ne_zero _
  obtain ⟨u, a1, b1⟩ := k l p e R s m args below meth c D t A sh0 ad0 ad mc ms _ _ cells slots ls C hc0 hsl0 ⟨x1.setI hq1 (by rw [hs1]; show (H.setIfInBounds (ad q1) _)[ad q1]? = some _; simp only [Array.getElem?_setIfInBounds, hl]; rfl) oq, x2, ⟨by simp; exact x3.1, fun a g1 g2 => by
      rw [oq a (fun e => g2 (by rw [e]; exact x1.1 q1 hq1))]
      exact x3.2.1 a g1 g2, fun a ha => by
      rcases List.mem_append.mp ha with h | h
      · exact x3.2.2 a h
      · obtain ⟨z, -, hz⟩ := List.mem_map.mp h
        rw [← hz]
        exact x1.1 q1 hq1⟩, x4, hst2, x6⟩ _ hheap X'
  exact ⟨u, step u a1, b1⟩
end AMV
