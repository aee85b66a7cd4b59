/-! the law's own machine: the abstract one, with the script beside it -/
abbrev LB : Type := Nat × Nat × (Nat → Int32)
def lwB (bb : LB) (A : Nat → Prop) (s : State) (args : Array Value) (ls : Array Slot) : Prop := args = #[.ref bb.1] ∧ ls[0]? = some (.val (.ref bb.1)) ∧ va_X bb.1 bb.2.1 bb.2.2 s s.heap ∧ bb.1 < s.heap.size ∧ ¬ A bb.1
def am_RL (bb : LB) (mi : MI) (post : APo) (fr lo c0 s0 pc : Nat) (lv : List (Option Value)) (st : List Value) (sh : ASh) (I : AIn) (P : APt) : Prop :=
  ∀ (l : Launch) (p : Program) (e : Env) (R : Room) (s : State) (m : MethodId) (args : Array Value) (below : List Frame) (meth : Method) (c : Code) (D : va_G) (t : Nat → ClassId) (A : Nat → Prop) (sh0 : ASh) (ad0 ad : Nat → Nat) (mc ms : Nat) (H : Heap) (locs : List Loc) (cells slots : Nat) (ls : Array Slot),
    am_C mi fr lo mc ms D t A p R s m args meth c → cells + c0 = mc → slots + s0 = ms → am_X D t A sh0 ad0 ad s.heap H locs ls mi.2.2.1 lv st sh I P → lwB bb A s args ls →
    W p l e R s m args below meth c H locs cells slots (MQ below (am_Q D t A ad0 sh0 post) args s mc ms A) (F0 m pc ls (st.map (cv ad)))
section LAWM
variable {bb : LB} {mi mi' : MI} {post post' : APo} {fr lo c0 s0 pc fr' lo' mc' ms' idx q ci : Nat} {lv : List (Option Value)} {st : List Value} {sh : ASh} {I : AIn} {P : APt}
theorem L_pure {st' : List Value} {pc' : Nat} (hk : am_RL bb mi post fr lo c0 s0 pc' lv st' sh I P)
    (hok : (∀ v ∈ st, am_ok sh v) → (∀ (i : Nat) (v : Value), lv[i]? = some (some v) → am_ok sh v) → ∀ v ∈ st', am_ok sh v)
    (hW : ∀ {l : Launch} {p : Program} {e : Env} {R : Room} {s : State} {m : MethodId} {args : Array Value} {below : List Frame} {meth : Method} {c : Code} {H : Heap} {locs : List Loc} {cells slots : Nat} {Q : State → Prop} {ad : Nat → Nat} {ls : Array Slot}, p.tables.exec = Jvm.exec → c.code = mi.2.1 → (∀ (i : Nat) (v : Value), lv[i]? = some (some v) → ls[i]? = some (.val (cv ad v))) → (∀ v ∈ st, am_ok sh v) →
      W p l e R s m args below meth c H locs cells slots Q (F0 m pc' ls (st'.map (cv ad))) → W p l e R s m args below meth c H locs cells slots Q (F0 m pc ls (st.map (cv ad)))) : am_RL bb mi post fr lo c0 s0 pc lv st sh I P := by
  intro l p e R s m args below meth c D t A sh0 ad0 ad mc ms H locs cells slots ls C hc hs X HB
  obtain ⟨x1, x2, x3, x4, x5, x6⟩ := X
  exact hW C.1 C.2.1 x4.2.2.2 x5 (hk l p e R s m args below meth c D t A sh0 ad0 ad mc ms H locs cells slots ls C hc hs ⟨x1, x2, x3, x4, hok x5 x6, x6⟩ HB)
theorem L_two {st' : List Value} {pc1 pc2 : Nat} {B : Prop} (h1 : B → am_RL bb mi post fr lo c0 s0 pc1 lv st' sh I P) (h2 : ¬ B → am_RL bb mi post fr lo c0 s0 pc2 lv st' sh I P)
    (hok : (∀ v ∈ st, am_ok sh v) → ∀ v ∈ st', am_ok sh v)
    (hW : ∀ {l : Launch} {p : Program} {e : Env} {R : Room} {s : State} {m : MethodId} {args : Array Value} {below : List Frame} {meth : Method} {c : Code} {H : Heap} {locs : List Loc} {cells slots : Nat} {Q : State → Prop} {ad : Nat → Nat} {ls : Array Slot}, p.tables.exec = Jvm.exec → c.code = mi.2.1 →
      (B → W p l e R s m args below meth c H locs cells slots Q (F0 m pc1 ls (st'.map (cv ad)))) → (¬ B → W p l e R s m args below meth c H locs cells slots Q (F0 m pc2 ls (st'.map (cv ad)))) → W p l e R s m args below meth c H locs cells slots Q (F0 m pc ls (st.map (cv ad)))) : am_RL bb mi post fr lo c0 s0 pc lv st sh I P := by
  intro l p e R s m args below meth c D t A sh0 ad0 ad mc ms H locs cells slots ls C hc hs X HB
  obtain ⟨x1, x2, x3, x4, x5, x6⟩ := X
  exact hW C.1 C.2.1 (fun b => h1 b l p e R s m args below meth c D t A sh0 ad0 ad mc ms H locs cells slots ls C hc hs ⟨x1, x2, x3, x4, hok x5, x6⟩ HB) (fun b => h2 b l p e R s m args below meth c D t A sh0 ad0 ad mc ms H locs cells slots ls C hc hs ⟨x1, x2, x3, x4, hok x5, x6⟩ HB)
theorem L_iconst {n : Int} {v : Int32} (d : decode mi.2.1 pc = .ok (.iconst n, 1)) (hv : Int32.ofInt n = v) (k : am_RL bb mi post fr lo c0 s0 (pc + 1) lv (.int v :: st) sh I P) : am_RL bb mi post fr lo c0 s0 pc lv st sh I P :=
  L_pure k (fun h _ => am_okc trivial h) (fun hx hb _ _ kk => lv_iconst hx hb d hv kk)
theorem L_bipush {n : Int} {v : Int32} (d : decode mi.2.1 pc = .ok (.bipush n, 2)) (hv : (Int8.ofInt n).toInt32 = v) (k : am_RL bb mi post fr lo c0 s0 (pc + 2) lv (.int v :: st) sh I P) : am_RL bb mi post fr lo c0 s0 pc lv st sh I P :=
  L_pure k (fun h _ => am_okc trivial h) (fun hx hb _ _ kk => lv_bipush hx hb d hv kk)
theorem L_iload_n {j : Fin 4} {x : Int32} (d : decode mi.2.1 pc = .ok (.iload_n j, 1)) (h : lv[(j : Nat)]? = some (some (.int x))) (k : am_RL bb mi post fr lo c0 s0 (pc + 1) lv (.int x :: st) sh I P) : am_RL bb mi post fr lo c0 s0 pc lv st sh I P :=
  L_pure k (fun h _ => am_okc trivial h) (fun hx hb hl _ kk => lv_iload_n hx hb d rfl (hl _ _ h) kk)
theorem L_aload_n {j : Fin 4} {x : Nat} (d : decode mi.2.1 pc = .ok (.aload_n j, 1)) (h : lv[(j : Nat)]? = some (some (.ref x))) (k : am_RL bb mi post fr lo c0 s0 (pc + 1) lv (.ref x :: st) sh I P) : am_RL bb mi post fr lo c0 s0 pc lv st sh I P :=
  L_pure k (fun h2 h3 => am_okc (h3 _ _ h) h2) (fun hx hb hl _ kk => lv_aload_n hx hb d rfl (hl _ _ h) kk)
theorem L_iadd {x y : Int32} (d : decode mi.2.1 pc = .ok (.iadd, 1)) (k : am_RL bb mi post fr lo c0 s0 (pc + 1) lv (.int (x + y) :: st) sh I P) : am_RL bb mi post fr lo c0 s0 pc lv (.int y :: .int x :: st) sh I P :=
  L_pure k (fun h _ => am_okc trivial (am_okt (am_okt h))) (fun hx hb _ _ kk => lv_iadd hx hb d kk)
theorem L_isub {x y : Int32} (d : decode mi.2.1 pc = .ok (.isub, 1)) (k : am_RL bb mi post fr lo c0 s0 (pc + 1) lv (.int (x - y) :: st) sh I P) : am_RL bb mi post fr lo c0 s0 pc lv (.int y :: .int x :: st) sh I P :=
  L_pure k (fun h _ => am_okc trivial (am_okt (am_okt h))) (fun hx hb _ _ kk => lv_isub hx hb d kk)
theorem L_iand {x y : Int32} (d : decode mi.2.1 pc = .ok (.iand, 1)) (k : am_RL bb mi post fr lo c0 s0 (pc + 1) lv (.int (x &&& y) :: st) sh I P) : am_RL bb mi post fr lo c0 s0 pc lv (.int y :: .int x :: st) sh I P :=
  L_pure k (fun h _ => am_okc trivial (am_okt (am_okt h))) (fun hx hb _ _ kk => lv_iand hx hb d kk)
theorem L_dup {v : Value} (d : decode mi.2.1 pc = .ok (.dup, 1)) (k : am_RL bb mi post fr lo c0 s0 (pc + 1) lv (v :: v :: st) sh I P) : am_RL bb mi post fr lo c0 s0 pc lv (v :: st) sh I P :=
  L_pure k (fun h _ => am_okc (am_okh h) h) (fun {_ _ _ _ _ _ _ _ _ _ _ _ _ _ _ ad _} hx hb _ h kk => lv_dup hx hb d (am_catc ad (am_okh h)) kk)
theorem L_goto {off : Int} (tgt : Nat) (d : decode mi.2.1 pc = .ok (.goto off, 3)) (ht : (pc : Int) + off = (tgt : Int)) (k : am_RL bb mi post fr lo c0 s0 tgt lv st sh I P) : am_RL bb mi post fr lo c0 s0 pc lv st sh I P :=
  L_pure k (fun h _ => h) (fun hx hb _ _ kk => lv_goto hx hb d ht kk)
theorem L_if_eq {x : Int32} {off : Int} (tgt : Nat) (d : decode mi.2.1 pc = .ok (.ifCond .eq off, 3)) (ht : (pc : Int) + off = (tgt : Int)) (k1 : x = 0 → am_RL bb mi post fr lo c0 s0 tgt lv st sh I P) (k2 : ¬ x = 0 → am_RL bb mi post fr lo c0 s0 (pc + 3) lv st sh I P) : am_RL bb mi post fr lo c0 s0 pc lv (.int x :: st) sh I P :=
  L_two k1 k2 (fun h => am_okt h) (fun hx hb a b => lv_if_eq hx hb d ht a b)
theorem L_if_ne {x : Int32} {off : Int} (tgt : Nat) (d : decode mi.2.1 pc = .ok (.ifCond .ne off, 3)) (ht : (pc : Int) + off = (tgt : Int)) (k1 : ¬ x = 0 → am_RL bb mi post fr lo c0 s0 tgt lv st sh I P) (k2 : x = 0 → am_RL bb mi post fr lo c0 s0 (pc + 3) lv st sh I P) : am_RL bb mi post fr lo c0 s0 pc lv (.int x :: st) sh I P :=
  L_two k2 k1 (fun h => am_okt h) (fun hx hb a b => lv_if_ne hx hb d ht b a)
theorem L_icmp_eq {x y : Int32} {off : Int} (tgt : Nat) (d : decode mi.2.1 pc = .ok (.if_icmp .eq off, 3)) (ht : (pc : Int) + off = (tgt : Int)) (k1 : x = y → am_RL bb mi post fr lo c0 s0 tgt lv st sh I P) (k2 : ¬ x = y → am_RL bb mi post fr lo c0 s0 (pc + 3) lv st sh I P) : am_RL bb mi post fr lo c0 s0 pc lv (.int y :: .int x :: st) sh I P :=
  L_two k1 k2 (fun h => am_okt (am_okt h)) (fun hx hb a b => lv_icmp_eq hx hb d ht a b)
theorem L_icmp_gt {x y : Int32} {off : Int} (tgt : Nat) (d : decode mi.2.1 pc = .ok (.if_icmp .gt off, 3)) (ht : (pc : Int) + off = (tgt : Int)) (k1 : y < x → am_RL bb mi post fr lo c0 s0 tgt lv st sh I P) (k2 : ¬ y < x → am_RL bb mi post fr lo c0 s0 (pc + 3) lv st sh I P) : am_RL bb mi post fr lo c0 s0 pc lv (.int y :: .int x :: st) sh I P :=
  L_two k1 k2 (fun h => am_okt (am_okt h)) (fun hx hb a b => lv_icmp_gt hx hb d ht a b)
theorem L_tabIn {dflt lw hi : Int} {offs : Array Int} {len : Nat} {x : Int32} {off : Int} (tgt : Nat) (d : decode mi.2.1 pc = .ok (.tableswitch dflt lw hi offs, len)) (h1 : ¬ x.toInt < lw) (h2 : ¬ hi < x.toInt) (ho : offs[(x.toInt - lw).toNat]? = some off) (ht : (pc : Int) + off = (tgt : Int)) (k : am_RL bb mi post fr lo c0 s0 tgt lv st sh I P) : am_RL bb mi post fr lo c0 s0 pc lv (.int x :: st) sh I P :=
  L_pure k (fun h _ => am_okt h) (fun hx hb _ _ kk => lv_tableIn hx hb d h1 h2 ho ht kk)
theorem L_tabOut {dflt lw hi : Int} {offs : Array Int} {len : Nat} {x : Int32} (tgt : Nat) (d : decode mi.2.1 pc = .ok (.tableswitch dflt lw hi offs, len)) (h : x.toInt < lw ∨ hi < x.toInt) (ht : (pc : Int) + dflt = (tgt : Int)) (k : am_RL bb mi post fr lo c0 s0 tgt lv st sh I P) : am_RL bb mi post fr lo c0 s0 pc lv (.int x :: st) sh I P :=
  L_pure k (fun h _ => am_okt h) (fun hx hb _ _ kk => lv_tableOut hx hb d h ht kk)
theorem L_new {idx ci N : Nat} (k : Nat) (d : decode mi.2.1 pc = .ok (.new idx, 3)) (hK : am_K mi.1.cls idx ci N) (hk : (sh k).1 = 0) (hc1 : 1 ≤ c0) (hs1 : N ≤ s0) (kk : am_RL bb mi post fr lo (c0 - 1) (s0 - N) (pc + 3) lv (.ref k :: st) (va_up sh k (1, ci)) (va_up I k (fun _ => 0)) (va_up P k (fun _ => none))) : am_RL bb mi post fr lo c0 s0 pc lv st sh I P := by
  intro l p e R s m args below meth c D t A sh0 ad0 ad mc ms H locs cells slots ls C hc0 hs0 X HB
  obtain ⟨hx0, hb, hml, hr, hown, hts, hlk, hnm, hroom, hN, hA⟩ := id C
  obtain ⟨C1, T1, g1, g2, g3, g4, g5, g6, g7⟩ := hK
  have hst := X.2.2.2.2.1
  have hKn := hN.1.1 ci _ g1
  refine W.newcK hx0 hb hown (hts _ g3) (hts _ g4) (hts _ g5) rfl d (by omega) (by omega) hKn.2.1 rfl fun H1 kC hkC e1 z1 o1 => ?_
  have X2 := X.born (st := st) (H1 := H1) (k := k) (q := (1, ci)) hst hk Nat.one_ne_zero hA ⟨_, g1, (u_born (am_ty ci) hts g2 hKn hkC e1 g6).to (fun j hj => by rw [g7 j hj]; rfl)⟩ z1 o1
  have h9 := kk l p e R s m args below meth c D t A sh0 ad0 _ mc ms H1 locs (cells + 1) (slots + N) ls C (by omega) (by omega) X2 HB
  rw [List.map_cons, cv_mapup hk hst, show cv (va_up ad k H.size) (.ref k) = .ref H.size by simp [cv, va_up]] at h9
  exact h9
theorem L_callV {mi' : MI} {post' : APo} {fr' lo' mc' ms' n idx q ci : Nat} (As : List Value) (d : decode mi.2.1 pc = .ok (.invokevirtual idx, 3)) (hM : am_M mi' n) (hi : Cond.instanceMethod mi'.1 ∈ am_tb ∧ Cond.selects mi'.1.cls mi'.1 mi'.1 ∈ am_tb) (hl : Cond.methodLink mi.1.cls idx mi'.1 ∈ am_tb) (hs : sh q = (1, ci)) (hci : ∃ T N, am_cl[ci]? = some (mi'.1.cls, T, N)) (hn : As.length = n) (hmx : n + 1 ≤ mi'.2.2.1) (hroom : fr' + 1 ≤ fr ∧ 8 + (mi'.2.2.1 + 11) + lo' ≤ lo) (hmc : mc' ≤ c0) (hms : ms' ≤ s0) (hst : st.length ≤ 8)
    (hc : am_R mi' post' fr' lo' mc' ms' 0 (am_ent (.ref q :: As) mi'.2.2.1) [] sh I P) (k : ∀ r sh' I' P', post' r sh' I' P' → am_RL bb mi post fr lo (c0 - mc') (s0 - ms') (pc + 3) lv ((r.map Value.int).toList ++ st) sh' I' P') : am_RL bb mi post fr lo c0 s0 pc lv (As.reverse ++ .ref q :: st) sh I P := by
  intro l p e R s m args below meth c D t A sh0 ad0 ad mc ms H locs cells slots ls C hc0 hs0 X HB
  obtain ⟨hx0, hb, hml, hr, hown, hts, hlk, hnm, hrm, hN, hA⟩ := id C
  obtain ⟨hok, hst2⟩ := am_ok_rev X.2.2.2.2.1
  obtain ⟨T1, N1, g1⟩ := hci
  have h1 := am_sum ad hst2
  have hrecv : ∃ cellB : Cell, H[ad q]? = some cellB ∧ cellB.vm.isStatics = false ∧ s.vm.findClass mi'.1.cls = some cellB.cls := by
    obtain ⟨r, h1, cell, q1, q2, q3, -⟩ := X.1.at hs
    exact ⟨cell, q1, by rw [q3]; rfl, by rw [q2]; exact (hN.1.1 ci _ g1).2.1⟩
  have hstk : (As.reverse ++ .ref q :: st).map (cv ad) = (As.map (cv ad)).reverse ++ .ref (ad q) :: st.map (cv ad) := by rw [List.map_append, List.map_reverse]; rfl
  refine am_ret (va_runV (As := As.map (cv ad)) (rest := st.map (cv ad)) (b := ad q) ⟨hx0, hb, hml, hown, hts⟩ (am_met hc hM.2.2.2.2 (by rw [List.length_cons, hn]; exact hmx) l D t A ad) ⟨am_cb hM hl hts ⟨by omega, by omega⟩, hts _ hi.1, hts _ hi.2⟩ ⟨am_blind D t A ad _, hrecv, am_pre X hN hA hok⟩ rfl (by rw [List.length_map]; exact hn) X.2.2.2.1.2.1 hstk ?_ d ⟨by omega, by omega⟩) X.2.2.1 (fun r ad' sh' I' P' H1 locs1 hp hE hw hS => ?_)
  · show 2 * 0 + _ ≤ 8
    omega
  · obtain ⟨X2, e2⟩ := am_after (r := r) X hst2 hE hw hS
    have h9 := k r sh' I' P' hp l p e R s m args below meth c D t A sh0 ad0 ad' mc ms H1 locs1 (cells + mc') (slots + ms') ls C (by omega) (by omega) X2 HB
    rw [e2] at h9
    exact h9
theorem L_callI {mi' : MI} {post' : APo} {fr' lo' mc' ms' n idx q : Nat} (As : List Value) (d : decode mi.2.1 pc = .ok (.invokespecial idx, 3)) (hM : am_M mi' n) (hret : mi'.2.2.2 = none) (hi : Cond.instanceMethod mi'.1 ∈ am_tb) (hnm2 : mi'.1.name = "<init>") (hl : Cond.methodLink mi.1.cls idx mi'.1 ∈ am_tb) (hn : As.length = n) (hmx : n + 1 ≤ mi'.2.2.1) (hroom : fr' + 1 ≤ fr ∧ 8 + (mi'.2.2.1 + 11) + lo' ≤ lo) (hmc : mc' ≤ c0) (hms : ms' ≤ s0) (hst : st.length ≤ 8)
    (hc : am_R mi' post' fr' lo' mc' ms' 0 (am_ent (.ref q :: As) mi'.2.2.1) [] sh I P) (k : ∀ r sh' I' P', post' r sh' I' P' → am_RL bb mi post fr lo (c0 - mc') (s0 - ms') (pc + 3) lv ((r.map Value.int).toList ++ st) sh' I' P') : am_RL bb mi post fr lo c0 s0 pc lv (As.reverse ++ .ref q :: st) sh I P := by
  intro l p e R s m args below meth c D t A sh0 ad0 ad mc ms H locs cells slots ls C hc0 hs0 X HB
  obtain ⟨hx0, hb, hml, hr, hown, hts, hlk, hnm, hrm, hN, hA⟩ := id C
  obtain ⟨hok, hst2⟩ := am_ok_rev X.2.2.2.2.1
  have h1 := am_sum ad hst2
  have hstk : (As.reverse ++ .ref q :: st).map (cv ad) = (As.map (cv ad)).reverse ++ .ref (ad q) :: st.map (cv ad) := by rw [List.map_append, List.map_reverse]; rfl
  have hcb := am_cb (mi := mi) (mc' := mc') (ms' := ms') (R := R) hM hl hts (fr' := fr') (lo' := lo') ⟨by omega, by omega⟩
  have hmt := am_met hc hM.2.2.2.2 (by rw [List.length_cons, hn]; exact hmx) l D t A ad
  rw [hret] at hcb hmt
  refine am_ret (va_runI (As := As.map (cv ad)) (rest := st.map (cv ad)) (b := ad q) ⟨hx0, hb, hml, hown, hts⟩ hmt ⟨hcb, hnm2, hts _ hi⟩ ⟨am_blind D t A ad _, am_pre X hN hA hok⟩ rfl (by rw [List.length_map]; exact hn) X.2.2.2.1.2.1 hstk ?_ d ⟨by omega, by omega⟩) X.2.2.1 (fun r ad' sh' I' P' H1 locs1 hp hE hw hS => ?_)
  · show 2 * 0 + _ ≤ 8
    omega
  · obtain ⟨X2, e2⟩ := am_after (r := r) X hst2 hE hw hS
    have h9 := k r sh' I' P' hp l p e R s m args below meth c D t A sh0 ad0 ad' mc ms H1 locs1 (cells + mc') (slots + ms') ls C (by omega) (by omega) X2 HB
    rw [e2] at h9
    exact h9
theorem L_ireturn {v : Int32} (d : decode mi.2.1 pc = .ok (.ireturn, 1)) (ty : FieldType) (hty : mi.2.2.2 = some ty) (hn : narrow ty (.int v) = .int v) (hp : post (some v) sh I P) : am_RL bb mi post fr lo c0 s0 pc lv [.int v] sh I P := by
  intro l p e R s m args below meth c D t A sh0 ad0 ad mc ms H locs cells slots ls C hc0 hs0 X HB
  obtain ⟨hx0, hb, hml, hr, hown, hts, hlk, hnm, hrm, hN, hA⟩ := id C
  obtain ⟨x1, x2, x3, x4, x5, x6⟩ := X
  refine W.widen (k := mc) (n := ms) (by omega) (by omega) ?_
  exact W.zret hx0 hb (hr.trans hty) hn (fun u hu hW => ⟨⟨some v, ad, sh, I, P, rfl, hp, x2, by rw [hu]; exact x1⟩, x3.F hu⟩) x3.2.2 d
theorem L_callV0 (d : decode mi.2.1 pc = .ok (.invokevirtual idx, 3)) (hM : am_M mi' 0) (hi : Cond.instanceMethod mi'.1 ∈ am_tb ∧ Cond.selects mi'.1.cls mi'.1 mi'.1 ∈ am_tb) (hl : Cond.methodLink mi.1.cls idx mi'.1 ∈ am_tb) (hs : sh q = (1, ci)) (hci : ∃ T N, am_cl[ci]? = some (mi'.1.cls, T, N)) (hmx : 1 ≤ mi'.2.2.1) (hroom : fr' + 1 ≤ fr ∧ 8 + (mi'.2.2.1 + 11) + lo' ≤ lo) (hmc : mc' ≤ c0) (hms : ms' ≤ s0) (hst : st.length ≤ 8)
    (hc : am_R mi' post' fr' lo' mc' ms' 0 (am_ent [.ref q] mi'.2.2.1) [] sh I P) (k : ∀ r sh' I' P', post' r sh' I' P' → am_RL bb mi post fr lo (c0 - mc') (s0 - ms') (pc + 3) lv ((r.map Value.int).toList ++ st) sh' I' P') : am_RL bb mi post fr lo c0 s0 pc lv (.ref q :: st) sh I P :=
  L_callV [] d hM hi hl hs hci rfl hmx hroom hmc hms hst hc k
theorem L_callV1 {a1 : Value} (d : decode mi.2.1 pc = .ok (.invokevirtual idx, 3)) (hM : am_M mi' 1) (hi : Cond.instanceMethod mi'.1 ∈ am_tb ∧ Cond.selects mi'.1.cls mi'.1 mi'.1 ∈ am_tb) (hl : Cond.methodLink mi.1.cls idx mi'.1 ∈ am_tb) (hs : sh q = (1, ci)) (hci : ∃ T N, am_cl[ci]? = some (mi'.1.cls, T, N)) (hmx : 2 ≤ mi'.2.2.1) (hroom : fr' + 1 ≤ fr ∧ 8 + (mi'.2.2.1 + 11) + lo' ≤ lo) (hmc : mc' ≤ c0) (hms : ms' ≤ s0) (hst : st.length ≤ 8)
    (hc : am_R mi' post' fr' lo' mc' ms' 0 (am_ent [.ref q, a1] mi'.2.2.1) [] sh I P) (k : ∀ r sh' I' P', post' r sh' I' P' → am_RL bb mi post fr lo (c0 - mc') (s0 - ms') (pc + 3) lv ((r.map Value.int).toList ++ st) sh' I' P') : am_RL bb mi post fr lo c0 s0 pc lv (a1 :: .ref q :: st) sh I P :=
  L_callV [a1] d hM hi hl hs hci rfl hmx hroom hmc hms hst hc k
theorem L_callV2 {a1 a2 : Value} (d : decode mi.2.1 pc = .ok (.invokevirtual idx, 3)) (hM : am_M mi' 2) (hi : Cond.instanceMethod mi'.1 ∈ am_tb ∧ Cond.selects mi'.1.cls mi'.1 mi'.1 ∈ am_tb) (hl : Cond.methodLink mi.1.cls idx mi'.1 ∈ am_tb) (hs : sh q = (1, ci)) (hci : ∃ T N, am_cl[ci]? = some (mi'.1.cls, T, N)) (hmx : 3 ≤ mi'.2.2.1) (hroom : fr' + 1 ≤ fr ∧ 8 + (mi'.2.2.1 + 11) + lo' ≤ lo) (hmc : mc' ≤ c0) (hms : ms' ≤ s0) (hst : st.length ≤ 8)
    (hc : am_R mi' post' fr' lo' mc' ms' 0 (am_ent [.ref q, a1, a2] mi'.2.2.1) [] sh I P) (k : ∀ r sh' I' P', post' r sh' I' P' → am_RL bb mi post fr lo (c0 - mc') (s0 - ms') (pc + 3) lv ((r.map Value.int).toList ++ st) sh' I' P') : am_RL bb mi post fr lo c0 s0 pc lv (a2 :: a1 :: .ref q :: st) sh I P :=
  L_callV [a1, a2] d hM hi hl hs hci rfl hmx hroom hmc hms hst hc k
theorem L_callV3 {a1 a2 a3 : Value} (d : decode mi.2.1 pc = .ok (.invokevirtual idx, 3)) (hM : am_M mi' 3) (hi : Cond.instanceMethod mi'.1 ∈ am_tb ∧ Cond.selects mi'.1.cls mi'.1 mi'.1 ∈ am_tb) (hl : Cond.methodLink mi.1.cls idx mi'.1 ∈ am_tb) (hs : sh q = (1, ci)) (hci : ∃ T N, am_cl[ci]? = some (mi'.1.cls, T, N)) (hmx : 4 ≤ mi'.2.2.1) (hroom : fr' + 1 ≤ fr ∧ 8 + (mi'.2.2.1 + 11) + lo' ≤ lo) (hmc : mc' ≤ c0) (hms : ms' ≤ s0) (hst : st.length ≤ 8)
    (hc : am_R mi' post' fr' lo' mc' ms' 0 (am_ent [.ref q, a1, a2, a3] mi'.2.2.1) [] sh I P) (k : ∀ r sh' I' P', post' r sh' I' P' → am_RL bb mi post fr lo (c0 - mc') (s0 - ms') (pc + 3) lv ((r.map Value.int).toList ++ st) sh' I' P') : am_RL bb mi post fr lo c0 s0 pc lv (a3 :: a2 :: a1 :: .ref q :: st) sh I P :=
  L_callV [a1, a2, a3] d hM hi hl hs hci rfl hmx hroom hmc hms hst hc k
theorem L_callV5 {a1 a2 a3 a4 a5 : Value} (d : decode mi.2.1 pc = .ok (.invokevirtual idx, 3)) (hM : am_M mi' 5) (hi : Cond.instanceMethod mi'.1 ∈ am_tb ∧ Cond.selects mi'.1.cls mi'.1 mi'.1 ∈ am_tb) (hl : Cond.methodLink mi.1.cls idx mi'.1 ∈ am_tb) (hs : sh q = (1, ci)) (hci : ∃ T N, am_cl[ci]? = some (mi'.1.cls, T, N)) (hmx : 6 ≤ mi'.2.2.1) (hroom : fr' + 1 ≤ fr ∧ 8 + (mi'.2.2.1 + 11) + lo' ≤ lo) (hmc : mc' ≤ c0) (hms : ms' ≤ s0) (hst : st.length ≤ 8)
    (hc : am_R mi' post' fr' lo' mc' ms' 0 (am_ent [.ref q, a1, a2, a3, a4, a5] mi'.2.2.1) [] sh I P) (k : ∀ r sh' I' P', post' r sh' I' P' → am_RL bb mi post fr lo (c0 - mc') (s0 - ms') (pc + 3) lv ((r.map Value.int).toList ++ st) sh' I' P') : am_RL bb mi post fr lo c0 s0 pc lv (a5 :: a4 :: a3 :: a2 :: a1 :: .ref q :: st) sh I P :=
  L_callV [a1, a2, a3, a4, a5] d hM hi hl hs hci rfl hmx hroom hmc hms hst hc k
theorem L_callI0 (d : decode mi.2.1 pc = .ok (.invokespecial idx, 3)) (hM : am_M mi' 0) (hret : mi'.2.2.2 = none) (hi : Cond.instanceMethod mi'.1 ∈ am_tb) (hnm2 : mi'.1.name = "<init>") (hl : Cond.methodLink mi.1.cls idx mi'.1 ∈ am_tb) (hmx : 1 ≤ mi'.2.2.1) (hroom : fr' + 1 ≤ fr ∧ 8 + (mi'.2.2.1 + 11) + lo' ≤ lo) (hmc : mc' ≤ c0) (hms : ms' ≤ s0) (hst : st.length ≤ 8)
    (hc : am_R mi' post' fr' lo' mc' ms' 0 (am_ent [.ref q] mi'.2.2.1) [] sh I P) (k : ∀ r sh' I' P', post' r sh' I' P' → am_RL bb mi post fr lo (c0 - mc') (s0 - ms') (pc + 3) lv ((r.map Value.int).toList ++ st) sh' I' P') : am_RL bb mi post fr lo c0 s0 pc lv (.ref q :: st) sh I P :=
  L_callI [] d hM hret hi hnm2 hl rfl hmx hroom hmc hms hst hc k
theorem L_ki {f : Int32 → ASh → AIn → APt → Prop} {fr lo c0 s0 pc : Nat} (k : ∀ v sh' I' P', f v sh' I' P' → am_RL bb mi post fr lo c0 s0 pc lv (.int v :: st) sh' I' P') : ∀ r sh' I' P', po_i f r sh' I' P' → am_RL bb mi post fr lo c0 s0 pc lv ((r.map Value.int).toList ++ st) sh' I' P' := by
  rintro r sh' I' P' ⟨v, rfl, h⟩
  exact k v sh' I' P' h
theorem L_kv {f : ASh → AIn → APt → Prop} {fr lo c0 s0 pc : Nat} (k : ∀ sh' I' P', f sh' I' P' → am_RL bb mi post fr lo c0 s0 pc lv st sh' I' P') : ∀ r sh' I' P', po_v f r sh' I' P' → am_RL bb mi post fr lo c0 s0 pc lv ((r.map Value.int).toList ++ st) sh' I' P' := by
  rintro r sh' I' P' ⟨rfl, h⟩
  exact k sh' I' P' h
theorem L_weak {c1 s1 : Nat} (h : am_RL bb mi post fr lo c0 s0 pc lv st sh I P) (hc : c0 ≤ c1) (hs : s0 ≤ s1) : am_RL bb mi post fr lo c1 s1 pc lv st sh I P := by
  intro l p e R s m args below meth c D t A sh0 ad0 ad mc ms H locs cells slots ls C hc0 hs0 X HB
  refine W.widen (k := cells + (c1 - c0)) (n := slots + (s1 - s0)) (by omega) (by omega) ?_
  exact h l p e R s m args below meth c D t A sh0 ad0 ad mc ms H locs _ _ ls C (by omega) (by omega) X HB
theorem L_has {ad : Nat → Nat} {ls : Array Slot} {n b : Nat} (h : am_L ad ls n lv) (h0 : ls[0]? = some (.val (.ref b))) : lv_has ls n ((0, .ref b) :: am_ll ad lv) := by
  obtain ⟨g1, g2, g3⟩ := h.has
  refine ⟨g1, g2, fun q hq => ?_⟩
  rcases List.mem_cons.mp hq with rfl | hq
  · exact h0
  · exact g3 q hq
theorem L_hs {ls' : Array Slot} {n i b : Nat} {v : Value} {l : List (Nat × Value)} (hi : i ≠ 0) (h : lv_has ls' n ((i, v) :: ((0, Value.ref b) :: l).filter (fun q => !(q.1 == i) && !(q.1 + 1 == i && q.2.category == 2)))) : ls'[0]? = some (.val (.ref b)) ∧ lv_has ls' n ((i, v) :: l.filter (fun q => !(q.1 == i) && !(q.1 + 1 == i && q.2.category == 2))) := by
  obtain ⟨g1, g2, g3⟩ := h
  refine ⟨g3 (0, .ref b) (List.mem_cons_of_mem _ (List.mem_filter.mpr ⟨List.mem_cons_self, ?_⟩)), g1, g2, fun q hq => g3 q ?_⟩
  · have : (0 == i) = false := by simp [Ne.symm hi]
    simp [Ne.symm hi, Value.category]
  · rcases List.mem_cons.mp hq with rfl | hq
    · exact List.mem_cons_self
    · obtain ⟨a, b9⟩ := List.mem_filter.mp hq
      exact List.mem_cons_of_mem _ (List.mem_filter.mpr ⟨List.mem_cons_of_mem _ a, b9⟩)
theorem L_istore_n {j : Fin 4} {x : Int32} (d : decode mi.2.1 pc = .ok (.istore_n j, 1)) (hj0 : (j : Nat) ≠ 0) (hj : (j : Nat) < lv.length) (k : am_RL bb mi post fr lo c0 s0 (pc + 1) (lv.set (j : Nat) (some (.int x))) st sh I P) : am_RL bb mi post fr lo c0 s0 pc lv (.int x :: st) sh I P := by
  intro l p e R s m args below meth c D t A sh0 ad0 ad mc ms H locs cells slots ls C hc hs X HB
  obtain ⟨x1, x2, x3, x4, x5, x6⟩ := X
  refine lv_istore_n C.1 C.2.1 d rfl (L_has x4 HB.2.1) (am_lvlt x4 hj) rfl (fun ls' hl' => ?_)
  obtain ⟨h0, hl2⟩ := L_hs hj0 hl'
  exact k l p e R s m args below meth c D t A sh0 ad0 ad mc ms H locs cells slots ls' C hc hs ⟨x1, x2, x3, x4.set (v := .int x) x6 (am_lvlt x4 hj) hl2, am_okt x5, am_ok_set x6 (am_okh x5)⟩ ⟨HB.1, h0, HB.2.2⟩
theorem L_astore_n {j : Fin 4} {x : Nat} (d : decode mi.2.1 pc = .ok (.astore_n j, 1)) (hj0 : (j : Nat) ≠ 0) (hj : (j : Nat) < lv.length) (k : am_RL bb mi post fr lo c0 s0 (pc + 1) (lv.set (j : Nat) (some (.ref x))) st sh I P) : am_RL bb mi post fr lo c0 s0 pc lv (.ref x :: st) sh I P := by
  intro l p e R s m args below meth c D t A sh0 ad0 ad mc ms H locs cells slots ls C hc hs X HB
  obtain ⟨x1, x2, x3, x4, x5, x6⟩ := X
  refine lv_astore_n C.1 C.2.1 d rfl (L_has x4 HB.2.1) (am_lvlt x4 hj) rfl (fun ls' hl' => ?_)
  obtain ⟨h0, hl2⟩ := L_hs hj0 hl'
  exact k l p e R s m args below meth c D t A sh0 ad0 ad mc ms H locs cells slots ls' C hc hs ⟨x1, x2, x3, x4.set (v := .ref x) x6 (am_lvlt x4 hj) hl2, am_okt x5, am_ok_set x6 (am_okh x5)⟩ ⟨HB.1, h0, HB.2.2⟩
theorem L_iinc {j : Nat} {n : Int} {x v : Int32} (d : decode mi.2.1 pc = .ok (.iinc j n, 3)) (hj0 : j ≠ 0) (h : lv[j]? = some (some (.int x))) (hv : x + Int32.ofInt n = v) (k : am_RL bb mi post fr lo c0 s0 (pc + 3) (lv.set j (some (.int v))) st sh I P) : am_RL bb mi post fr lo c0 s0 pc lv st sh I P := by
  intro l p e R s m args below meth c D t A sh0 ad0 ad mc ms H locs cells slots ls C hc hs X HB
  obtain ⟨x1, x2, x3, x4, x5, x6⟩ := X
  have hj : j < lv.length := (List.getElem?_eq_some_iff.mp h).1
  obtain ⟨q, hq⟩ := List.getElem?_of_mem (List.mem_cons_of_mem (0, Value.ref bb.1) (am_ll_mem (ad := ad) h))
  refine lv_iinc C.1 C.2.1 d (L_has x4 HB.2.1) hq hv (am_lvlt x4 hj) rfl (fun ls' hl' => ?_)
  obtain ⟨h0, hl2⟩ := L_hs hj0 hl'
  exact k l p e R s m args below meth c D t A sh0 ad0 ad mc ms H locs cells slots ls' C hc hs ⟨x1, x2, x3, x4.set (v := .int v) x6 (am_lvlt x4 hj) hl2, x5, am_ok_set x6 trivial⟩ ⟨HB.1, h0, HB.2.2⟩
/-- the script's length -/
theorem L_slen (d1 : decode mi.2.1 pc = .ok (.aload_n 0, 1)) (d2 : decode mi.2.1 (pc + 1) = .ok (.arraylength, 1)) (k : am_RL bb mi post fr lo c0 s0 (pc + 1 + 1) lv (.int (nI bb.2.1) :: st) sh I P) : am_RL bb mi post fr lo c0 s0 pc lv st sh I P := by
  intro l p e R s m args below meth c D t A sh0 ad0 ad mc ms H locs cells slots ls C hc hs X HB
  obtain ⟨x1, x2, x3, x4, x5, x6⟩ := id X
  refine lv_aload_n C.1 C.2.1 d1 rfl HB.2.1 ?_
  refine va_slen C.1 C.2.1 HB.2.2.1 HB.2.2.2.1 HB.2.2.2.2 x3 d2 ?_
  exact k l p e R s m args below meth c D t A sh0 ad0 ad mc ms H locs cells slots ls C hc hs ⟨x1, x2, x3, x4, am_okc trivial x5, x6⟩ HB
theorem L_in {i n : Nat} (h : i < n) (hn : n < 2147483648) : vp_in (nI i) n := by
  rintro (g | g)
  · exact nI_pos (by omega) g
  · rw [nI_clamp (by omega)] at g; omega
/-- an int of the script, at i -/
theorem L_scr0 {i : Nat} (d1 : decode mi.2.1 pc = .ok (.aload_n 0, 1)) (d2 : decode mi.2.1 (pc + 1) = .ok (.iload_n 3, 1)) (d3 : decode mi.2.1 (pc + 1 + 1) = .ok (.iaload, 1)) (h3 : lv[3]? = some (some (.int (nI i)))) (hi : i < bb.2.1) (hn : bb.2.1 < 2147483648) (k : am_RL bb mi post fr lo c0 s0 (pc + 1 + 1 + 1) lv (.int (bb.2.2 i) :: st) sh I P) : am_RL bb mi post fr lo c0 s0 pc lv st sh I P := by
  intro l p e R s m args below meth c D t A sh0 ad0 ad mc ms H locs cells slots ls C hc hs X HB
  obtain ⟨x1, x2, x3, x4, x5, x6⟩ := id X
  refine lv_aload_n C.1 C.2.1 d1 rfl HB.2.1 ?_
  refine lv_iload_n C.1 C.2.1 d2 rfl (x4.2.2.2 3 _ h3) ?_
  refine va_sld C.1 C.2.1 HB.2.2.1 HB.2.2.2.1 HB.2.2.2.2 x3 (L_in hi hn) d3 ?_
  rw [nI_clamp (by omega)]
  exact k l p e R s m args below meth c D t A sh0 ad0 ad mc ms H locs cells slots ls C hc hs ⟨x1, x2, x3, x4, am_okc trivial x5, x6⟩ HB
/-- an int of the script, at i + j -/
theorem L_scr {i j : Nat} {n : Int} (d1 : decode mi.2.1 pc = .ok (.aload_n 0, 1)) (d2 : decode mi.2.1 (pc + 1) = .ok (.iload_n 3, 1)) (d3 : decode mi.2.1 (pc + 1 + 1) = .ok (.iconst n, 1)) (d4 : decode mi.2.1 (pc + 1 + 1 + 1) = .ok (.iadd, 1)) (d5 : decode mi.2.1 (pc + 1 + 1 + 1 + 1) = .ok (.iaload, 1)) (h3 : lv[3]? = some (some (.int (nI i)))) (hj : Int32.ofInt n = nI j) (hi : i + j < bb.2.1) (hn : bb.2.1 < 2147483648) (k : am_RL bb mi post fr lo c0 s0 (pc + 1 + 1 + 1 + 1 + 1) lv (.int (bb.2.2 (i + j)) :: st) sh I P) : am_RL bb mi post fr lo c0 s0 pc lv st sh I P := by
  intro l p e R s m args below meth c D t A sh0 ad0 ad mc ms H locs cells slots ls C hc hs X HB
  obtain ⟨x1, x2, x3, x4, x5, x6⟩ := id X
  refine lv_aload_n C.1 C.2.1 d1 rfl HB.2.1 ?_
  refine lv_iload_n C.1 C.2.1 d2 rfl (x4.2.2.2 3 _ h3) ?_
  refine lv_iconst C.1 C.2.1 d3 hj ?_
  refine lv_iadd C.1 C.2.1 d4 ?_
  rw [nI_add]
  refine va_sld C.1 C.2.1 HB.2.2.1 HB.2.2.2.1 HB.2.2.2.2 x3 (L_in hi hn) d5 ?_
  rw [nI_clamp (by omega)]
  exact k l p e R s m args below meth c D t A sh0 ad0 ad mc ms H locs cells slots ls C hc hs ⟨x1, x2, x3, x4, am_okc trivial x5, x6⟩ HB
end LAWM
