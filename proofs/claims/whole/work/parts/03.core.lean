/-! the abstract machine: a method's run over a heap of numbered cells, each with its shape, its ints and its pointers -/
abbrev MI : Type := MethodName × ByteArray × Nat × Option FieldType
abbrev ASh : Type := Nat → Nat × Nat
abbrev AIn : Type := Nat → Nat → Int32
abbrev APt : Type := Nat → Nat → Option Nat
abbrev APo : Type := Option Int32 → ASh → AIn → APt → Prop
def am_tb : List Cond := lw_tbl.filter goodWord
theorem am_in {w : Cond} (i : Nat) (h : tables_1[i]? = some w) (hg : goodWord w = true) : w ∈ am_tb := List.mem_filter.mpr ⟨List.mem_append_right _ (List.mem_of_getElem? h), hg⟩
theorem am_inP {w : Cond} (i : Nat) (h : (k2_sels lw_privs)[i]? = some w) (hg : goodWord w = true) : w ∈ am_tb := List.mem_filter.mpr ⟨List.mem_append_left _ (List.mem_of_getElem? h), hg⟩
theorem am_good : ∀ w ∈ am_tb, (w.onTables && w.keeps) = true ∨ ∃ ty, w = .arrayClass ty := fun _ h => good_of_word (List.mem_filter.mp h).2
theorem am_goodIn {a b : Cond} (h : b ∈ am_tb) : GoodIn (a :: am_tb) (b :: am_tb) := fun w hw => by
  rcases List.mem_cons.mp hw with rfl | hw
  · exact ⟨List.mem_cons_of_mem _ h, am_good _ h⟩
  · exact ⟨List.mem_cons_of_mem _ hw, am_good _ hw⟩
def am_cl : List vw_C := [(RX0, TX0, 15), (RX2, TX2, 9), (RX3, TX3, 5), (RX5, TX5, 2), (RX6, TX6, 9), (RX7, TX7, 8), (RX8, TX8, 3), (RX9, TX9, 3), (RX10, TX10, 4), (RX11, TX11, 48)]
def am_ty (ci : Nat) : Nat → FieldType := match ci with
  | 0 => tyX0 | 1 => tyX2 | 2 => tyX3 | 3 => tyX5 | 4 => tyX6 | 5 => tyX7 | 6 => tyX8 | 7 => tyX9 | 8 => tyX10 | _ => tyX11
def am_tys (t : Nat → ClassId) : List (ClassId × FieldType) := [(t 0, .int), (t 1, .boolean), (t 2, .object RX3), (t 3, .object RX7)]
def am_isR (t : FieldType) : Bool := match t with
  | .object _ => true
  | .array _ => true
  | _ => false
def cv (ad : Nat → Nat) (v : Value) : Value := match v with
  | .ref k => .ref (ad k)
  | w => w
def am_rf (ad : Nat → Nat) (q : Option Nat) : Value := match q with
  | none => .null
  | some k => .ref (ad k)
def am_vr (q : Option Nat) : Value := match q with
  | none => .null
  | some k => .ref k
theorem cv_vr (ad : Nat → Nat) (q : Option Nat) : cv ad (am_vr q) = am_rf ad q := by cases q <;> rfl
def am_ov (ci : Nat) (ad : Nat → Nat) (Ik : Nat → Int32) (Pk : Nat → Option Nat) : Nat → Value := fun j => if am_isR (am_ty ci j) = true then am_rf ad (Pk j) else .int (Ik j)
def am_at (D : va_G) (t : Nat → ClassId) (ad : Nat → Nat) (q : Nat × Nat) (Ik : Nat → Int32) (Pk : Nat → Option Nat) (a : Nat) (H : Heap) : Prop := match q.1 with
  | 0 => True
  | 1 => ∃ r : vw_C, am_cl[q.2]? = some r ∧ t_OB a (D.1 q.2) r.2.2 (D.2 q.2) H (am_ov q.2 ad Ik Pk)
  | 2 => H[a]? = some (arrV (t 0) q.2 (fun j => .int (Ik j)))
  | 3 => H[a]? = some (arrV (t 1) q.2 (fun j => .int (Ik j)))
  | 4 => H[a]? = some (arrV (t 2) q.2 (fun j => am_rf ad (Pk j)))
  | 5 => H[a]? = some (arrV (t 3) q.2 (fun j => am_rf ad (Pk j)))
  | _ => False
def am_W (D : va_G) (t : Nat → ClassId) (A : Nat → Prop) (ad : Nat → Nat) (sh : ASh) (I : AIn) (P : APt) (H : Heap) : Prop :=
  (∀ k, (sh k).1 ≠ 0 → A (ad k)) ∧ (∀ i j, (sh i).1 ≠ 0 → (sh j).1 ≠ 0 → ad i = ad j → i = j) ∧ (∀ k j q, (sh k).1 ≠ 0 → P k j = some q → (sh q).1 ≠ 0) ∧ ∀ k, am_at D t ad (sh k) (I k) (P k) (ad k) H
def am_sn (i : Nat) : String := match i with
  | 0 => "WANTS" | 1 => "LEAVES" | 2 => "LEAST_ARGUMENT" | _ => "MOST_ARGUMENT"
def am_st (i : Nat) : Nat → Int32 := fun j => match i with
  | 0 => ([0, 2, 2, 2, 1, 2, 1, 0, 1, 0, 1, 2, 1, 0, 0, 0] : List Int32).getD j 0
  | 1 => ([1, 1, 1, 1, 2, 2, 0, 1, 0, 0, 0, 1, 0, 0, 0, 0] : List Int32).getD j 0
  | 2 => ([-128, 0, 0, 0, 0, 0, 0, 0, 0, 0, 0, 0, 0, 0, 0, 0] : List Int32).getD j 0
  | _ => ([127, 0, 0, 0, 0, 0, 0, 7, 7, 39, 39, 0, 0, 0, 0, 7] : List Int32).getD j 0
def am_ne : List (String × Nat × MethodName × String) := [(RX10, 22, yX9_init, RX10), (RX10, 29, yX0_init, RX10), (RX2, 11, yX3_init, RX10), (RX7, 17, yX5_init, RX10), (RX7, 24, yX2_init, RX10), (RX7, 31, yX6_init, RX10), (RX7, 41, yX8_init, RX10), (RX7, 46, yX3_init, RX10)]
def am_N (D : va_G) (t : Nat → ClassId) (A : Nat → Prop) (U : State) (H : Heap) : Prop :=
  va_K D am_cl (am_tys t) U ∧ (va_AO RX3 U ∧ va_AO RX7 U) ∧ (∀ q ∈ am_ne, va_Nw (.methodLinkNest q.1 q.2.1 q.2.2.1 q.2.2.2) U) ∧ ∀ i, i < 4 → ∃ a, va_Z RX1 (am_sn i) "[I" (.ref a) A U H ∧ va_T .int a 16 (fun j => .int (am_st i j)) A U H
theorem am_N.moved {D : va_G} {t : Nat → ClassId} {A : Nat → Prop} {u U : State} {H H1 : Heap} (h : am_N D t A u H) (hW : u.WarmedH U.vm) (hq : ∀ a : Nat, a < H.size → ¬ A a → H1[a]? = H[a]?) : am_N D t A U H1 := by
  obtain ⟨h1, ⟨h2, h3⟩, h4, h5⟩ := h
  refine ⟨va_K.moved hW.alike h1, ⟨h2.moved hW.alike, h3.moved hW.alike⟩, fun q hq2 => va_Nw.warmM hW (h4 q hq2), fun i hi => ?_⟩
  obtain ⟨a, g1, g2⟩ := h5 i hi
  exact ⟨a, (g1.moved hW.alike).kept hq, (g2.moved hW.alike).kept hq⟩
theorem am_N.same {D : va_G} {t : Nat → ClassId} {A : Nat → Prop} {u U : State} {H : Heap} (h : am_N D t A u H) (e : u.vm = U.vm) : am_N D t A U H := by
  have hA : u.vm.Alike U.vm := by rw [← e]; exact Vm.Alike.refl _
  obtain ⟨h1, ⟨h2, h3⟩, h4, h5⟩ := h
  refine ⟨va_K.moved hA h1, ⟨h2.moved hA, h3.moved hA⟩, fun q hq2 => va_Nw.same rfl e (h4 q hq2), fun i hi => ?_⟩
  obtain ⟨a, g1, g2⟩ := h5 i hi
  exact ⟨a, g1.moved hA, g2.moved hA⟩
def am_ok (sh : ASh) (v : Value) : Prop := match v with
  | .int _ => True
  | .null => True
  | .ref k => (sh k).1 ≠ 0
  | _ => False
def am_L (ad : Nat → Nat) (ls : Array Slot) (n : Nat) (lv : List (Option Value)) : Prop := lv.length = n ∧ ls.size = n ∧ lv_wf ls ∧ ∀ (i : Nat) (v : Value), lv[i]? = some (some v) → ls[i]? = some (.val (cv ad v))
def am_C (mi : MI) (fr lo mc ms : Nat) (D : va_G) (t : Nat → ClassId) (A : Nat → Prop) (p : Program) (R : Room) (s : State) (m : MethodId) (args : Array Value) (meth : Method) (c : Code) : Prop :=
  p.tables.exec = Jvm.exec ∧ c.code = mi.2.1 ∧ c.maxLocals = mi.2.2.1 ∧ meth.sig.returnType = mi.2.2.2 ∧ s.vm.findClass mi.1.cls = some m.cls ∧ (∀ w ∈ am_tb, w.before args s = true) ∧ meth.locks = false ∧ meth.name = mi.1.name ∧ (fr ≤ R.frames ∧ lo ≤ R.locals ∧ mc ≤ R.cells ∧ ms ≤ R.slots) ∧ am_N D t A s s.heap ∧ ∀ q, s.heap.size ≤ q → A q
def am_E (sh0 : ASh) (ad0 : Nat → Nat) (sh : ASh) (ad : Nat → Nat) : Prop := ∀ k, (sh0 k).1 ≠ 0 → (sh k).1 ≠ 0 ∧ ad k = ad0 k
def am_X (D : va_G) (t : Nat → ClassId) (A : Nat → Prop) (sh0 : ASh) (ad0 ad : Nat → Nat) (H0 H : Heap) (locs : List Loc) (ls : Array Slot) (n : Nat) (lv : List (Option Value)) (st : List Value) (sh : ASh) (I : AIn) (P : APt) : Prop :=
  am_W D t A ad sh I P H ∧ am_E sh0 ad0 sh ad ∧ va_S A H0 H locs ∧ am_L ad ls n lv ∧ (∀ v ∈ st, am_ok sh v) ∧ ∀ (i : Nat) (v : Value), lv[i]? = some (some v) → am_ok sh v
def am_Q (D : va_G) (t : Nat → ClassId) (A : Nat → Prop) (ad0 : Nat → Nat) (sh0 : ASh) (post : APo) : Array Value → State → Outcome → State → Prop := fun _ st oc u =>
  (∃ (r : Option Int32) (ad : Nat → Nat) (sh : ASh) (I : AIn) (P : APt), oc = .returned (r.map Value.int) ∧ post r sh I P ∧ am_E sh0 ad0 sh ad ∧ am_W D t A ad sh I P u.heap) ∧ va_F A st u
/-- the run of a method from pc on, with room, cells and slots still to spend, comes to its end with post -/
def am_R (mi : MI) (post : APo) (fr lo c0 s0 pc : Nat) (lv : List (Option Value)) (st : List Value) (sh : ASh) (I : AIn) (P : APt) : Prop :=
  ∀ (l : Launch) (p : Program) (e : Env) (R : Room) (s : State) (m : MethodId) (args : Array Value) (below : List Frame) (meth : Method) (c : Code) (D : va_G) (t : Nat → ClassId) (A : Nat → Prop) (sh0 : ASh) (ad0 ad : Nat → Nat) (mc ms : Nat) (H : Heap) (locs : List Loc) (cells slots : Nat) (ls : Array Slot),
    am_C mi fr lo mc ms D t A p R s m args meth c → cells + c0 = mc → slots + s0 = ms → am_X D t A sh0 ad0 ad s.heap H locs ls mi.2.2.1 lv st sh I P →
    W p l e R s m args below meth c H locs cells slots (MQ below (am_Q D t A ad0 sh0 post) args s mc ms A) (F0 m pc ls (st.map (cv ad)))
theorem am_okc {sh : ASh} {v : Value} {st : List Value} (h : am_ok sh v) (h2 : ∀ w ∈ st, am_ok sh w) : ∀ w ∈ v :: st, am_ok sh w := fun w hw => by
  rcases List.mem_cons.mp hw with rfl | hw
  · exact h
  · exact h2 w hw
theorem am_okt {sh : ASh} {v : Value} {st : List Value} (h : ∀ w ∈ v :: st, am_ok sh w) : ∀ w ∈ st, am_ok sh w := fun w hw => h w (List.mem_cons_of_mem _ hw)
theorem am_okh {sh : ASh} {v : Value} {st : List Value} (h : ∀ w ∈ v :: st, am_ok sh w) : am_ok sh v := h v List.mem_cons_self
theorem am_cat {sh : ASh} {v : Value} (h : am_ok sh v) : v.category = 1 := by cases v <;> first | rfl | exact h.elim
theorem am_catc {sh : ASh} {v : Value} (ad : Nat → Nat) (h : am_ok sh v) : (cv ad v).category = 1 := by cases v <;> first | rfl | exact h.elim
section AMR
variable {mi : MI} {post : APo} {fr lo c0 s0 pc : Nat} {lv : List (Option Value)} {st : List Value} {sh : ASh} {I : AIn} {P : APt}
theorem am_pure {st' : List Value} {pc' : Nat} (hk : am_R mi post fr lo c0 s0 pc' lv st' sh I P)
    (hok : (∀ v ∈ st, am_ok sh v) → (∀ (i : Nat) (v : Value), lv[i]? = some (some v) → am_ok sh v) → ∀ v ∈ st', am_ok sh v)
    (hW : ∀ {l : Launch} {p : Program} {e : Env} {R : Room} {s : State} {m : MethodId} {args : Array Value} {below : List Frame} {meth : Method} {c : Code} {H : Heap} {locs : List Loc} {cells slots : Nat} {Q : State → Prop} {ad : Nat → Nat} {ls : Array Slot}, p.tables.exec = Jvm.exec → c.code = mi.2.1 → (∀ (i : Nat) (v : Value), lv[i]? = some (some v) → ls[i]? = some (.val (cv ad v))) → (∀ v ∈ st, am_ok sh v) →
      W p l e R s m args below meth c H locs cells slots Q (F0 m pc' ls (st'.map (cv ad))) → W p l e R s m args below meth c H locs cells slots Q (F0 m pc ls (st.map (cv ad)))) : am_R mi post fr lo c0 s0 pc lv st sh I P := by
  intro l p e R s m args below meth c D t A sh0 ad0 ad mc ms H locs cells slots ls C hc hs X
  obtain ⟨x1, x2, x3, x4, x5, x6⟩ := X
  exact hW C.1 C.2.1 x4.2.2.2 x5 (hk l p e R s m args below meth c D t A sh0 ad0 ad mc ms H locs cells slots ls C hc hs ⟨x1, x2, x3, x4, hok x5 x6, x6⟩)
theorem am_two {st' : List Value} {pc1 pc2 : Nat} {B : Prop} (h1 : B → am_R mi post fr lo c0 s0 pc1 lv st' sh I P) (h2 : ¬ B → am_R mi post fr lo c0 s0 pc2 lv st' sh I P)
    (hok : (∀ v ∈ st, am_ok sh v) → ∀ v ∈ st', am_ok sh v)
    (hW : ∀ {l : Launch} {p : Program} {e : Env} {R : Room} {s : State} {m : MethodId} {args : Array Value} {below : List Frame} {meth : Method} {c : Code} {H : Heap} {locs : List Loc} {cells slots : Nat} {Q : State → Prop} {ad : Nat → Nat} {ls : Array Slot}, p.tables.exec = Jvm.exec → c.code = mi.2.1 →
      (B → W p l e R s m args below meth c H locs cells slots Q (F0 m pc1 ls (st'.map (cv ad)))) → (¬ B → W p l e R s m args below meth c H locs cells slots Q (F0 m pc2 ls (st'.map (cv ad)))) → W p l e R s m args below meth c H locs cells slots Q (F0 m pc ls (st.map (cv ad)))) : am_R mi post fr lo c0 s0 pc lv st sh I P := by
  intro l p e R s m args below meth c D t A sh0 ad0 ad mc ms H locs cells slots ls C hc hs X
  obtain ⟨x1, x2, x3, x4, x5, x6⟩ := X
  exact hW C.1 C.2.1 (fun b => h1 b l p e R s m args below meth c D t A sh0 ad0 ad mc ms H locs cells slots ls C hc hs ⟨x1, x2, x3, x4, hok x5, x6⟩) (fun b => h2 b l p e R s m args below meth c D t A sh0 ad0 ad mc ms H locs cells slots ls C hc hs ⟨x1, x2, x3, x4, hok x5, x6⟩)
theorem r_iconst {n : Int} {v : Int32} (d : decode mi.2.1 pc = .ok (.iconst n, 1)) (hv : Int32.ofInt n = v) (k : am_R mi post fr lo c0 s0 (pc + 1) lv (.int v :: st) sh I P) : am_R mi post fr lo c0 s0 pc lv st sh I P :=
  am_pure k (fun h _ => am_okc trivial h) (fun hx hb _ _ kk => lv_iconst hx hb d hv kk)
theorem r_bipush {n : Int} {v : Int32} (d : decode mi.2.1 pc = .ok (.bipush n, 2)) (hv : (Int8.ofInt n).toInt32 = v) (k : am_R mi post fr lo c0 s0 (pc + 2) lv (.int v :: st) sh I P) : am_R mi post fr lo c0 s0 pc lv st sh I P :=
  am_pure k (fun h _ => am_okc trivial h) (fun hx hb _ _ kk => lv_bipush hx hb d hv kk)
theorem r_sipush {n : Int} {v : Int32} (d : decode mi.2.1 pc = .ok (.sipush n, 3)) (hv : (Int16.ofInt n).toInt32 = v) (k : am_R mi post fr lo c0 s0 (pc + 3) lv (.int v :: st) sh I P) : am_R mi post fr lo c0 s0 pc lv st sh I P :=
  am_pure k (fun h _ => am_okc trivial h) (fun hx hb _ _ kk => lv_sipush hx hb d hv kk)
theorem r_null (d : decode mi.2.1 pc = .ok (.aconst_null, 1)) (k : am_R mi post fr lo c0 s0 (pc + 1) lv (.null :: st) sh I P) : am_R mi post fr lo c0 s0 pc lv st sh I P :=
  am_pure k (fun h _ => am_okc trivial h) (fun hx hb _ _ kk => lv_null hx hb d kk)
theorem r_iload_n {j : Fin 4} {x : Int32} (d : decode mi.2.1 pc = .ok (.iload_n j, 1)) (h : lv[(j : Nat)]? = some (some (.int x))) (k : am_R mi post fr lo c0 s0 (pc + 1) lv (.int x :: st) sh I P) : am_R mi post fr lo c0 s0 pc lv st sh I P :=
  am_pure k (fun h _ => am_okc trivial h) (fun hx hb hl _ kk => lv_iload_n hx hb d rfl (hl _ _ h) kk)
theorem r_iload {j : Nat} {x : Int32} (d : decode mi.2.1 pc = .ok (.iload j, 2)) (h : lv[j]? = some (some (.int x))) (k : am_R mi post fr lo c0 s0 (pc + 2) lv (.int x :: st) sh I P) : am_R mi post fr lo c0 s0 pc lv st sh I P :=
  am_pure k (fun h _ => am_okc trivial h) (fun hx hb hl _ kk => lv_iload hx hb d (hl _ _ h) kk)
theorem r_aload_n {j : Fin 4} {x : Nat} (d : decode mi.2.1 pc = .ok (.aload_n j, 1)) (h : lv[(j : Nat)]? = some (some (.ref x))) (k : am_R mi post fr lo c0 s0 (pc + 1) lv (.ref x :: st) sh I P) : am_R mi post fr lo c0 s0 pc lv st sh I P :=
  am_pure k (fun h2 h3 => am_okc (h3 _ _ h) h2) (fun hx hb hl _ kk => lv_aload_n hx hb d rfl (hl _ _ h) kk)
theorem r_aload {j : Nat} {x : Nat} (d : decode mi.2.1 pc = .ok (.aload j, 2)) (h : lv[j]? = some (some (.ref x))) (k : am_R mi post fr lo c0 s0 (pc + 2) lv (.ref x :: st) sh I P) : am_R mi post fr lo c0 s0 pc lv st sh I P :=
  am_pure k (fun h2 h3 => am_okc (h3 _ _ h) h2) (fun hx hb hl _ kk => lv_aload hx hb d (hl _ _ h) kk)
theorem r_aload_nN {j : Fin 4} (d : decode mi.2.1 pc = .ok (.aload_n j, 1)) (h : lv[(j : Nat)]? = some (some .null)) (k : am_R mi post fr lo c0 s0 (pc + 1) lv (.null :: st) sh I P) : am_R mi post fr lo c0 s0 pc lv st sh I P :=
  am_pure k (fun h2 _ => am_okc trivial h2) (fun hx hb hl _ kk => lv_aload_nN hx hb d rfl (hl _ _ h) kk)
theorem r_iadd {x y : Int32} (d : decode mi.2.1 pc = .ok (.iadd, 1)) (k : am_R mi post fr lo c0 s0 (pc + 1) lv (.int (x + y) :: st) sh I P) : am_R mi post fr lo c0 s0 pc lv (.int y :: .int x :: st) sh I P :=
  am_pure k (fun h _ => am_okc trivial (am_okt (am_okt h))) (fun hx hb _ _ kk => lv_iadd hx hb d kk)
theorem r_isub {x y : Int32} (d : decode mi.2.1 pc = .ok (.isub, 1)) (k : am_R mi post fr lo c0 s0 (pc + 1) lv (.int (x - y) :: st) sh I P) : am_R mi post fr lo c0 s0 pc lv (.int y :: .int x :: st) sh I P :=
  am_pure k (fun h _ => am_okc trivial (am_okt (am_okt h))) (fun hx hb _ _ kk => lv_isub hx hb d kk)
theorem r_imul {x y : Int32} (d : decode mi.2.1 pc = .ok (.imul, 1)) (k : am_R mi post fr lo c0 s0 (pc + 1) lv (.int (x * y) :: st) sh I P) : am_R mi post fr lo c0 s0 pc lv (.int y :: .int x :: st) sh I P :=
  am_pure k (fun h _ => am_okc trivial (am_okt (am_okt h))) (fun hx hb _ _ kk => lv_imul hx hb d kk)
theorem r_idiv {x y : Int32} (d : decode mi.2.1 pc = .ok (.idiv, 1)) (hy : ¬ y = 0) (k : am_R mi post fr lo c0 s0 (pc + 1) lv (.int (x / y) :: st) sh I P) : am_R mi post fr lo c0 s0 pc lv (.int y :: .int x :: st) sh I P :=
  am_pure k (fun h _ => am_okc trivial (am_okt (am_okt h))) (fun hx hb _ _ kk => lv_idiv hx hb d hy kk)
theorem r_irem {x y : Int32} (d : decode mi.2.1 pc = .ok (.irem, 1)) (hy : ¬ y = 0) (k : am_R mi post fr lo c0 s0 (pc + 1) lv (.int (x - x / y * y) :: st) sh I P) : am_R mi post fr lo c0 s0 pc lv (.int y :: .int x :: st) sh I P :=
  am_pure k (fun h _ => am_okc trivial (am_okt (am_okt h))) (fun hx hb _ _ kk => lv_irem hx hb d hy kk)
theorem r_iand {x y : Int32} (d : decode mi.2.1 pc = .ok (.iand, 1)) (k : am_R mi post fr lo c0 s0 (pc + 1) lv (.int (x &&& y) :: st) sh I P) : am_R mi post fr lo c0 s0 pc lv (.int y :: .int x :: st) sh I P :=
  am_pure k (fun h _ => am_okc trivial (am_okt (am_okt h))) (fun hx hb _ _ kk => lv_iand hx hb d kk)
theorem r_ior {x y : Int32} (d : decode mi.2.1 pc = .ok (.ior, 1)) (k : am_R mi post fr lo c0 s0 (pc + 1) lv (.int (x ||| y) :: st) sh I P) : am_R mi post fr lo c0 s0 pc lv (.int y :: .int x :: st) sh I P :=
  am_pure k (fun h _ => am_okc trivial (am_okt (am_okt h))) (fun hx hb _ _ kk => lv_ior hx hb d kk)
theorem r_ishl {x y : Int32} (d : decode mi.2.1 pc = .ok (.ishl, 1)) (k : am_R mi post fr lo c0 s0 (pc + 1) lv (.int (x <<< (y &&& 31)) :: st) sh I P) : am_R mi post fr lo c0 s0 pc lv (.int y :: .int x :: st) sh I P :=
  am_pure k (fun h _ => am_okc trivial (am_okt (am_okt h))) (fun hx hb _ _ kk => lv_ishl hx hb d kk)
theorem r_ishr {x y : Int32} (d : decode mi.2.1 pc = .ok (.ishr, 1)) (k : am_R mi post fr lo c0 s0 (pc + 1) lv (.int (x >>> (y &&& 31)) :: st) sh I P) : am_R mi post fr lo c0 s0 pc lv (.int y :: .int x :: st) sh I P :=
  am_pure k (fun h _ => am_okc trivial (am_okt (am_okt h))) (fun hx hb _ _ kk => lv_ishr hx hb d kk)
theorem r_iushr {x y : Int32} (d : decode mi.2.1 pc = .ok (.iushr, 1)) (k : am_R mi post fr lo c0 s0 (pc + 1) lv (.int ((x.toUInt32 >>> (y.toUInt32 &&& Int32.toUInt32 31)).toInt32) :: st) sh I P) : am_R mi post fr lo c0 s0 pc lv (.int y :: .int x :: st) sh I P :=
  am_pure k (fun h _ => am_okc trivial (am_okt (am_okt h))) (fun hx hb _ _ kk => lv_iushr hx hb d rfl kk)
theorem r_i2b {x : Int32} (d : decode mi.2.1 pc = .ok (.i2b, 1)) (k : am_R mi post fr lo c0 s0 (pc + 1) lv (.int x.toInt8.toInt32 :: st) sh I P) : am_R mi post fr lo c0 s0 pc lv (.int x :: st) sh I P :=
  am_pure k (fun h _ => am_okc trivial (am_okt h)) (fun hx hb _ _ kk => lv_i2b hx hb d rfl kk)
theorem r_dup {v : Value} (d : decode mi.2.1 pc = .ok (.dup, 1)) (k : am_R mi post fr lo c0 s0 (pc + 1) lv (v :: v :: st) sh I P) : am_R mi post fr lo c0 s0 pc lv (v :: st) sh I P :=
  am_pure k (fun h _ => am_okc (am_okh h) h) (fun {_ _ _ _ _ _ _ _ _ _ _ _ _ _ _ ad _} hx hb _ h kk => lv_dup hx hb d (am_catc ad (am_okh h)) kk)
theorem r_dup2 {v w : Value} (d : decode mi.2.1 pc = .ok (.dup2, 1)) (k : am_R mi post fr lo c0 s0 (pc + 1) lv (v :: w :: v :: w :: st) sh I P) : am_R mi post fr lo c0 s0 pc lv (v :: w :: st) sh I P :=
  am_pure k (fun h _ => am_okc (am_okh h) (am_okc (am_okh (am_okt h)) h)) (fun {_ _ _ _ _ _ _ _ _ _ _ _ _ _ _ ad _} hx hb _ h kk => lv_dup2_11 hx hb d (am_catc ad (am_okh h)) (am_catc ad (am_okh (am_okt h))) kk)
theorem r_pop {v : Value} (d : decode mi.2.1 pc = .ok (.pop, 1)) (k : am_R mi post fr lo c0 s0 (pc + 1) lv st sh I P) : am_R mi post fr lo c0 s0 pc lv (v :: st) sh I P :=
  am_pure k (fun h _ => am_okt h) (fun {_ _ _ _ _ _ _ _ _ _ _ _ _ _ _ ad _} hx hb _ h kk => lv_pop hx hb d (am_catc ad (am_okh h)) kk)
theorem r_goto {off : Int} (tgt : Nat) (d : decode mi.2.1 pc = .ok (.goto off, 3)) (ht : (pc : Int) + off = (tgt : Int)) (k : am_R mi post fr lo c0 s0 tgt lv st sh I P) : am_R mi post fr lo c0 s0 pc lv st sh I P :=
  am_pure k (fun h _ => h) (fun hx hb _ _ kk => lv_goto hx hb d ht kk)
theorem r_ifnull {x : Nat} {off : Int} (d : decode mi.2.1 pc = .ok (.ifnull off, 3)) (k : am_R mi post fr lo c0 s0 (pc + 3) lv st sh I P) : am_R mi post fr lo c0 s0 pc lv (.ref x :: st) sh I P :=
  am_pure k (fun h _ => am_okt h) (fun hx hb _ _ kk => lv_ifnull hx hb d kk)
theorem r_ifnullN {off : Int} (tgt : Nat) (d : decode mi.2.1 pc = .ok (.ifnull off, 3)) (ht : (pc : Int) + off = (tgt : Int)) (k : am_R mi post fr lo c0 s0 tgt lv st sh I P) : am_R mi post fr lo c0 s0 pc lv (.null :: st) sh I P :=
  am_pure k (fun h _ => am_okt h) (fun hx hb _ _ kk => lv_ifnullN hx hb d ht kk)
theorem r_ifnonnull {x : Nat} {off : Int} (tgt : Nat) (d : decode mi.2.1 pc = .ok (.ifnonnull off, 3)) (ht : (pc : Int) + off = (tgt : Int)) (k : am_R mi post fr lo c0 s0 tgt lv st sh I P) : am_R mi post fr lo c0 s0 pc lv (.ref x :: st) sh I P :=
  am_pure k (fun h _ => am_okt h) (fun hx hb _ _ kk => lv_ifnonnull hx hb d ht kk)
theorem r_ifnonnullN {off : Int} (d : decode mi.2.1 pc = .ok (.ifnonnull off, 3)) (k : am_R mi post fr lo c0 s0 (pc + 3) lv st sh I P) : am_R mi post fr lo c0 s0 pc lv (.null :: st) sh I P :=
  am_pure k (fun h _ => am_okt h) (fun hx hb _ _ kk => lv_ifnonnullN hx hb d kk)
theorem r_if_eq {x : Int32} {off : Int} (tgt : Nat) (d : decode mi.2.1 pc = .ok (.ifCond .eq off, 3)) (ht : (pc : Int) + off = (tgt : Int)) (k1 : x = 0 → am_R mi post fr lo c0 s0 tgt lv st sh I P) (k2 : ¬ x = 0 → am_R mi post fr lo c0 s0 (pc + 3) lv st sh I P) : am_R mi post fr lo c0 s0 pc lv (.int x :: st) sh I P :=
  am_two k1 k2 (fun h => am_okt h) (fun hx hb a b => lv_if_eq hx hb d ht a b)
theorem r_if_ne {x : Int32} {off : Int} (tgt : Nat) (d : decode mi.2.1 pc = .ok (.ifCond .ne off, 3)) (ht : (pc : Int) + off = (tgt : Int)) (k1 : ¬ x = 0 → am_R mi post fr lo c0 s0 tgt lv st sh I P) (k2 : x = 0 → am_R mi post fr lo c0 s0 (pc + 3) lv st sh I P) : am_R mi post fr lo c0 s0 pc lv (.int x :: st) sh I P :=
  am_two k2 k1 (fun h => am_okt h) (fun hx hb a b => lv_if_ne hx hb d ht b a)
theorem r_if_lt {x : Int32} {off : Int} (tgt : Nat) (d : decode mi.2.1 pc = .ok (.ifCond .lt off, 3)) (ht : (pc : Int) + off = (tgt : Int)) (k1 : x < 0 → am_R mi post fr lo c0 s0 tgt lv st sh I P) (k2 : ¬ x < 0 → am_R mi post fr lo c0 s0 (pc + 3) lv st sh I P) : am_R mi post fr lo c0 s0 pc lv (.int x :: st) sh I P :=
  am_two k1 k2 (fun h => am_okt h) (fun hx hb a b => lv_if_lt hx hb d ht a b)
theorem r_if_ge {x : Int32} {off : Int} (tgt : Nat) (d : decode mi.2.1 pc = .ok (.ifCond .ge off, 3)) (ht : (pc : Int) + off = (tgt : Int)) (k1 : 0 ≤ x → am_R mi post fr lo c0 s0 tgt lv st sh I P) (k2 : ¬ 0 ≤ x → am_R mi post fr lo c0 s0 (pc + 3) lv st sh I P) : am_R mi post fr lo c0 s0 pc lv (.int x :: st) sh I P :=
  am_two k1 k2 (fun h => am_okt h) (fun hx hb a b => lv_if_ge hx hb d ht a b)
theorem r_if_gt {x : Int32} {off : Int} (tgt : Nat) (d : decode mi.2.1 pc = .ok (.ifCond .gt off, 3)) (ht : (pc : Int) + off = (tgt : Int)) (k1 : 0 < x → am_R mi post fr lo c0 s0 tgt lv st sh I P) (k2 : ¬ 0 < x → am_R mi post fr lo c0 s0 (pc + 3) lv st sh I P) : am_R mi post fr lo c0 s0 pc lv (.int x :: st) sh I P :=
  am_two k1 k2 (fun h => am_okt h) (fun hx hb a b => lv_if_gt hx hb d ht a b)
theorem r_if_le {x : Int32} {off : Int} (tgt : Nat) (d : decode mi.2.1 pc = .ok (.ifCond .le off, 3)) (ht : (pc : Int) + off = (tgt : Int)) (k1 : x ≤ 0 → am_R mi post fr lo c0 s0 tgt lv st sh I P) (k2 : ¬ x ≤ 0 → am_R mi post fr lo c0 s0 (pc + 3) lv st sh I P) : am_R mi post fr lo c0 s0 pc lv (.int x :: st) sh I P :=
  am_two k1 k2 (fun h => am_okt h) (fun hx hb a b => lv_if_le hx hb d ht a b)
theorem r_icmp_eq {x y : Int32} {off : Int} (tgt : Nat) (d : decode mi.2.1 pc = .ok (.if_icmp .eq off, 3)) (ht : (pc : Int) + off = (tgt : Int)) (k1 : x = y → am_R mi post fr lo c0 s0 tgt lv st sh I P) (k2 : ¬ x = y → am_R mi post fr lo c0 s0 (pc + 3) lv st sh I P) : am_R mi post fr lo c0 s0 pc lv (.int y :: .int x :: st) sh I P :=
  am_two k1 k2 (fun h => am_okt (am_okt h)) (fun hx hb a b => lv_icmp_eq hx hb d ht a b)
theorem r_icmp_lt {x y : Int32} {off : Int} (tgt : Nat) (d : decode mi.2.1 pc = .ok (.if_icmp .lt off, 3)) (ht : (pc : Int) + off = (tgt : Int)) (k1 : x < y → am_R mi post fr lo c0 s0 tgt lv st sh I P) (k2 : ¬ x < y → am_R mi post fr lo c0 s0 (pc + 3) lv st sh I P) : am_R mi post fr lo c0 s0 pc lv (.int y :: .int x :: st) sh I P :=
  am_two k1 k2 (fun h => am_okt (am_okt h)) (fun hx hb a b => lv_icmp_lt hx hb d ht a b)
theorem r_icmp_ge {x y : Int32} {off : Int} (tgt : Nat) (d : decode mi.2.1 pc = .ok (.if_icmp .ge off, 3)) (ht : (pc : Int) + off = (tgt : Int)) (k1 : y ≤ x → am_R mi post fr lo c0 s0 tgt lv st sh I P) (k2 : ¬ y ≤ x → am_R mi post fr lo c0 s0 (pc + 3) lv st sh I P) : am_R mi post fr lo c0 s0 pc lv (.int y :: .int x :: st) sh I P :=
  am_two k1 k2 (fun h => am_okt (am_okt h)) (fun hx hb a b => lv_icmp_ge hx hb d ht a b)
theorem r_icmp_gt {x y : Int32} {off : Int} (tgt : Nat) (d : decode mi.2.1 pc = .ok (.if_icmp .gt off, 3)) (ht : (pc : Int) + off = (tgt : Int)) (k1 : y < x → am_R mi post fr lo c0 s0 tgt lv st sh I P) (k2 : ¬ y < x → am_R mi post fr lo c0 s0 (pc + 3) lv st sh I P) : am_R mi post fr lo c0 s0 pc lv (.int y :: .int x :: st) sh I P :=
  am_two k1 k2 (fun h => am_okt (am_okt h)) (fun hx hb a b => lv_icmp_gt hx hb d ht a b)
theorem r_icmp_le {x y : Int32} {off : Int} (tgt : Nat) (d : decode mi.2.1 pc = .ok (.if_icmp .le off, 3)) (ht : (pc : Int) + off = (tgt : Int)) (k1 : x ≤ y → am_R mi post fr lo c0 s0 tgt lv st sh I P) (k2 : ¬ x ≤ y → am_R mi post fr lo c0 s0 (pc + 3) lv st sh I P) : am_R mi post fr lo c0 s0 pc lv (.int y :: .int x :: st) sh I P :=
  am_two k1 k2 (fun h => am_okt (am_okt h)) (fun hx hb a b => lv_icmp_le hx hb d ht a b)
theorem r_icmp_ne {x y : Int32} {off : Int} (tgt : Nat) (d : decode mi.2.1 pc = .ok (.if_icmp .ne off, 3)) (ht : (pc : Int) + off = (tgt : Int)) (k1 : ¬ x = y → am_R mi post fr lo c0 s0 tgt lv st sh I P) (k2 : x = y → am_R mi post fr lo c0 s0 (pc + 3) lv st sh I P) : am_R mi post fr lo c0 s0 pc lv (.int y :: .int x :: st) sh I P :=
  am_two k2 k1 (fun h => am_okt (am_okt h)) (fun hx hb a b => lv_icmp_ne hx hb d ht b a)
theorem r_tabIn {dflt lw hi : Int} {offs : Array Int} {len : Nat} {x : Int32} {off : Int} (tgt : Nat) (d : decode mi.2.1 pc = .ok (.tableswitch dflt lw hi offs, len)) (h1 : ¬ x.toInt < lw) (h2 : ¬ hi < x.toInt) (ho : offs[(x.toInt - lw).toNat]? = some off) (ht : (pc : Int) + off = (tgt : Int)) (k : am_R mi post fr lo c0 s0 tgt lv st sh I P) : am_R mi post fr lo c0 s0 pc lv (.int x :: st) sh I P :=
  am_pure k (fun h _ => am_okt h) (fun hx hb _ _ kk => lv_tableIn hx hb d h1 h2 ho ht kk)
theorem r_tabOut {dflt lw hi : Int} {offs : Array Int} {len : Nat} {x : Int32} (tgt : Nat) (d : decode mi.2.1 pc = .ok (.tableswitch dflt lw hi offs, len)) (h : x.toInt < lw ∨ hi < x.toInt) (ht : (pc : Int) + dflt = (tgt : Int)) (k : am_R mi post fr lo c0 s0 tgt lv st sh I P) : am_R mi post fr lo c0 s0 pc lv (.int x :: st) sh I P :=
  am_pure k (fun h _ => am_okt h) (fun hx hb _ _ kk => lv_tableOut hx hb d h ht kk)
/-! stores into the slots of a frame -/
def am_ll (ad : Nat → Nat) (lv : List (Option Value)) : List (Nat × Value) := (List.range lv.length).filterMap (fun i => match lv[i]? with
  | some (some v) => some (i, cv ad v)
  | _ => none)
theorem am_ll_mem {ad : Nat → Nat} {lv : List (Option Value)} {i : Nat} {v : Value} (h : lv[i]? = some (some v)) : (i, cv ad v) ∈ am_ll ad lv := by
  have hl := (List.getElem?_eq_some_iff.mp h).1
  refine List.mem_filterMap.mpr ⟨i, List.mem_range.mpr hl, ?_⟩
  rw [h]
theorem am_L.has {ad : Nat → Nat} {ls : Array Slot} {n : Nat} {lv : List (Option Value)} (h : am_L ad ls n lv) : lv_has ls n (am_ll ad lv) := by
  obtain ⟨h1, h2, h3, h4⟩ := h
  refine ⟨h2, h3, fun q hq => ?_⟩
  obtain ⟨i, -, hi⟩ := List.mem_filterMap.mp hq
  cases hv : lv[i]? with
  | none => rw [hv] at hi; cases hi
  | some o =>
    cases o with
    | none => rw [hv] at hi; cases hi
    | some v =>
      rw [hv] at hi
      cases hi
      exact h4 i v hv
theorem am_L.set {ad : Nat → Nat} {ls ls' : Array Slot} {n i : Nat} {lv : List (Option Value)} {v : Value} {sh : ASh} (h : am_L ad ls n lv) (hok : ∀ (i : Nat) (v : Value), lv[i]? = some (some v) → am_ok sh v) (hi : i < n)
    (h2 : lv_has ls' n ((i, cv ad v) :: (am_ll ad lv).filter (fun q => !(q.1 == i) && !(q.1 + 1 == i && q.2.category == 2)))) : am_L ad ls' n (lv.set i (some v)) := by
  obtain ⟨g1, g2, g3⟩ := h2
  refine ⟨by rw [List.length_set]; exact h.1, g1, g2, fun j w hj => ?_⟩
  by_cases hji : j = i
  · subst hji
    rw [List.getElem?_set_self (by rw [h.1]; exact hi)] at hj
    cases hj
    exact g3 _ List.mem_cons_self
  · rw [List.getElem?_set_ne (Ne.symm hji)] at hj
    refine g3 (j, cv ad w) (List.mem_cons_of_mem _ (List.mem_filter.mpr ⟨am_ll_mem hj, ?_⟩))
    simp [hji, am_catc ad (hok j w hj)]
theorem am_ok_set {lv : List (Option Value)} {sh : ASh} {i : Nat} {v : Value} (hok : ∀ (i : Nat) (v : Value), lv[i]? = some (some v) → am_ok sh v) (hv : am_ok sh v) : ∀ (j : Nat) (w : Value), (lv.set i (some v))[j]? = some (some w) → am_ok sh w := fun j w hj => by
  by_cases hji : j = i
  · subst hji
    have hl : j < lv.length := by
      have := (List.getElem?_eq_some_iff.mp hj).1
      rw [List.length_set] at this
      exact this
    rw [List.getElem?_set_self hl] at hj
    cases hj
    exact hv
  · rw [List.getElem?_set_ne (Ne.symm hji)] at hj
    exact hok j w hj
theorem am_lvlt {ad : Nat → Nat} {ls : Array Slot} {n i : Nat} {lv : List (Option Value)} (h : am_L ad ls n lv) (hi : i < lv.length) : i < n := by rw [← h.1]; exact hi
theorem r_istore_n {j : Fin 4} {x : Int32} (d : decode mi.2.1 pc = .ok (.istore_n j, 1)) (hj : (j : Nat) < lv.length) (k : am_R mi post fr lo c0 s0 (pc + 1) (lv.set (j : Nat) (some (.int x))) st sh I P) : am_R mi post fr lo c0 s0 pc lv (.int x :: st) sh I P := by
  intro l p e R s m args below meth c D t A sh0 ad0 ad mc ms H locs cells slots ls C hc hs X
  obtain ⟨x1, x2, x3, x4, x5, x6⟩ := X
  exact lv_istore_n C.1 C.2.1 d rfl x4.has (am_lvlt x4 hj) rfl (fun ls' hl' => k l p e R s m args below meth c D t A sh0 ad0 ad mc ms H locs cells slots ls' C hc hs ⟨x1, x2, x3, x4.set (v := .int x) x6 (am_lvlt x4 hj) hl', am_okt x5, am_ok_set x6 (am_okh x5)⟩)
theorem r_istore {j : Nat} {x : Int32} (d : decode mi.2.1 pc = .ok (.istore j, 2)) (hj : j < lv.length) (k : am_R mi post fr lo c0 s0 (pc + 2) (lv.set j (some (.int x))) st sh I P) : am_R mi post fr lo c0 s0 pc lv (.int x :: st) sh I P := by
  intro l p e R s m args below meth c D t A sh0 ad0 ad mc ms H locs cells slots ls C hc hs X
  obtain ⟨x1, x2, x3, x4, x5, x6⟩ := X
  exact lv_istore C.1 C.2.1 d x4.has (am_lvlt x4 hj) rfl (fun ls' hl' => k l p e R s m args below meth c D t A sh0 ad0 ad mc ms H locs cells slots ls' C hc hs ⟨x1, x2, x3, x4.set (v := .int x) x6 (am_lvlt x4 hj) hl', am_okt x5, am_ok_set x6 (am_okh x5)⟩)
theorem r_astore_n {j : Fin 4} {x : Nat} (d : decode mi.2.1 pc = .ok (.astore_n j, 1)) (hj : (j : Nat) < lv.length) (k : am_R mi post fr lo c0 s0 (pc + 1) (lv.set (j : Nat) (some (.ref x))) st sh I P) : am_R mi post fr lo c0 s0 pc lv (.ref x :: st) sh I P := by
  intro l p e R s m args below meth c D t A sh0 ad0 ad mc ms H locs cells slots ls C hc hs X
  obtain ⟨x1, x2, x3, x4, x5, x6⟩ := X
  exact lv_astore_n C.1 C.2.1 d rfl x4.has (am_lvlt x4 hj) rfl (fun ls' hl' => k l p e R s m args below meth c D t A sh0 ad0 ad mc ms H locs cells slots ls' C hc hs ⟨x1, x2, x3, x4.set (v := .ref x) x6 (am_lvlt x4 hj) hl', am_okt x5, am_ok_set x6 (am_okh x5)⟩)
theorem r_astore {j : Nat} {x : Nat} (d : decode mi.2.1 pc = .ok (.astore j, 2)) (hj : j < lv.length) (k : am_R mi post fr lo c0 s0 (pc + 2) (lv.set j (some (.ref x))) st sh I P) : am_R mi post fr lo c0 s0 pc lv (.ref x :: st) sh I P := by
  intro l p e R s m args below meth c D t A sh0 ad0 ad mc ms H locs cells slots ls C hc hs X
  obtain ⟨x1, x2, x3, x4, x5, x6⟩ := X
  exact lv_astore C.1 C.2.1 d x4.has (am_lvlt x4 hj) rfl (fun ls' hl' => k l p e R s m args below meth c D t A sh0 ad0 ad mc ms H locs cells slots ls' C hc hs ⟨x1, x2, x3, x4.set (v := .ref x) x6 (am_lvlt x4 hj) hl', am_okt x5, am_ok_set x6 (am_okh x5)⟩)
theorem r_iinc {j : Nat} {n : Int} {x v : Int32} (d : decode mi.2.1 pc = .ok (.iinc j n, 3)) (h : lv[j]? = some (some (.int x))) (hv : x + Int32.ofInt n = v) (k : am_R mi post fr lo c0 s0 (pc + 3) (lv.set j (some (.int v))) st sh I P) : am_R mi post fr lo c0 s0 pc lv st sh I P := by
  intro l p e R s m args below meth c D t A sh0 ad0 ad mc ms H locs cells slots ls C hc hs X
  obtain ⟨x1, x2, x3, x4, x5, x6⟩ := X
  have hj : j < lv.length := (List.getElem?_eq_some_iff.mp h).1
  obtain ⟨q, hq⟩ := List.getElem?_of_mem (am_ll_mem (ad := ad) h)
  exact lv_iinc C.1 C.2.1 d x4.has hq hv (am_lvlt x4 hj) rfl (fun ls' hl' => k l p e R s m args below meth c D t A sh0 ad0 ad mc ms H locs cells slots ls' C hc hs ⟨x1, x2, x3, x4.set (v := .int v) x6 (am_lvlt x4 hj) hl', x5, am_ok_set x6 trivial⟩)
end AMR
