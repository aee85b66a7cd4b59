/-! what the tables say at the start, as the machine wants it -/
def n_lst : List Cond := flatC (Jvm.Cond.and given_1 narrow_1)
theorem n_eqi {args : Array Value} {s : State} {tm : Term} {z : Int32} (h : (Cond.eq tm (.int z)).before args s = true) : tm.eval args s none [] s = some (.int z) := by
  cases hv : tm.eval args s none [] s with
  | none => simp [Cond.before, Cond.holds, Cond.value, hv] at h
  | some w =>
    have hz : (Term.int z).eval args s none [] s = some (.int z) := rfl
    simp only [Cond.before, Cond.holds, Cond.value, hv, hz] at h
    cases w <;> simp_all
theorem n_el : ∀ i, i < 4 → ∀ j, j < 16 → Cond.eq (.elem (.static RX1 (am_sn i) "[I") (.int (Int32.ofNat j))) (.int (am_st i j)) ∈ n_lst := by decide +kernel
theorem n_ar : ∀ i, i < 4 → Cond.arrayOf (.static RX1 (am_sn i) "[I") .int ∈ n_lst := by decide +kernel
theorem n_le : ∀ i, i < 4 → Cond.eq (.length (.static RX1 (am_sn i) "[I")) (.int (Int32.ofNat 16)) ∈ n_lst := by decide +kernel
theorem n_K {s : State} {args : Array Value} {own : String} {idx ci N : Nat} (hts : ∀ w ∈ am_tb, w.before args s = true) (h : am_K own idx ci N) : ∃ q : ClassId × (Nat → Nat), ∀ r : vw_C, am_cl[ci]? = some r → u_Kn s r.1 r.2.1 r.2.2 q.1 q.2 := by
  obtain ⟨C, T, h1, h2, -, h3, -⟩ := h
  obtain ⟨cC, iS, g⟩ := u_known hts h2 (hts _ h3)
  refine ⟨(cC, iS), fun r hr => ?_⟩
  cases h1.symm.trans hr
  exact g
theorem n_cls {s : State} {args : Array Value} (hts : ∀ w ∈ am_tb, w.before args s = true) : ∀ ci : Nat, ∃ q : ClassId × (Nat → Nat), ∀ r : vw_C, am_cl[ci]? = some r → u_Kn s r.1 r.2.1 r.2.2 q.1 q.2 := by
  intro ci
  rcases (show ci = 0 ∨ ci = 1 ∨ ci = 2 ∨ ci = 3 ∨ ci = 4 ∨ ci = 5 ∨ ci = 6 ∨ ci = 7 ∨ ci = 8 ∨ ci = 9 ∨ 10 ≤ ci by omega) with rfl | rfl | rfl | rfl | rfl | rfl | rfl | rfl | rfl | rfl | h
  · exact n_K hts k_X10_27
  · exact n_K hts k_X7_22
  · exact n_K hts k_X7_9
  · exact n_K hts k_X7_15
  · exact n_K hts k_X7_29
  · exact n_K hts k_X10_7
  · exact n_K hts k_X7_39
  · exact n_K hts k_X10_20
  · exact n_K hts k_L_7
  · exact n_K hts k_L_10
  · obtain ⟨q, -⟩ := n_K hts k_X10_27
    refine ⟨q, fun r hr => ?_⟩
    have h2 := (List.getElem?_eq_some_iff.mp hr).1
    have h3 : am_cl.length = 10 := rfl
    omega
theorem n_arr {s : State} {args : Array Value} {ty : FieldType} (h : (Cond.arrayClass ty).before args s = true) : ∃ cA, ArrOfT s cA ty ∧ s.vm.findClass ("[" ++ ty.toString) = some cA := by
  obtain ⟨c, k, comp, h1, h2, h3⟩ := Cond.arrayClass_spec h
  exact ⟨c, fun n z => ⟨fun k h => (by cases h), k, h2, comp, h3⟩, h1⟩
theorem n_aro {s : State} {args : Array Value} {C : String} (h : (Cond.arrayOver (.object C)).before args s = true) : ∃ cA, ArrOfT s cA (.object C) ∧ va_RA s cA (.object C) := by
  obtain ⟨comp, c, k, h1, -, h2, h3, h4⟩ := Cond.arrayOver_spec h
  exact ⟨c, fun n z => ⟨fun k h => (by cases h), k, h2, comp, h3⟩, k, comp, h2, h3, h1, h4⟩
theorem n_stat {s : State} {args : Array Value} {A : Nat → Prop} {i : Nat} (hi : i < 4) (hl : (Cond.laysStatic RX1 (am_sn i) "[I").before args s = true) (hini : (Cond.initialized RX1).before args s = true) (hs : ∀ c ∈ n_lst, c.before args s = true) (hA : ∀ a : Nat, a < s.heap.size → ¬ A a) : ∃ a, va_Z RX1 (am_sn i) "[I" (.ref a) A s s.heap ∧ va_T .int a 16 (fun j => .int (am_st i j)) A s s.heap := by
  obtain ⟨t, h1, h2⟩ := va_Tof (N := 16) (f := fun j => .int (am_st i j)) (A := A) (by decide) (hs _ (n_ar i hi)) (n_eqi (hs _ (n_le i hi))) (fun j hj => n_eqi (hs _ (n_el i hi j hj))) hA
  exact ⟨t, va_Zref hl hini h1 hA, h2⟩
theorem n_N {s : State} {b : Nat} (hts : ∀ w ∈ lw_tbl, w.before #[Value.ref b] s = true) (hg : (Jvm.Cond.and given_1 narrow_1).before #[Value.ref b] s = true) {A : Nat → Prop} (hA : ∀ a : Nat, a < s.heap.size → ¬ A a) : ∃ (D : va_G) (t : Nat → ClassId), am_N D t A s s.heap := by
  have ht2 : ∀ w ∈ am_tb, w.before #[Value.ref b] s = true := fun w hw => hts w (List.mem_filter.mp hw).1
  obtain ⟨f, hf⟩ := Classical.axiomOfChoice (n_cls ht2)
  have oP : (Cond.arrayOver (.object RX3)).before #[Value.ref b] s = true := (hts _ (List.mem_append_right _ (List.mem_of_getElem? (i := 31) (by decide +kernel))))
  have oS : (Cond.arrayOver (.object RX7)).before #[Value.ref b] s = true := (hts _ (List.mem_append_right _ (List.mem_of_getElem? (i := 224) (by decide +kernel))))
  obtain ⟨c0, a0, b0⟩ := n_arr (ht2 _ w_arrI)
  obtain ⟨c1, a1, b1⟩ := n_arr (ht2 _ w_arrZ)
  obtain ⟨c2, a2, b2⟩ := n_aro oP
  obtain ⟨c3, a3, b3⟩ := n_aro oS
  refine ⟨(fun c => (f c).1, fun c => (f c).2), fun k => match k with | 0 => c0 | 1 => c1 | 2 => c2 | _ => c3, ⟨fun c q hq => hf c q hq, fun k q hq => ?_⟩, ⟨va_AO.of oP, va_AO.of oS⟩, fun q hq => ?_, fun i hi => ?_⟩
  · rcases (show k = 0 ∨ k = 1 ∨ k = 2 ∨ k = 3 ∨ 4 ≤ k by omega) with rfl | rfl | rfl | rfl | h
    · cases hq
      exact ⟨a0, b0⟩
    · cases hq
      exact ⟨a1, b1⟩
    · cases hq
      exact ⟨a2, b2⟩
    · cases hq
      exact ⟨a3, b3⟩
    · have h2 := (List.getElem?_eq_some_iff.mp hq).1
      have h3 : (am_tys (fun k => match k with | 0 => c0 | 1 => c1 | 2 => c2 | _ => c3)).length = 4 := rfl
      omega
  · simp only [am_ne, List.mem_cons, List.mem_nil_iff, or_false] at hq
    rcases hq with rfl | rfl | rfl | rfl | rfl | rfl | rfl | rfl
    · exact (show (Cond.methodLinkNest RX10 22 yX9_init RX10).before #[Value.ref b] s = true from (hts _ (List.mem_append_right _ (List.mem_of_getElem? (i := 227) (by decide +kernel)))))
    · exact (show (Cond.methodLinkNest RX10 29 yX0_init RX10).before #[Value.ref b] s = true from (hts _ (List.mem_append_right _ (List.mem_of_getElem? (i := 245) (by decide +kernel)))))
    · exact (show (Cond.methodLinkNest RX2 11 yX3_init RX10).before #[Value.ref b] s = true from (hts _ (List.mem_append_right _ (List.mem_of_getElem? (i := 57) (by decide +kernel)))))
    · exact (show (Cond.methodLinkNest RX7 17 yX5_init RX10).before #[Value.ref b] s = true from (hts _ (List.mem_append_right _ (List.mem_of_getElem? (i := 34) (by decide +kernel)))))
    · exact (show (Cond.methodLinkNest RX7 24 yX2_init RX10).before #[Value.ref b] s = true from (hts _ (List.mem_append_right _ (List.mem_of_getElem? (i := 51) (by decide +kernel)))))
    · exact (show (Cond.methodLinkNest RX7 31 yX6_init RX10).before #[Value.ref b] s = true from (hts _ (List.mem_append_right _ (List.mem_of_getElem? (i := 129) (by decide +kernel)))))
    · exact (show (Cond.methodLinkNest RX7 41 yX8_init RX10).before #[Value.ref b] s = true from (hts _ (List.mem_append_right _ (List.mem_of_getElem? (i := 172) (by decide +kernel)))))
    · exact (show (Cond.methodLinkNest RX7 46 yX3_init RX10).before #[Value.ref b] s = true from (hts _ (List.mem_append_right _ (List.mem_of_getElem? (i := 187) (by decide +kernel)))))
  · have hini : (Cond.initialized RX1).before #[Value.ref b] s = true := (hts _ (List.mem_append_right _ (List.mem_of_getElem? (i := 12) (by decide +kernel))))
    have hs := flat_of_before _ hg
    rcases (show i = 0 ∨ i = 1 ∨ i = 2 ∨ i = 3 by omega) with rfl | rfl | rfl | rfl
    · exact n_stat (by omega) (show (Cond.laysStatic RX1 "WANTS" "[I").before #[Value.ref b] s = true from (hts _ (List.mem_append_right _ (List.mem_of_getElem? (i := 503) (by decide +kernel))))) hini hs hA
    · exact n_stat (by omega) (show (Cond.laysStatic RX1 "LEAVES" "[I").before #[Value.ref b] s = true from (hts _ (List.mem_append_right _ (List.mem_of_getElem? (i := 505) (by decide +kernel))))) hini hs hA
    · exact n_stat (by omega) (show (Cond.laysStatic RX1 "LEAST_ARGUMENT" "[I").before #[Value.ref b] s = true from (hts _ (List.mem_append_right _ (List.mem_of_getElem? (i := 342) (by decide +kernel))))) hini hs hA
    · exact n_stat (by omega) (show (Cond.laysStatic RX1 "MOST_ARGUMENT" "[I").before #[Value.ref b] s = true from (hts _ (List.mem_append_right _ (List.mem_of_getElem? (i := 344) (by decide +kernel))))) hini hs hA
