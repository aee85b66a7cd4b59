/-! the class: read -/
def cdX (K : AIn) (q : Nat) (H : AIn) : Prop := (∀ r, r ≠ 136 → (r < q ∨ q + 4 < r) → H r = K r) ∧ H 136 0 = K 136 0
def lk (l : List (Nat × Int32)) : Nat → Int32 := fun k => nI (l.getD k (0, 0)).1
def la (l : List (Nat × Int32)) : Nat → Int32 := fun k => (l.getD k (0, 0)).2
def cdS (K : AIn) (q : Nat) (s : RD) (H : AIn) : Prop := cdX K q H ∧ H 136 2 = nI s.1 ∧ PgN H q s.2.length (lk s.2) (la s.2) (fun _ => nI 0) ∧ ∀ t, t < 40 → H (q + 3) t = nI 0
def cdV (K : AIn) (q : Nat) (r : Option RD) (v : Int32) (H : AIn) : Prop := bo v (∃ s', r = some s') ∧ (∀ s', r = some s' → cdS K q s' H) ∧ cdX K q H
def cdP (sh : ASh) (P : APt) (K : AIn) (q : Nat) (r : Option RD) : APo := po_i (fun v sh' I' P' => cdV K q r v I' ∧ sh = sh' ∧ P = P')
theorem cdV_1 {K H : AIn} {q : Nat} {r : Option RD} {s : RD} (h : cdS K q s H) (e : r = some s) : cdV K q r (nI 1) H := ⟨bo_1 ⟨s, e⟩, fun s' e' => by rw [e] at e'; cases e'; exact h, h.1⟩
theorem cdV_0 {K H : AIn} {q : Nat} {r : Option RD} (h : cdX K q H) (e : r = none) : cdV K q r (nI 0) H := ⟨bo_0 (by rintro ⟨s, e'⟩; rw [e] at e'; cases e'), (fun s' e' => by rw [e] at e'; cases e'), h⟩
theorem cdS_put {K H2 H3 : AIn} {q nx k : Nat} {l : List (Nat × Int32)} {a : Int32} (hq : q + 4 < 117) (h1 : cdX K q H2) (h2 : H2 136 2 = nI nx) (h3 : PgN H2 q l.length (lk l) (la l) (fun _ => nI 0)) (h4 : ∀ t, t < 40 → H2 (q + 3) t = nI 0) (hC : apC l.length (nI k) a) (hA : apH H2 q l.length (nI k) a H3) : cdS K q (nx, l ++ [(k, a)]) H3 := by
  have hz : ∀ t, t < 40 → H3 (q + 3) t = nI 0 := fun t ht => by rw [hA.1 (q + 3) (by omega) (by omega) (by omega) (by omega)]; exact h4 t ht
  have e36 : H3 136 = H2 136 := hA.1 136 (by omega) (by omega) (by omega) (by omega)
  have hlen : (l ++ [(k, a)]).length = l.length + 1 := by rw [List.length_append]; rfl
  refine ⟨⟨fun r hr hr2 => ?_, ?_⟩, ?_, ?_, hz⟩
  · rw [hA.1 r (by omega) (by omega) (by omega) (by omega)]; exact h1.1 r hr hr2
  · rw [e36]; exact h1.2
  · rw [e36]; exact h2
  · have := PgN_app h3 hC.2.1 hC.2.2 hC.1 hA (fun _ _ => rfl) hz
    show PgN H3 q (l ++ [(k, a)]).length (lk (l ++ [(k, a)])) (la (l ++ [(k, a)])) (fun _ => nI 0)
    rw [hlen]
    refine this.congr rfl (fun _ _ _ => rfl) (fun j hj => ?_)
    have hg := getD_snoc (l := l) (x := (k, a)) (k := j) (by rw [hlen]; exact hj)
    unfold lk la
    rw [hg]
    by_cases e : j = l.length
    · rw [if_pos e, e, pk_us, pk_us]; exact ⟨rfl, rfl, rfl⟩
    · rw [if_neg e, pk_un e, pk_un e]; exact ⟨rfl, rfl, rfl⟩
theorem aOk_0 {k : Nat} (h : ¬ hasA k) : aOk k (nI 0) := by
  unfold hasA at h
  unfold aOk
  rw [if_neg (by omega), if_neg (by omega), if_neg (by omega)]
  rfl
section K9
variable {sh : ASh} {I σ : AIn} {P : APt}
theorem c_X8_readOrder (S : St_c sh P) {K : AIn} {q : Nat} (Q : SPg sh P q) (hq : q + 4 < 117) {s : RD} {k T : Nat} (hk : k < 16) (h : cdS K q s I) (hT : K 136 0 = nI T) (hT2 : T ≤ 160) (hn : s.1 ≤ T) (hl : s.2.length ≤ 40) : am_R mX8_readOrder (cdP sh P K q (rdO T (K 137) k s)) 2 43 0 0 0 [some (.ref 136), some (.ref q), some (.int (nI k)), none] [] sh I P := by
  have sq := Q.1
  have enk : nv (nI k) = k := nv_nI (by omega)
  have e36 : I 136 0 = nI T := by rw [h.1.2]; exact hT
  have e37 : I 137 = K 137 := h.1.1 137 (by decide) (by omega)
  have e2 := h.2.1
  have st : hasA k → s.1 < T → ∀ a, a = rdv k (K 137 s.1) → am_R mX8_readOrder (cdP sh P K q (rdO T (K 137) k s)) 2 43 0 0 53 [some (.ref 136), some (.ref q), some (.int (nI k)), none] [.int a] sh I P := by
    intro hh hlt a ha
    refine r_istore_n dX8_readOrder_53 (Nat.le_of_ble_eq_true rfl) ?_
    dsimp only [List.set]
    refine r_aload_n dX8_readOrder_54 rfl ?_
    refine r_dup dX8_readOrder_55 ?_
    refine r_getI dX8_readOrder_56 g_X8_24 (by first | assumption | exact S.1 _ _ rfl) rfl ?_
    rw [e2]
    refine r_iconst dX8_readOrder_59 (v := nI 1) kc_1 ?_
    first | refine r_iaddN dX8_readOrder_60 ?_ | refine r_iadd dX8_readOrder_60 ?_
    refine r_putI dX8_readOrder_61 f_X8_24 (by first | assumption | exact S.1 _ _ rfl) rfl rfl rfl ?_
    have h2q : (va_up I 136 (upd (I 136) 2 (nI (s.1 + 1)))) q = I q := va_up_ne _ _ (by omega)
    refine r_aload_n dX8_readOrder_64 rfl ?_
    refine r_iload_n dX8_readOrder_65 rfl ?_
    refine r_iload_n dX8_readOrder_66 rfl ?_
    refine r_callV2 (fr' := 1) (lo' := 21) (mc' := 0) (ms' := 0) dX8_readOrder_67 mm_X3_append mv_X3_append l_X8_53 (by first | assumption | exact S.1 _ _ rfl) mc_X3_append (by decide) ⟨by decide, by decide⟩ (Nat.zero_le _) (Nat.zero_le _) (Nat.le_of_ble_eq_true rfl) (c_X3_append Q (by rw [h2q]; exact h.2.2.1.1) hl _ _) (am_ki ?_)
    rintro v67 _ H3 _ ⟨hb, hC, hN, rfl, rfl⟩
    refine r_ireturn dX8_readOrder_70 .boolean rfl hb.nar ?_
    have hX : cdX K q (va_up I 136 (upd (I 136) 2 (nI (s.1 + 1)))) := ⟨fun r hr hr2 => by rw [va_up_ne _ _ hr]; exact h.1.1 r hr hr2, by rw [va_up_self, pk_un (by decide)]; exact h.1.2⟩
    refine ⟨_, rfl, ?_, rfl, rfl⟩
    by_cases hc : apC s.2.length (nI k) a
    · have ev : v67 = nI 1 := by rcases hb with g | g; exact g.2; exact absurd hc g.1
      rw [ev]
      refine cdV_1 (cdS_put hq hX (by rw [va_up_self]; exact pk_us) (h.2.2.1.congr (by rw [h2q]) (fun r h1 h2 => va_up_ne _ _ (by omega)) (fun _ _ => ⟨rfl, rfl, rfl⟩)) (fun t ht => by rw [va_up_ne _ _ (by omega)]; exact h.2.2.2 t ht) hc (hC hc)) ?_
      unfold rdO
      have hc2 := hc.2.2
      rw [enk] at hc2
      rw [cif_f (by have := hc.1; omega), cif_t hh, cif_f (by omega), ← ha, cif_t hc2]
    · have ev : v67 = nI 0 := by rcases hb with g | g; exact absurd g.1 hc; exact g.2
      rw [ev]
      have := hN hc
      subst this
      refine cdV_0 hX ?_
      unfold rdO
      by_cases h40 : s.2.length = 40
      · rw [cif_t h40]
      · rw [cif_f h40, cif_t hh, cif_f (by omega), ← ha, cif_f (fun g => hc ⟨by omega, inR_nI hk, by rw [enk]; exact g⟩)]
  refine r_iload_n dX8_readOrder_0 rfl ?_
  refine r_callS1 (fr' := 0) (lo' := 0) (mc' := 0) (ms' := 0) dX8_readOrder_1 mm_X1_hasArgument ms_X1_hasArgument l_X8_50 (by decide) ⟨by decide, by decide⟩ (Nat.zero_le _) (Nat.zero_le _) (Nat.le_of_ble_eq_true rfl) (c_X1_hasArgument hk) (am_ki ?_)
  rintro v1 _ _ _ ⟨hb1, rfl, rfl, rfl⟩
  refine r_if_ne 14 dX8_readOrder_4 (by decide) (fun h4 => ?_) (fun h4 => ?_)
  · replace h4 := hb1.t h4
    refine r_aload_n dX8_readOrder_14 rfl ?_
    refine r_getI dX8_readOrder_15 g_X8_24 (by first | assumption | exact S.1 _ _ rfl) rfl ?_
    rw [e2]
    refine r_aload_n dX8_readOrder_18 rfl ?_
    refine r_getI dX8_readOrder_19 g_X8_15 (by first | assumption | exact S.1 _ _ rfl) rfl ?_
    rw [e36]
    refine r_icmp_ltN 27 dX8_readOrder_22 (by decide) (by omega) (by omega) (fun h22 => ?_) (fun h22 => ?_)
    · refine r_iload_n dX8_readOrder_27 rfl ?_
      refine r_if_neN 44 dX8_readOrder_28 (by decide) (by omega) (fun h28 => ?_) (fun h28 => ?_)
      · refine r_aload_n dX8_readOrder_44 rfl ?_
        refine r_getP dX8_readOrder_45 g_X8_11 (by first | assumption | exact S.1 _ _ rfl) rfl (by first | assumption | exact S.2 _ _ _ rfl) ?_
        refine r_aload_n dX8_readOrder_48 rfl ?_
        refine r_getI dX8_readOrder_49 g_X8_24 (by first | assumption | exact S.1 _ _ rfl) rfl ?_
        rw [e2]
        refine r_iaload s.1 dX8_readOrder_52 (by first | assumption | exact S.1 _ _ rfl) rfl (by first | decide | omega) (by decide) ?_
        rw [e37]
        refine st h4 (by omega) _ ?_
        unfold rdv
        first | rw [if_pos (by omega)] | rw [if_neg (by omega)]
      · refine r_aload_n dX8_readOrder_31 rfl ?_
        refine r_getP dX8_readOrder_32 g_X8_11 (by first | assumption | exact S.1 _ _ rfl) rfl (by first | assumption | exact S.2 _ _ _ rfl) ?_
        refine r_aload_n dX8_readOrder_35 rfl ?_
        refine r_getI dX8_readOrder_36 g_X8_24 (by first | assumption | exact S.1 _ _ rfl) rfl ?_
        rw [e2]
        refine r_iaload s.1 dX8_readOrder_39 (by first | assumption | exact S.1 _ _ rfl) rfl (by first | decide | omega) (by decide) ?_
        rw [e37]
        refine r_i2b dX8_readOrder_40 ?_
        refine r_goto 53 dX8_readOrder_41 (by decide) ?_
        refine st h4 (by omega) _ ?_
        unfold rdv
        first | rw [if_pos (by omega)] | rw [if_neg (by omega)]
    · refine r_iconst dX8_readOrder_25 (v := nI 0) kc_0 ?_
      refine r_ireturn dX8_readOrder_26 .boolean rfl (by decide) ?_
      refine ⟨_, rfl, cdV_0 h.1 ?_, rfl, rfl⟩
      unfold rdO
      by_cases h40 : s.2.length = 40
      · rw [cif_t h40]
      · rw [cif_f h40, cif_t h4, cif_t (by omega)]
  · replace h4 := hb1.f h4
    refine r_aload_n dX8_readOrder_7 rfl ?_
    refine r_iload_n dX8_readOrder_8 rfl ?_
    refine r_iconst dX8_readOrder_9 (v := nI 0) kc_0 ?_
    refine r_callV2 (fr' := 1) (lo' := 21) (mc' := 0) (ms' := 0) dX8_readOrder_10 mm_X3_append mv_X3_append l_X8_53 (by first | assumption | exact S.1 _ _ rfl) mc_X3_append (by decide) ⟨by decide, by decide⟩ (Nat.zero_le _) (Nat.zero_le _) (Nat.le_of_ble_eq_true rfl) (c_X3_append Q h.2.2.1.1 hl _ _) (am_ki ?_)
    rintro v10 _ H3 _ ⟨hb, hC, hN, rfl, rfl⟩
    refine r_ireturn dX8_readOrder_13 .boolean rfl hb.nar ?_
    refine ⟨_, rfl, ?_, rfl, rfl⟩
    by_cases hc : apC s.2.length (nI k) (nI 0)
    · have ev : v10 = nI 1 := by rcases hb with g | g; exact g.2; exact absurd hc g.1
      rw [ev]
      refine cdV_1 (cdS_put hq h.1 h.2.1 h.2.2.1 h.2.2.2 hc (hC hc)) ?_
      unfold rdO
      rw [cif_f (by have := hc.1; omega), cif_f h4]
    · have ev : v10 = nI 0 := by rcases hb with g | g; exact absurd g.1 hc; exact g.2
      rw [ev]
      have := hN hc
      subst this
      refine cdV_0 h.1 ?_
      unfold rdO
      rw [cif_t (Classical.byContradiction (fun h9 => hc ⟨by omega, inR_nI hk, by rw [enk]; exact aOk_0 h4⟩))]
noncomputable def rdK (T : Nat) (tb : Nat → Int32) (nj : Nat) (F : Nat → Int32) (b : Nat) (s : RD) : Option RD := if b < 16 then rdO T tb b s else if nj ≤ b - 16 then none else rdR T tb (fun i => nv (F (5 * (b - 16) + 1 + i))) 0 (nv (F (5 * (b - 16)))) s
theorem rdR_1 {T : Nat} {tb : Nat → Int32} {kf : Nat → Nat} {s : RD} : rdR T tb kf 0 1 s = rdO T tb (kf 0) s := by
  show (match rdO T tb (kf 0) s with | none => none | some s' => some s') = _
  cases rdO T tb (kf 0) s <;> rfl
theorem rdA_s {T : Nat} {tb : Nat → Int32} {nj : Nat} {F : Nat → Int32} {m : Nat} {s : RD} : rdA T tb nj F (m + 1) s = if T ≤ s.1 then some s else match rdK T tb nj F (nv (tb s.1)) (s.1 + 1, s.2) with | none => none | some s' => rdA T tb nj F m s' := by
  show (if T ≤ s.1 then some s else _) = _
  by_cases h : T ≤ s.1
  · rw [if_pos h, if_pos h]
  · rw [if_neg h, if_neg h]
    unfold rdK
    by_cases h2 : nv (tb s.1) < 16
    · rw [if_pos h2, if_pos h2, rdR_1]
      cases rdO T tb (nv (tb s.1)) (s.1 + 1, s.2) <;> rfl
    · rw [if_neg h2, if_neg h2]
      by_cases h3 : nj ≤ nv (tb s.1) - 16
      · rw [if_pos h3, if_pos h3]
      · rw [if_neg h3, if_neg h3]
        cases rdR T tb (fun i => nv (F (5 * (nv (tb s.1) - 16) + 1 + i))) 0 (nv (F (5 * (nv (tb s.1) - 16)))) (s.1 + 1, s.2) <;> rfl
theorem rdK_len {T : Nat} {tb : Nat → Int32} {nj : Nat} {F : Nat → Int32} {b : Nat} {s s' : RD} (h : rdK T tb nj F b s = some s') (hl : s.2.length ≤ 40) (hn : s.1 ≤ T) : s'.2.length ≤ 40 ∧ s.1 ≤ s'.1 ∧ s'.1 ≤ T := by
  unfold rdK at h
  by_cases h2 : b < 16
  · rw [if_pos h2, ← rdR_1 (kf := fun _ => b)] at h
    exact rdR_len h hl hn
  · rw [if_neg h2] at h
    by_cases h3 : nj ≤ b - 16
    · rw [if_pos h3] at h; cases h
    · rw [if_neg h3] at h
      exact rdR_len h hl hn
theorem c_X5_kind2 {r m : Nat} {F : Nat → Int32} (R : SRw sh P r) (hR : RwR I r m (fun j => eR F (5 * j))) (hL : ∀ j, j < m → jOk F (5 * j)) {j i : Nat} (hj : j < m) (hi : i < 4) : am_R mX5_kind (po_i (fun v sh' I' P' => v = (if i < nv (F (5 * j)) then nI (nv (F (5 * j + 1 + i))) else -1) ∧ sh = sh' ∧ I = I' ∧ P = P')) 1 21 0 0 0 [some (.ref r), some (.int (nI j)), some (.int (nI i))] [] sh I P := by
  have h6 := hR.2.1
  have hl := (hL j hj).ln
  refine am_mono (c_X5_kind (κ := fun j i => nv (F (5 * j + 1 + i))) (L := fun j => nv (F (5 * j))) R hR (fun j hj => ⟨(hL j hj).ln, (hL j hj).kd⟩) (nI j) (nI i)) ?_
  rintro _ _ _ _ ⟨v, rfl, rfl, h3⟩
  refine ⟨_, rfl, ?_, h3⟩
  rw [nv_nI (show j < 2147483648 by omega), nv_nI (show i < 2147483648 by omega)]
  by_cases h : i < nv (F (5 * j))
  · rw [if_pos h, cif_t ⟨inR_nI hj, inR_nI h⟩]
  · rw [if_neg h, cif_f (fun h2 => h ?_)]
    obtain ⟨-, i2, hi2, e⟩ := h2
    rw [(nI_eq (by omega) (by omega)).mp e]
    exact hi2
theorem l_X8_readCode (S : St_c sh P) {K : AIn} {q : Nat} (Q : SPg sh P q) (hq : q + 4 < 117) {T m : Nat} {F : Nat → Int32} (hR : RwR K 117 m (fun j => eR F (5 * j))) (hL : ∀ j, j < m → jOk F (5 * j)) (hT : K 136 0 = nI T) (hT2 : T ≤ 160) {j : Nat} (hj : j < m) {b : Int32} {R : Option RD} : ∀ (c i : Nat) (s : RD) (H : AIn), i + c = nv (F (5 * j)) → cdS K q s H → s.1 ≤ T → s.2.length ≤ 40 → R = rdR T (K 137) (fun i => nv (F (5 * j + 1 + i))) i c s → am_R mX8_readCode (cdP sh P K q R) 3 66 0 0 34 [some (.ref 136), some (.ref q), some (.ref 117), some (.int b), some (.int (nI j)), some (.int (nI i))] [] sh H P := by
  have hl4 := (hL j hj).ln
  have hm := hR.2.1
  intro c
  induction c with
  | zero =>
    intro i s H hi h hn hl eR
    have eR : R = some s := eR
    refine r_iload dX8_readCode_34 rfl ?_
    refine r_iconst dX8_readCode_36 (v := nI 4) kc_4 ?_
    refine r_icmp_geN 76 dX8_readCode_37 (by decide) (by omega) (by omega) (fun h37 => ?_) (fun h37 => ?_)
    · refine r_iconst dX8_readCode_76 (v := nI 1) kc_1 ?_
      refine r_ireturn dX8_readCode_77 .boolean rfl (by decide) ?_
      exact ⟨_, rfl, cdV_1 h eR, rfl, rfl⟩
    · refine r_aload_n dX8_readCode_40 rfl ?_
      refine r_iload dX8_readCode_41 rfl ?_
      refine r_iload dX8_readCode_43 rfl ?_
      refine r_callV2 (fr' := 1) (lo' := 21) (mc' := 0) (ms' := 0) dX8_readCode_45 mm_X5_kind mv_X5_kind l_X8_46 (by first | assumption | exact S.1 _ _ rfl) mc_X5_kind (by decide) ⟨by decide, by decide⟩ (Nat.zero_le _) (Nat.zero_le _) (Nat.le_of_ble_eq_true rfl) (c_X5_kind2 (SRw_j S) (RwR_fr hR (by rw [h.1.1 117 (by decide) (by omega)]) (h.1.1 118 (by decide) (by omega))) hL hj (by omega)) (am_ki ?_)
      rintro v45 _ _ _ ⟨rfl, rfl, rfl, rfl⟩
      rw [if_neg (by omega)]
      refine r_iconst dX8_readCode_48 (v := (-1)) kc_m1 ?_
      refine r_icmp_eq 76 dX8_readCode_49 (by decide) (fun h49 => ?_) (fun h49 => ?_)
      · refine r_iconst dX8_readCode_76 (v := nI 1) kc_1 ?_
        refine r_ireturn dX8_readCode_77 .boolean rfl (by decide) ?_
        exact ⟨_, rfl, cdV_1 h eR, rfl, rfl⟩
      · exact absurd rfl h49
  | succ c ih =>
    intro i s H hi h hn hl eR
    have hkd := (hL j hj).kd i (by omega)
    have sq := Q.1
    refine r_iload dX8_readCode_34 rfl ?_
    refine r_iconst dX8_readCode_36 (v := nI 4) kc_4 ?_
    refine r_icmp_geN 76 dX8_readCode_37 (by decide) (by omega) (by omega) (fun h37 => ?_) (fun h37 => ?_)
    · exact absurd h37 (by omega)
    · refine r_aload_n dX8_readCode_40 rfl ?_
      refine r_iload dX8_readCode_41 rfl ?_
      refine r_iload dX8_readCode_43 rfl ?_
      refine r_callV2 (fr' := 1) (lo' := 21) (mc' := 0) (ms' := 0) dX8_readCode_45 mm_X5_kind mv_X5_kind l_X8_46 (by first | assumption | exact S.1 _ _ rfl) mc_X5_kind (by decide) ⟨by decide, by decide⟩ (Nat.zero_le _) (Nat.zero_le _) (Nat.le_of_ble_eq_true rfl) (c_X5_kind2 (SRw_j S) (RwR_fr hR (by rw [h.1.1 117 (by decide) (by omega)]) (h.1.1 118 (by decide) (by omega))) hL hj (by omega)) (am_ki ?_)
      rintro v45 _ _ _ ⟨rfl, rfl, rfl, rfl⟩
      rw [if_pos (by omega)]
      refine r_iconst dX8_readCode_48 (v := (-1)) kc_m1 ?_
      refine r_icmp_eq 76 dX8_readCode_49 (by decide) (fun h49 => ?_) (fun h49 => ?_)
      · exact absurd h49 (fun e => nI_pos (n := nv (F (5 * j + 1 + i))) (by omega) (by rw [e]; decide))
      · refine r_aload_n dX8_readCode_52 rfl ?_
        refine r_aload_n dX8_readCode_53 rfl ?_
        refine r_aload_n dX8_readCode_54 rfl ?_
        refine r_iload dX8_readCode_55 rfl ?_
        refine r_iload dX8_readCode_57 rfl ?_
        refine r_callV2 (fr' := 1) (lo' := 21) (mc' := 0) (ms' := 0) dX8_readCode_59 mm_X5_kind mv_X5_kind l_X8_46 (by first | assumption | exact S.1 _ _ rfl) mc_X5_kind (by decide) ⟨by decide, by decide⟩ (Nat.zero_le _) (Nat.zero_le _) (Nat.le_of_ble_eq_true rfl) (c_X5_kind2 (SRw_j S) (RwR_fr hR (by rw [h.1.1 117 (by decide) (by omega)]) (h.1.1 118 (by decide) (by omega))) hL hj (by omega)) (am_ki ?_)
        rintro v59 _ _ _ ⟨rfl, rfl, rfl, rfl⟩
        rw [if_pos (by omega)]
        refine r_callV2 (fr' := 2) (lo' := 43) (mc' := 0) (ms' := 0) dX8_readCode_62 mm_X8_readOrder mv_X8_readOrder l_X8_37 (by first | assumption | exact S.1 _ _ rfl) mc_X8_readOrder (by decide) ⟨by decide, by decide⟩ (Nat.zero_le _) (Nat.zero_le _) (Nat.le_of_ble_eq_true rfl) (c_X8_readOrder S Q hq (by omega) h hT hT2 hn hl) (am_ki ?_)
        rintro v62 _ H2 _ ⟨⟨hb, hS, hX⟩, rfl, rfl⟩
        refine r_if_ne 70 dX8_readCode_65 (by decide) (fun h65 => ?_) (fun h65 => ?_)
        · obtain ⟨s', es⟩ := hb.t h65
          have hlen := rdO_len es hl hn
          first | refine r_iincN dX8_readCode_70 rfl kc_1 ?_ | refine r_iinc dX8_readCode_70 rfl rfl ?_
          dsimp only [List.set]
          refine r_goto 34 dX8_readCode_73 (by decide) ?_
          refine ih (i + 1) s' H2 (by omega) (hS s' es) hlen.2.2.2 hlen.1 ?_
          rw [eR]
          show (match rdO T (K 137) (nv (F (5 * j + 1 + i))) s with | none => none | some s' => _) = _
          rw [es]
        · have es : rdO T (K 137) (nv (F (5 * j + 1 + i))) s = none := by
            cases e9 : rdO T (K 137) (nv (F (5 * j + 1 + i))) s with
            | none => rfl
            | some s9 => exact absurd ⟨s9, e9⟩ (hb.f h65)
          refine r_iconst dX8_readCode_68 (v := nI 0) kc_0 ?_
          refine r_ireturn dX8_readCode_69 .boolean rfl (by decide) ?_
          refine ⟨_, rfl, cdV_0 hX ?_, rfl, rfl⟩
          rw [eR]
          show (match rdO T (K 137) (nv (F (5 * j + 1 + i))) s with | none => none | some s' => _) = none
          rw [es]
theorem c_X8_readCode (S : St_c sh P) {K : AIn} {q : Nat} (Q : SPg sh P q) (hq : q + 4 < 117) {T m : Nat} {F : Nat → Int32} (hR : RwR K 117 m (fun j => eR F (5 * j))) (hL : ∀ j, j < m → jOk F (5 * j)) (hT : K 136 0 = nI T) (hT2 : T ≤ 160) {b : Nat} (hb : b ≤ 255) {s : RD} (h : cdS K q s I) (hn : s.1 ≤ T) (hl : s.2.length ≤ 40) : am_R mX8_readCode (cdP sh P K q (rdK T (K 137) m F b s)) 3 66 0 0 0 [some (.ref 136), some (.ref q), some (.ref 117), some (.int (nI b)), none, none] [] sh I P := by
  have sq := Q.1
  have hm := hR.2.1
  have e17 : I 117 0 = nI m := by rw [h.1.1 117 (by decide) (by omega)]; exact hR.1
  refine r_iload_n dX8_readCode_0 rfl ?_
  refine r_callS1 (fr' := 0) (lo' := 0) (mc' := 0) (ms' := 0) dX8_readCode_1 mm_X1_isOne ms_X1_isOne l_X8_31 (by decide) ⟨by decide, by decide⟩ (Nat.zero_le _) (Nat.zero_le _) (Nat.le_of_ble_eq_true rfl) (c_X1_isOne _) (am_ki ?_)
  rintro v1 _ _ _ ⟨hb1, rfl, rfl, rfl⟩
  refine r_if_eq 14 dX8_readCode_4 (by decide) (fun h4 => ?_) (fun h4 => ?_)
  · replace h4 := hb1.f h4
    have hb6 : ¬ b < 16 := fun g => h4 (inR_nI g)
    refine r_iload_n dX8_readCode_14 rfl ?_
    refine r_bipush dX8_readCode_15 (v := nI 16) (by decide) ?_
    first | refine r_isubN dX8_readCode_17 (by omega) ?_ | refine r_isub dX8_readCode_17 ?_
    refine r_istore dX8_readCode_18 (Nat.le_of_ble_eq_true rfl) ?_
    dsimp only [List.set]
    refine r_iload dX8_readCode_20 rfl ?_
    refine r_aload_n dX8_readCode_22 rfl ?_
    refine r_getI dX8_readCode_23 g_X8_41 (by first | assumption | exact S.1 _ _ rfl) rfl ?_
    rw [e17]
    refine r_icmp_ltN 31 dX8_readCode_26 (by decide) (by omega) (by omega) (fun h26 => ?_) (fun h26 => ?_)
    · refine r_iconst dX8_readCode_31 (v := nI 0) kc_0 ?_
      refine r_istore dX8_readCode_32 (Nat.le_of_ble_eq_true rfl) ?_
      dsimp only [List.set]
      refine l_X8_readCode S Q hq hR hL hT hT2 h26 _ 0 s I (Nat.zero_add _) h hn hl ?_
      unfold rdK
      rw [if_neg hb6, if_neg (by omega)]
    · refine r_iconst dX8_readCode_29 (v := nI 0) kc_0 ?_
      refine r_ireturn dX8_readCode_30 .boolean rfl (by decide) ?_
      refine ⟨_, rfl, cdV_0 h.1 ?_, rfl, rfl⟩
      unfold rdK
      rw [if_neg hb6, if_pos (by omega)]
  · replace h4 := hb1.t h4
    obtain ⟨b2, hb2, eb⟩ := h4
    have e9 := (nI_eq (by omega) (by omega)).mp eb
    have ek : rdK T (K 137) m F b s = rdO T (K 137) b s := if_pos (by omega)
    rw [ek]
    refine r_aload_n dX8_readCode_7 rfl ?_
    refine r_aload_n dX8_readCode_8 rfl ?_
    refine r_iload_n dX8_readCode_9 rfl ?_
    refine r_callV2 (fr' := 2) (lo' := 43) (mc' := 0) (ms' := 0) dX8_readCode_10 mm_X8_readOrder mv_X8_readOrder l_X8_37 (by first | assumption | exact S.1 _ _ rfl) mc_X8_readOrder (by decide) ⟨by decide, by decide⟩ (Nat.zero_le _) (Nat.zero_le _) (Nat.le_of_ble_eq_true rfl) (c_X8_readOrder S Q hq (by omega) h hT hT2 hn hl) (am_ki ?_)
    rintro v10 _ H2 _ ⟨hV, rfl, rfl⟩
    refine r_ireturn dX8_readCode_13 .boolean rfl hV.1.nar ?_
    exact ⟨_, rfl, hV, rfl, rfl⟩
theorem l_X8_readInto (S : St_c sh P) {K : AIn} {q : Nat} (Q : SPg sh P q) (hq : q + 4 < 117) {T m : Nat} {F : Nat → Int32} (hR : RwR K 117 m (fun j => eR F (5 * j))) (hL : ∀ j, j < m → jOk F (5 * j)) (hT : K 136 0 = nI T) (hT2 : T ≤ 160) (hby : ∀ k, k < T → isN (K 137 k) 255) : ∀ (f c : Nat) (s : RD) (H : AIn) (x4 : Option Value), f + c = T → c ≤ s.1 → cdS K q s H → s.1 ≤ T → s.2.length ≤ 40 → am_R mX8_readInto (cdP sh P K q (rdA T (K 137) m F f s)) 4 91 0 0 11 [some (.ref 136), some (.ref q), some (.ref 117), some (.int (nI c)), x4] [] sh H P := by
  have sq := Q.1
  intro f
  induction f with
  | zero =>
    intro c s H x4 hf hc h hn hl
    have e36 : H 136 0 = nI T := by rw [h.1.2]; exact hT
    have e2 := h.2.1
    refine r_iload_n dX8_readInto_11 rfl ?_
    refine r_sipush dX8_readInto_12 (v := nI 160) (by decide) ?_
    refine r_icmp_geN 69 dX8_readInto_15 (by decide) (by omega) (by omega) (fun h15 => ?_) (fun h15 => ?_)
    · refine r_iconst dX8_readInto_69 (v := nI 1) kc_1 ?_
      refine r_ireturn dX8_readInto_70 .boolean rfl (by decide) ?_
      exact ⟨_, rfl, cdV_1 h rfl, rfl, rfl⟩
    · refine r_aload_n dX8_readInto_18 rfl ?_
      refine r_getI dX8_readInto_19 g_X8_24 (by first | assumption | exact S.1 _ _ rfl) rfl ?_
      rw [e2]
      refine r_aload_n dX8_readInto_22 rfl ?_
      refine r_getI dX8_readInto_23 g_X8_15 (by first | assumption | exact S.1 _ _ rfl) rfl ?_
      rw [e36]
      refine r_icmp_geN 69 dX8_readInto_26 (by decide) (by omega) (by omega) (fun h26 => ?_) (fun h26 => ?_)
      · refine r_iconst dX8_readInto_69 (v := nI 1) kc_1 ?_
        refine r_ireturn dX8_readInto_70 .boolean rfl (by decide) ?_
        exact ⟨_, rfl, cdV_1 h rfl, rfl, rfl⟩
      · exact absurd h26 (by omega)
  | succ f ih =>
    intro c s H x4 hf hc h hn hl
    have e36 : H 136 0 = nI T := by rw [h.1.2]; exact hT
    have e37 : H 137 = K 137 := h.1.1 137 (by decide) (by omega)
    have e2 := h.2.1
    rw [rdA_s]
    refine r_iload_n dX8_readInto_11 rfl ?_
    refine r_sipush dX8_readInto_12 (v := nI 160) (by decide) ?_
    refine r_icmp_geN 69 dX8_readInto_15 (by decide) (by omega) (by omega) (fun h15 => ?_) (fun h15 => ?_)
    · exact absurd h15 (by omega)
    · refine r_aload_n dX8_readInto_18 rfl ?_
      refine r_getI dX8_readInto_19 g_X8_24 (by first | assumption | exact S.1 _ _ rfl) rfl ?_
      rw [e2]
      refine r_aload_n dX8_readInto_22 rfl ?_
      refine r_getI dX8_readInto_23 g_X8_15 (by first | assumption | exact S.1 _ _ rfl) rfl ?_
      rw [e36]
      refine r_icmp_geN 69 dX8_readInto_26 (by decide) (by omega) (by omega) (fun h26 => ?_) (fun h26 => ?_)
      · rw [if_pos h26]
        refine r_iconst dX8_readInto_69 (v := nI 1) kc_1 ?_
        refine r_ireturn dX8_readInto_70 .boolean rfl (by decide) ?_
        exact ⟨_, rfl, cdV_1 h rfl, rfl, rfl⟩
      · rw [if_neg h26]
        obtain ⟨eb, hb⟩ := hby s.1 (by omega)
        generalize hbb0 : nv (K 137 s.1) = b at eb hb ⊢
        refine r_aload_n dX8_readInto_29 rfl ?_
        refine r_getP dX8_readInto_30 g_X8_11 (by first | assumption | exact S.1 _ _ rfl) rfl (by first | assumption | exact S.2 _ _ _ rfl) ?_
        refine r_aload_n dX8_readInto_33 rfl ?_
        refine r_getI dX8_readInto_34 g_X8_24 (by first | assumption | exact S.1 _ _ rfl) rfl ?_
        rw [e2]
        refine r_iaload s.1 dX8_readInto_37 (by first | assumption | exact S.1 _ _ rfl) rfl (by first | decide | omega) (by decide) ?_
        rw [e37, eb]
        refine r_istore dX8_readInto_38 (Nat.le_of_ble_eq_true rfl) ?_
        dsimp only [List.set]
        refine r_aload_n dX8_readInto_40 rfl ?_
        refine r_dup dX8_readInto_41 ?_
        refine r_getI dX8_readInto_42 g_X8_24 (by first | assumption | exact S.1 _ _ rfl) rfl ?_
        rw [e2]
        refine r_iconst dX8_readInto_45 (v := nI 1) kc_1 ?_
        first | refine r_iaddN dX8_readInto_46 ?_ | refine r_iadd dX8_readInto_46 ?_
        refine r_putI dX8_readInto_47 f_X8_24 (by first | assumption | exact S.1 _ _ rfl) rfl rfl rfl ?_
        refine r_aload_n dX8_readInto_50 rfl ?_
        refine r_aload_n dX8_readInto_51 rfl ?_
        refine r_aload_n dX8_readInto_52 rfl ?_
        refine r_iload dX8_readInto_53 rfl ?_
        have hS : cdS K q (s.1 + 1, s.2) (va_up H 136 (upd (H 136) 2 (nI (s.1 + 1)))) := ⟨⟨fun r hr hr2 => by rw [va_up_ne _ _ hr]; exact h.1.1 r hr hr2, by rw [va_up_self, pk_un (by decide)]; exact h.1.2⟩, by rw [va_up_self]; exact pk_us, h.2.2.1.congr (by rw [va_up_ne _ _ (by omega)]) (fun r h1 h2 => va_up_ne _ _ (by omega)) (fun _ _ => ⟨rfl, rfl, rfl⟩), fun t ht => by rw [va_up_ne _ _ (by omega)]; exact h.2.2.2 t ht⟩
        refine r_callV3 (fr' := 3) (lo' := 66) (mc' := 0) (ms' := 0) dX8_readInto_55 mm_X8_readCode mv_X8_readCode l_X8_27 (by first | assumption | exact S.1 _ _ rfl) mc_X8_readCode (by decide) ⟨by decide, by decide⟩ (Nat.zero_le _) (Nat.zero_le _) (Nat.le_of_ble_eq_true rfl) (c_X8_readCode S Q hq hR hL hT hT2 hb hS (show s.1 + 1 ≤ T by omega) hl) (am_ki ?_)
        rintro v55 _ H2 _ ⟨⟨hbb, hSS, hX⟩, rfl, rfl⟩
        refine r_if_ne 63 dX8_readInto_58 (by decide) (fun h58 => ?_) (fun h58 => ?_)
        · obtain ⟨s', es⟩ := hbb.t h58
          have hlen := rdK_len es hl (show s.1 + 1 ≤ T by omega)
          rw [es]
          first | refine r_iincN dX8_readInto_63 rfl kc_1 ?_ | refine r_iinc dX8_readInto_63 rfl rfl ?_
          dsimp only [List.set]
          refine r_goto 11 dX8_readInto_66 (by decide) ?_
          exact ih (c + 1) s' H2 _ (by omega) (by have := hlen.2.1; have : s.1 + 1 ≤ s'.1 := hlen.2.1; omega) (hSS s' es) hlen.2.2 hlen.1
        · have es : rdK T (K 137) m F b (s.1 + 1, s.2) = none := by
            cases e9 : rdK T (K 137) m F b (s.1 + 1, s.2) with
            | none => rfl
            | some s9 => exact absurd ⟨s9, e9⟩ (hbb.f h58)
          rw [es]
          refine r_iconst dX8_readInto_61 (v := nI 0) kc_0 ?_
          refine r_ireturn dX8_readInto_62 .boolean rfl (by decide) ?_
          exact ⟨_, rfl, cdV_0 hX rfl, rfl, rfl⟩
theorem rdO_tb {T : Nat} {tb tb' : Nat → Int32} {k : Nat} {s : RD} (h : ∀ k, k < T → tb k = tb' k) (hn : s.1 ≤ T) : rdO T tb k s = rdO T tb' k s := by
  unfold rdO
  by_cases h1 : s.2.length = 40
  · rw [cif_t h1, cif_t h1]
  · rw [cif_f h1, cif_f h1]
    by_cases h2 : hasA k
    · rw [cif_t h2, cif_t h2]
      by_cases h3 : s.1 = T
      · rw [cif_t h3, cif_t h3]
      · rw [cif_f h3, cif_f h3, h s.1 (by omega)]
    · rw [cif_f h2, cif_f h2]
theorem rdR_tb {T : Nat} {tb tb' : Nat → Int32} {kf : Nat → Nat} (h : ∀ k, k < T → tb k = tb' k) : ∀ {c i : Nat} {s : RD}, s.1 ≤ T → s.2.length ≤ 40 → rdR T tb kf i c s = rdR T tb' kf i c s
  | 0, _, _, _, _ => rfl
  | c + 1, i, s, hn, hl => by
    show (match rdO T tb (kf i) s with | none => none | some s' => rdR T tb kf (i + 1) c s') = match rdO T tb' (kf i) s with | none => none | some s' => rdR T tb' kf (i + 1) c s'
    rw [← rdO_tb h hn]
    cases e : rdO T tb (kf i) s with
    | none => rfl
    | some s' =>
      have hlen := rdO_len e hl hn
      exact rdR_tb h hlen.2.2.2 hlen.1
theorem rdK_tb {T : Nat} {tb tb' : Nat → Int32} {nj : Nat} {F : Nat → Int32} {b : Nat} {s : RD} (h : ∀ k, k < T → tb k = tb' k) (hn : s.1 ≤ T) (hl : s.2.length ≤ 40) : rdK T tb nj F b s = rdK T tb' nj F b s := by
  unfold rdK
  rw [rdO_tb h hn, rdR_tb h hn hl]
theorem rdA_tb {T : Nat} {tb tb' : Nat → Int32} {nj : Nat} {F : Nat → Int32} (h : ∀ k, k < T → tb k = tb' k) : ∀ {m : Nat} {s : RD}, s.1 ≤ T → s.2.length ≤ 40 → rdA T tb nj F m s = rdA T tb' nj F m s
  | 0, _, _, _ => rfl
  | m + 1, s, hn, hl => by
    rw [rdA_s, rdA_s]
    by_cases h1 : T ≤ s.1
    · rw [if_pos h1, if_pos h1]
    · rw [if_neg h1, if_neg h1, ← h s.1 (by omega), ← rdK_tb (s := (s.1 + 1, s.2)) h (show s.1 + 1 ≤ T by omega) hl]
      cases e : rdK T tb nj F (nv (tb s.1)) (s.1 + 1, s.2) with
      | none => rfl
      | some s' =>
        have hlen := rdK_len e hl (show s.1 + 1 ≤ T by omega)
        exact rdA_tb h hlen.2.2 hlen.1
theorem c_X8_readInto (S : St_c sh P) (V : Inv σ) (R : RepS I 100 σ) {q : Nat} (Q : SPg sh P q) (hq : q + 4 < 117) (hq2 : 100 < q) : am_R mX8_readInto (cdP sh P I q (rdX σ)) 4 91 0 0 0 [some (.ref 136), some (.ref q), some (.ref 117), none, none] [] sh I P := by
  have sq := Q.1
  have hTT := R.2.2.2.2.2
  have hT : I 136 0 = nI (nv (σ 26 0)) := hTT.1.trans V.2.2.2.2.2.1.1
  refine r_aload_n dX8_readInto_0 rfl ?_
  refine r_callV0 (fr' := 2) (lo' := 43) (mc' := 0) (ms' := 0) dX8_readInto_1 mm_X3_clear mv_X3_clear l_X8_19 (by first | assumption | exact S.1 _ _ rfl) mc_X3_clear (by decide) ⟨by decide, by decide⟩ (Nat.zero_le _) (Nat.zero_le _) (Nat.le_of_ble_eq_true rfl) (c_X3_clear Q) (am_kv ?_)
  rintro _ H _ ⟨hF, h0, h3, h4, rfl, rfl⟩
  refine r_aload_n dX8_readInto_4 rfl ?_
  refine r_iconst dX8_readInto_5 (v := nI 0) kc_0 ?_
  refine r_putI dX8_readInto_6 f_X8_24 (by first | assumption | exact S.1 _ _ rfl) rfl rfl rfl ?_
  refine r_iconst dX8_readInto_9 (v := nI 0) kc_0 ?_
  refine r_istore_n dX8_readInto_10 (Nat.le_of_ble_eq_true rfl) ?_
  dsimp only [List.set]
  have eX : rdX σ = rdA (nv (σ 26 0)) (I 137) (nj σ) (σ 7) (nv (σ 26 0)) (0, []) := rdA_tb (fun k hk => (hTT.2 k hk).symm) (Nat.zero_le _) (Nat.zero_le _)
  rw [eX]
  refine l_X8_readInto (K := I) S Q hq R.2.1 V.2.1.2.1 hT V.2.2.2.2.2.1.2 (fun k hk => by rw [hTT.2 k hk]; exact V.2.2.2.2.2.2 k hk) _ 0 (0, []) _ _ (Nat.add_zero _) (Nat.le_refl 0) ⟨⟨fun r a b => ?_, ?_⟩, ?_, ⟨?_, fun k hk => absurd hk (Nat.not_lt_zero k), fun t ht => ?_⟩, fun t ht => ?_⟩ (Nat.zero_le _) (Nat.zero_le _)
  · rw [va_up_ne _ _ a, hF r (by omega) (by omega) (by omega)]
  · rw [va_up_self, pk_un (by decide), hF 136 (by omega) (by omega) (by omega)]
  · rw [va_up_self]; exact pk_us
  · rw [va_up_ne _ _ (by omega)]; exact h0
  · rw [va_up_ne _ _ (by omega)]; exact h4 t ht
  · rw [va_up_ne _ _ (by omega)]; exact h3 t ht
theorem rd_fin {H : AIn} {s : RD} (V : Inv σ) (R : RepS I 100 σ) (hn : np σ < 3) (h : cdS I (102 + 5 * np σ) s H) (hl : s.2.length ≤ 40) (hr : rdX σ = some s) : RepS (va_up (va_up H 136 (upd (H 136) 0 (nI 0))) 100 (upd (H 100) 0 (nI (np σ + 1)))) 100 (rd_op σ) ∧ cF (va_up (va_up H 136 (upd (H 136) 0 (nI 0))) 100 (upd (H 100) 0 (nI (np σ + 1)))) I ∧ rd_res σ = nI (np σ) := by
  have hG : ∀ r, r ≠ 136 → r ≠ 100 → r < 102 ∨ 116 < r → va_up (va_up H 136 (upd (H 136) 0 (nI 0))) 100 (upd (H 100) 0 (nI (np σ + 1))) r = I r := fun r a b c => by
    rw [va_up_ne _ _ b, va_up_ne _ _ a, h.1.1 r a (by omega)]
  unfold rd_op rd_res
  rw [cif_f (by omega), cif_f (by omega), hr]
  refine ⟨⟨?_, rpJ_σ (rpJ_fr R.2.1 (fun r h1 h2 => hG r (by omega) (by omega) (by omega))) rfl rfl, rpK_σ (rpK_fr R.2.2.1 (fun r h1 h2 => hG r (by omega) (by omega) (by omega))) rfl rfl rfl rfl rfl rfl rfl, rpR_σ (rpR_fr R.2.2.2.1 (fun r h1 h2 => hG r (by omega) (by omega) (by omega))) rfl rfl rfl rfl rfl rfl rfl rfl rfl, rpW_σ (rpW_fr R.2.2.2.2.1 ?_ (fun r h1 h2 => hG r (by omega) (by omega) (by omega))) rfl rfl, ?_⟩, fun r hr => hG r (by omega) (by omega) (by omega), rfl⟩
  · have en : np (rdW σ s.2) = np σ + 1 := nv_nI (by omega)
    refine rpP_set (p := np σ) R.1 V.1 (by rw [en]; omega) ?_ (fun r h1 h2 h3 => ?_) (fun p' h1 h2 => ?_) (fun _ => ?_)
    · rw [en, va_up_self]; exact pk_us
    · rw [va_up_ne _ _ (by omega), va_up_ne _ _ (by omega), h.1.1 r (by omega) (by omega)]
    · rw [en] at h1
      refine ⟨by omega, pk_un h2, fun k hk => ⟨?_, ?_, ?_⟩⟩
      · show _ = if 40 * np σ ≤ 40 * p' + k ∧ 40 * p' + k < 40 * np σ + s.2.length then _ else σ 3 (40 * p' + k)
        rw [if_neg (by omega)]
      · show _ = if 40 * np σ ≤ 40 * p' + k ∧ 40 * p' + k < 40 * np σ + s.2.length then _ else σ 4 (40 * p' + k)
        rw [if_neg (by omega)]
      · show _ = fgt _ (np σ) 5 (40 * p' + k)
        rw [fgt_5 hk, if_neg h2]
        rfl
    · have es : sz (rdW σ s.2) (np σ) = s.2.length := by
        show nv (upd (σ 2) (np σ) (nI s.2.length) (np σ)) = _
        rw [pk_us, nv_nI (by omega)]
      unfold Pg
      rw [es]
      refine h.2.2.1.congr ?_ (fun r h1 h2 => ?_) (fun k hk => ⟨?_, ?_, ?_⟩)
      · rw [va_up_ne _ _ (by omega), va_up_ne _ _ (by omega)]
      · rw [va_up_ne _ _ (by omega), va_up_ne _ _ (by omega)]
      · show nI (s.2.getD k (0, 0)).1 = if 40 * np σ ≤ 40 * np σ + k ∧ 40 * np σ + k < 40 * np σ + s.2.length then nI (s.2.getD (40 * np σ + k - 40 * np σ) (0, 0)).1 else _
        rw [if_pos (by omega), Nat.add_sub_cancel_left]
      · show (s.2.getD k (0, 0)).2 = if 40 * np σ ≤ 40 * np σ + k ∧ 40 * np σ + k < 40 * np σ + s.2.length then (s.2.getD (40 * np σ + k - 40 * np σ) (0, 0)).2 else _
        rw [if_pos (by omega), Nat.add_sub_cancel_left]
      · show _ = fgt _ (np σ) 5 (40 * np σ + k)
        rw [fgt_5 (by omega), if_pos rfl]
        rfl
  · rw [va_up_self, pk_un (by decide), h.1.1 100 (by decide) (by omega)]
  · exact ⟨by rw [va_up_ne _ _ (by decide), va_up_self]; rfl, fun k hk => absurd hk (Nat.not_lt_zero k)⟩
theorem rdX_len {s : RD} (h : rdX σ = some s) : s.2.length ≤ 40 := by
  have key : ∀ {m : Nat} {s0 : RD}, s0.1 ≤ nv (σ 26 0) → s0.2.length ≤ 40 → rdA (nv (σ 26 0)) (σ 27) (nj σ) (σ 7) m s0 = some s → s.2.length ≤ 40 := by
    intro m
    induction m with
    | zero =>
      intro s0 h1 h2 h3
      cases h3
      exact h2
    | succ m ih =>
      intro s0 h1 h2 h3
      rw [rdA_s] at h3
      by_cases h4 : nv (σ 26 0) ≤ s0.1
      · rw [if_pos h4] at h3
        cases h3
        exact h2
      · rw [if_neg h4] at h3
        cases e : rdK (nv (σ 26 0)) (σ 27) (nj σ) (σ 7) (nv (σ 27 s0.1)) (s0.1 + 1, s0.2) with
        | none => rw [e] at h3; cases h3
        | some s1 =>
          rw [e] at h3
          have hlen := rdK_len e h2 (show s0.1 + 1 ≤ nv (σ 26 0) by omega)
          exact ih hlen.2.2 hlen.1 h3
  exact key (Nat.zero_le _) (Nat.zero_le _) h
theorem rd_no {H : AIn} (V : Inv σ) (R : RepS I 100 σ) (hn : np σ < 3) (h : cdX I (102 + 5 * np σ) H) (hr : rdX σ = none) : RepS H 100 (rd_op σ) ∧ cF H I ∧ rd_res σ = -1 := by
  have hG : ∀ r, r ≠ 136 → r < 102 ∨ 116 < r → H r = I r := fun r a b => h.1 r a (by omega)
  unfold rd_op rd_res
  rw [cif_f (by omega), cif_f (by omega), hr]
  show RepS H 100 σ ∧ _
  refine ⟨⟨⟨by rw [hG 100 (by omega) (by omega)]; exact R.1.1, fun p hp => (R.1.2 p hp).congr (by rw [h.1 _ (by omega) (by omega)]) (fun r h1 h2 => h.1 _ (by omega) (by omega)) (fun _ _ => ⟨rfl, rfl, rfl⟩)⟩, rpJ_fr R.2.1 (fun r h1 h2 => hG r (by omega) (by omega)), rpK_fr R.2.2.1 (fun r h1 h2 => hG r (by omega) (by omega)), rpR_fr R.2.2.2.1 (fun r h1 h2 => hG r (by omega) (by omega)), rpW_fr R.2.2.2.2.1 (by rw [hG 100 (by omega) (by omega)]) (fun r h1 h2 => hG r (by omega) (by omega)), rpT_fr R.2.2.2.2.2 h.2 (hG 137 (by omega) (by omega))⟩, fun r hr => hG r (by omega) (by omega), rfl⟩
theorem c_X10_read (S : St_c sh P) (V : Inv σ) (R : RepS I 100 σ) : am_R mX10_read (cpo sh P I (rd_op σ) (rd_res σ)) 5 115 0 0 0 [some (.ref 60)] [] sh I P := by
  have b1 : np σ ≤ 3 := V.1.np.2
  have e1 : I 100 0 = nI (np σ) := R.1.1
  refine r_aload_n dX10_read_0 rfl ?_
  refine r_getP dX10_read_1 g_X10_10 (by first | assumption | exact S.1 _ _ rfl) rfl (by first | assumption | exact S.2 _ _ _ rfl) ?_
  refine r_getI dX10_read_4 g_X10_34 (by first | assumption | exact S.1 _ _ rfl) rfl ?_
  rw [e1]
  refine r_iconst dX10_read_7 (v := nI 3) kc_3 ?_
  refine r_icmp_ltN 13 dX10_read_8 (by decide) (by omega) (by omega) (fun h8 => ?_) (fun h8 => ?_)
  · obtain ⟨pp, Q⟩ := SPg_of S h8
    have sp := Q.1
    refine r_aload_n dX10_read_13 rfl ?_
    refine r_getP dX10_read_14 g_X10_10 (by first | assumption | exact S.1 _ _ rfl) rfl (by first | assumption | exact S.2 _ _ _ rfl) ?_
    refine r_getP dX10_read_17 g_X10_199 (by first | assumption | exact S.1 _ _ rfl) rfl (by first | assumption | exact S.2 _ _ _ rfl) ?_
    refine r_aload_n dX10_read_20 rfl ?_
    refine r_getP dX10_read_21 g_X10_10 (by first | assumption | exact S.1 _ _ rfl) rfl (by first | assumption | exact S.2 _ _ _ rfl) ?_
    refine r_getP dX10_read_24 g_X10_38 (by first | assumption | exact S.1 _ _ rfl) rfl (by first | assumption | exact S.2 _ _ _ rfl) ?_
    refine r_aload_n dX10_read_27 rfl ?_
    refine r_getP dX10_read_28 g_X10_10 (by first | assumption | exact S.1 _ _ rfl) rfl (by first | assumption | exact S.2 _ _ _ rfl) ?_
    refine r_getI dX10_read_31 g_X10_34 (by first | assumption | exact S.1 _ _ rfl) rfl ?_
    rw [e1]
    refine r_aaloadP (np σ) dX10_read_34 (by first | assumption | exact S.1 _ _ rfl) rfl (by first | decide | omega) (by decide) (by first | assumption | exact S.2 _ _ _ rfl) ?_
    refine r_aload_n dX10_read_35 rfl ?_
    refine r_getP dX10_read_36 g_X10_10 (by first | assumption | exact S.1 _ _ rfl) rfl (by first | assumption | exact S.2 _ _ _ rfl) ?_
    refine r_getP dX10_read_39 g_X10_86 (by first | assumption | exact S.1 _ _ rfl) rfl (by first | assumption | exact S.2 _ _ _ rfl) ?_
    refine r_callV2 (fr' := 4) (lo' := 91) (mc' := 0) (ms' := 0) dX10_read_42 mm_X8_readInto mv_X8_readInto l_X10_207 (by first | assumption | exact S.1 _ _ rfl) mc_X8_readInto (by decide) ⟨by decide, by decide⟩ (Nat.zero_le _) (Nat.zero_le _) (Nat.le_of_ble_eq_true rfl) (c_X8_readInto S V R Q (by omega) (by omega)) (am_ki ?_)
    rintro v42 _ H _ ⟨⟨hb, hS, hX⟩, rfl, rfl⟩
    refine r_if_ne 50 dX10_read_45 (by decide) (fun h45 => ?_) (fun h45 => ?_)
    · obtain ⟨s, es⟩ := hb.t h45
      replace hS := hS s es
      have e2 : H 100 0 = nI (np σ) := by rw [hX.1 100 (by decide) (by omega)]; exact e1
      refine r_aload_n dX10_read_50 rfl ?_
      refine r_getP dX10_read_51 g_X10_10 (by first | assumption | exact S.1 _ _ rfl) rfl (by first | assumption | exact S.2 _ _ _ rfl) ?_
      refine r_getP dX10_read_54 g_X10_199 (by first | assumption | exact S.1 _ _ rfl) rfl (by first | assumption | exact S.2 _ _ _ rfl) ?_
      refine r_iconst dX10_read_57 (v := nI 0) kc_0 ?_
      refine r_putI dX10_read_58 f_X10_206 (by first | assumption | exact S.1 _ _ rfl) rfl rfl rfl ?_
      refine r_aload_n dX10_read_61 rfl ?_
      refine r_getP dX10_read_62 g_X10_10 (by first | assumption | exact S.1 _ _ rfl) rfl (by first | assumption | exact S.2 _ _ _ rfl) ?_
      refine r_dup dX10_read_65 ?_
      refine r_getI dX10_read_66 g_X10_34 (by first | assumption | exact S.1 _ _ rfl) rfl ?_
      rw [va_up_ne _ _ (by decide), e2]
      refine r_iconst dX10_read_69 (v := nI 1) kc_1 ?_
      first | refine r_iaddN dX10_read_70 ?_ | refine r_iadd dX10_read_70 ?_
      refine r_putI dX10_read_71 f_X10_34 (by first | assumption | exact S.1 _ _ rfl) rfl rfl rfl ?_
      rw [va_up_ne (k := 136) (j := 100) _ _ (by decide)]
      refine r_aload_n dX10_read_74 rfl ?_
      refine r_getP dX10_read_75 g_X10_10 (by first | assumption | exact S.1 _ _ rfl) rfl (by first | assumption | exact S.2 _ _ _ rfl) ?_
      refine r_getI dX10_read_78 g_X10_34 (by first | assumption | exact S.1 _ _ rfl) rfl ?_
      rw [va_up_self, pk_us]
      refine r_iconst dX10_read_81 (v := nI 1) kc_1 ?_
      first | refine r_isubN dX10_read_82 (by omega) ?_ | refine r_isub dX10_read_82 ?_
      refine r_ireturn dX10_read_83 .int rfl rfl ?_
      obtain ⟨g1, g2, g3⟩ := rd_fin V R h8 hS (rdX_len es) es
      exact ⟨_, rfl, by rw [g3, Nat.add_sub_cancel], g1, g2, rfl, rfl⟩
    · have es : rdX σ = none := by
        cases e9 : rdX σ with
        | none => rfl
        | some s9 => exact absurd ⟨s9, e9⟩ (hb.f h45)
      refine r_iconst dX10_read_48 (v := (-1)) kc_m1 ?_
      refine r_ireturn dX10_read_49 .int rfl rfl ?_
      obtain ⟨g1, g2, g3⟩ := rd_no V R h8 hX es
      exact ⟨_, rfl, g3.symm, g1, g2, rfl, rfl⟩
  · refine r_iconst dX10_read_11 (v := (-1)) kc_m1 ?_
    refine r_ireturn dX10_read_12 .int rfl rfl ?_
    have e3 : np σ = 3 := by omega
    exact ⟨_, rfl, by rw [rd_res, cif_t e3], by rw [rd_op, cif_t e3]; exact R, cF_rf _, rfl, rfl⟩
end K9
