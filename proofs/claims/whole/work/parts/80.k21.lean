/-! the class: the most that is saved at the stands of one row or two -/
def sfC (spl ss : Nat → Nat) (m e val : Nat) : Prop := (∃ t, t < m ∧ e ≤ spl t ∧ (∀ u, t < u → u < m → spl u < e) ∧ ss t = val) ∨ ((∀ t, t < m → spl t < e) ∧ val = 0)
def spR (spl ss : Nat → Nat) (m : Nat) (H : AIn) : Prop := ∀ t, t < m → (H 75 t = nI (spl t) ∧ spl t < 2147483648) ∧ H 76 t = nI (ss t)
section K21
variable {sh : ASh} {I σ : AIn} {P : APt}
theorem nI_max {a b : Nat} (ha : a < 2147483648) (hb : b < 2147483648) : (if nI a < nI b then nI b else nI a) = nI (max a b) := by
  by_cases h : a < b
  · rw [if_pos ((nI_ltI ha hb).mpr h), Nat.max_eq_right (by omega)]
  · rw [if_neg (fun g => h ((nI_ltI ha hb).mp g)), Nat.max_eq_left (by omega)]
theorem l_X0_savedFrom (S : St_c sh P) {spl ss : Nat → Nat} {m e val : Nat} (hm : m ≤ 360) (he : e < 2147483648) (hS : spR spl ss m I) (hC : sfC spl ss m e val) : ∀ k, k ≤ m → (∀ u, k ≤ u → u < m → spl u < e) → am_R mX0_savedFrom (po_i (fun v sh' I' P' => v = nI val ∧ sh = sh' ∧ I = I' ∧ P = P')) 0 0 0 0 4 [some (.ref 66), some (.int (nI e)), some (.int (nI m)), some (.int (nI k - nI 1))] [] sh I P := by
  intro k
  induction k with
  | zero =>
    intro hk hu
    have e0 : val = 0 := by
      rcases hC with ⟨t, h1, h2, -⟩ | ⟨-, h⟩
      · have := hu t (Nat.zero_le _) h1; omega
      · exact h
    subst e0
    refine r_iload_n dX0_savedFrom_4 rfl ?_
    refine r_if_lt 31 dX0_savedFrom_5 (by decide) (fun h5 => ?_) (fun h5 => ?_)
    · refine r_iconst dX0_savedFrom_31 (v := nI 0) kc_0 ?_
      refine r_ireturn dX0_savedFrom_32 .int rfl rfl ?_
      exact ⟨_, rfl, rfl, rfl, rfl, rfl⟩
    · exact absurd (by decide) h5
  | succ k ih =>
    intro hk hu
    obtain ⟨⟨s1, s2⟩, s3⟩ := hS k (by omega)
    rw [pk_sub (by omega), Nat.add_sub_cancel]
    refine r_iload_n dX0_savedFrom_4 rfl ?_
    refine r_if_lt 31 dX0_savedFrom_5 (by decide) (fun h5 => ?_) (fun h5 => ?_)
    · exact absurd h5 (nI_pos (by omega))
    · refine r_aload_n dX0_savedFrom_8 rfl ?_
      refine r_getP dX0_savedFrom_9 g_X0_40 (by first | assumption | exact S.1 _ _ rfl) rfl (by first | assumption | exact S.2 _ _ _ rfl) ?_
      refine r_iload_n dX0_savedFrom_12 rfl ?_
      refine r_iaload k dX0_savedFrom_13 (by first | assumption | exact S.1 _ _ rfl) rfl (by first | decide | omega) (by decide) ?_
      rw [s1]
      refine r_iload_n dX0_savedFrom_14 rfl ?_
      refine r_icmp_ltN 25 dX0_savedFrom_15 (by decide) (by omega) (by omega) (fun h15 => ?_) (fun h15 => ?_)
      · refine r_iinc dX0_savedFrom_25 rfl (v := nI k - nI 1) (by rw [show Int32.ofInt (-1) = -1 from rfl, Int32.sub_eq_add_neg]; rfl) ?_
        dsimp only [List.set]
        refine r_goto 4 dX0_savedFrom_28 (by decide) ?_
        exact ih (by omega) (fun u h1 h2 => by
          rcases Nat.lt_or_ge k u with g | g
          · exact hu u (by omega) h2
          · have e9 : u = k := by omega
            subst e9; omega)
      · refine r_aload_n dX0_savedFrom_18 rfl ?_
        refine r_getP dX0_savedFrom_19 g_X0_43 (by first | assumption | exact S.1 _ _ rfl) rfl (by first | assumption | exact S.2 _ _ _ rfl) ?_
        refine r_iload_n dX0_savedFrom_22 rfl ?_
        refine r_iaload k dX0_savedFrom_23 (by first | assumption | exact S.1 _ _ rfl) rfl (by first | decide | omega) (by decide) ?_
        rw [s3]
        refine r_ireturn dX0_savedFrom_24 .int rfl rfl ?_
        refine ⟨_, rfl, congrArg nI ?_, rfl, rfl, rfl⟩
        rcases hC with ⟨t, h1, h2, h3, h4⟩ | ⟨h, -⟩
        · rcases Nat.lt_trichotomy t k with g | g | g
          · have := h3 k g (by omega); omega
          · rw [← g]; exact h4
          · have := hu t (by omega) h1; omega
        · have := h k (by omega); omega
theorem c_X0_savedFrom (S : St_c sh P) {spl ss : Nat → Nat} {m e val : Nat} (hm : m ≤ 360) (he : e < 2147483648) (hS : spR spl ss m I) (hC : sfC spl ss m e val) : am_R mX0_savedFrom (po_i (fun v sh' I' P' => v = nI val ∧ sh = sh' ∧ I = I' ∧ P = P')) 0 0 0 0 0 [some (.ref 66), some (.int (nI e)), some (.int (nI m)), none] [] sh I P := by
  refine r_iload_n dX0_savedFrom_0 rfl ?_
  refine r_iconst dX0_savedFrom_1 (v := nI 1) kc_1 ?_
  refine r_isub dX0_savedFrom_2 ?_
  refine r_istore_n dX0_savedFrom_3 (Nat.le_of_ble_eq_true rfl) ?_
  dsimp only [List.set]
  exact l_X0_savedFrom S hm he hS hC m (Nat.le_refl _) (fun u h1 h2 => absurd h1 (by omega))
/-- the next stand of a row ahead of X, by a pointer to it -/
def nxt (A : Nat → Prop) (D : Nat → Nat → Nat → Prop) (pl : Nat → Nat) (a : Int32) (X : Nat) : Prop := (a = -1 ∧ ∀ x e s, x < X → ¬ D x e s) ∨ ∃ i, A i ∧ a = nI i ∧ pl i < X ∧ ∀ x e s, pl i < x → x < X → ¬ D x e s
def chH (A : Nat → Prop) (D : Nat → Nat → Nat → Prop) (pl en sv : Nat → Nat) (c : Nat) (H : AIn) : Prop := ∀ i, A i → i < c ∧ D (pl i) (en i) (sv i) ∧ nxt A D pl (H 74 i) (pl i)
def tOk (D1 D2 : Nat → Nat → Nat → Prop) (T : Nat → Nat) : Prop := T 240 = 0 ∧ (∀ x, x < 120 → (∀ e s, ¬ D1 x e s) → T (2 * x + 1) = T (2 * x + 2)) ∧ (∀ x, x < 120 → (∀ e s, ¬ D2 x e s) → T (2 * x) = T (2 * x + 1)) ∧ (∀ x e s, D1 x e s → T (2 * x + 1) = max (T (2 * x + 2)) (s + T (2 * e))) ∧ (∀ x e s, D2 x e s → T (2 * x) = max (T (2 * x + 1)) (s + T (2 * e))) ∧ (∀ k, T k ≤ 4000000) ∧ ∀ e, 240 ≤ 2 * e → T (2 * e) = 0
def stA (pl en sv : Nat → Nat) (c : Nat) (H : AIn) : Prop := c ≤ 360 ∧ ∀ i, i < c → (H 71 i = nI (pl i) ∧ H 72 i = nI (en i) ∧ H 73 i = nI (sv i)) ∧ pl i < 120 ∧ (pl i < en i ∧ en i ≤ 120) ∧ sv i ≤ 4000000
theorem T_flat {T : Nat → Nat} {a : Nat} : ∀ d, (∀ k, a ≤ k → k < a + d → T k = T (k + 1)) → T a = T (a + d)
  | 0, _ => rfl
  | d + 1, h => by
    rw [T_flat d (fun k h1 h2 => h k h1 (by omega))]
    exact h (a + d) (by omega) (by omega)
def msI (T : Nat → Nat) (K step b : Nat) (H : AIn) : Prop := b = T K ∧ step + K ≤ 240 ∧ ∃ spl ss, spR spl ss step H ∧ (∀ t, t < step → K ≤ 2 * spl t + 1) ∧ (∀ e, K ≤ 2 * e → sfC spl ss step e (T (2 * e))) ∧ (step = 0 → b = 0) ∧ (0 < step → ss (step - 1) = b)
theorem msI_low {T : Nat → Nat} {K K' step b : Nat} {H : AIn} (h : msI T K step b H) (hK : K' ≤ K) (hf : ∀ k, K' ≤ k → k < K → T k = T (k + 1)) : msI T K' step b H := by
  obtain ⟨h1, h2, spl, ss, h3, h4, h5, h6, h7⟩ := h
  have fl : ∀ k, K' ≤ k → k ≤ K → T k = b := fun k a c => by
    have := T_flat (T := T) (a := k) (K - k) (fun j p q => hf j (by omega) (by omega))
    rw [this, show k + (K - k) = K by omega]
    exact h1.symm
  refine ⟨(fl K' (Nat.le_refl _) hK).symm, by omega, spl, ss, h3, fun t ht => by have := h4 t ht; omega, fun e he => ?_, h6, h7⟩
  rcases Nat.lt_or_ge (2 * e) K with g | g
  · rw [fl (2 * e) he (by omega)]
    rcases Nat.eq_zero_or_pos step with z | z
    · exact Or.inr ⟨fun t ht => absurd ht (by omega), h6 z⟩
    · refine Or.inl ⟨step - 1, by omega, ?_, fun u a c => absurd c (by omega), h7 z⟩
      have := h4 (step - 1) (by omega)
      omega
  · exact h5 e g
theorem msI_put {T : Nat → Nat} {K step b x b' : Nat} {H : AIn} (h : msI T (K + 1) step b H) (hx : x = K / 2) (hx2 : x < 120) (hT : T K = b') : msI T K (step + 1) b' (va_up (va_up H 75 (upd (H 75) step (nI x))) 76 (upd (H 76) step (nI b'))) := by
  obtain ⟨h1, h2, spl, ss, h3, h4, h5, h6, h7⟩ := h
  have s1 : ∀ t, t ≠ step → (if t = step then x else spl t) = spl t := fun t ht => if_neg ht
  have s2 : ∀ t, t ≠ step → (if t = step then b' else ss t) = ss t := fun t ht => if_neg ht
  refine ⟨hT.symm, by omega, fun t => if t = step then x else spl t, fun t => if t = step then b' else ss t, fun t ht => ?_, fun t ht => ?_, fun e he => ?_, fun h => absurd h (by omega), fun _ => by show (if step + 1 - 1 = step then b' else _) = b'; rw [if_pos (by omega)]⟩
  · rw [va_up_ne _ _ (by decide), va_up_self, va_up_self]
    by_cases e : t = step
    · subst e
      show (upd _ t _ t = nI (if t = t then x else spl t) ∧ (if t = t then x else spl t) < _) ∧ upd _ t _ t = nI (if t = t then b' else ss t)
      rw [pk_us, pk_us, if_pos rfl, if_pos rfl]
      exact ⟨⟨rfl, by omega⟩, rfl⟩
    · show (upd _ step _ t = nI (if t = step then x else spl t) ∧ (if t = step then x else spl t) < _) ∧ upd _ step _ t = nI (if t = step then b' else ss t)
      rw [pk_un e, pk_un e, s1 t e, s2 t e]
      exact h3 t (by omega)
  · show K ≤ 2 * (if t = step then x else spl t) + 1
    by_cases e : t = step
    · rw [if_pos e]; omega
    · rw [s1 t e]; have := h4 t (by omega); omega
  · rcases Nat.lt_or_ge K (2 * e) with g | g
    · rcases h5 e (by omega) with ⟨t, a1, a2, a3, a4⟩ | ⟨a1, a2⟩
      · refine Or.inl ⟨t, by omega, ?_, fun u p q => ?_, ?_⟩
        · show e ≤ if t = step then x else spl t
          rw [s1 t (by omega)]; exact a2
        · show (if u = step then x else spl u) < e
          by_cases e9 : u = step
          · rw [if_pos e9]; omega
          · rw [s1 u e9]; exact a3 u p (by omega)
        · show (if t = step then b' else ss t) = _
          rw [s2 t (by omega)]; exact a4
      · refine Or.inr ⟨fun u q => ?_, a2⟩
        show (if u = step then x else spl u) < e
        by_cases e9 : u = step
        · rw [if_pos e9]; omega
        · rw [s1 u e9]; exact a1 u (by omega)
    · have e2 : 2 * e = K := by omega
      refine Or.inl ⟨step, by omega, ?_, fun u p q => absurd q (by omega), ?_⟩
      · show e ≤ if step = step then x else spl step
        rw [if_pos rfl]; omega
      · show (if step = step then b' else ss step) = T (2 * e)
        rw [if_pos rfl, e2]; exact hT.symm
theorem l_X0_ms1 (S : St_c sh P) {A1 A2 : Nat → Prop} {D1 D2 : Nat → Nat → Nat → Prop} {pl en sv T : Nat → Nat} {c : Nat} (hA : stA pl en sv c I) (h1 : chH A1 D1 pl en sv c I) (h2 : chH A2 D2 pl en sv c I) (hT : tOk D1 D2 T) {x1 x2 x8 : Option Value} {K : Nat} (ih : ∀ K', K' < K → ∀ H a1 a2 step b x7 x8, (∀ r, r ≠ 75 → r ≠ 76 → H r = I r) → nxt A1 D1 pl a1 (K' / 2) → nxt A2 D2 pl a2 ((K' + 1) / 2) → msI T K' step b H → am_R mX0_mostSaved (po_i (fun v sh' I' P' => v = nI (T 0) ∧ (∀ r, r ≠ 75 → r ≠ 76 → I' r = I r) ∧ sh = sh' ∧ P = P')) 1 23 0 0 11 [some (.ref 66), x1, x2, some (.int a1), some (.int a2), some (.int (nI b)), some (.int (nI step)), x7, x8] [] sh H P) {i : Nat} (hi : A1 i) (hK : 2 * pl i + 1 < K) {a : Int32} (hn : nxt A2 D2 pl a (pl i + 1)) (H : AIn) (step b : Nat) (hF : ∀ r, r ≠ 75 → r ≠ 76 → H r = I r) (hM : msI T (2 * pl i + 1 + 1) step b H) : am_R mX0_mostSaved (po_i (fun v sh' I' P' => v = nI (T 0) ∧ (∀ r, r ≠ 75 → r ≠ 76 → I' r = I r) ∧ sh = sh' ∧ P = P')) 1 23 0 0 64 [some (.ref 66), x1, x2, some (.int (nI i)), some (.int a), some (.int (nI b)), some (.int (nI step)), some (.int (nI 1)), x8] [] sh H P := by
  obtain ⟨hic, hD, hnx⟩ := h1 i hi
  obtain ⟨⟨g1, g2, g3⟩, g4, ⟨g5, g6⟩, g7⟩ := hA.2 i hic
  have hc6 := hA.1
  have f71 : H 71 i = nI (pl i) := by rw [hF 71 (by decide) (by decide)]; exact g1
  have f72 : H 72 i = nI (en i) := by rw [hF 72 (by decide) (by decide)]; exact g2
  have f73 : H 73 i = nI (sv i) := by rw [hF 73 (by decide) (by decide)]; exact g3
  obtain ⟨m1, m2, spl, ss, m3, m4, m5, m6, m7⟩ := id hM
  have hsf := m5 (en i) (by omega)
  have bT := hT.2.2.2.2.2.1
  have b1 := bT (2 * en i)
  have b2 := bT (2 * pl i + 1 + 1)
  have eT : T (2 * pl i + 1) = max b (sv i + T (2 * en i)) := by rw [m1]; exact hT.2.2.2.1 (pl i) (en i) (sv i) hD
  refine r_iload dX0_mostSaved_64 rfl ?_
  refine r_if_eqN 73 dX0_mostSaved_66 (by decide) (by omega) (fun h66 => ?_) (fun h66 => ?_)
  · exact absurd h66 (by omega)
  · refine r_iload_n dX0_mostSaved_69 rfl ?_
    refine r_goto 75 dX0_mostSaved_70 (by decide) ?_
    refine r_istore dX0_mostSaved_75 (Nat.le_of_ble_eq_true rfl) ?_
    dsimp only [List.set]
    refine r_iload dX0_mostSaved_77 rfl ?_
    refine r_aload_n dX0_mostSaved_79 rfl ?_
    refine r_getP dX0_mostSaved_80 g_X0_34 (by first | assumption | exact S.1 _ _ rfl) rfl (by first | assumption | exact S.2 _ _ _ rfl) ?_
    refine r_iload dX0_mostSaved_83 rfl ?_
    refine r_iaload i dX0_mostSaved_85 (by first | assumption | exact S.1 _ _ rfl) rfl (by first | decide | omega) (by decide) ?_
    rw [f73]
    refine r_aload_n dX0_mostSaved_86 rfl ?_
    refine r_aload_n dX0_mostSaved_87 rfl ?_
    refine r_getP dX0_mostSaved_88 g_X0_31 (by first | assumption | exact S.1 _ _ rfl) rfl (by first | assumption | exact S.2 _ _ _ rfl) ?_
    refine r_iload dX0_mostSaved_91 rfl ?_
    refine r_iaload i dX0_mostSaved_93 (by first | assumption | exact S.1 _ _ rfl) rfl (by first | decide | omega) (by decide) ?_
    rw [f72]
    refine r_iload dX0_mostSaved_94 rfl ?_
    refine r_callV2 (fr' := 0) (lo' := 0) (mc' := 0) (ms' := 0) dX0_mostSaved_96 mm_X0_savedFrom mv_X0_savedFrom l_X0_140 (by first | assumption | exact S.1 _ _ rfl) mc_X0_savedFrom (by decide) ⟨by decide, by decide⟩ (Nat.zero_le _) (Nat.zero_le _) (Nat.le_of_ble_eq_true rfl) (c_X0_savedFrom S (by omega) (by omega) m3 hsf) (am_ki ?_)
    rintro v96 _ _ _ ⟨rfl, rfl, rfl, rfl⟩
    first | refine r_iaddN dX0_mostSaved_99 ?_ | refine r_iadd dX0_mostSaved_99 ?_
    refine r_max dX0_mostSaved_100 lm_X0_131 ⟨by decide, Nat.le_of_ble_eq_true rfl⟩ ?_
    rw [nI_max (by omega) (by omega), ← eT]
    refine r_istore dX0_mostSaved_103 (Nat.le_of_ble_eq_true rfl) ?_
    dsimp only [List.set]
    refine r_aload_n dX0_mostSaved_105 rfl ?_
    refine r_getP dX0_mostSaved_106 g_X0_40 (by first | assumption | exact S.1 _ _ rfl) rfl (by first | assumption | exact S.2 _ _ _ rfl) ?_
    refine r_iload dX0_mostSaved_109 rfl ?_
    refine r_aload_n dX0_mostSaved_111 rfl ?_
    refine r_getP dX0_mostSaved_112 g_X0_28 (by first | assumption | exact S.1 _ _ rfl) rfl (by first | assumption | exact S.2 _ _ _ rfl) ?_
    refine r_iload dX0_mostSaved_115 rfl ?_
    refine r_iaload i dX0_mostSaved_117 (by first | assumption | exact S.1 _ _ rfl) rfl (by first | decide | omega) (by decide) ?_
    rw [f71]
    refine r_iastore step dX0_mostSaved_118 (by first | assumption | exact S.1 _ _ rfl) rfl (by first | decide | omega) (by decide) ?_
    refine r_aload_n dX0_mostSaved_119 rfl ?_
    refine r_getP dX0_mostSaved_120 g_X0_43 (by first | assumption | exact S.1 _ _ rfl) rfl (by first | assumption | exact S.2 _ _ _ rfl) ?_
    refine r_iload dX0_mostSaved_123 rfl ?_
    refine r_iload dX0_mostSaved_125 rfl ?_
    refine r_iastore step dX0_mostSaved_127 (by first | assumption | exact S.1 _ _ rfl) rfl (by first | decide | omega) (by decide) ?_
    rw [va_up_ne (k := 75) (j := 76) _ _ (by decide)]
    refine r_iload dX0_mostSaved_128 rfl ?_
    refine r_if_eqN 143 dX0_mostSaved_130 (by decide) (by omega) (fun h130 => ?_) (fun h130 => ?_)
    · exact absurd h130 (by omega)
    · refine r_aload_n dX0_mostSaved_133 rfl ?_
      refine r_getP dX0_mostSaved_134 g_X0_37 (by first | assumption | exact S.1 _ _ rfl) rfl (by first | assumption | exact S.2 _ _ _ rfl) ?_
      refine r_iload_n dX0_mostSaved_137 rfl ?_
      refine r_iaload i dX0_mostSaved_138 (by first | assumption | exact S.1 _ _ rfl) rfl (by first | decide | omega) (by decide) ?_
      rw [va_up_ne _ _ (by decide), va_up_ne _ _ (by decide), hF 74 (by decide) (by decide)]
      refine r_istore_n dX0_mostSaved_139 (Nat.le_of_ble_eq_true rfl) ?_
      dsimp only [List.set]
      refine r_goto 152 dX0_mostSaved_140 (by decide) ?_
      first | refine r_iincN dX0_mostSaved_152 rfl kc_1 ?_ | refine r_iinc dX0_mostSaved_152 rfl rfl ?_
      dsimp only [List.set]
      refine r_goto 11 dX0_mostSaved_155 (by decide) ?_
      refine ih (2 * pl i + 1) hK _ _ _ _ _ _ _ (fun r p q => by rw [va_up_ne _ _ q, va_up_ne _ _ p]; exact hF r p q) ?_ ?_ (msI_put hM (by omega) g4 rfl)
      · rw [show (2 * pl i + 1) / 2 = pl i by omega]; exact hnx
      · rw [show (2 * pl i + 1 + 1) / 2 = pl i + 1 by omega]; exact hn
theorem l_X0_ms0 (S : St_c sh P) {A1 A2 : Nat → Prop} {D1 D2 : Nat → Nat → Nat → Prop} {pl en sv T : Nat → Nat} {c : Nat} (hA : stA pl en sv c I) (h1 : chH A1 D1 pl en sv c I) (h2 : chH A2 D2 pl en sv c I) (hT : tOk D1 D2 T) {x1 x2 x8 : Option Value} {K : Nat} (ih : ∀ K', K' < K → ∀ H a1 a2 step b x7 x8, (∀ r, r ≠ 75 → r ≠ 76 → H r = I r) → nxt A1 D1 pl a1 (K' / 2) → nxt A2 D2 pl a2 ((K' + 1) / 2) → msI T K' step b H → am_R mX0_mostSaved (po_i (fun v sh' I' P' => v = nI (T 0) ∧ (∀ r, r ≠ 75 → r ≠ 76 → I' r = I r) ∧ sh = sh' ∧ P = P')) 1 23 0 0 11 [some (.ref 66), x1, x2, some (.int a1), some (.int a2), some (.int (nI b)), some (.int (nI step)), x7, x8] [] sh H P) {i : Nat} (hi : A2 i) (hK : 2 * pl i < K) {a : Int32} (hn : nxt A1 D1 pl a (pl i)) (H : AIn) (step b : Nat) (hF : ∀ r, r ≠ 75 → r ≠ 76 → H r = I r) (hM : msI T (2 * pl i + 1) step b H) : am_R mX0_mostSaved (po_i (fun v sh' I' P' => v = nI (T 0) ∧ (∀ r, r ≠ 75 → r ≠ 76 → I' r = I r) ∧ sh = sh' ∧ P = P')) 1 23 0 0 64 [some (.ref 66), x1, x2, some (.int a), some (.int (nI i)), some (.int (nI b)), some (.int (nI step)), some (.int (nI 0)), x8] [] sh H P := by
  obtain ⟨hic, hD, hnx⟩ := h2 i hi
  obtain ⟨⟨g1, g2, g3⟩, g4, ⟨g5, g6⟩, g7⟩ := hA.2 i hic
  have hc6 := hA.1
  have f71 : H 71 i = nI (pl i) := by rw [hF 71 (by decide) (by decide)]; exact g1
  have f72 : H 72 i = nI (en i) := by rw [hF 72 (by decide) (by decide)]; exact g2
  have f73 : H 73 i = nI (sv i) := by rw [hF 73 (by decide) (by decide)]; exact g3
  obtain ⟨m1, m2, spl, ss, m3, m4, m5, m6, m7⟩ := id hM
  have hsf := m5 (en i) (by omega)
  have bT := hT.2.2.2.2.2.1
  have b1 := bT (2 * en i)
  have b2 := bT (2 * pl i + 1)
  have eT : T (2 * pl i) = max b (sv i + T (2 * en i)) := by rw [m1]; exact hT.2.2.2.2.1 (pl i) (en i) (sv i) hD
  refine r_iload dX0_mostSaved_64 rfl ?_
  refine r_if_eqN 73 dX0_mostSaved_66 (by decide) (by omega) (fun h66 => ?_) (fun h66 => ?_)
  · refine r_iload dX0_mostSaved_73 rfl ?_
    refine r_istore dX0_mostSaved_75 (Nat.le_of_ble_eq_true rfl) ?_
    dsimp only [List.set]
    refine r_iload dX0_mostSaved_77 rfl ?_
    refine r_aload_n dX0_mostSaved_79 rfl ?_
    refine r_getP dX0_mostSaved_80 g_X0_34 (by first | assumption | exact S.1 _ _ rfl) rfl (by first | assumption | exact S.2 _ _ _ rfl) ?_
    refine r_iload dX0_mostSaved_83 rfl ?_
    refine r_iaload i dX0_mostSaved_85 (by first | assumption | exact S.1 _ _ rfl) rfl (by first | decide | omega) (by decide) ?_
    rw [f73]
    refine r_aload_n dX0_mostSaved_86 rfl ?_
    refine r_aload_n dX0_mostSaved_87 rfl ?_
    refine r_getP dX0_mostSaved_88 g_X0_31 (by first | assumption | exact S.1 _ _ rfl) rfl (by first | assumption | exact S.2 _ _ _ rfl) ?_
    refine r_iload dX0_mostSaved_91 rfl ?_
    refine r_iaload i dX0_mostSaved_93 (by first | assumption | exact S.1 _ _ rfl) rfl (by first | decide | omega) (by decide) ?_
    rw [f72]
    refine r_iload dX0_mostSaved_94 rfl ?_
    refine r_callV2 (fr' := 0) (lo' := 0) (mc' := 0) (ms' := 0) dX0_mostSaved_96 mm_X0_savedFrom mv_X0_savedFrom l_X0_140 (by first | assumption | exact S.1 _ _ rfl) mc_X0_savedFrom (by decide) ⟨by decide, by decide⟩ (Nat.zero_le _) (Nat.zero_le _) (Nat.le_of_ble_eq_true rfl) (c_X0_savedFrom S (by omega) (by omega) m3 hsf) (am_ki ?_)
    rintro v96 _ _ _ ⟨rfl, rfl, rfl, rfl⟩
    first | refine r_iaddN dX0_mostSaved_99 ?_ | refine r_iadd dX0_mostSaved_99 ?_
    refine r_max dX0_mostSaved_100 lm_X0_131 ⟨by decide, Nat.le_of_ble_eq_true rfl⟩ ?_
    rw [nI_max (by omega) (by omega), ← eT]
    refine r_istore dX0_mostSaved_103 (Nat.le_of_ble_eq_true rfl) ?_
    dsimp only [List.set]
    refine r_aload_n dX0_mostSaved_105 rfl ?_
    refine r_getP dX0_mostSaved_106 g_X0_40 (by first | assumption | exact S.1 _ _ rfl) rfl (by first | assumption | exact S.2 _ _ _ rfl) ?_
    refine r_iload dX0_mostSaved_109 rfl ?_
    refine r_aload_n dX0_mostSaved_111 rfl ?_
    refine r_getP dX0_mostSaved_112 g_X0_28 (by first | assumption | exact S.1 _ _ rfl) rfl (by first | assumption | exact S.2 _ _ _ rfl) ?_
    refine r_iload dX0_mostSaved_115 rfl ?_
    refine r_iaload i dX0_mostSaved_117 (by first | assumption | exact S.1 _ _ rfl) rfl (by first | decide | omega) (by decide) ?_
    rw [f71]
    refine r_iastore step dX0_mostSaved_118 (by first | assumption | exact S.1 _ _ rfl) rfl (by first | decide | omega) (by decide) ?_
    refine r_aload_n dX0_mostSaved_119 rfl ?_
    refine r_getP dX0_mostSaved_120 g_X0_43 (by first | assumption | exact S.1 _ _ rfl) rfl (by first | assumption | exact S.2 _ _ _ rfl) ?_
    refine r_iload dX0_mostSaved_123 rfl ?_
    refine r_iload dX0_mostSaved_125 rfl ?_
    refine r_iastore step dX0_mostSaved_127 (by first | assumption | exact S.1 _ _ rfl) rfl (by first | decide | omega) (by decide) ?_
    rw [va_up_ne (k := 75) (j := 76) _ _ (by decide)]
    refine r_iload dX0_mostSaved_128 rfl ?_
    refine r_if_eqN 143 dX0_mostSaved_130 (by decide) (by omega) (fun h130 => ?_) (fun h130 => ?_)
    · refine r_aload_n dX0_mostSaved_143 rfl ?_
      refine r_getP dX0_mostSaved_144 g_X0_37 (by first | assumption | exact S.1 _ _ rfl) rfl (by first | assumption | exact S.2 _ _ _ rfl) ?_
      refine r_iload dX0_mostSaved_147 rfl ?_
      refine r_iaload i dX0_mostSaved_149 (by first | assumption | exact S.1 _ _ rfl) rfl (by first | decide | omega) (by decide) ?_
      rw [va_up_ne _ _ (by decide), va_up_ne _ _ (by decide), hF 74 (by decide) (by decide)]
      refine r_istore dX0_mostSaved_150 (Nat.le_of_ble_eq_true rfl) ?_
      dsimp only [List.set]
      first | refine r_iincN dX0_mostSaved_152 rfl kc_1 ?_ | refine r_iinc dX0_mostSaved_152 rfl rfl ?_
      dsimp only [List.set]
      refine r_goto 11 dX0_mostSaved_155 (by decide) ?_
      refine ih (2 * pl i) hK _ _ _ _ _ _ _ (fun r p q => by rw [va_up_ne _ _ q, va_up_ne _ _ p]; exact hF r p q) ?_ ?_ (msI_put hM (by omega) g4 rfl)
      · rw [show 2 * pl i / 2 = pl i by omega]; exact hn
      · rw [show (2 * pl i + 1) / 2 = pl i by omega]; exact hnx
    · exact absurd h130 (by omega)
  · exact absurd h66 (by omega)
theorem l_X0_mostSaved (S : St_c sh P) {A1 A2 : Nat → Prop} {D1 D2 : Nat → Nat → Nat → Prop} {pl en sv T : Nat → Nat} {c : Nat} (hA : stA pl en sv c I) (h1 : chH A1 D1 pl en sv c I) (h2 : chH A2 D2 pl en sv c I) (hT : tOk D1 D2 T) {x1 x2 : Option Value} : ∀ (K : Nat) (H : AIn) (a1 a2 : Int32) (step b : Nat) (x7 x8 : Option Value), (∀ r, r ≠ 75 → r ≠ 76 → H r = I r) → nxt A1 D1 pl a1 (K / 2) → nxt A2 D2 pl a2 ((K + 1) / 2) → msI T K step b H → am_R mX0_mostSaved (po_i (fun v sh' I' P' => v = nI (T 0) ∧ (∀ r, r ≠ 75 → r ≠ 76 → I' r = I r) ∧ sh = sh' ∧ P = P')) 1 23 0 0 11 [some (.ref 66), x1, x2, some (.int a1), some (.int a2), some (.int (nI b)), some (.int (nI step)), x7, x8] [] sh H P := by
  intro K
  induction K using Nat.strongRecOn with
  | ind K ih =>
    intro H a1 a2 step b x7 x8 hF n1 n2 hM
    have hsk := hM.2.1
    have odd : ∀ (X : Nat), K / 2 ≤ X → X < 120 → True := fun _ _ _ => trivial
    have fl : ∀ K', (∀ x, K' ≤ 2 * x + 1 → 2 * x + 1 < K → ∀ e s, ¬ D1 x e s) → (∀ x, K' ≤ 2 * x → 2 * x < K → ∀ e s, ¬ D2 x e s) → ∀ k, K' ≤ k → k < K → T k = T (k + 1) := by
      intro K' q1 q2 k p1 p2
      rcases Nat.mod_two_eq_zero_or_one k with g | g
      · obtain ⟨x, rfl⟩ : ∃ x, k = 2 * x := ⟨k / 2, by omega⟩
        exact hT.2.2.1 x (by omega) (q2 x p1 p2)
      · obtain ⟨x, rfl⟩ : ∃ x, k = 2 * x + 1 := ⟨k / 2, by omega⟩
        exact hT.2.1 x (by omega) (q1 x p1 p2)
    have nn : ∀ i, nI i = -1 → i < 2147483648 → False := fun i e h => nI_pos h (by rw [e]; decide)
    have hc6 := hA.1
    rcases n1 with ⟨rfl, n1⟩ | ⟨i1, hi1, rfl, l1, n1⟩
    · rcases n2 with ⟨rfl, n2⟩ | ⟨i2, hi2, rfl, l2, n2⟩
      · have hM0 := msI_low hM (Nat.zero_le K) (fl 0 (fun x _ h e s => n1 x e s (by omega)) (fun x _ h e s => n2 x e s (by omega)))
        have e0 : b = T 0 := hM0.1
        refine r_iload dX0_mostSaved_11 rfl ?_
        refine r_sipush dX0_mostSaved_13 (v := nI 360) (by decide) ?_
        refine r_icmp_geN 158 dX0_mostSaved_16 (by decide) (by omega) (by omega) (fun h16 => ?_) (fun h16 => ?_)
        · refine r_iload dX0_mostSaved_158 rfl ?_
          refine r_ireturn dX0_mostSaved_160 .int rfl rfl ?_
          exact ⟨_, rfl, congrArg nI e0, hF, rfl, rfl⟩
        · refine r_iload_n dX0_mostSaved_19 rfl ?_
          refine r_iconst dX0_mostSaved_20 (v := (-1)) kc_m1 ?_
          refine r_icmp_ne 30 dX0_mostSaved_21 (by decide) (fun h21 => ?_) (fun h21 => ?_)
          · exact absurd rfl h21
          · refine r_iload dX0_mostSaved_24 rfl ?_
            refine r_iconst dX0_mostSaved_26 (v := (-1)) kc_m1 ?_
            refine r_icmp_eq 158 dX0_mostSaved_27 (by decide) (fun h27 => ?_) (fun h27 => ?_)
            · refine r_iload dX0_mostSaved_158 rfl ?_
              refine r_ireturn dX0_mostSaved_160 .int rfl rfl ?_
              exact ⟨_, rfl, congrArg nI e0, hF, rfl, rfl⟩
            · exact absurd rfl h27
      · obtain ⟨hic, hD, hnx⟩ := h2 i2 hi2
        have b2 := (hA.2 i2 hic).2.1
        have hM0 := msI_low (K' := 2 * pl i2 + 1) hM (by omega) (fl _ (fun x _ h e s => n1 x e s (by omega)) (fun x p h e s => n2 x e s (by omega) (by omega)))
        refine r_iload dX0_mostSaved_11 rfl ?_
        refine r_sipush dX0_mostSaved_13 (v := nI 360) (by decide) ?_
        refine r_icmp_geN 158 dX0_mostSaved_16 (by decide) (by omega) (by omega) (fun h16 => ?_) (fun h16 => ?_)
        · exact absurd h16 (by omega)
        · refine r_iload_n dX0_mostSaved_19 rfl ?_
          refine r_iconst dX0_mostSaved_20 (v := (-1)) kc_m1 ?_
          refine r_icmp_ne 30 dX0_mostSaved_21 (by decide) (fun h21 => ?_) (fun h21 => ?_)
          · exact absurd rfl h21
          · refine r_iload dX0_mostSaved_24 rfl ?_
            refine r_iconst dX0_mostSaved_26 (v := (-1)) kc_m1 ?_
            refine r_icmp_eq 158 dX0_mostSaved_27 (by decide) (fun h27 => ?_) (fun h27 => ?_)
            · exact (nn i2 h27 (by omega)).elim
            · refine r_iload dX0_mostSaved_30 rfl ?_
              refine r_iconst dX0_mostSaved_32 (v := (-1)) kc_m1 ?_
              refine r_icmp_eq 57 dX0_mostSaved_33 (by decide) (fun h33 => ?_) (fun h33 => ?_)
              · exact (nn i2 h33 (by omega)).elim
              · refine r_iload_n dX0_mostSaved_36 rfl ?_
                refine r_iconst dX0_mostSaved_37 (v := (-1)) kc_m1 ?_
                refine r_icmp_eq 61 dX0_mostSaved_38 (by decide) (fun h38 => ?_) (fun h38 => ?_)
                · refine r_iconst dX0_mostSaved_61 (v := nI 0) kc_0 ?_
                  refine r_istore dX0_mostSaved_62 (Nat.le_of_ble_eq_true rfl) ?_
                  dsimp only [List.set]
                  exact l_X0_ms0 S hA h1 h2 hT ih hi2 (by omega) (Or.inl ⟨rfl, fun x e s h => n1 x e s (by omega)⟩) H step b hF hM0
                · exact absurd rfl h38
    · obtain ⟨hic, hD, hnx⟩ := h1 i1 hi1
      obtain ⟨⟨u1, -⟩, b1, -⟩ := hA.2 i1 hic
      rcases n2 with ⟨rfl, n2⟩ | ⟨i2, hi2, rfl, l2, n2⟩
      · have hM0 := msI_low (K' := 2 * pl i1 + 1 + 1) hM (by omega) (fl _ (fun x p h e s => n1 x e s (by omega) (by omega)) (fun x _ h e s => n2 x e s (by omega)))
        refine r_iload dX0_mostSaved_11 rfl ?_
        refine r_sipush dX0_mostSaved_13 (v := nI 360) (by decide) ?_
        refine r_icmp_geN 158 dX0_mostSaved_16 (by decide) (by omega) (by omega) (fun h16 => ?_) (fun h16 => ?_)
        · exact absurd h16 (by omega)
        · refine r_iload_n dX0_mostSaved_19 rfl ?_
          refine r_iconst dX0_mostSaved_20 (v := (-1)) kc_m1 ?_
          refine r_icmp_ne 30 dX0_mostSaved_21 (by decide) (fun h21 => ?_) (fun h21 => ?_)
          · refine r_iload dX0_mostSaved_30 rfl ?_
            refine r_iconst dX0_mostSaved_32 (v := (-1)) kc_m1 ?_
            refine r_icmp_eq 57 dX0_mostSaved_33 (by decide) (fun h33 => ?_) (fun h33 => ?_)
            · refine r_iconst dX0_mostSaved_57 (v := nI 1) kc_1 ?_
              refine r_goto 62 dX0_mostSaved_58 (by decide) ?_
              refine r_istore dX0_mostSaved_62 (Nat.le_of_ble_eq_true rfl) ?_
              dsimp only [List.set]
              exact l_X0_ms1 S hA h1 h2 hT ih hi1 (by omega) (Or.inl ⟨rfl, fun x e s h => n2 x e s (by omega)⟩) H step b hF hM0
            · exact absurd rfl h33
          · exact (nn i1 h21 (by omega)).elim
      · obtain ⟨hic2, hD2, hnx2⟩ := h2 i2 hi2
        obtain ⟨⟨u2, -⟩, b2, -⟩ := hA.2 i2 hic2
        have f1 : H 71 i1 = nI (pl i1) := by rw [hF 71 (by decide) (by decide)]; exact u1
        have f2 : H 71 i2 = nI (pl i2) := by rw [hF 71 (by decide) (by decide)]; exact u2
        refine r_iload dX0_mostSaved_11 rfl ?_
        refine r_sipush dX0_mostSaved_13 (v := nI 360) (by decide) ?_
        refine r_icmp_geN 158 dX0_mostSaved_16 (by decide) (by omega) (by omega) (fun h16 => ?_) (fun h16 => ?_)
        · exact absurd h16 (by omega)
        · refine r_iload_n dX0_mostSaved_19 rfl ?_
          refine r_iconst dX0_mostSaved_20 (v := (-1)) kc_m1 ?_
          refine r_icmp_ne 30 dX0_mostSaved_21 (by decide) (fun h21 => ?_) (fun h21 => ?_)
          · refine r_iload dX0_mostSaved_30 rfl ?_
            refine r_iconst dX0_mostSaved_32 (v := (-1)) kc_m1 ?_
            refine r_icmp_eq 57 dX0_mostSaved_33 (by decide) (fun h33 => ?_) (fun h33 => ?_)
            · exact (nn i2 h33 (by omega)).elim
            · refine r_iload_n dX0_mostSaved_36 rfl ?_
              refine r_iconst dX0_mostSaved_37 (v := (-1)) kc_m1 ?_
              refine r_icmp_eq 61 dX0_mostSaved_38 (by decide) (fun h38 => ?_) (fun h38 => ?_)
              · exact (nn i1 h38 (by omega)).elim
              · refine r_aload_n dX0_mostSaved_41 rfl ?_
                refine r_getP dX0_mostSaved_42 g_X0_28 (by first | assumption | exact S.1 _ _ rfl) rfl (by first | assumption | exact S.2 _ _ _ rfl) ?_
                refine r_iload_n dX0_mostSaved_45 rfl ?_
                refine r_iaload i1 dX0_mostSaved_46 (by first | assumption | exact S.1 _ _ rfl) rfl (by first | decide | omega) (by decide) ?_
                rw [f1]
                refine r_aload_n dX0_mostSaved_47 rfl ?_
                refine r_getP dX0_mostSaved_48 g_X0_28 (by first | assumption | exact S.1 _ _ rfl) rfl (by first | assumption | exact S.2 _ _ _ rfl) ?_
                refine r_iload dX0_mostSaved_51 rfl ?_
                refine r_iaload i2 dX0_mostSaved_53 (by first | assumption | exact S.1 _ _ rfl) rfl (by first | decide | omega) (by decide) ?_
                rw [f2]
                refine r_icmp_ltN 61 dX0_mostSaved_54 (by decide) (by omega) (by omega) (fun h54 => ?_) (fun h54 => ?_)
                · refine r_iconst dX0_mostSaved_61 (v := nI 0) kc_0 ?_
                  refine r_istore dX0_mostSaved_62 (Nat.le_of_ble_eq_true rfl) ?_
                  dsimp only [List.set]
                  first
                    | exact l_X0_ms0 S hA h1 h2 hT ih hi2 (by omega) (Or.inr ⟨i1, hi1, rfl, h54, fun x e s p q => n1 x e s p (by omega)⟩) H step b hF (msI_low (K' := 2 * pl i2 + 1) hM (by omega) (fl _ (fun x p h e s => n1 x e s (by omega) (by omega)) (fun x p h e s => n2 x e s (by omega) (by omega))))
                    | exact l_X0_ms1 S hA h1 h2 hT ih hi1 (by omega) (Or.inr ⟨i2, hi2, rfl, by omega, fun x e s p q => n2 x e s p (by omega)⟩) H step b hF (msI_low (K' := 2 * pl i1 + 1 + 1) hM (by omega) (fl _ (fun x p h e s => n1 x e s (by omega) (by omega)) (fun x p h e s => n2 x e s (by omega) (by omega))))
                · refine r_iconst dX0_mostSaved_57 (v := nI 1) kc_1 ?_
                  refine r_goto 62 dX0_mostSaved_58 (by decide) ?_
                  refine r_istore dX0_mostSaved_62 (Nat.le_of_ble_eq_true rfl) ?_
                  dsimp only [List.set]
                  first
                    | exact l_X0_ms0 S hA h1 h2 hT ih hi2 (by omega) (Or.inr ⟨i1, hi1, rfl, h54, fun x e s p q => n1 x e s p (by omega)⟩) H step b hF (msI_low (K' := 2 * pl i2 + 1) hM (by omega) (fl _ (fun x p h e s => n1 x e s (by omega) (by omega)) (fun x p h e s => n2 x e s (by omega) (by omega))))
                    | exact l_X0_ms1 S hA h1 h2 hT ih hi1 (by omega) (Or.inr ⟨i2, hi2, rfl, by omega, fun x e s p q => n2 x e s p (by omega)⟩) H step b hF (msI_low (K' := 2 * pl i1 + 1 + 1) hM (by omega) (fl _ (fun x p h e s => n1 x e s (by omega) (by omega)) (fun x p h e s => n2 x e s (by omega) (by omega))))
          · exact (nn i1 h21 (by omega)).elim
theorem c_X0_mostSaved (S : St_c sh P) {A1 A2 : Nat → Prop} {D1 D2 : Nat → Nat → Nat → Prop} {pl en sv T : Nat → Nat} {c : Nat} (hA : stA pl en sv c I) (h1 : chH A1 D1 pl en sv c I) (h2 : chH A2 D2 pl en sv c I) (hT : tOk D1 D2 T) {a1 a2 : Int32} (n1 : nxt A1 D1 pl a1 120) (n2 : nxt A2 D2 pl a2 120) : am_R mX0_mostSaved (po_i (fun v sh' I' P' => v = nI (T 0) ∧ (∀ r, r ≠ 75 → r ≠ 76 → I' r = I r) ∧ sh = sh' ∧ P = P')) 1 23 0 0 0 [some (.ref 66), some (.int a1), some (.int a2), none, none, none, none, none, none] [] sh I P := by
  have hTz : ∀ e, 240 ≤ 2 * e → T (2 * e) = 0 := hT.2.2.2.2.2.2
  refine r_iload_n dX0_mostSaved_0 rfl ?_
  refine r_istore_n dX0_mostSaved_1 (Nat.le_of_ble_eq_true rfl) ?_
  dsimp only [List.set]
  refine r_iload_n dX0_mostSaved_2 rfl ?_
  refine r_istore dX0_mostSaved_3 (Nat.le_of_ble_eq_true rfl) ?_
  dsimp only [List.set]
  refine r_iconst dX0_mostSaved_5 (v := nI 0) kc_0 ?_
  refine r_istore dX0_mostSaved_6 (Nat.le_of_ble_eq_true rfl) ?_
  dsimp only [List.set]
  refine r_iconst dX0_mostSaved_8 (v := nI 0) kc_0 ?_
  refine r_istore dX0_mostSaved_9 (Nat.le_of_ble_eq_true rfl) ?_
  dsimp only [List.set]
  exact l_X0_mostSaved S hA h1 h2 hT 240 I a1 a2 0 0 _ _ (fun _ _ _ => rfl) n1 n2 ⟨hT.1.symm, by decide, fun _ => 0, fun _ => 0, fun t ht => absurd ht (Nat.not_lt_zero t), fun t ht => absurd ht (Nat.not_lt_zero t), fun e he => Or.inr ⟨fun t ht => absurd ht (Nat.not_lt_zero t), hTz e he⟩, fun _ => rfl, fun h => absurd h (Nat.lt_irrefl 0)⟩
end K21
