/-! the class: all stands gathered -/
noncomputable def Qp (σ : AIn) (way : Int32) (p q : Nat) : Nat := lsp σ (fun _ => 0) 0 p way q
theorem Qp_n {σ : AIn} {way : Int32} {p q : Nat} (h : sz σ p ≤ q) : Qp σ way p q = 0 := dpA_zero _ _ _ _ _ _ _ (Or.inl h)
theorem Qp_s {σ : AIn} {way : Int32} {p q : Nat} (h : q < sz σ p) : Qp σ way p q = wt σ p way q + Qp σ way p (q + 1) := lst_eq h (fun r hr => absurd hr (Nat.not_lt_zero r))
theorem Qp_1 {σ : AIn} {way : Int32} {p q : Nat} : Qp σ way p (q + 1) ≤ Qp σ way p q := by
  rcases Nat.lt_or_ge q (sz σ p) with g | g
  · rw [Qp_s g]; omega
  · rw [Qp_n g, Qp_n (Nat.le_succ_of_le g)]; exact Nat.le_refl _
theorem Qp_m {σ : AIn} {way : Int32} {p q : Nat} : ∀ d, Qp σ way p (q + d) ≤ Qp σ way p q
  | 0 => Nat.le_refl _
  | d + 1 => Nat.le_trans (Qp_1 (q := q + d)) (Qp_m d)
theorem Qp_le {σ : AIn} (V : iP σ) {way : Int32} {p q : Nat} (hp : p < 3) : Qp σ way p q ≤ 800000 := by
  rcases Nat.lt_or_ge (sz σ p) q with g | g
  · rw [Qp_n (Nat.le_of_lt g)]; exact Nat.zero_le _
  · exact lsp_le V (rOk_0 _) hp way g
noncomputable def svw (σ : AIn) (way : Int32) (p j L : Nat) : Nat := Qp σ way p (j + 1) - Qp σ way p (j + L)
theorem svw_s {σ : AIn} {way : Int32} {p j L : Nat} (h1 : 1 ≤ L) (h : j + L < sz σ p) : svw σ way p j (L + 1) = svw σ way p j L + wt σ p way (j + L) := by
  unfold svw
  have h2 := Qp_s (way := way) h
  have h3 := Qp_m (σ := σ) (way := way) (p := p) (q := j + 1) (L - 1)
  rw [show j + 1 + (L - 1) = j + L by omega] at h3
  rw [← Nat.add_assoc]
  omega
theorem svw_1 {σ : AIn} {way : Int32} {p j : Nat} : svw σ way p j 1 = 0 := Nat.sub_self _
theorem svw_le {σ : AIn} (V : iP σ) {way : Int32} {p j L : Nat} (hp : p < 3) : svw σ way p j L ≤ 800000 := Nat.le_trans (Nat.sub_le _ _) (Qp_le V hp)
theorem win_rc {σ : AIn} {p j L : Nat} : winA σ p j L ↔ (2 ≤ L ∧ rcR (sz σ p) (kdN σ p) (ldN σ p) j L) := by
  unfold winA rcR
  constructor
  · rintro ⟨⟨a, b⟩, c, d, e⟩
    refine ⟨a, ⟨by omega, b⟩, c, fun i h1 h2 => ld0.mp (d i h1 h2), fun i h => ?_⟩
    have := e i h
    unfold kd at this
    rw [Nat.add_assoc] at this
    exact this
  · rintro ⟨a, ⟨b, c⟩, d, e, f⟩
    refine ⟨⟨a, c⟩, d, fun i h1 h2 => ld0.mpr (e i h1 h2), fun i h => ?_⟩
    unfold kd
    rw [Nat.add_assoc]
    exact f i h
/-- row u stands at x, to e, and saves s -/
def stz (σ : AIn) (way : Int32) (u x e s : Nat) : Prop := ∃ p j L, p < np σ ∧ winA σ p j L ∧ u = e5 (kpN σ p j) L ∧ x = 40 * p + j ∧ e = 40 * p + j + L ∧ s = svw σ way p j L ∧ 0 < s
def Dz (σ : AIn) (way : Int32) (p j l : Nat) (u x e s : Nat) : Prop := ∃ p' j' L', (p' < p ∨ p' = p ∧ (j' < j ∨ j' = j ∧ L' ≤ l)) ∧ p' < np σ ∧ winA σ p' j' L' ∧ u = e5 (kpN σ p' j') L' ∧ x = 40 * p' + j' ∧ e = 40 * p' + j' + L' ∧ s = svw σ way p' j' L' ∧ 0 < s
theorem Dz_more {σ : AIn} {way : Int32} {p j l m : Nat} (hlm : l ≤ m) (h : ∀ L, l < L → L ≤ m → ¬ (winA σ p j L ∧ 0 < svw σ way p j L)) (u x e s : Nat) : Dz σ way p j l u x e s ↔ Dz σ way p j m u x e s := by
  constructor
  · rintro ⟨p', j', L', a, b⟩
    exact ⟨p', j', L', by omega, b⟩
  · rintro ⟨p', j', L', a, b, c, d, d2, d3, d4, d5⟩
    refine ⟨p', j', L', ?_, b, c, d, d2, d3, d4, d5⟩
    rcases a with a | ⟨rfl, a | ⟨rfl, a⟩⟩
    · exact Or.inl a
    · exact Or.inr ⟨rfl, Or.inl a⟩
    · refine Or.inr ⟨rfl, Or.inr ⟨rfl, ?_⟩⟩
      rcases Nat.lt_or_ge l L' with g | g
      · exact absurd ⟨c, by rw [← d4]; exact d5⟩ (h L' g a)
      · exact g
theorem Dz_put {σ : AIn} {way : Int32} {p j l : Nat} (hp : p < np σ) (h : winA σ p j (l + 1)) (h0 : 0 < svw σ way p j (l + 1)) (u x e s : Nat) : addD (Dz σ way p j l) (e5 (kpN σ p j) (l + 1)) (40 * p + j) (40 * p + j + (l + 1)) (svw σ way p j (l + 1)) u x e s ↔ Dz σ way p j (l + 1) u x e s := by
  constructor
  · rintro (⟨p', j', L', a, b⟩ | ⟨rfl, rfl, rfl, rfl⟩)
    · exact ⟨p', j', L', by omega, b⟩
    · exact ⟨p, j, l + 1, Or.inr ⟨rfl, Or.inr ⟨rfl, Nat.le_refl _⟩⟩, hp, h, rfl, rfl, rfl, rfl, h0⟩
  · rintro ⟨p', j', L', a, b, c, d, d2, d3, d4, d5⟩
    by_cases hL : p' = p ∧ j' = j ∧ L' = l + 1
    · obtain ⟨rfl, rfl, rfl⟩ := hL
      exact Or.inr ⟨d, d2, d3, d4⟩
    · exact Or.inl ⟨p', j', L', by omega, b, c, d, d2, d3, d4, d5⟩
theorem Dz_j {σ : AIn} {way : Int32} {p j : Nat} (u x e s : Nat) : Dz σ way p j 4 u x e s ↔ Dz σ way p (j + 1) 0 u x e s := by
  constructor
  · rintro ⟨p', j', L', a, b⟩
    exact ⟨p', j', L', by omega, b⟩
  · rintro ⟨p', j', L', a, b, c, d⟩
    have h4 := c.1.2
    have h2 := c.1.1
    exact ⟨p', j', L', by omega, b, c, d⟩
theorem Dz_p {σ : AIn} {way : Int32} {p j : Nat} (hj : sz σ p ≤ j) (u x e s : Nat) : Dz σ way p j 0 u x e s ↔ Dz σ way (p + 1) 0 0 u x e s := by
  constructor
  · rintro ⟨p', j', L', a, b⟩
    exact ⟨p', j', L', by omega, b⟩
  · rintro ⟨p', j', L', a, b, c, d⟩
    have h2 := c.1.1
    have h3 := c.2.1
    refine ⟨p', j', L', ?_, b, c, d⟩
    by_cases e9 : p' = p
    · subst e9; omega
    · omega
theorem Dz_end {σ : AIn} {way : Int32} (u x e s : Nat) : Dz σ way (np σ) 0 0 u x e s ↔ stz σ way u x e s := by
  constructor
  · rintro ⟨p', j', L', a, b⟩
    exact ⟨p', j', L', b⟩
  · rintro ⟨p', j', L', b, c⟩
    exact ⟨p', j', L', Or.inl b, b, c⟩
section K23
variable {sh : ASh} {I σ : AIn} {P : APt}
theorem wt_b {H : AIn} {q p j : Nat} {b way : Int32} (V : iP σ) (hw : way = if b = 0 then nI 0 else nI 1) (hp : p < 3) (hP : Pg H q σ p) (hj : j < sz σ p) : (if b = 0 then nI 1 else H (q + 3) j) = nI (wt σ p way j) := by
  have hs : sz σ p ≤ 40 := (V.sz hp).2
  unfold wt
  by_cases hb : b = 0
  · rw [if_pos hb, hw, if_pos hb, if_neg (by decide)]
  · rw [if_neg hb, hw, if_neg hb, if_pos rfl, (hP.2.1 j hj).2.2]
    exact (V.2.2.2 (40 * p + j) (by omega)).1
def gaP (sh : ASh) (P : APt) (I σ : AIn) (way : Int32) (p j : Nat) : APo := po_v (fun sh' I' P' => (∃ c, gS c (Dz σ way p j 4) I' ∧ c ≤ 120 * p + 3 * j + 3) ∧ (∀ r, r < 66 ∨ 76 < r → I' r = I r) ∧ sh = sh' ∧ P = P')
theorem l_X0_gatherAt (S : St_c sh P) (V : Inv σ) {p q : Nat} (Q : SPg sh P q) (hq : 100 < q ∧ q + 4 < 117) (hp : p < np σ) (hP : Pg I q σ p) {b way : Int32} (hw : way = if b = 0 then nI 0 else nI 1) {j : Nat} (hj : j < sz σ p) {R : Nat} (hR : rcE (sz σ p) (kdN σ p) (ldN σ p) j R) : ∀ (m l c : Nat) (H : AIn) (x9 : Option Value), l + m = R → 1 ≤ l → gS c (Dz σ way p j l) H → c + 1 ≤ 120 * p + 3 * j + l → (∀ r, r < 66 ∨ 76 < r → H r = I r) → am_R mX0_gatherAt (gaP sh P I σ way p j) 3 80 0 0 26 [some (.ref 66), some (.ref q), some (.int (nI j)), some (.int (nI (40 * p))), some (.int b), some (.int (nI R)), some (.int (nI (e5 (kpN σ p j) l))), some (.int (nI (svw σ way p j l))), some (.int (nI (l + 1))), x9] [] sh H P := by
  obtain ⟨s0, s1, s2, s3, s4, p1, p2, p3, p4⟩ := id Q
  have b1 : np σ ≤ 3 := V.1.np.2
  have hn4 : sz σ p ≤ 40 := (V.1.sz (by omega)).2
  have hR4 := hR.1.1.2
  have hRn := hR.1.2.1
  intro m
  induction m with
  | zero =>
    intro l c H x9 hl h1 hG hc hF
    have e : l = R := by omega
    subst e
    refine r_iload dX0_gatherAt_26 rfl ?_
    refine r_iload dX0_gatherAt_28 rfl ?_
    refine r_icmp_gtN 100 dX0_gatherAt_30 (by decide) (by omega) (by omega) (fun h30 => ?_) (fun h30 => ?_)
    · refine r_return dX0_gatherAt_100 rfl ?_
      refine ⟨rfl, ⟨c, gS_D (c' := c) hG (Dz_more hR4 (fun L a b9 g => ?_)), by omega⟩, hF, rfl, rfl⟩
      have := rcE_le hR (win_rc.mp g.1).2
      omega
    · exact absurd h30 (by omega)
  | succ m ih =>
    intro l c H x9 hl h1 hG hc hF
    have hkd : ∀ i, i ≤ l → kpN σ p j i ≤ 15 := fun i hi => (V.1.2.2.1 p (j + i) (by omega) (by omega)).1.2
    have hwin : winA σ p j (l + 1) := win_rc.mpr ⟨by omega, rcR_le hR.1 (by omega) (by omega)⟩
    have hP2 : Pg H q σ p := hP.congr (by rw [hF q (by omega)]) (fun r h1 h2 => hF r (by omega)) (fun _ _ => ⟨rfl, rfl, rfl⟩)
    have ek : H (q + 1) (j + (l + 1) - 1) = nI (kpN σ p j l) := by
      rw [show j + (l + 1) - 1 = j + l by omega, ((hP2.2.1 (j + l) (by omega))).1]
      exact (V.1.2.2.1 p (j + l) (by omega) (by omega)).1.1
    have elt : e5 (kpN σ p j) (l + 1) < 1048576 := e5_lt (by omega) (fun i hi => hkd i (by omega))
    have ewt := wt_b V.1 hw (show p < 3 by omega) hP2 (show j + l < sz σ p by omega)
    have esv := svw_s (σ := σ) (way := way) h1 (show j + l < sz σ p by omega)
    have lsv1 := svw_le (L := l + 1) (j := j) (way := way) V.1 (show p < 3 by omega)
    have old : ∀ u x' e' s', Dz σ way p j l u x' e' s' → x' ≤ 40 * p + j := fun u x' e' s' g => by
      obtain ⟨p', j', L', a, b9, c9, -, rfl, -⟩ := g
      have h2 := c9.2.1
      have h3 : sz σ p' ≤ 40 := (V.1.sz (by omega)).2
      have h4 := c9.1.1
      rcases a with a | ⟨rfl, a | ⟨rfl, a⟩⟩ <;> omega
    have new : ∀ x' e' s', Dz σ way p j l (e5 (kpN σ p j) (l + 1)) x' e' s' → x' < 40 * p + j := fun x' e' s' g => by
      obtain ⟨p', j', L', a, b9, c9, d9, rfl, -⟩ := g
      have h2 := c9.2.1
      have h3 : sz σ p' ≤ 40 := (V.1.sz (by omega)).2
      have h4 := c9.1
      rcases a with a | ⟨rfl, a | ⟨rfl, a⟩⟩
      · omega
      · omega
      · exfalso
        have := (e5_inj (by omega) (fun i hi => hkd i (by omega)) (by omega) (fun i hi => hkd i (by omega)) d9).1
        omega
    have hz : svw σ way p j (l + 1) ≤ 0 → ∀ L, l < L → L ≤ l + 1 → ¬ (winA σ p j L ∧ 0 < svw σ way p j L) := by
      intro h74 L a b9 g
      have e9 : L = l + 1 := by omega
      rw [e9] at g
      omega
    have st : ∀ c' H' x9, gS c' (Dz σ way p j (l + 1)) H' → c' + 1 ≤ 120 * p + 3 * j + (l + 1) → (∀ r, r < 66 ∨ 76 < r → H' r = I r) → am_R mX0_gatherAt (gaP sh P I σ way p j) 3 80 0 0 26 [some (.ref 66), some (.ref q), some (.int (nI j)), some (.int (nI (40 * p))), some (.int b), some (.int (nI R)), some (.int (nI (e5 (kpN σ p j) (l + 1)))), some (.int (nI (svw σ way p j (l + 1)))), some (.int (nI (l + 1 + 1))), x9] [] sh H' P := fun c' H' x9 q1 q2 q3 => ih (l + 1) c' H' x9 (by omega) (by omega) q1 q2 q3
    refine r_iload dX0_gatherAt_26 rfl ?_
    refine r_iload dX0_gatherAt_28 rfl ?_
    refine r_icmp_gtN 100 dX0_gatherAt_30 (by decide) (by omega) (by omega) (fun h30 => ?_) (fun h30 => ?_)
    · exact absurd h30 (by omega)
    · refine r_iload_n dX0_gatherAt_33 rfl ?_
      refine r_iload dX0_gatherAt_34 rfl ?_
      first | refine r_iaddN dX0_gatherAt_36 ?_ | refine r_iadd dX0_gatherAt_36 ?_
      refine r_iconst dX0_gatherAt_37 (v := nI 1) kc_1 ?_
      first | refine r_isubN dX0_gatherAt_38 (by omega) ?_ | refine r_isub dX0_gatherAt_38 ?_
      refine r_istore dX0_gatherAt_39 (Nat.le_of_ble_eq_true rfl) ?_
      dsimp only [List.set]
      refine r_iload dX0_gatherAt_41 rfl ?_
      refine r_iload dX0_gatherAt_43 rfl ?_
      refine r_iconst dX0_gatherAt_45 (v := nI 1) kc_1 ?_
      first | refine r_isubN dX0_gatherAt_46 (by omega) ?_ | refine r_isub dX0_gatherAt_46 ?_
      refine r_aload_n dX0_gatherAt_47 rfl ?_
      refine r_getP dX0_gatherAt_48 g_X0_105 (by first | assumption | exact S.1 _ _ rfl) rfl (by first | assumption | exact S.2 _ _ _ rfl) ?_
      refine r_iload dX0_gatherAt_51 rfl ?_
      refine r_iaload (j + (l + 1) - 1) dX0_gatherAt_53 (by first | assumption | exact S.1 _ _ rfl) rfl (by first | decide | omega) (by decide) ?_
      rw [ek]
      rw [show l + 1 - 1 = l from rfl]
      refine r_callS3 (fr' := 0) (lo' := 0) (mc' := 0) (ms' := 0) dX0_gatherAt_54 mm_X4_with ms_X4_with l_X0_108 (by decide) ⟨by decide, by decide⟩ (Nat.zero_le _) (Nat.zero_le _) (Nat.le_of_ble_eq_true rfl) (c_X4_with2 (κ := kpN σ p j) (by omega) hkd rfl rfl) (am_ki ?_)
      rintro v54 _ _ _ ⟨rfl, rfl, rfl, rfl⟩
      refine r_istore dX0_gatherAt_57 (Nat.le_of_ble_eq_true rfl) ?_
      dsimp only [List.set]
      refine r_iload dX0_gatherAt_59 rfl ?_
      refine r_aload_n dX0_gatherAt_61 rfl ?_
      refine r_iload dX0_gatherAt_62 rfl ?_
      refine r_iload dX0_gatherAt_64 rfl ?_
      rw [show j + (l + 1) - 1 = j + l by omega]
      refine r_callV2 (fr' := 0) (lo' := 0) (mc' := 0) (ms' := 0) dX0_gatherAt_66 mm_X3_weight mv_X3_weight l_X0_93 (by first | assumption | exact S.1 _ _ rfl) mc_X3_weight (by decide) ⟨by decide, by decide⟩ (Nat.zero_le _) (Nat.zero_le _) (Nat.le_of_ble_eq_true rfl) (c_X3_weight Q (show j + l < 40 by omega) _) (am_ki ?_)
      rintro v66 _ _ _ ⟨rfl, rfl, rfl, rfl⟩
      rw [ewt]
      first | refine r_iaddN dX0_gatherAt_69 ?_ | refine r_iadd dX0_gatherAt_69 ?_
      rw [← esv]
      refine r_istore dX0_gatherAt_70 (Nat.le_of_ble_eq_true rfl) ?_
      dsimp only [List.set]
      refine r_iload dX0_gatherAt_72 rfl ?_
      refine r_if_leN 94 dX0_gatherAt_74 (by decide) (by omega) (fun h74 => ?_) (fun h74 => ?_)
      · first | refine r_iincN dX0_gatherAt_94 rfl kc_1 ?_ | refine r_iinc dX0_gatherAt_94 rfl rfl ?_
        dsimp only [List.set]
        refine r_goto 26 dX0_gatherAt_97 (by decide) ?_
        first
          | exact st c H _ (gS_D (c' := c) hG (Dz_more (Nat.le_succ l) (hz h74))) (by omega) hF
          | exact st (c + 1) H2 _ (gS_D (c' := c) hG2 (Dz_put hp hwin (by omega))) (by omega) (fun r hr => by rw [hF2 r hr]; exact hF r hr)
      · refine r_aload_n dX0_gatherAt_77 rfl ?_
        refine r_iload dX0_gatherAt_78 rfl ?_
        refine r_iload_n dX0_gatherAt_80 rfl ?_
        refine r_iload_n dX0_gatherAt_81 rfl ?_
        first | refine r_iaddN dX0_gatherAt_82 ?_ | refine r_iadd dX0_gatherAt_82 ?_
        refine r_iload_n dX0_gatherAt_83 rfl ?_
        refine r_iload dX0_gatherAt_84 rfl ?_
        first | refine r_iaddN dX0_gatherAt_86 ?_ | refine r_iadd dX0_gatherAt_86 ?_
        refine r_iconst dX0_gatherAt_87 (v := nI 1) kc_1 ?_
        first | refine r_iaddN dX0_gatherAt_88 ?_ | refine r_iadd dX0_gatherAt_88 ?_
        refine r_iload dX0_gatherAt_89 rfl ?_
        rw [show 40 * p + (j + l) + 1 = 40 * p + j + (l + 1) by omega]
        refine r_callV4 (fr' := 2) (lo' := 55) (mc' := 0) (ms' := 0) dX0_gatherAt_91 mm_X0_addStand mv_X0_addStand l_X0_114 (by first | assumption | exact S.1 _ _ rfl) mc_X0_addStand (by decide) ⟨by decide, by decide⟩ (Nat.zero_le _) (Nat.zero_le _) (Nat.le_of_ble_eq_true rfl) (c_X0_addStand S hG (by omega) elt (by omega) (by omega) (by omega) old new) (am_kv ?_)
        rintro _ H2 _ ⟨hG2, hF2, rfl, rfl⟩
        first | refine r_iincN dX0_gatherAt_94 rfl kc_1 ?_ | refine r_iinc dX0_gatherAt_94 rfl rfl ?_
        dsimp only [List.set]
        refine r_goto 26 dX0_gatherAt_97 (by decide) ?_
        first
          | exact st c H _ (gS_D (c' := c) hG (Dz_more (Nat.le_succ l) (hz h74))) (by omega) hF
          | exact st (c + 1) H2 _ (gS_D (c' := c) hG2 (Dz_put hp hwin (by omega))) (by omega) (fun r hr => by rw [hF2 r hr]; exact hF r hr)
theorem c_X0_gatherAt (S : St_c sh P) (V : Inv σ) {p q : Nat} (Q : SPg sh P q) (hq : 100 < q ∧ q + 4 < 117) (hp : p < np σ) (hP : Pg I q σ p) {b way : Int32} (hw : way = if b = 0 then nI 0 else nI 1) {j : Nat} (hj : j < sz σ p) {c : Nat} (hG : gS c (Dz σ way p j 0) I) (hc : c ≤ 120 * p + 3 * j) : am_R mX0_gatherAt (gaP sh P I σ way p j) 3 80 0 0 0 [some (.ref 66), some (.ref q), some (.int (nI j)), some (.int (nI (40 * p))), some (.int b), none, none, none, none, none] [] sh I P := by
  obtain ⟨s0, s1, s2, s3, s4, p1, p2, p3, p4⟩ := id Q
  have b1 : np σ ≤ 3 := V.1.np.2
  have hn4 : sz σ p ≤ 40 := (V.1.sz (by omega)).2
  have vk := (V.1.2.2.1 p j (by omega) hj).1
  have ek : I (q + 1) j = nI (kdN σ p j) := ((hP.2.1 j hj).1).trans vk.1
  have hkk : ∀ k, k < sz σ p → I (q + 1) k = nI (kdN σ p k) ∧ kdN σ p k < 16 := fun k hk => ⟨((hP.2.1 k hk).1).trans (V.1.2.2.1 p k (by omega) hk).1.1, Nat.lt_succ_of_le (V.1.2.2.1 p k (by omega) hk).1.2⟩
  have hll : ∀ t, t < 40 → I (q + 4) t = nI (ldN σ p t) ∧ ldN σ p t < 2147483648 := fun t ht => ⟨hP.2.2 t ht, Nat.lt_of_le_of_lt (cnt_le _ _ _ _) (by omega)⟩
  refine r_aload_n dX0_gatherAt_0 rfl ?_
  refine r_iload_n dX0_gatherAt_1 rfl ?_
  refine r_callV1 (fr' := 2) (lo' := 40) (mc' := 0) (ms' := 0) dX0_gatherAt_2 mm_X3_reach mv_X3_reach l_X0_101 (by first | assumption | exact S.1 _ _ rfl) mc_X3_reach (by decide) ⟨by decide, by decide⟩ (Nat.zero_le _) (Nat.zero_le _) (Nat.le_of_ble_eq_true rfl) (c_X3_reach Q hP.1 hn4 hkk hll hj) (am_ki ?_)
  rintro v2 _ _ _ ⟨⟨R, rfl, hR⟩, rfl, rfl, rfl⟩
  refine r_istore dX0_gatherAt_5 (Nat.le_of_ble_eq_true rfl) ?_
  dsimp only [List.set]
  refine r_iconst dX0_gatherAt_7 (v := nI 0) kc_0 ?_
  refine r_iconst dX0_gatherAt_8 (v := nI 0) kc_0 ?_
  refine r_aload_n dX0_gatherAt_9 rfl ?_
  refine r_getP dX0_gatherAt_10 g_X0_105 (by first | assumption | exact S.1 _ _ rfl) rfl (by first | assumption | exact S.2 _ _ _ rfl) ?_
  refine r_iload_n dX0_gatherAt_13 rfl ?_
  refine r_iaload j dX0_gatherAt_14 (by first | assumption | exact S.1 _ _ rfl) rfl (by first | decide | omega) (by decide) ?_
  rw [ek]
  refine r_callS3 (fr' := 0) (lo' := 0) (mc' := 0) (ms' := 0) dX0_gatherAt_15 mm_X4_with ms_X4_with l_X0_108 (by decide) ⟨by decide, by decide⟩ (Nat.zero_le _) (Nat.zero_le _) (Nat.le_of_ble_eq_true rfl) (c_X4_with2 (κ := kpN σ p j) (by decide) (fun i hi => by obtain rfl := Nat.le_zero.mp hi; exact vk.2) rfl rfl) (am_ki ?_)
  rintro v15 _ _ _ ⟨rfl, rfl, rfl, rfl⟩
  refine r_istore dX0_gatherAt_18 (Nat.le_of_ble_eq_true rfl) ?_
  dsimp only [List.set]
  refine r_iconst dX0_gatherAt_20 (v := nI 0) kc_0 ?_
  refine r_istore dX0_gatherAt_21 (Nat.le_of_ble_eq_true rfl) ?_
  dsimp only [List.set]
  refine r_iconst dX0_gatherAt_23 (v := nI 2) kc_2 ?_
  refine r_istore dX0_gatherAt_24 (Nat.le_of_ble_eq_true rfl) ?_
  dsimp only [List.set]
  have h1R := hR.1.1.1
  have h := l_X0_gatherAt S V Q hq hp hP hw hj hR (R - 1) 1 c I none (by omega) (Nat.le_refl 1) (gS_D (c' := c) hG (Dz_more (by omega) (fun L a b9 g => by have := g.1.1; omega))) (by omega) (fun _ _ => rfl)
  rw [svw_1] at h
  exact h
def gtP (sh : ASh) (P : APt) (I σ : AIn) (way : Int32) : APo := po_i (fun v sh' I' P' => v = nI (pl σ way) ∧ (∃ c, gS c (stz σ way) I') ∧ (∀ r, r < 66 ∨ 76 < r → I' r = I r) ∧ sh = sh' ∧ P = P')
theorem l_X0_gatherQ (S : St_c sh P) (V : Inv σ) (R : rpP I 100 σ) {b way : Int32} (hw : way = if b = 0 then nI 0 else nI 1) {p : Nat} (hp : p < np σ) (ih : ∀ c H x5 x6, gS c (Dz σ way (p + 1) 0 0) H → c ≤ 120 * (p + 1) → (∀ r, r < 66 ∨ 76 < r → H r = I r) → am_R mX0_gather (gtP sh P I σ way) 4 109 0 0 15 [some (.ref 66), some (.ref 100), some (.int b), some (.int (nI (csum (fun p => Qp σ way p 0) (p + 1)))), some (.int (nI (p + 1))), x5, x6] [] sh H P) : ∀ (m j c : Nat) (H : AIn), j + m = sz σ p → gS c (Dz σ way p j 0) H → c ≤ 120 * p + 3 * j → (∀ r, r < 66 ∨ 76 < r → H r = I r) → am_R mX0_gather (gtP sh P I σ way) 4 109 0 0 36 [some (.ref 66), some (.ref 100), some (.int b), some (.int (nI (csum (fun p => Qp σ way p 0) p + (Qp σ way p 0 - Qp σ way p j)))), some (.int (nI p)), some (.ref (102 + 5 * p)), some (.int (nI j))] [] sh H P := by
  have b1 : np σ ≤ 3 := V.1.np.2
  obtain ⟨pp, Q⟩ := SPg_of S (show p < 3 by omega)
  obtain ⟨s0, s1, s2, s3, s4, p1, p2, p3, p4⟩ := id Q
  have hn4 : sz σ p ≤ 40 := (V.1.sz (by omega)).2
  intro m
  induction m with
  | zero =>
    intro j c H hj hG hc hF
    have e : j = sz σ p := by omega
    subst e
    have hP2 : Pg H (102 + 5 * p) σ p := (R.2 p hp).congr (by rw [hF _ (by omega)]) (fun r h1 h2 => hF r (by omega)) (fun _ _ => ⟨rfl, rfl, rfl⟩)
    have e0 := hP2.1
    have eq0 : csum (fun p => Qp σ way p 0) p + (Qp σ way p 0 - Qp σ way p (sz σ p)) = csum (fun p => Qp σ way p 0) (p + 1) := by rw [Qp_n (Nat.le_refl _)]; rfl
    rw [eq0]
    refine r_iload dX0_gather_36 rfl ?_
    refine r_aload dX0_gather_38 rfl ?_
    refine r_getI dX0_gather_40 g_X0_92 (by first | assumption | exact S.1 _ _ rfl) rfl ?_
    rw [e0]
    refine r_icmp_geN 77 dX0_gather_43 (by decide) (by omega) (by omega) (fun h43 => ?_) (fun h43 => ?_)
    · first | refine r_iincN dX0_gather_77 rfl kc_1 ?_ | refine r_iinc dX0_gather_77 rfl rfl ?_
      dsimp only [List.set]
      refine r_goto 15 dX0_gather_80 (by decide) ?_
      exact ih c H _ _ (gS_D (c' := c) hG (Dz_p (Nat.le_refl _))) (by omega) hF
    · exact absurd h43 (by omega)
  | succ m ih2 =>
    intro j c H hj hG hc hF
    have hjs : j < sz σ p := by omega
    have hP2 : Pg H (102 + 5 * p) σ p := (R.2 p hp).congr (by rw [hF _ (by omega)]) (fun r h1 h2 => hF r (by omega)) (fun _ _ => ⟨rfl, rfl, rfl⟩)
    have e0 := hP2.1
    have ewt := wt_b V.1 hw (show p < 3 by omega) hP2 hjs
    have q1 := Qp_s (way := way) hjs
    have q2 := Qp_m (σ := σ) (way := way) (p := p) (q := 0) j
    rw [Nat.zero_add] at q2
    have esum : csum (fun p => Qp σ way p 0) p + (Qp σ way p 0 - Qp σ way p j) + wt σ p way j = csum (fun p => Qp σ way p 0) p + (Qp σ way p 0 - Qp σ way p (j + 1)) := by omega
    refine r_iload dX0_gather_36 rfl ?_
    refine r_aload dX0_gather_38 rfl ?_
    refine r_getI dX0_gather_40 g_X0_92 (by first | assumption | exact S.1 _ _ rfl) rfl ?_
    rw [e0]
    refine r_icmp_geN 77 dX0_gather_43 (by decide) (by omega) (by omega) (fun h43 => ?_) (fun h43 => ?_)
    · exact absurd h43 (by omega)
    · refine r_iload_n dX0_gather_46 rfl ?_
      refine r_aload dX0_gather_47 rfl ?_
      refine r_iload dX0_gather_49 rfl ?_
      refine r_iload_n dX0_gather_51 rfl ?_
      refine r_callV2 (fr' := 0) (lo' := 0) (mc' := 0) (ms' := 0) dX0_gather_52 mm_X3_weight mv_X3_weight l_X0_93 (by first | assumption | exact S.1 _ _ rfl) mc_X3_weight (by decide) ⟨by decide, by decide⟩ (Nat.zero_le _) (Nat.zero_le _) (Nat.le_of_ble_eq_true rfl) (c_X3_weight Q (show j < 40 by omega) _) (am_ki ?_)
      rintro v52 _ _ _ ⟨rfl, rfl, rfl, rfl⟩
      rw [ewt]
      first | refine r_iaddN dX0_gather_55 ?_ | refine r_iadd dX0_gather_55 ?_
      rw [esum]
      refine r_istore_n dX0_gather_56 (Nat.le_of_ble_eq_true rfl) ?_
      dsimp only [List.set]
      refine r_aload_n dX0_gather_57 rfl ?_
      refine r_aload dX0_gather_58 rfl ?_
      refine r_iload dX0_gather_60 rfl ?_
      refine r_iload dX0_gather_62 rfl ?_
      refine r_bipush dX0_gather_64 (v := nI 40) (by decide) ?_
      first | refine r_imulN dX0_gather_66 ?_ | refine r_imul dX0_gather_66 ?_
      rw [show p * 40 = 40 * p by omega]
      refine r_iload_n dX0_gather_67 rfl ?_
      refine r_callV4 (fr' := 3) (lo' := 80) (mc' := 0) (ms' := 0) dX0_gather_68 mm_X0_gatherAt mv_X0_gatherAt l_X0_97 (by first | assumption | exact S.1 _ _ rfl) mc_X0_gatherAt (by decide) ⟨by decide, by decide⟩ (Nat.zero_le _) (Nat.zero_le _) (Nat.le_of_ble_eq_true rfl) (c_X0_gatherAt S V Q (by omega) hp hP2 hw hjs hG hc) (am_kv ?_)
      rintro _ H2 _ ⟨⟨c2, hG2, hc2⟩, hF2, rfl, rfl⟩
      first | refine r_iincN dX0_gather_71 rfl kc_1 ?_ | refine r_iinc dX0_gather_71 rfl rfl ?_
      dsimp only [List.set]
      refine r_goto 36 dX0_gather_74 (by decide) ?_
      exact ih2 (j + 1) c2 H2 (by omega) (gS_D (c' := c2) hG2 Dz_j) (by omega) (fun r hr => by rw [hF2 r hr]; exact hF r hr)
theorem l_X0_gather (S : St_c sh P) (V : Inv σ) (R : rpP I 100 σ) {b way : Int32} (hw : way = if b = 0 then nI 0 else nI 1) : ∀ (m p c : Nat) (H : AIn) (x5 x6 : Option Value), p + m = np σ → gS c (Dz σ way p 0 0) H → c ≤ 120 * p → (∀ r, r < 66 ∨ 76 < r → H r = I r) → am_R mX0_gather (gtP sh P I σ way) 4 109 0 0 15 [some (.ref 66), some (.ref 100), some (.int b), some (.int (nI (csum (fun p => Qp σ way p 0) p))), some (.int (nI p)), x5, x6] [] sh H P := by
  have b1 : np σ ≤ 3 := V.1.np.2
  intro m
  induction m with
  | zero =>
    intro p c H x5 x6 hp hG hc hF
    have e : p = np σ := by omega
    subst e
    have e1 : H 100 0 = nI (np σ) := by rw [hF 100 (by omega)]; exact R.1
    refine r_iload dX0_gather_15 rfl ?_
    refine r_aload_n dX0_gather_17 rfl ?_
    refine r_getI dX0_gather_18 g_X0_85 (by first | assumption | exact S.1 _ _ rfl) rfl ?_
    rw [e1]
    refine r_icmp_geN 83 dX0_gather_21 (by decide) (by omega) (by omega) (fun h21 => ?_) (fun h21 => ?_)
    · refine r_iload_n dX0_gather_83 rfl ?_
      refine r_ireturn dX0_gather_84 .int rfl rfl ?_
      exact ⟨_, rfl, rfl, ⟨c, gS_D (c' := c) hG Dz_end⟩, hF, rfl, rfl⟩
    · exact absurd h21 (by omega)
  | succ m ih =>
    intro p c H x5 x6 hp hG hc hF
    have e1 : H 100 0 = nI (np σ) := by rw [hF 100 (by omega)]; exact R.1
    obtain ⟨pp, Q⟩ := SPg_of S (show p < 3 by omega)
    refine r_iload dX0_gather_15 rfl ?_
    refine r_aload_n dX0_gather_17 rfl ?_
    refine r_getI dX0_gather_18 g_X0_85 (by first | assumption | exact S.1 _ _ rfl) rfl ?_
    rw [e1]
    refine r_icmp_geN 83 dX0_gather_21 (by decide) (by omega) (by omega) (fun h21 => ?_) (fun h21 => ?_)
    · exact absurd h21 (by omega)
    · refine r_aload_n dX0_gather_24 rfl ?_
      refine r_getP dX0_gather_25 g_X0_88 (by first | assumption | exact S.1 _ _ rfl) rfl (by first | assumption | exact S.2 _ _ _ rfl) ?_
      refine r_iload dX0_gather_28 rfl ?_
      refine r_aaloadP p dX0_gather_30 (by first | assumption | exact S.1 _ _ rfl) rfl (by first | decide | omega) (by decide) (by first | assumption | exact S.2 _ _ _ rfl) ?_
      refine r_astore dX0_gather_31 (Nat.le_of_ble_eq_true rfl) ?_
      dsimp only [List.set]
      refine r_iconst dX0_gather_33 (v := nI 0) kc_0 ?_
      refine r_istore dX0_gather_34 (Nat.le_of_ble_eq_true rfl) ?_
      dsimp only [List.set]
      have h := l_X0_gatherQ S V R hw (show p < np σ by omega) (fun c2 H2 y5 y6 g1 g2 g3 => ih (p + 1) c2 H2 y5 y6 (by omega) g1 g2 g3) (sz σ p) 0 c H (Nat.zero_add _) hG hc hF
      rw [Nat.sub_self, Nat.add_zero] at h
      exact h
theorem c_X0_gather (S : St_c sh P) (V : Inv σ) (R : rpP I 100 σ) {b way : Int32} (hw : way = if b = 0 then nI 0 else nI 1) : am_R mX0_gather (gtP sh P I σ way) 4 109 0 0 0 [some (.ref 66), some (.ref 100), some (.int b), none, none, none, none] [] sh I P := by
  refine r_aload_n dX0_gather_0 rfl ?_
  refine r_iconst dX0_gather_1 (v := nI 0) kc_0 ?_
  refine r_putI dX0_gather_2 f_X0_79 (by first | assumption | exact S.1 _ _ rfl) rfl rfl rfl ?_
  refine r_aload_n dX0_gather_5 rfl ?_
  refine r_iconst dX0_gather_6 (v := nI 0) kc_0 ?_
  refine r_putI dX0_gather_7 f_X0_82 (by first | assumption | exact S.1 _ _ rfl) rfl rfl rfl ?_
  rw [va_up_self, bx_uu]
  refine r_iconst dX0_gather_10 (v := nI 0) kc_0 ?_
  refine r_istore_n dX0_gather_11 (Nat.le_of_ble_eq_true rfl) ?_
  dsimp only [List.set]
  refine r_iconst dX0_gather_12 (v := nI 0) kc_0 ?_
  refine r_istore dX0_gather_13 (Nat.le_of_ble_eq_true rfl) ?_
  dsimp only [List.set]
  refine l_X0_gather S V R hw (np σ) 0 0 _ _ _ (Nat.zero_add _) ⟨0, fun _ => 0, fun _ => -1, fun _ => 0, fun _ => 0, fun _ => 0, fun _ => 0, Nat.le_refl _, fun k hk => absurd hk (Nat.not_lt_zero k), ⟨?_, fun k hk => absurd hk (Nat.not_lt_zero k), fun i j hi hj => absurd hj (Nat.not_lt_zero j), fun _ _ => rfl⟩, ?_, ⟨by decide, fun i hi => absurd hi (Nat.not_lt_zero i)⟩, fun i hi => absurd hi (Nat.not_lt_zero i), fun u => Or.inl ⟨rfl, fun x e s hx g => ?_⟩⟩ (Nat.zero_le _) (fun r hr => va_up_ne _ _ (by omega))
  · rw [va_up_self, pk_un (by decide)]; exact pk_us
  · rw [va_up_self]; exact pk_us
  · obtain ⟨p', j', L', a, -, c, -⟩ := g
    have := c.1.1
    omega
end K23
