/-! the reference: findRows -/
section M23
variable {sh : ASh} {I : AIn} {P : APt}
/-- the numbers of rows of kinds -/
def un (k : Nat) : Nat := if k = 0 then 4913 else if k = 1 then 289 else if k = 2 then 17 else 1
def wn (κ : Nat → Nat) : Nat → Nat
  | 0 => 0
  | n + 1 => wn κ n + un n * (κ n + 1)
def kd (σ : AIn) (p q k : Nat) : Nat := nv (σ 3 (40 * p + q + k))
/-- a row of L orders that could be one code, from place q of program p on -/
def winA (σ : AIn) (p q L : Nat) : Prop := (2 ≤ L ∧ L ≤ 4) ∧ q + L ≤ sz σ p ∧ (∀ k, 0 < k → k < L → ¬ led σ p (q + k)) ∧ ∀ k, k + 1 < L → ¬ isLs (kd σ p q k)
def wB (σ : AIn) (p q n u : Nat) : Prop := ∃ p' q' L, (p' < p ∨ p' = p ∧ (q' < q ∨ q' = q ∧ L ≤ n)) ∧ p' < np σ ∧ winA σ p' q' L ∧ u = wn (kd σ p' q') L
def win (σ : AIn) (u : Nat) : Prop := ∃ p q L, p < np σ ∧ winA σ p q L ∧ u = wn (kd σ p q) L
def frF (I H : AIn) : Prop := (∀ r, r ≠ 0 → r ≠ 30 → r ≠ 36 → H r = I r) ∧ ∀ j, j ≠ 38 → H 0 j = I 0 j
def fS (H : AIn) (c : Nat) (W : Nat → Prop) : Prop := ∃ n f, fnd H n f ∧ (∀ u, (∃ j, j < n ∧ f j = u) ↔ W u) ∧ n ≤ c
theorem fS_W {H : AIn} {c c' : Nat} {W W' : Nat → Prop} (h : fS H c W) (hc : c ≤ c') (hW : ∀ u, W u ↔ W' u) : fS H c' W' := by
  obtain ⟨n, f, h1, h2, h3⟩ := h
  exact ⟨n, f, h1, fun u => (h2 u).trans (hW u), by omega⟩
theorem wB_more {σ : AIn} {p q n m : Nat} (hnm : n ≤ m) (h : ∀ L, n < L → L ≤ m → ¬ winA σ p q L) (u : Nat) : wB σ p q n u ↔ wB σ p q m u := by
  constructor
  · rintro ⟨p', q', L, h1, h2⟩
    exact ⟨p', q', L, by omega, h2⟩
  · rintro ⟨p', q', L, h1, h2, h3, h4⟩
    refine ⟨p', q', L, ?_, h2, h3, h4⟩
    rcases h1 with h1 | ⟨rfl, h1 | ⟨rfl, h1⟩⟩
    · exact Or.inl h1
    · exact Or.inr ⟨rfl, Or.inl h1⟩
    · rcases Nat.lt_or_ge n L with g | g
      · exact absurd h3 (h L g h1)
      · exact Or.inr ⟨rfl, Or.inr ⟨rfl, g⟩⟩
theorem wB_put {σ : AIn} {p q n : Nat} (hp : p < np σ) (h : winA σ p q (n + 1)) (u : Nat) : (wB σ p q n u ∨ u = wn (kd σ p q) (n + 1)) ↔ wB σ p q (n + 1) u := by
  constructor
  · rintro (⟨p', q', L, h1, h2⟩ | h1)
    · exact ⟨p', q', L, by omega, h2⟩
    · exact ⟨p, q, n + 1, by omega, hp, h, h1⟩
  · rintro ⟨p', q', L, h1, h2, h3, h4⟩
    rcases h1 with h1 | ⟨rfl, h1 | ⟨rfl, h1⟩⟩
    · exact Or.inl ⟨p', q', L, by omega, h2, h3, h4⟩
    · exact Or.inl ⟨p', q', L, by omega, h2, h3, h4⟩
    · rcases Nat.lt_or_ge n L with g | g
      · have e : L = n + 1 := by omega
        subst e
        exact Or.inr h4
      · exact Or.inl ⟨p', q', L, by omega, h2, h3, h4⟩
theorem wB_q {σ : AIn} {p q : Nat} (u : Nat) : wB σ p q 4 u ↔ wB σ p (q + 1) 0 u := by
  constructor
  · rintro ⟨p', q', L, h1, h2⟩
    exact ⟨p', q', L, by omega, h2⟩
  · rintro ⟨p', q', L, h1, h2, h3, h4⟩
    have h5 := h3.1
    exact ⟨p', q', L, by omega, h2, h3, h4⟩
theorem wB_p {σ : AIn} {p q : Nat} (hq : sz σ p ≤ q) (u : Nat) : wB σ p q 0 u ↔ wB σ (p + 1) 0 0 u := by
  constructor
  · rintro ⟨p', q', L, h1, h2⟩
    exact ⟨p', q', L, by omega, h2⟩
  · rintro ⟨p', q', L, h1, h2, h3, h4⟩
    refine ⟨p', q', L, ?_, h2, h3, h4⟩
    have h5 := h3.1
    have h6 := h3.2.1
    rcases Nat.lt_or_ge p' p with g | g
    · exact Or.inl g
    · have e : p' = p := by omega
      subst e
      omega
theorem wB_end {σ : AIn} (u : Nat) : wB σ (np σ) 0 0 u ↔ win σ u := by
  constructor
  · rintro ⟨p', q', L, h1, h2, h3, h4⟩
    exact ⟨p', q', L, h2, h3, h4⟩
  · rintro ⟨p', q', L, h2, h3, h4⟩
    exact ⟨p', q', L, Or.inl h2, h2, h3, h4⟩
theorem wn_le {κ : Nat → Nat} {n : Nat} (hn : n ≤ 4) (h : ∀ k, k < n → κ k ≤ 15) : wn κ n ≤ 83520 := by
  have key : n = 0 ∨ n = 1 ∨ n = 2 ∨ n = 3 ∨ n = 4 := by omega
  rcases key with rfl | rfl | rfl | rfl | rfl
  · show 0 ≤ 83520; omega
  · have h0 := h 0 (by decide)
    show 0 + 4913 * (κ 0 + 1) ≤ 83520; omega
  · have h0 := h 0 (by decide)
    have h1 := h 1 (by decide)
    show 0 + 4913 * (κ 0 + 1) + 289 * (κ 1 + 1) ≤ 83520; omega
  · have h0 := h 0 (by decide)
    have h1 := h 1 (by decide)
    have h2 := h 2 (by decide)
    show 0 + 4913 * (κ 0 + 1) + 289 * (κ 1 + 1) + 17 * (κ 2 + 1) ≤ 83520; omega
  · have h0 := h 0 (by decide)
    have h1 := h 1 (by decide)
    have h2 := h 2 (by decide)
    have h3 := h 3 (by decide)
    show 0 + 4913 * (κ 0 + 1) + 289 * (κ 1 + 1) + 17 * (κ 2 + 1) + 1 * (κ 3 + 1) ≤ 83520; omega
theorem frF_rs {H : AIn} (h : frF I H) : rs H = rs I := by
  funext r
  by_cases h1 : r = 0
  · subst h1; rfl
  · by_cases h2 : r = 30
    · subst h2; rfl
    · by_cases h3 : r = 36
      · subst h3; rfl
      · unfold rs
        rw [h.1 r h1 h2 h3]
theorem l_X11_fr3 (S : St_m sh P) (V : iP (rs I)) {post : APo} {p q : Nat} (hp : p < np (rs I)) (hq : q < sz (rs I) p) (K : ∀ H x3 x4 x5 x6 x7, frF I H → (∀ t, t < 41 → bo (H 30 t) (led (rs I) p t)) → fS H (120 * p + 3 * q + 3) (wB (rs I) p q 4) → am_R mX11_findRows post 1 23 0 0 24 [some (.ref 0), some (.int (nI p)), some (.int (nI (q + 1))), x3, x4, x5, x6, x7] [] sh H P) (H : AIn) (x6 x7 : Option Value) (hf : frF I H) (hL : ∀ t, t < 41 → bo (H 30 t) (led (rs I) p t)) (hS : fS H (120 * p + 3 * q + 2) (wB (rs I) p q 3)) (hl : ∀ k, 0 < k → k < 3 → ¬ led (rs I) p (q + k)) (hi : ∀ k, k < 3 → ¬ isLs (kd (rs I) p q k)) (hqn : q + 3 ≤ sz (rs I) p) : am_R mX11_findRows post 1 23 0 0 42 [some (.ref 0), some (.int (nI p)), some (.int (nI q)), some (.int (nI (wn (kd (rs I) p q) 3))), some (.int (nI 1)), some (.int (nI 3)), x6, x7] [] sh H P := by
  have b1 := V.np.2
  obtain ⟨e2, b2⟩ := V.sz (show p < 3 by omega)
  have e2 : I 2 p = nI (sz (rs I) p) := e2
  have e2H : H 2 p = nI (sz (rs I) p) := by rw [hf.1 2 (by decide) (by decide) (by decide)]; exact e2
  have EX0 : ∀ (G : AIn) (v n : Int32) (y6 y7 : Option Value), G 2 p = nI (sz (rs I) p) → frF I G → (∀ t, t < 41 → bo (G 30 t) (led (rs I) p t)) → fS G (120 * p + 3 * q + 3) (wB (rs I) p q 4) → am_R mX11_findRows post 1 23 0 0 42 [some (.ref 0), some (.int (nI p)), some (.int (nI q)), some (.int v), some (.int (nI 0)), some (.int n), y6, y7] [] sh G P := by
    intro G v n y6 y7 eG hG hLG hSG
    refine r_iload dX11_findRows_42 rfl ?_
    refine r_iconst dX11_findRows_44 (v := nI 4) kc_4 ?_
    refine r_icmp_ge 194 dX11_findRows_45 (by decide) (fun h45 => ?_) (fun h45 => ?_)
    · first | refine r_iincN dX11_findRows_194 rfl kc_1 ?_ | refine r_iinc dX11_findRows_194 rfl rfl ?_
      dsimp only [List.set]
      refine r_goto 24 dX11_findRows_197 (by decide) ?_
      exact K _ _ _ _ _ _ hG hLG hSG
    · refine r_iload dX11_findRows_48 rfl ?_
      refine r_if_eqN 194 dX11_findRows_50 (by decide) (by omega) (fun h50 => ?_) (fun h50 => ?_)
      · first | refine r_iincN dX11_findRows_194 rfl kc_1 ?_ | refine r_iinc dX11_findRows_194 rfl rfl ?_
        dsimp only [List.set]
        refine r_goto 24 dX11_findRows_197 (by decide) ?_
        exact K _ _ _ _ _ _ hG hLG hSG
      · exact absurd h50 (by omega)
  have hw : ∀ L, 3 < L → ¬ (q + 3 < sz (rs I) p) → ¬ winA (rs I) p q L := fun L h1 h2 h3 => h2 (by have := h3.2.1; omega)
  refine r_iload dX11_findRows_42 rfl ?_
  refine r_iconst dX11_findRows_44 (v := nI 4) kc_4 ?_
  refine r_icmp_geN 194 dX11_findRows_45 (by decide) (by omega) (by omega) (fun h45 => ?_) (fun h45 => ?_)
  · exact absurd h45 (by omega)
  · refine r_iload dX11_findRows_48 rfl ?_
    refine r_if_eqN 194 dX11_findRows_50 (by decide) (by omega) (fun h50 => ?_) (fun h50 => ?_)
    · exact absurd h50 (by omega)
    · refine r_iload_n dX11_findRows_53 rfl ?_
      refine r_iload dX11_findRows_54 rfl ?_
      first | refine r_iaddN dX11_findRows_56 ?_ | refine r_iadd dX11_findRows_56 ?_
      refine r_aload_n dX11_findRows_57 rfl ?_
      refine r_getP dX11_findRows_58 g_X11_13 (S.1 _ _ rfl) rfl (S.2 _ _ _ rfl) ?_
      refine r_iload_n dX11_findRows_61 rfl ?_
      refine r_iaload _ dX11_findRows_62 (S.1 _ _ rfl) rfl (by first | decide | omega) (by decide) ?_
      rw [e2H]
      refine r_icmp_geN 194 dX11_findRows_63 (by decide) (by omega) (by omega) (fun h63 => ?_) (fun h63 => ?_)
      · first | refine r_iincN dX11_findRows_194 rfl kc_1 ?_ | refine r_iinc dX11_findRows_194 rfl rfl ?_
        dsimp only [List.set]
        refine r_goto 24 dX11_findRows_197 (by decide) ?_
        exact K _ _ _ _ _ _ hf hL (fS_W hS (by omega) (wB_more (by decide) (fun L h1 h2 => hw L h1 (by omega))))
      · have hK := V.2.2.1 p (q + 3) (by omega) (by omega)
        have e3 : I 3 (40 * p + q + 3) = nI (kd (rs I) p q 3) := by
          have h9 := hK.1.1
          rw [← Nat.add_assoc] at h9
          exact h9
        have b3 : kd (rs I) p q 3 ≤ 15 := by
          have h9 := hK.1.2
          rw [← Nat.add_assoc] at h9
          exact h9
        have hbd : wn (kd (rs I) p q) 4 ≤ 83520 := wn_le (by decide) (fun k hk => by
          have h8 := V.2.2.1 p (q + k) (by omega) (by omega)
          have h9 := h8.1.2
          rw [← Nat.add_assoc] at h9
          exact h9)
        have ewn : wn (kd (rs I) p q) 4 = wn (kd (rs I) p q) 3 + 1 * (kd (rs I) p q 3 + 1) := rfl
        refine r_aload_n dX11_findRows_66 rfl ?_
        refine r_getP dX11_findRows_67 g_X11_16 (S.1 _ _ rfl) rfl (S.2 _ _ _ rfl) ?_
        refine r_bipush dX11_findRows_70 (v := nI 40) (by decide) ?_
        refine r_iload_n dX11_findRows_72 rfl ?_
        first | refine r_imulN dX11_findRows_73 ?_ | refine r_imul dX11_findRows_73 ?_
        refine r_iload_n dX11_findRows_74 rfl ?_
        first | refine r_iaddN dX11_findRows_75 ?_ | refine r_iadd dX11_findRows_75 ?_
        refine r_iload dX11_findRows_76 rfl ?_
        first | refine r_iaddN dX11_findRows_78 ?_ | refine r_iadd dX11_findRows_78 ?_
        refine r_iaload (40 * p + q + 3) dX11_findRows_79 (S.1 _ _ rfl) rfl (by first | decide | omega) (by decide) ?_
        rw [hf.1 3 (by decide) (by decide) (by decide), e3]
        refine r_istore dX11_findRows_80 (Nat.le_of_ble_eq_true rfl) ?_
        dsimp only [List.set]
        refine r_iload dX11_findRows_82 rfl ?_
        refine r_if_eqN 99 dX11_findRows_84 (by decide) (by omega) (fun h84 => ?_) (fun h84 => ?_)
        · exact absurd h84 (by omega)
        · refine r_aload_n dX11_findRows_87 rfl ?_
          refine r_getP dX11_findRows_88 g_X11_94 (S.1 _ _ rfl) rfl (S.2 _ _ _ rfl) ?_
          refine r_iload_n dX11_findRows_91 rfl ?_
          refine r_iload dX11_findRows_92 rfl ?_
          first | refine r_iaddN dX11_findRows_94 ?_ | refine r_iadd dX11_findRows_94 ?_
          refine r_baload _ dX11_findRows_95 (S.1 _ _ rfl) rfl (by first | decide | omega) (by decide) ?_
          refine r_if_ne 103 dX11_findRows_96 (by decide) (fun h96 => ?_) (fun h96 => ?_)
          · have hled : led (rs I) p (q + 3) := (hL _ (by omega)).t h96
            refine r_iconst dX11_findRows_103 (v := nI 0) kc_0 ?_
            refine r_istore dX11_findRows_104 (Nat.le_of_ble_eq_true rfl) ?_
            dsimp only [List.set]
            refine r_iload dX11_findRows_106 rfl ?_
            refine r_if_neN 117 dX11_findRows_108 (by decide) (by omega) (fun h108 => ?_) (fun h108 => ?_)
            · refine r_iload dX11_findRows_117 rfl ?_
              refine r_iconst dX11_findRows_119 (v := nI 1) kc_1 ?_
              refine r_icmp_neN 129 dX11_findRows_120 (by decide) (by omega) (by omega) (fun h120 => ?_) (fun h120 => ?_)
              · refine r_iload dX11_findRows_129 rfl ?_
                refine r_iconst dX11_findRows_131 (v := nI 2) kc_2 ?_
                refine r_icmp_neN 140 dX11_findRows_132 (by decide) (by omega) (by omega) (fun h132 => ?_) (fun h132 => ?_)
                · refine r_iconst dX11_findRows_140 (v := nI 1) kc_1 ?_
                  refine r_istore dX11_findRows_141 (Nat.le_of_ble_eq_true rfl) ?_
                  dsimp only [List.set]
                  refine r_iload_n dX11_findRows_143 rfl ?_
                  refine r_iload dX11_findRows_144 rfl ?_
                  refine r_iload dX11_findRows_146 rfl ?_
                  refine r_iconst dX11_findRows_148 (v := nI 1) kc_1 ?_
                  first | refine r_iaddN dX11_findRows_149 ?_ | refine r_iadd dX11_findRows_149 ?_
                  first | refine r_imulN dX11_findRows_150 ?_ | refine r_imul dX11_findRows_150 ?_
                  first | refine r_iaddN dX11_findRows_151 ?_ | refine r_iadd dX11_findRows_151 ?_
                  rw [← ewn]
                  refine r_istore_n dX11_findRows_152 (Nat.le_of_ble_eq_true rfl) ?_
                  dsimp only [List.set]
                  refine r_iload dX11_findRows_153 rfl ?_
                  refine r_if_eqN 168 dX11_findRows_155 (by decide) (by omega) (fun h155 => ?_) (fun h155 => ?_)
                  · refine r_iload dX11_findRows_168 rfl ?_
                    refine r_if_eqN 185 dX11_findRows_170 (by decide) (by omega) (fun h170 => ?_) (fun h170 => ?_)
                    · refine r_iconst dX11_findRows_185 (v := nI 0) kc_0 ?_
                      refine r_istore dX11_findRows_186 (Nat.le_of_ble_eq_true rfl) ?_
                      dsimp only [List.set]
                      first | refine r_iincN dX11_findRows_188 rfl kc_1 ?_ | refine r_iinc dX11_findRows_188 rfl rfl ?_
                      dsimp only [List.set]
                      refine r_goto 42 dX11_findRows_191 (by decide) ?_
                      exact EX0 _ _ _ _ _ e2H hf hL (fS_W hS (by omega) (wB_more (by decide) (fun L h1 h2 h3 => h3.2.2.1 3 (by omega) (by omega) hled)))
                    · exact absurd h170 (by omega)
                  · exact absurd h155 (by omega)
                · exact absurd h132 (by omega)
              · exact absurd h120 (by omega)
            · exact absurd h108 (by omega)
          · have hled : ¬ led (rs I) p (q + 3) := (hL _ (by omega)).f h96
            refine r_iconst dX11_findRows_99 (v := nI 1) kc_1 ?_
            refine r_goto 104 dX11_findRows_100 (by decide) ?_
            refine r_istore dX11_findRows_104 (Nat.le_of_ble_eq_true rfl) ?_
            dsimp only [List.set]
            refine r_iload dX11_findRows_106 rfl ?_
            refine r_if_neN 117 dX11_findRows_108 (by decide) (by omega) (fun h108 => ?_) (fun h108 => ?_)
            · refine r_iload dX11_findRows_117 rfl ?_
              refine r_iconst dX11_findRows_119 (v := nI 1) kc_1 ?_
              refine r_icmp_neN 129 dX11_findRows_120 (by decide) (by omega) (by omega) (fun h120 => ?_) (fun h120 => ?_)
              · refine r_iload dX11_findRows_129 rfl ?_
                refine r_iconst dX11_findRows_131 (v := nI 2) kc_2 ?_
                refine r_icmp_neN 140 dX11_findRows_132 (by decide) (by omega) (by omega) (fun h132 => ?_) (fun h132 => ?_)
                · refine r_iconst dX11_findRows_140 (v := nI 1) kc_1 ?_
                  refine r_istore dX11_findRows_141 (Nat.le_of_ble_eq_true rfl) ?_
                  dsimp only [List.set]
                  refine r_iload_n dX11_findRows_143 rfl ?_
                  refine r_iload dX11_findRows_144 rfl ?_
                  refine r_iload dX11_findRows_146 rfl ?_
                  refine r_iconst dX11_findRows_148 (v := nI 1) kc_1 ?_
                  first | refine r_iaddN dX11_findRows_149 ?_ | refine r_iadd dX11_findRows_149 ?_
                  first | refine r_imulN dX11_findRows_150 ?_ | refine r_imul dX11_findRows_150 ?_
                  first | refine r_iaddN dX11_findRows_151 ?_ | refine r_iadd dX11_findRows_151 ?_
                  rw [← ewn]
                  refine r_istore_n dX11_findRows_152 (Nat.le_of_ble_eq_true rfl) ?_
                  dsimp only [List.set]
                  refine r_iload dX11_findRows_153 rfl ?_
                  refine r_if_eqN 168 dX11_findRows_155 (by decide) (by omega) (fun h155 => ?_) (fun h155 => ?_)
                  · exact absurd h155 (by omega)
                  · refine r_iload dX11_findRows_158 rfl ?_
                    refine r_if_leN 168 dX11_findRows_160 (by decide) (by omega) (fun h160 => ?_) (fun h160 => ?_)
                    · exact absurd h160 (by omega)
                    · refine r_aload_n dX11_findRows_163 rfl ?_
                      refine r_iload_n dX11_findRows_164 rfl ?_
                      have hwin : winA (rs I) p q 4 := ⟨⟨by decide, by decide⟩, by omega, fun k h1 h2 => by
                          rcases Nat.lt_or_ge k 3 with g | g
                          · exact hl k h1 g
                          · have e : k = 3 := by omega
                            subst e; exact hled, fun k h1 => hi k (by omega)⟩
                      obtain ⟨cn, f, hfn, hfs, hfc⟩ := hS
                      refine r_callV1 (fr' := 0) (lo' := 0) (mc' := 0) (ms' := 0) dX11_findRows_165 mm_X11_putFound mv_X11_putFound l_X11_214 (S.1 _ _ rfl) mc_X11_putFound (by decide) ⟨by decide, by decide⟩ (Nat.zero_le _) (Nat.zero_le _) (Nat.le_of_ble_eq_true rfl) (c_X11_putFound S hfn (by omega) (by omega)) (am_kv ?_)
                      rintro _ G _ ⟨⟨n', f', g1, g2, g3⟩, g4, g5, rfl, rfl⟩
                      have hG : frF I G := ⟨fun r a b c => by rw [g4 r a c]; exact hf.1 r a b c, fun j hj => by rw [g5 j hj]; exact hf.2 j hj⟩
                      have hLG : ∀ t, t < 41 → bo (G 30 t) (led (rs I) p t) := fun t ht => by rw [g4 30 (by decide) (by decide)]; exact hL t ht
                      have hSG : fS G (120 * p + 3 * q + 3) (wB (rs I) p q 4) := ⟨n', f', g1, fun u => (g2 u).trans ((or_congr (hfs u) Iff.rfl).trans (wB_put hp hwin u)), by omega⟩
                      have eG : G 2 p = nI (sz (rs I) p) := by rw [hG.1 2 (by decide) (by decide) (by decide)]; exact e2
                      refine r_iload dX11_findRows_168 rfl ?_
                      refine r_if_eqN 185 dX11_findRows_170 (by decide) (by omega) (fun h170 => ?_) (fun h170 => ?_)
                      · exact absurd h170 (by omega)
                      · refine r_iload dX11_findRows_173 rfl ?_
                        refine r_callS1 (fr' := 0) (lo' := 0) (mc' := 0) (ms' := 0) dX11_findRows_175 mm_X11_isLast ms_X11_isLast l_X11_164 (by decide) ⟨by decide, by decide⟩ (Nat.zero_le _) (Nat.zero_le _) (Nat.le_of_ble_eq_true rfl) (c_X11_isLast (by omega)) (am_ki ?_)
                        rintro v175 _ _ _ ⟨hb175, rfl, rfl, rfl⟩
                        refine r_if_ne 185 dX11_findRows_178 (by decide) (fun h178 => ?_) (fun h178 => ?_)
                        · replace h178 := hb175.t h178
                          refine r_iconst dX11_findRows_185 (v := nI 0) kc_0 ?_
                          refine r_istore dX11_findRows_186 (Nat.le_of_ble_eq_true rfl) ?_
                          dsimp only [List.set]
                          first | refine r_iincN dX11_findRows_188 rfl kc_1 ?_ | refine r_iinc dX11_findRows_188 rfl rfl ?_
                          dsimp only [List.set]
                          refine r_goto 42 dX11_findRows_191 (by decide) ?_
                          first
                            | (exact EX0 _ _ _ _ _ eG hG hLG (fS_W hSG (by omega) (wB_more (by decide) (fun L h1 h2 h3 => h3.2.2.2 3 (by omega) h178))))
                            | (have hl2 : ∀ k, 0 < k → k < 4 → ¬ led (rs I) p (q + k) := fun k h1 h2 => by
                                 rcases Nat.lt_or_ge k 3 with g | g
                                 · exact hl k h1 g
                                 · first
                                     | omega
                                     | (have e : k = 3 := by omega
                                        subst e; exact hled)
                               have hi2 : ∀ k, k < 4 → ¬ isLs (kd (rs I) p q k) := fun k h1 => by
                                 rcases Nat.lt_or_ge k 3 with g | g
                                 · exact hi k g
                                 · have e : k = 3 := by omega
                                   subst e; exact h178
                               refine r_iload dX11_findRows_42 rfl ?_
                               refine r_iconst dX11_findRows_44 (v := nI 4) kc_4 ?_
                               refine r_icmp_geN 194 dX11_findRows_45 (by decide) (by omega) (by omega) (fun h45 => ?_) (fun h45 => ?_)
                               · first | refine r_iincN dX11_findRows_194 rfl kc_1 ?_ | refine r_iinc dX11_findRows_194 rfl rfl ?_
                                 dsimp only [List.set]
                                 refine r_goto 24 dX11_findRows_197 (by decide) ?_
                                 exact K _ _ _ _ _ _ hG hLG hSG
                               · exact absurd h45 (by omega)
                              )
                        · replace h178 := hb175.f h178
                          refine r_iconst dX11_findRows_181 (v := nI 1) kc_1 ?_
                          refine r_goto 186 dX11_findRows_182 (by decide) ?_
                          refine r_istore dX11_findRows_186 (Nat.le_of_ble_eq_true rfl) ?_
                          dsimp only [List.set]
                          first | refine r_iincN dX11_findRows_188 rfl kc_1 ?_ | refine r_iinc dX11_findRows_188 rfl rfl ?_
                          dsimp only [List.set]
                          refine r_goto 42 dX11_findRows_191 (by decide) ?_
                          first
                            | (exact EX0 _ _ _ _ _ eG hG hLG (fS_W hSG (by omega) (wB_more (by decide) (fun L h1 h2 h3 => h3.2.2.2 3 (by omega) h178))))
                            | (have hl2 : ∀ k, 0 < k → k < 4 → ¬ led (rs I) p (q + k) := fun k h1 h2 => by
                                 rcases Nat.lt_or_ge k 3 with g | g
                                 · exact hl k h1 g
                                 · first
                                     | omega
                                     | (have e : k = 3 := by omega
                                        subst e; exact hled)
                               have hi2 : ∀ k, k < 4 → ¬ isLs (kd (rs I) p q k) := fun k h1 => by
                                 rcases Nat.lt_or_ge k 3 with g | g
                                 · exact hi k g
                                 · have e : k = 3 := by omega
                                   subst e; exact h178
                               refine r_iload dX11_findRows_42 rfl ?_
                               refine r_iconst dX11_findRows_44 (v := nI 4) kc_4 ?_
                               refine r_icmp_geN 194 dX11_findRows_45 (by decide) (by omega) (by omega) (fun h45 => ?_) (fun h45 => ?_)
                               · first | refine r_iincN dX11_findRows_194 rfl kc_1 ?_ | refine r_iinc dX11_findRows_194 rfl rfl ?_
                                 dsimp only [List.set]
                                 refine r_goto 24 dX11_findRows_197 (by decide) ?_
                                 exact K _ _ _ _ _ _ hG hLG hSG
                               · exact absurd h45 (by omega)
                              )
                · exact absurd h132 (by omega)
              · exact absurd h120 (by omega)
            · exact absurd h108 (by omega)
theorem l_X11_fr2 (S : St_m sh P) (V : iP (rs I)) {post : APo} {p q : Nat} (hp : p < np (rs I)) (hq : q < sz (rs I) p) (K : ∀ H x3 x4 x5 x6 x7, frF I H → (∀ t, t < 41 → bo (H 30 t) (led (rs I) p t)) → fS H (120 * p + 3 * q + 3) (wB (rs I) p q 4) → am_R mX11_findRows post 1 23 0 0 24 [some (.ref 0), some (.int (nI p)), some (.int (nI (q + 1))), x3, x4, x5, x6, x7] [] sh H P) (H : AIn) (x6 x7 : Option Value) (hf : frF I H) (hL : ∀ t, t < 41 → bo (H 30 t) (led (rs I) p t)) (hS : fS H (120 * p + 3 * q + 1) (wB (rs I) p q 2)) (hl : ∀ k, 0 < k → k < 2 → ¬ led (rs I) p (q + k)) (hi : ∀ k, k < 2 → ¬ isLs (kd (rs I) p q k)) (hqn : q + 2 ≤ sz (rs I) p) : am_R mX11_findRows post 1 23 0 0 42 [some (.ref 0), some (.int (nI p)), some (.int (nI q)), some (.int (nI (wn (kd (rs I) p q) 2))), some (.int (nI 1)), some (.int (nI 2)), x6, x7] [] sh H P := by
  have b1 := V.np.2
  obtain ⟨e2, b2⟩ := V.sz (show p < 3 by omega)
  have e2 : I 2 p = nI (sz (rs I) p) := e2
  have e2H : H 2 p = nI (sz (rs I) p) := by rw [hf.1 2 (by decide) (by decide) (by decide)]; exact e2
  have EX0 : ∀ (G : AIn) (v n : Int32) (y6 y7 : Option Value), G 2 p = nI (sz (rs I) p) → frF I G → (∀ t, t < 41 → bo (G 30 t) (led (rs I) p t)) → fS G (120 * p + 3 * q + 3) (wB (rs I) p q 4) → am_R mX11_findRows post 1 23 0 0 42 [some (.ref 0), some (.int (nI p)), some (.int (nI q)), some (.int v), some (.int (nI 0)), some (.int n), y6, y7] [] sh G P := by
    intro G v n y6 y7 eG hG hLG hSG
    refine r_iload dX11_findRows_42 rfl ?_
    refine r_iconst dX11_findRows_44 (v := nI 4) kc_4 ?_
    refine r_icmp_ge 194 dX11_findRows_45 (by decide) (fun h45 => ?_) (fun h45 => ?_)
    · first | refine r_iincN dX11_findRows_194 rfl kc_1 ?_ | refine r_iinc dX11_findRows_194 rfl rfl ?_
      dsimp only [List.set]
      refine r_goto 24 dX11_findRows_197 (by decide) ?_
      exact K _ _ _ _ _ _ hG hLG hSG
    · refine r_iload dX11_findRows_48 rfl ?_
      refine r_if_eqN 194 dX11_findRows_50 (by decide) (by omega) (fun h50 => ?_) (fun h50 => ?_)
      · first | refine r_iincN dX11_findRows_194 rfl kc_1 ?_ | refine r_iinc dX11_findRows_194 rfl rfl ?_
        dsimp only [List.set]
        refine r_goto 24 dX11_findRows_197 (by decide) ?_
        exact K _ _ _ _ _ _ hG hLG hSG
      · exact absurd h50 (by omega)
  have hw : ∀ L, 2 < L → ¬ (q + 2 < sz (rs I) p) → ¬ winA (rs I) p q L := fun L h1 h2 h3 => h2 (by have := h3.2.1; omega)
  refine r_iload dX11_findRows_42 rfl ?_
  refine r_iconst dX11_findRows_44 (v := nI 4) kc_4 ?_
  refine r_icmp_geN 194 dX11_findRows_45 (by decide) (by omega) (by omega) (fun h45 => ?_) (fun h45 => ?_)
  · exact absurd h45 (by omega)
  · refine r_iload dX11_findRows_48 rfl ?_
    refine r_if_eqN 194 dX11_findRows_50 (by decide) (by omega) (fun h50 => ?_) (fun h50 => ?_)
    · exact absurd h50 (by omega)
    · refine r_iload_n dX11_findRows_53 rfl ?_
      refine r_iload dX11_findRows_54 rfl ?_
      first | refine r_iaddN dX11_findRows_56 ?_ | refine r_iadd dX11_findRows_56 ?_
      refine r_aload_n dX11_findRows_57 rfl ?_
      refine r_getP dX11_findRows_58 g_X11_13 (S.1 _ _ rfl) rfl (S.2 _ _ _ rfl) ?_
      refine r_iload_n dX11_findRows_61 rfl ?_
      refine r_iaload _ dX11_findRows_62 (S.1 _ _ rfl) rfl (by first | decide | omega) (by decide) ?_
      rw [e2H]
      refine r_icmp_geN 194 dX11_findRows_63 (by decide) (by omega) (by omega) (fun h63 => ?_) (fun h63 => ?_)
      · first | refine r_iincN dX11_findRows_194 rfl kc_1 ?_ | refine r_iinc dX11_findRows_194 rfl rfl ?_
        dsimp only [List.set]
        refine r_goto 24 dX11_findRows_197 (by decide) ?_
        exact K _ _ _ _ _ _ hf hL (fS_W hS (by omega) (wB_more (by decide) (fun L h1 h2 => hw L h1 (by omega))))
      · have hK := V.2.2.1 p (q + 2) (by omega) (by omega)
        have e3 : I 3 (40 * p + q + 2) = nI (kd (rs I) p q 2) := by
          have h9 := hK.1.1
          rw [← Nat.add_assoc] at h9
          exact h9
        have b3 : kd (rs I) p q 2 ≤ 15 := by
          have h9 := hK.1.2
          rw [← Nat.add_assoc] at h9
          exact h9
        have hbd : wn (kd (rs I) p q) 3 ≤ 83520 := wn_le (by decide) (fun k hk => by
          have h8 := V.2.2.1 p (q + k) (by omega) (by omega)
          have h9 := h8.1.2
          rw [← Nat.add_assoc] at h9
          exact h9)
        have ewn : wn (kd (rs I) p q) 3 = wn (kd (rs I) p q) 2 + 17 * (kd (rs I) p q 2 + 1) := rfl
        refine r_aload_n dX11_findRows_66 rfl ?_
        refine r_getP dX11_findRows_67 g_X11_16 (S.1 _ _ rfl) rfl (S.2 _ _ _ rfl) ?_
        refine r_bipush dX11_findRows_70 (v := nI 40) (by decide) ?_
        refine r_iload_n dX11_findRows_72 rfl ?_
        first | refine r_imulN dX11_findRows_73 ?_ | refine r_imul dX11_findRows_73 ?_
        refine r_iload_n dX11_findRows_74 rfl ?_
        first | refine r_iaddN dX11_findRows_75 ?_ | refine r_iadd dX11_findRows_75 ?_
        refine r_iload dX11_findRows_76 rfl ?_
        first | refine r_iaddN dX11_findRows_78 ?_ | refine r_iadd dX11_findRows_78 ?_
        refine r_iaload (40 * p + q + 2) dX11_findRows_79 (S.1 _ _ rfl) rfl (by first | decide | omega) (by decide) ?_
        rw [hf.1 3 (by decide) (by decide) (by decide), e3]
        refine r_istore dX11_findRows_80 (Nat.le_of_ble_eq_true rfl) ?_
        dsimp only [List.set]
        refine r_iload dX11_findRows_82 rfl ?_
        refine r_if_eqN 99 dX11_findRows_84 (by decide) (by omega) (fun h84 => ?_) (fun h84 => ?_)
        · exact absurd h84 (by omega)
        · refine r_aload_n dX11_findRows_87 rfl ?_
          refine r_getP dX11_findRows_88 g_X11_94 (S.1 _ _ rfl) rfl (S.2 _ _ _ rfl) ?_
          refine r_iload_n dX11_findRows_91 rfl ?_
          refine r_iload dX11_findRows_92 rfl ?_
          first | refine r_iaddN dX11_findRows_94 ?_ | refine r_iadd dX11_findRows_94 ?_
          refine r_baload _ dX11_findRows_95 (S.1 _ _ rfl) rfl (by first | decide | omega) (by decide) ?_
          refine r_if_ne 103 dX11_findRows_96 (by decide) (fun h96 => ?_) (fun h96 => ?_)
          · have hled : led (rs I) p (q + 2) := (hL _ (by omega)).t h96
            refine r_iconst dX11_findRows_103 (v := nI 0) kc_0 ?_
            refine r_istore dX11_findRows_104 (Nat.le_of_ble_eq_true rfl) ?_
            dsimp only [List.set]
            refine r_iload dX11_findRows_106 rfl ?_
            refine r_if_neN 117 dX11_findRows_108 (by decide) (by omega) (fun h108 => ?_) (fun h108 => ?_)
            · refine r_iload dX11_findRows_117 rfl ?_
              refine r_iconst dX11_findRows_119 (v := nI 1) kc_1 ?_
              refine r_icmp_neN 129 dX11_findRows_120 (by decide) (by omega) (by omega) (fun h120 => ?_) (fun h120 => ?_)
              · refine r_iload dX11_findRows_129 rfl ?_
                refine r_iconst dX11_findRows_131 (v := nI 2) kc_2 ?_
                refine r_icmp_neN 140 dX11_findRows_132 (by decide) (by omega) (by omega) (fun h132 => ?_) (fun h132 => ?_)
                · exact absurd h132 (by omega)
                · refine r_bipush dX11_findRows_135 (v := nI 17) (by decide) ?_
                  refine r_goto 141 dX11_findRows_137 (by decide) ?_
                  refine r_istore dX11_findRows_141 (Nat.le_of_ble_eq_true rfl) ?_
                  dsimp only [List.set]
                  refine r_iload_n dX11_findRows_143 rfl ?_
                  refine r_iload dX11_findRows_144 rfl ?_
                  refine r_iload dX11_findRows_146 rfl ?_
                  refine r_iconst dX11_findRows_148 (v := nI 1) kc_1 ?_
                  first | refine r_iaddN dX11_findRows_149 ?_ | refine r_iadd dX11_findRows_149 ?_
                  first | refine r_imulN dX11_findRows_150 ?_ | refine r_imul dX11_findRows_150 ?_
                  first | refine r_iaddN dX11_findRows_151 ?_ | refine r_iadd dX11_findRows_151 ?_
                  rw [← ewn]
                  refine r_istore_n dX11_findRows_152 (Nat.le_of_ble_eq_true rfl) ?_
                  dsimp only [List.set]
                  refine r_iload dX11_findRows_153 rfl ?_
                  refine r_if_eqN 168 dX11_findRows_155 (by decide) (by omega) (fun h155 => ?_) (fun h155 => ?_)
                  · refine r_iload dX11_findRows_168 rfl ?_
                    refine r_if_eqN 185 dX11_findRows_170 (by decide) (by omega) (fun h170 => ?_) (fun h170 => ?_)
                    · refine r_iconst dX11_findRows_185 (v := nI 0) kc_0 ?_
                      refine r_istore dX11_findRows_186 (Nat.le_of_ble_eq_true rfl) ?_
                      dsimp only [List.set]
                      first | refine r_iincN dX11_findRows_188 rfl kc_1 ?_ | refine r_iinc dX11_findRows_188 rfl rfl ?_
                      dsimp only [List.set]
                      refine r_goto 42 dX11_findRows_191 (by decide) ?_
                      exact EX0 _ _ _ _ _ e2H hf hL (fS_W hS (by omega) (wB_more (by decide) (fun L h1 h2 h3 => h3.2.2.1 2 (by omega) (by omega) hled)))
                    · exact absurd h170 (by omega)
                  · exact absurd h155 (by omega)
              · exact absurd h120 (by omega)
            · exact absurd h108 (by omega)
          · have hled : ¬ led (rs I) p (q + 2) := (hL _ (by omega)).f h96
            refine r_iconst dX11_findRows_99 (v := nI 1) kc_1 ?_
            refine r_goto 104 dX11_findRows_100 (by decide) ?_
            refine r_istore dX11_findRows_104 (Nat.le_of_ble_eq_true rfl) ?_
            dsimp only [List.set]
            refine r_iload dX11_findRows_106 rfl ?_
            refine r_if_neN 117 dX11_findRows_108 (by decide) (by omega) (fun h108 => ?_) (fun h108 => ?_)
            · refine r_iload dX11_findRows_117 rfl ?_
              refine r_iconst dX11_findRows_119 (v := nI 1) kc_1 ?_
              refine r_icmp_neN 129 dX11_findRows_120 (by decide) (by omega) (by omega) (fun h120 => ?_) (fun h120 => ?_)
              · refine r_iload dX11_findRows_129 rfl ?_
                refine r_iconst dX11_findRows_131 (v := nI 2) kc_2 ?_
                refine r_icmp_neN 140 dX11_findRows_132 (by decide) (by omega) (by omega) (fun h132 => ?_) (fun h132 => ?_)
                · exact absurd h132 (by omega)
                · refine r_bipush dX11_findRows_135 (v := nI 17) (by decide) ?_
                  refine r_goto 141 dX11_findRows_137 (by decide) ?_
                  refine r_istore dX11_findRows_141 (Nat.le_of_ble_eq_true rfl) ?_
                  dsimp only [List.set]
                  refine r_iload_n dX11_findRows_143 rfl ?_
                  refine r_iload dX11_findRows_144 rfl ?_
                  refine r_iload dX11_findRows_146 rfl ?_
                  refine r_iconst dX11_findRows_148 (v := nI 1) kc_1 ?_
                  first | refine r_iaddN dX11_findRows_149 ?_ | refine r_iadd dX11_findRows_149 ?_
                  first | refine r_imulN dX11_findRows_150 ?_ | refine r_imul dX11_findRows_150 ?_
                  first | refine r_iaddN dX11_findRows_151 ?_ | refine r_iadd dX11_findRows_151 ?_
                  rw [← ewn]
                  refine r_istore_n dX11_findRows_152 (Nat.le_of_ble_eq_true rfl) ?_
                  dsimp only [List.set]
                  refine r_iload dX11_findRows_153 rfl ?_
                  refine r_if_eqN 168 dX11_findRows_155 (by decide) (by omega) (fun h155 => ?_) (fun h155 => ?_)
                  · exact absurd h155 (by omega)
                  · refine r_iload dX11_findRows_158 rfl ?_
                    refine r_if_leN 168 dX11_findRows_160 (by decide) (by omega) (fun h160 => ?_) (fun h160 => ?_)
                    · exact absurd h160 (by omega)
                    · refine r_aload_n dX11_findRows_163 rfl ?_
                      refine r_iload_n dX11_findRows_164 rfl ?_
                      have hwin : winA (rs I) p q 3 := ⟨⟨by decide, by decide⟩, by omega, fun k h1 h2 => by
                          rcases Nat.lt_or_ge k 2 with g | g
                          · exact hl k h1 g
                          · have e : k = 2 := by omega
                            subst e; exact hled, fun k h1 => hi k (by omega)⟩
                      obtain ⟨cn, f, hfn, hfs, hfc⟩ := hS
                      refine r_callV1 (fr' := 0) (lo' := 0) (mc' := 0) (ms' := 0) dX11_findRows_165 mm_X11_putFound mv_X11_putFound l_X11_214 (S.1 _ _ rfl) mc_X11_putFound (by decide) ⟨by decide, by decide⟩ (Nat.zero_le _) (Nat.zero_le _) (Nat.le_of_ble_eq_true rfl) (c_X11_putFound S hfn (by omega) (by omega)) (am_kv ?_)
                      rintro _ G _ ⟨⟨n', f', g1, g2, g3⟩, g4, g5, rfl, rfl⟩
                      have hG : frF I G := ⟨fun r a b c => by rw [g4 r a c]; exact hf.1 r a b c, fun j hj => by rw [g5 j hj]; exact hf.2 j hj⟩
                      have hLG : ∀ t, t < 41 → bo (G 30 t) (led (rs I) p t) := fun t ht => by rw [g4 30 (by decide) (by decide)]; exact hL t ht
                      have hSG : fS G (120 * p + 3 * q + 2) (wB (rs I) p q 3) := ⟨n', f', g1, fun u => (g2 u).trans ((or_congr (hfs u) Iff.rfl).trans (wB_put hp hwin u)), by omega⟩
                      have eG : G 2 p = nI (sz (rs I) p) := by rw [hG.1 2 (by decide) (by decide) (by decide)]; exact e2
                      refine r_iload dX11_findRows_168 rfl ?_
                      refine r_if_eqN 185 dX11_findRows_170 (by decide) (by omega) (fun h170 => ?_) (fun h170 => ?_)
                      · exact absurd h170 (by omega)
                      · refine r_iload dX11_findRows_173 rfl ?_
                        refine r_callS1 (fr' := 0) (lo' := 0) (mc' := 0) (ms' := 0) dX11_findRows_175 mm_X11_isLast ms_X11_isLast l_X11_164 (by decide) ⟨by decide, by decide⟩ (Nat.zero_le _) (Nat.zero_le _) (Nat.le_of_ble_eq_true rfl) (c_X11_isLast (by omega)) (am_ki ?_)
                        rintro v175 _ _ _ ⟨hb175, rfl, rfl, rfl⟩
                        refine r_if_ne 185 dX11_findRows_178 (by decide) (fun h178 => ?_) (fun h178 => ?_)
                        · replace h178 := hb175.t h178
                          refine r_iconst dX11_findRows_185 (v := nI 0) kc_0 ?_
                          refine r_istore dX11_findRows_186 (Nat.le_of_ble_eq_true rfl) ?_
                          dsimp only [List.set]
                          first | refine r_iincN dX11_findRows_188 rfl kc_1 ?_ | refine r_iinc dX11_findRows_188 rfl rfl ?_
                          dsimp only [List.set]
                          refine r_goto 42 dX11_findRows_191 (by decide) ?_
                          first
                            | (exact EX0 _ _ _ _ _ eG hG hLG (fS_W hSG (by omega) (wB_more (by decide) (fun L h1 h2 h3 => h3.2.2.2 2 (by omega) h178))))
                            | (have hl2 : ∀ k, 0 < k → k < 3 → ¬ led (rs I) p (q + k) := fun k h1 h2 => by
                                 rcases Nat.lt_or_ge k 2 with g | g
                                 · exact hl k h1 g
                                 · first
                                     | omega
                                     | (have e : k = 2 := by omega
                                        subst e; exact hled)
                               have hi2 : ∀ k, k < 3 → ¬ isLs (kd (rs I) p q k) := fun k h1 => by
                                 rcases Nat.lt_or_ge k 2 with g | g
                                 · exact hi k g
                                 · have e : k = 2 := by omega
                                   subst e; exact h178
                               exact l_X11_fr3 S V hp hq K _ _ _ hG hLG hSG hl2 hi2 (by omega)
                              )
                        · replace h178 := hb175.f h178
                          refine r_iconst dX11_findRows_181 (v := nI 1) kc_1 ?_
                          refine r_goto 186 dX11_findRows_182 (by decide) ?_
                          refine r_istore dX11_findRows_186 (Nat.le_of_ble_eq_true rfl) ?_
                          dsimp only [List.set]
                          first | refine r_iincN dX11_findRows_188 rfl kc_1 ?_ | refine r_iinc dX11_findRows_188 rfl rfl ?_
                          dsimp only [List.set]
                          refine r_goto 42 dX11_findRows_191 (by decide) ?_
                          first
                            | (exact EX0 _ _ _ _ _ eG hG hLG (fS_W hSG (by omega) (wB_more (by decide) (fun L h1 h2 h3 => h3.2.2.2 2 (by omega) h178))))
                            | (have hl2 : ∀ k, 0 < k → k < 3 → ¬ led (rs I) p (q + k) := fun k h1 h2 => by
                                 rcases Nat.lt_or_ge k 2 with g | g
                                 · exact hl k h1 g
                                 · first
                                     | omega
                                     | (have e : k = 2 := by omega
                                        subst e; exact hled)
                               have hi2 : ∀ k, k < 3 → ¬ isLs (kd (rs I) p q k) := fun k h1 => by
                                 rcases Nat.lt_or_ge k 2 with g | g
                                 · exact hi k g
                                 · have e : k = 2 := by omega
                                   subst e; exact h178
                               exact l_X11_fr3 S V hp hq K _ _ _ hG hLG hSG hl2 hi2 (by omega)
                              )
              · exact absurd h120 (by omega)
            · exact absurd h108 (by omega)
theorem l_X11_fr1 (S : St_m sh P) (V : iP (rs I)) {post : APo} {p q : Nat} (hp : p < np (rs I)) (hq : q < sz (rs I) p) (K : ∀ H x3 x4 x5 x6 x7, frF I H → (∀ t, t < 41 → bo (H 30 t) (led (rs I) p t)) → fS H (120 * p + 3 * q + 3) (wB (rs I) p q 4) → am_R mX11_findRows post 1 23 0 0 24 [some (.ref 0), some (.int (nI p)), some (.int (nI (q + 1))), x3, x4, x5, x6, x7] [] sh H P) (H : AIn) (x6 x7 : Option Value) (hf : frF I H) (hL : ∀ t, t < 41 → bo (H 30 t) (led (rs I) p t)) (hS : fS H (120 * p + 3 * q + 0) (wB (rs I) p q 1)) (hl : ∀ k, 0 < k → k < 1 → ¬ led (rs I) p (q + k)) (hi : ∀ k, k < 1 → ¬ isLs (kd (rs I) p q k)) (hqn : q + 1 ≤ sz (rs I) p) : am_R mX11_findRows post 1 23 0 0 42 [some (.ref 0), some (.int (nI p)), some (.int (nI q)), some (.int (nI (wn (kd (rs I) p q) 1))), some (.int (nI 1)), some (.int (nI 1)), x6, x7] [] sh H P := by
  have b1 := V.np.2
  obtain ⟨e2, b2⟩ := V.sz (show p < 3 by omega)
  have e2 : I 2 p = nI (sz (rs I) p) := e2
  have e2H : H 2 p = nI (sz (rs I) p) := by rw [hf.1 2 (by decide) (by decide) (by decide)]; exact e2
  have EX0 : ∀ (G : AIn) (v n : Int32) (y6 y7 : Option Value), G 2 p = nI (sz (rs I) p) → frF I G → (∀ t, t < 41 → bo (G 30 t) (led (rs I) p t)) → fS G (120 * p + 3 * q + 3) (wB (rs I) p q 4) → am_R mX11_findRows post 1 23 0 0 42 [some (.ref 0), some (.int (nI p)), some (.int (nI q)), some (.int v), some (.int (nI 0)), some (.int n), y6, y7] [] sh G P := by
    intro G v n y6 y7 eG hG hLG hSG
    refine r_iload dX11_findRows_42 rfl ?_
    refine r_iconst dX11_findRows_44 (v := nI 4) kc_4 ?_
    refine r_icmp_ge 194 dX11_findRows_45 (by decide) (fun h45 => ?_) (fun h45 => ?_)
    · first | refine r_iincN dX11_findRows_194 rfl kc_1 ?_ | refine r_iinc dX11_findRows_194 rfl rfl ?_
      dsimp only [List.set]
      refine r_goto 24 dX11_findRows_197 (by decide) ?_
      exact K _ _ _ _ _ _ hG hLG hSG
    · refine r_iload dX11_findRows_48 rfl ?_
      refine r_if_eqN 194 dX11_findRows_50 (by decide) (by omega) (fun h50 => ?_) (fun h50 => ?_)
      · first | refine r_iincN dX11_findRows_194 rfl kc_1 ?_ | refine r_iinc dX11_findRows_194 rfl rfl ?_
        dsimp only [List.set]
        refine r_goto 24 dX11_findRows_197 (by decide) ?_
        exact K _ _ _ _ _ _ hG hLG hSG
      · exact absurd h50 (by omega)
  have hw : ∀ L, 1 < L → ¬ (q + 1 < sz (rs I) p) → ¬ winA (rs I) p q L := fun L h1 h2 h3 => h2 (by have := h3.2.1; omega)
  refine r_iload dX11_findRows_42 rfl ?_
  refine r_iconst dX11_findRows_44 (v := nI 4) kc_4 ?_
  refine r_icmp_geN 194 dX11_findRows_45 (by decide) (by omega) (by omega) (fun h45 => ?_) (fun h45 => ?_)
  · exact absurd h45 (by omega)
  · refine r_iload dX11_findRows_48 rfl ?_
    refine r_if_eqN 194 dX11_findRows_50 (by decide) (by omega) (fun h50 => ?_) (fun h50 => ?_)
    · exact absurd h50 (by omega)
    · refine r_iload_n dX11_findRows_53 rfl ?_
      refine r_iload dX11_findRows_54 rfl ?_
      first | refine r_iaddN dX11_findRows_56 ?_ | refine r_iadd dX11_findRows_56 ?_
      refine r_aload_n dX11_findRows_57 rfl ?_
      refine r_getP dX11_findRows_58 g_X11_13 (S.1 _ _ rfl) rfl (S.2 _ _ _ rfl) ?_
      refine r_iload_n dX11_findRows_61 rfl ?_
      refine r_iaload _ dX11_findRows_62 (S.1 _ _ rfl) rfl (by first | decide | omega) (by decide) ?_
      rw [e2H]
      refine r_icmp_geN 194 dX11_findRows_63 (by decide) (by omega) (by omega) (fun h63 => ?_) (fun h63 => ?_)
      · first | refine r_iincN dX11_findRows_194 rfl kc_1 ?_ | refine r_iinc dX11_findRows_194 rfl rfl ?_
        dsimp only [List.set]
        refine r_goto 24 dX11_findRows_197 (by decide) ?_
        exact K _ _ _ _ _ _ hf hL (fS_W hS (by omega) (wB_more (by decide) (fun L h1 h2 => hw L h1 (by omega))))
      · have hK := V.2.2.1 p (q + 1) (by omega) (by omega)
        have e3 : I 3 (40 * p + q + 1) = nI (kd (rs I) p q 1) := by
          have h9 := hK.1.1
          rw [← Nat.add_assoc] at h9
          exact h9
        have b3 : kd (rs I) p q 1 ≤ 15 := by
          have h9 := hK.1.2
          rw [← Nat.add_assoc] at h9
          exact h9
        have hbd : wn (kd (rs I) p q) 2 ≤ 83520 := wn_le (by decide) (fun k hk => by
          have h8 := V.2.2.1 p (q + k) (by omega) (by omega)
          have h9 := h8.1.2
          rw [← Nat.add_assoc] at h9
          exact h9)
        have ewn : wn (kd (rs I) p q) 2 = wn (kd (rs I) p q) 1 + 289 * (kd (rs I) p q 1 + 1) := rfl
        refine r_aload_n dX11_findRows_66 rfl ?_
        refine r_getP dX11_findRows_67 g_X11_16 (S.1 _ _ rfl) rfl (S.2 _ _ _ rfl) ?_
        refine r_bipush dX11_findRows_70 (v := nI 40) (by decide) ?_
        refine r_iload_n dX11_findRows_72 rfl ?_
        first | refine r_imulN dX11_findRows_73 ?_ | refine r_imul dX11_findRows_73 ?_
        refine r_iload_n dX11_findRows_74 rfl ?_
        first | refine r_iaddN dX11_findRows_75 ?_ | refine r_iadd dX11_findRows_75 ?_
        refine r_iload dX11_findRows_76 rfl ?_
        first | refine r_iaddN dX11_findRows_78 ?_ | refine r_iadd dX11_findRows_78 ?_
        refine r_iaload (40 * p + q + 1) dX11_findRows_79 (S.1 _ _ rfl) rfl (by first | decide | omega) (by decide) ?_
        rw [hf.1 3 (by decide) (by decide) (by decide), e3]
        refine r_istore dX11_findRows_80 (Nat.le_of_ble_eq_true rfl) ?_
        dsimp only [List.set]
        refine r_iload dX11_findRows_82 rfl ?_
        refine r_if_eqN 99 dX11_findRows_84 (by decide) (by omega) (fun h84 => ?_) (fun h84 => ?_)
        · exact absurd h84 (by omega)
        · refine r_aload_n dX11_findRows_87 rfl ?_
          refine r_getP dX11_findRows_88 g_X11_94 (S.1 _ _ rfl) rfl (S.2 _ _ _ rfl) ?_
          refine r_iload_n dX11_findRows_91 rfl ?_
          refine r_iload dX11_findRows_92 rfl ?_
          first | refine r_iaddN dX11_findRows_94 ?_ | refine r_iadd dX11_findRows_94 ?_
          refine r_baload _ dX11_findRows_95 (S.1 _ _ rfl) rfl (by first | decide | omega) (by decide) ?_
          refine r_if_ne 103 dX11_findRows_96 (by decide) (fun h96 => ?_) (fun h96 => ?_)
          · have hled : led (rs I) p (q + 1) := (hL _ (by omega)).t h96
            refine r_iconst dX11_findRows_103 (v := nI 0) kc_0 ?_
            refine r_istore dX11_findRows_104 (Nat.le_of_ble_eq_true rfl) ?_
            dsimp only [List.set]
            refine r_iload dX11_findRows_106 rfl ?_
            refine r_if_neN 117 dX11_findRows_108 (by decide) (by omega) (fun h108 => ?_) (fun h108 => ?_)
            · refine r_iload dX11_findRows_117 rfl ?_
              refine r_iconst dX11_findRows_119 (v := nI 1) kc_1 ?_
              refine r_icmp_neN 129 dX11_findRows_120 (by decide) (by omega) (by omega) (fun h120 => ?_) (fun h120 => ?_)
              · exact absurd h120 (by omega)
              · refine r_sipush dX11_findRows_123 (v := nI 289) (by decide) ?_
                refine r_goto 141 dX11_findRows_126 (by decide) ?_
                refine r_istore dX11_findRows_141 (Nat.le_of_ble_eq_true rfl) ?_
                dsimp only [List.set]
                refine r_iload_n dX11_findRows_143 rfl ?_
                refine r_iload dX11_findRows_144 rfl ?_
                refine r_iload dX11_findRows_146 rfl ?_
                refine r_iconst dX11_findRows_148 (v := nI 1) kc_1 ?_
                first | refine r_iaddN dX11_findRows_149 ?_ | refine r_iadd dX11_findRows_149 ?_
                first | refine r_imulN dX11_findRows_150 ?_ | refine r_imul dX11_findRows_150 ?_
                first | refine r_iaddN dX11_findRows_151 ?_ | refine r_iadd dX11_findRows_151 ?_
                rw [← ewn]
                refine r_istore_n dX11_findRows_152 (Nat.le_of_ble_eq_true rfl) ?_
                dsimp only [List.set]
                refine r_iload dX11_findRows_153 rfl ?_
                refine r_if_eqN 168 dX11_findRows_155 (by decide) (by omega) (fun h155 => ?_) (fun h155 => ?_)
                · refine r_iload dX11_findRows_168 rfl ?_
                  refine r_if_eqN 185 dX11_findRows_170 (by decide) (by omega) (fun h170 => ?_) (fun h170 => ?_)
                  · refine r_iconst dX11_findRows_185 (v := nI 0) kc_0 ?_
                    refine r_istore dX11_findRows_186 (Nat.le_of_ble_eq_true rfl) ?_
                    dsimp only [List.set]
                    first | refine r_iincN dX11_findRows_188 rfl kc_1 ?_ | refine r_iinc dX11_findRows_188 rfl rfl ?_
                    dsimp only [List.set]
                    refine r_goto 42 dX11_findRows_191 (by decide) ?_
                    exact EX0 _ _ _ _ _ e2H hf hL (fS_W hS (by omega) (wB_more (by decide) (fun L h1 h2 h3 => h3.2.2.1 1 (by omega) (by omega) hled)))
                  · exact absurd h170 (by omega)
                · exact absurd h155 (by omega)
            · exact absurd h108 (by omega)
          · have hled : ¬ led (rs I) p (q + 1) := (hL _ (by omega)).f h96
            refine r_iconst dX11_findRows_99 (v := nI 1) kc_1 ?_
            refine r_goto 104 dX11_findRows_100 (by decide) ?_
            refine r_istore dX11_findRows_104 (Nat.le_of_ble_eq_true rfl) ?_
            dsimp only [List.set]
            refine r_iload dX11_findRows_106 rfl ?_
            refine r_if_neN 117 dX11_findRows_108 (by decide) (by omega) (fun h108 => ?_) (fun h108 => ?_)
            · refine r_iload dX11_findRows_117 rfl ?_
              refine r_iconst dX11_findRows_119 (v := nI 1) kc_1 ?_
              refine r_icmp_neN 129 dX11_findRows_120 (by decide) (by omega) (by omega) (fun h120 => ?_) (fun h120 => ?_)
              · exact absurd h120 (by omega)
              · refine r_sipush dX11_findRows_123 (v := nI 289) (by decide) ?_
                refine r_goto 141 dX11_findRows_126 (by decide) ?_
                refine r_istore dX11_findRows_141 (Nat.le_of_ble_eq_true rfl) ?_
                dsimp only [List.set]
                refine r_iload_n dX11_findRows_143 rfl ?_
                refine r_iload dX11_findRows_144 rfl ?_
                refine r_iload dX11_findRows_146 rfl ?_
                refine r_iconst dX11_findRows_148 (v := nI 1) kc_1 ?_
                first | refine r_iaddN dX11_findRows_149 ?_ | refine r_iadd dX11_findRows_149 ?_
                first | refine r_imulN dX11_findRows_150 ?_ | refine r_imul dX11_findRows_150 ?_
                first | refine r_iaddN dX11_findRows_151 ?_ | refine r_iadd dX11_findRows_151 ?_
                rw [← ewn]
                refine r_istore_n dX11_findRows_152 (Nat.le_of_ble_eq_true rfl) ?_
                dsimp only [List.set]
                refine r_iload dX11_findRows_153 rfl ?_
                refine r_if_eqN 168 dX11_findRows_155 (by decide) (by omega) (fun h155 => ?_) (fun h155 => ?_)
                · exact absurd h155 (by omega)
                · refine r_iload dX11_findRows_158 rfl ?_
                  refine r_if_leN 168 dX11_findRows_160 (by decide) (by omega) (fun h160 => ?_) (fun h160 => ?_)
                  · exact absurd h160 (by omega)
                  · refine r_aload_n dX11_findRows_163 rfl ?_
                    refine r_iload_n dX11_findRows_164 rfl ?_
                    have hwin : winA (rs I) p q 2 := ⟨⟨by decide, by decide⟩, by omega, fun k h1 h2 => by
                        rcases Nat.lt_or_ge k 1 with g | g
                        · exact hl k h1 g
                        · have e : k = 1 := by omega
                          subst e; exact hled, fun k h1 => hi k (by omega)⟩
                    obtain ⟨cn, f, hfn, hfs, hfc⟩ := hS
                    refine r_callV1 (fr' := 0) (lo' := 0) (mc' := 0) (ms' := 0) dX11_findRows_165 mm_X11_putFound mv_X11_putFound l_X11_214 (S.1 _ _ rfl) mc_X11_putFound (by decide) ⟨by decide, by decide⟩ (Nat.zero_le _) (Nat.zero_le _) (Nat.le_of_ble_eq_true rfl) (c_X11_putFound S hfn (by omega) (by omega)) (am_kv ?_)
                    rintro _ G _ ⟨⟨n', f', g1, g2, g3⟩, g4, g5, rfl, rfl⟩
                    have hG : frF I G := ⟨fun r a b c => by rw [g4 r a c]; exact hf.1 r a b c, fun j hj => by rw [g5 j hj]; exact hf.2 j hj⟩
                    have hLG : ∀ t, t < 41 → bo (G 30 t) (led (rs I) p t) := fun t ht => by rw [g4 30 (by decide) (by decide)]; exact hL t ht
                    have hSG : fS G (120 * p + 3 * q + 1) (wB (rs I) p q 2) := ⟨n', f', g1, fun u => (g2 u).trans ((or_congr (hfs u) Iff.rfl).trans (wB_put hp hwin u)), by omega⟩
                    have eG : G 2 p = nI (sz (rs I) p) := by rw [hG.1 2 (by decide) (by decide) (by decide)]; exact e2
                    refine r_iload dX11_findRows_168 rfl ?_
                    refine r_if_eqN 185 dX11_findRows_170 (by decide) (by omega) (fun h170 => ?_) (fun h170 => ?_)
                    · exact absurd h170 (by omega)
                    · refine r_iload dX11_findRows_173 rfl ?_
                      refine r_callS1 (fr' := 0) (lo' := 0) (mc' := 0) (ms' := 0) dX11_findRows_175 mm_X11_isLast ms_X11_isLast l_X11_164 (by decide) ⟨by decide, by decide⟩ (Nat.zero_le _) (Nat.zero_le _) (Nat.le_of_ble_eq_true rfl) (c_X11_isLast (by omega)) (am_ki ?_)
                      rintro v175 _ _ _ ⟨hb175, rfl, rfl, rfl⟩
                      refine r_if_ne 185 dX11_findRows_178 (by decide) (fun h178 => ?_) (fun h178 => ?_)
                      · replace h178 := hb175.t h178
                        refine r_iconst dX11_findRows_185 (v := nI 0) kc_0 ?_
                        refine r_istore dX11_findRows_186 (Nat.le_of_ble_eq_true rfl) ?_
                        dsimp only [List.set]
                        first | refine r_iincN dX11_findRows_188 rfl kc_1 ?_ | refine r_iinc dX11_findRows_188 rfl rfl ?_
                        dsimp only [List.set]
                        refine r_goto 42 dX11_findRows_191 (by decide) ?_
                        first
                          | (exact EX0 _ _ _ _ _ eG hG hLG (fS_W hSG (by omega) (wB_more (by decide) (fun L h1 h2 h3 => h3.2.2.2 1 (by omega) h178))))
                          | (have hl2 : ∀ k, 0 < k → k < 2 → ¬ led (rs I) p (q + k) := fun k h1 h2 => by
                               rcases Nat.lt_or_ge k 1 with g | g
                               · exact hl k h1 g
                               · first
                                   | omega
                                   | (have e : k = 1 := by omega
                                      subst e; exact hled)
                             have hi2 : ∀ k, k < 2 → ¬ isLs (kd (rs I) p q k) := fun k h1 => by
                               rcases Nat.lt_or_ge k 1 with g | g
                               · exact hi k g
                               · have e : k = 1 := by omega
                                 subst e; exact h178
                             exact l_X11_fr2 S V hp hq K _ _ _ hG hLG hSG hl2 hi2 (by omega)
                            )
                      · replace h178 := hb175.f h178
                        refine r_iconst dX11_findRows_181 (v := nI 1) kc_1 ?_
                        refine r_goto 186 dX11_findRows_182 (by decide) ?_
                        refine r_istore dX11_findRows_186 (Nat.le_of_ble_eq_true rfl) ?_
                        dsimp only [List.set]
                        first | refine r_iincN dX11_findRows_188 rfl kc_1 ?_ | refine r_iinc dX11_findRows_188 rfl rfl ?_
                        dsimp only [List.set]
                        refine r_goto 42 dX11_findRows_191 (by decide) ?_
                        first
                          | (exact EX0 _ _ _ _ _ eG hG hLG (fS_W hSG (by omega) (wB_more (by decide) (fun L h1 h2 h3 => h3.2.2.2 1 (by omega) h178))))
                          | (have hl2 : ∀ k, 0 < k → k < 2 → ¬ led (rs I) p (q + k) := fun k h1 h2 => by
                               rcases Nat.lt_or_ge k 1 with g | g
                               · exact hl k h1 g
                               · first
                                   | omega
                                   | (have e : k = 1 := by omega
                                      subst e; exact hled)
                             have hi2 : ∀ k, k < 2 → ¬ isLs (kd (rs I) p q k) := fun k h1 => by
                               rcases Nat.lt_or_ge k 1 with g | g
                               · exact hi k g
                               · have e : k = 1 := by omega
                                 subst e; exact h178
                             exact l_X11_fr2 S V hp hq K _ _ _ hG hLG hSG hl2 hi2 (by omega)
                            )
            · exact absurd h108 (by omega)
theorem l_X11_fr0 (S : St_m sh P) (V : iP (rs I)) {post : APo} {p q : Nat} (hp : p < np (rs I)) (hq : q < sz (rs I) p) (K : ∀ H x3 x4 x5 x6 x7, frF I H → (∀ t, t < 41 → bo (H 30 t) (led (rs I) p t)) → fS H (120 * p + 3 * q + 3) (wB (rs I) p q 4) → am_R mX11_findRows post 1 23 0 0 24 [some (.ref 0), some (.int (nI p)), some (.int (nI (q + 1))), x3, x4, x5, x6, x7] [] sh H P) (H : AIn) (x6 x7 : Option Value) (hf : frF I H) (hL : ∀ t, t < 41 → bo (H 30 t) (led (rs I) p t)) (hS : fS H (120 * p + 3 * q + 0) (wB (rs I) p q 0)) (hl : ∀ k, 0 < k → k < 0 → ¬ led (rs I) p (q + k)) (hi : ∀ k, k < 0 → ¬ isLs (kd (rs I) p q k)) (hqn : q + 0 ≤ sz (rs I) p) : am_R mX11_findRows post 1 23 0 0 42 [some (.ref 0), some (.int (nI p)), some (.int (nI q)), some (.int (nI (wn (kd (rs I) p q) 0))), some (.int (nI 1)), some (.int (nI 0)), x6, x7] [] sh H P := by
  have b1 := V.np.2
  obtain ⟨e2, b2⟩ := V.sz (show p < 3 by omega)
  have e2 : I 2 p = nI (sz (rs I) p) := e2
  have e2H : H 2 p = nI (sz (rs I) p) := by rw [hf.1 2 (by decide) (by decide) (by decide)]; exact e2
  have EX0 : ∀ (G : AIn) (v n : Int32) (y6 y7 : Option Value), G 2 p = nI (sz (rs I) p) → frF I G → (∀ t, t < 41 → bo (G 30 t) (led (rs I) p t)) → fS G (120 * p + 3 * q + 3) (wB (rs I) p q 4) → am_R mX11_findRows post 1 23 0 0 42 [some (.ref 0), some (.int (nI p)), some (.int (nI q)), some (.int v), some (.int (nI 0)), some (.int n), y6, y7] [] sh G P := by
    intro G v n y6 y7 eG hG hLG hSG
    refine r_iload dX11_findRows_42 rfl ?_
    refine r_iconst dX11_findRows_44 (v := nI 4) kc_4 ?_
    refine r_icmp_ge 194 dX11_findRows_45 (by decide) (fun h45 => ?_) (fun h45 => ?_)
    · first | refine r_iincN dX11_findRows_194 rfl kc_1 ?_ | refine r_iinc dX11_findRows_194 rfl rfl ?_
      dsimp only [List.set]
      refine r_goto 24 dX11_findRows_197 (by decide) ?_
      exact K _ _ _ _ _ _ hG hLG hSG
    · refine r_iload dX11_findRows_48 rfl ?_
      refine r_if_eqN 194 dX11_findRows_50 (by decide) (by omega) (fun h50 => ?_) (fun h50 => ?_)
      · first | refine r_iincN dX11_findRows_194 rfl kc_1 ?_ | refine r_iinc dX11_findRows_194 rfl rfl ?_
        dsimp only [List.set]
        refine r_goto 24 dX11_findRows_197 (by decide) ?_
        exact K _ _ _ _ _ _ hG hLG hSG
      · exact absurd h50 (by omega)
  have hw : ∀ L, 0 < L → ¬ (q + 0 < sz (rs I) p) → ¬ winA (rs I) p q L := fun L h1 h2 h3 => h2 (by have := h3.2.1; omega)
  refine r_iload dX11_findRows_42 rfl ?_
  refine r_iconst dX11_findRows_44 (v := nI 4) kc_4 ?_
  refine r_icmp_geN 194 dX11_findRows_45 (by decide) (by omega) (by omega) (fun h45 => ?_) (fun h45 => ?_)
  · exact absurd h45 (by omega)
  · refine r_iload dX11_findRows_48 rfl ?_
    refine r_if_eqN 194 dX11_findRows_50 (by decide) (by omega) (fun h50 => ?_) (fun h50 => ?_)
    · exact absurd h50 (by omega)
    · refine r_iload_n dX11_findRows_53 rfl ?_
      refine r_iload dX11_findRows_54 rfl ?_
      first | refine r_iaddN dX11_findRows_56 ?_ | refine r_iadd dX11_findRows_56 ?_
      refine r_aload_n dX11_findRows_57 rfl ?_
      refine r_getP dX11_findRows_58 g_X11_13 (S.1 _ _ rfl) rfl (S.2 _ _ _ rfl) ?_
      refine r_iload_n dX11_findRows_61 rfl ?_
      refine r_iaload _ dX11_findRows_62 (S.1 _ _ rfl) rfl (by first | decide | omega) (by decide) ?_
      rw [e2H]
      refine r_icmp_geN 194 dX11_findRows_63 (by decide) (by omega) (by omega) (fun h63 => ?_) (fun h63 => ?_)
      · first | refine r_iincN dX11_findRows_194 rfl kc_1 ?_ | refine r_iinc dX11_findRows_194 rfl rfl ?_
        dsimp only [List.set]
        refine r_goto 24 dX11_findRows_197 (by decide) ?_
        exact K _ _ _ _ _ _ hf hL (fS_W hS (by omega) (wB_more (by decide) (fun L h1 h2 => hw L h1 (by omega))))
      · have hK := V.2.2.1 p (q + 0) (by omega) (by omega)
        have e3 : I 3 (40 * p + q + 0) = nI (kd (rs I) p q 0) := by
          have h9 := hK.1.1
          rw [← Nat.add_assoc] at h9
          exact h9
        have b3 : kd (rs I) p q 0 ≤ 15 := by
          have h9 := hK.1.2
          rw [← Nat.add_assoc] at h9
          exact h9
        have hbd : wn (kd (rs I) p q) 1 ≤ 83520 := wn_le (by decide) (fun k hk => by
          have h8 := V.2.2.1 p (q + k) (by omega) (by omega)
          have h9 := h8.1.2
          rw [← Nat.add_assoc] at h9
          exact h9)
        have ewn : wn (kd (rs I) p q) 1 = wn (kd (rs I) p q) 0 + 4913 * (kd (rs I) p q 0 + 1) := rfl
        refine r_aload_n dX11_findRows_66 rfl ?_
        refine r_getP dX11_findRows_67 g_X11_16 (S.1 _ _ rfl) rfl (S.2 _ _ _ rfl) ?_
        refine r_bipush dX11_findRows_70 (v := nI 40) (by decide) ?_
        refine r_iload_n dX11_findRows_72 rfl ?_
        first | refine r_imulN dX11_findRows_73 ?_ | refine r_imul dX11_findRows_73 ?_
        refine r_iload_n dX11_findRows_74 rfl ?_
        first | refine r_iaddN dX11_findRows_75 ?_ | refine r_iadd dX11_findRows_75 ?_
        refine r_iload dX11_findRows_76 rfl ?_
        first | refine r_iaddN dX11_findRows_78 ?_ | refine r_iadd dX11_findRows_78 ?_
        refine r_iaload (40 * p + q + 0) dX11_findRows_79 (S.1 _ _ rfl) rfl (by first | decide | omega) (by decide) ?_
        rw [hf.1 3 (by decide) (by decide) (by decide), e3]
        refine r_istore dX11_findRows_80 (Nat.le_of_ble_eq_true rfl) ?_
        dsimp only [List.set]
        refine r_iload dX11_findRows_82 rfl ?_
        refine r_if_eqN 99 dX11_findRows_84 (by decide) (by omega) (fun h84 => ?_) (fun h84 => ?_)
        · refine r_iconst dX11_findRows_99 (v := nI 1) kc_1 ?_
          refine r_goto 104 dX11_findRows_100 (by decide) ?_
          refine r_istore dX11_findRows_104 (Nat.le_of_ble_eq_true rfl) ?_
          dsimp only [List.set]
          refine r_iload dX11_findRows_106 rfl ?_
          refine r_if_neN 117 dX11_findRows_108 (by decide) (by omega) (fun h108 => ?_) (fun h108 => ?_)
          · exact absurd h108 (by omega)
          · refine r_sipush dX11_findRows_111 (v := nI 4913) (by decide) ?_
            refine r_goto 141 dX11_findRows_114 (by decide) ?_
            refine r_istore dX11_findRows_141 (Nat.le_of_ble_eq_true rfl) ?_
            dsimp only [List.set]
            refine r_iload_n dX11_findRows_143 rfl ?_
            refine r_iload dX11_findRows_144 rfl ?_
            refine r_iload dX11_findRows_146 rfl ?_
            refine r_iconst dX11_findRows_148 (v := nI 1) kc_1 ?_
            first | refine r_iaddN dX11_findRows_149 ?_ | refine r_iadd dX11_findRows_149 ?_
            first | refine r_imulN dX11_findRows_150 ?_ | refine r_imul dX11_findRows_150 ?_
            first | refine r_iaddN dX11_findRows_151 ?_ | refine r_iadd dX11_findRows_151 ?_
            rw [← ewn]
            refine r_istore_n dX11_findRows_152 (Nat.le_of_ble_eq_true rfl) ?_
            dsimp only [List.set]
            refine r_iload dX11_findRows_153 rfl ?_
            refine r_if_eqN 168 dX11_findRows_155 (by decide) (by omega) (fun h155 => ?_) (fun h155 => ?_)
            · exact absurd h155 (by omega)
            · refine r_iload dX11_findRows_158 rfl ?_
              refine r_if_leN 168 dX11_findRows_160 (by decide) (by omega) (fun h160 => ?_) (fun h160 => ?_)
              · refine r_iload dX11_findRows_168 rfl ?_
                refine r_if_eqN 185 dX11_findRows_170 (by decide) (by omega) (fun h170 => ?_) (fun h170 => ?_)
                · exact absurd h170 (by omega)
                · refine r_iload dX11_findRows_173 rfl ?_
                  refine r_callS1 (fr' := 0) (lo' := 0) (mc' := 0) (ms' := 0) dX11_findRows_175 mm_X11_isLast ms_X11_isLast l_X11_164 (by decide) ⟨by decide, by decide⟩ (Nat.zero_le _) (Nat.zero_le _) (Nat.le_of_ble_eq_true rfl) (c_X11_isLast (by omega)) (am_ki ?_)
                  rintro v175 _ _ _ ⟨hb175, rfl, rfl, rfl⟩
                  refine r_if_ne 185 dX11_findRows_178 (by decide) (fun h178 => ?_) (fun h178 => ?_)
                  · replace h178 := hb175.t h178
                    refine r_iconst dX11_findRows_185 (v := nI 0) kc_0 ?_
                    refine r_istore dX11_findRows_186 (Nat.le_of_ble_eq_true rfl) ?_
                    dsimp only [List.set]
                    first | refine r_iincN dX11_findRows_188 rfl kc_1 ?_ | refine r_iinc dX11_findRows_188 rfl rfl ?_
                    dsimp only [List.set]
                    refine r_goto 42 dX11_findRows_191 (by decide) ?_
                    first
                      | (exact EX0 _ _ _ _ _ e2H hf hL (fS_W (fS_W hS (Nat.le_refl _) (wB_more (Nat.le_succ 0) (fun L h1 h2 h3 => by have := h3.1.1; omega))) (by omega) (wB_more (by decide) (fun L h1 h2 h3 => h3.2.2.2 0 (by omega) h178))))
                      | (have hl2 : ∀ k, 0 < k → k < 1 → ¬ led (rs I) p (q + k) := fun k h1 h2 => by
                           rcases Nat.lt_or_ge k 0 with g | g
                           · exact hl k h1 g
                           · first
                               | omega
                               | (have e : k = 0 := by omega
                                  subst e; exact hled)
                         have hi2 : ∀ k, k < 1 → ¬ isLs (kd (rs I) p q k) := fun k h1 => by
                           rcases Nat.lt_or_ge k 0 with g | g
                           · exact hi k g
                           · have e : k = 0 := by omega
                             subst e; exact h178
                         exact l_X11_fr1 S V hp hq K _ _ _ hf hL (fS_W hS (Nat.le_refl _) (wB_more (Nat.le_succ 0) (fun L h1 h2 h3 => by have := h3.1.1; omega))) hl2 hi2 (by omega)
                        )
                  · replace h178 := hb175.f h178
                    refine r_iconst dX11_findRows_181 (v := nI 1) kc_1 ?_
                    refine r_goto 186 dX11_findRows_182 (by decide) ?_
                    refine r_istore dX11_findRows_186 (Nat.le_of_ble_eq_true rfl) ?_
                    dsimp only [List.set]
                    first | refine r_iincN dX11_findRows_188 rfl kc_1 ?_ | refine r_iinc dX11_findRows_188 rfl rfl ?_
                    dsimp only [List.set]
                    refine r_goto 42 dX11_findRows_191 (by decide) ?_
                    first
                      | (exact EX0 _ _ _ _ _ e2H hf hL (fS_W (fS_W hS (Nat.le_refl _) (wB_more (Nat.le_succ 0) (fun L h1 h2 h3 => by have := h3.1.1; omega))) (by omega) (wB_more (by decide) (fun L h1 h2 h3 => h3.2.2.2 0 (by omega) h178))))
                      | (have hl2 : ∀ k, 0 < k → k < 1 → ¬ led (rs I) p (q + k) := fun k h1 h2 => by
                           rcases Nat.lt_or_ge k 0 with g | g
                           · exact hl k h1 g
                           · first
                               | omega
                               | (have e : k = 0 := by omega
                                  subst e; exact hled)
                         have hi2 : ∀ k, k < 1 → ¬ isLs (kd (rs I) p q k) := fun k h1 => by
                           rcases Nat.lt_or_ge k 0 with g | g
                           · exact hi k g
                           · have e : k = 0 := by omega
                             subst e; exact h178
                         exact l_X11_fr1 S V hp hq K _ _ _ hf hL (fS_W hS (Nat.le_refl _) (wB_more (Nat.le_succ 0) (fun L h1 h2 h3 => by have := h3.1.1; omega))) hl2 hi2 (by omega)
                        )
              · exact absurd h160 (by omega)
        · exact absurd h84 (by omega)
theorem l_X11_frQ (S : St_m sh P) (V : iP (rs I)) {post : APo} {p : Nat} (hp : p < np (rs I)) (K : ∀ H x2 x3 x4 x5 x6 x7, frF I H → fS H (120 * (p + 1)) (wB (rs I) (p + 1) 0 0) → am_R mX11_findRows post 1 23 0 0 7 [some (.ref 0), some (.int (nI (p + 1))), x2, x3, x4, x5, x6, x7] [] sh H P) : ∀ (m q : Nat), q + m = sz (rs I) p → ∀ H x3 x4 x5 x6 x7, frF I H → (∀ t, t < 41 → bo (H 30 t) (led (rs I) p t)) → fS H (120 * p + 3 * q) (wB (rs I) p q 0) → am_R mX11_findRows post 1 23 0 0 24 [some (.ref 0), some (.int (nI p)), some (.int (nI q)), x3, x4, x5, x6, x7] [] sh H P := by
  have b1 := V.np.2
  obtain ⟨e2, b2⟩ := V.sz (show p < 3 by omega)
  have e2 : I 2 p = nI (sz (rs I) p) := e2
  intro m
  induction m with
  | zero =>
    intro q hq H x3 x4 x5 x6 x7 hf hL hS
    have e2H : H 2 p = nI (sz (rs I) p) := by rw [hf.1 2 (by decide) (by decide) (by decide)]; exact e2
    refine r_iload_n dX11_findRows_24 rfl ?_
    refine r_aload_n dX11_findRows_25 rfl ?_
    refine r_getP dX11_findRows_26 g_X11_13 (S.1 _ _ rfl) rfl (S.2 _ _ _ rfl) ?_
    refine r_iload_n dX11_findRows_29 rfl ?_
    refine r_iaload _ dX11_findRows_30 (S.1 _ _ rfl) rfl (by first | decide | omega) (by decide) ?_
    rw [e2H]
    refine r_icmp_geN 200 dX11_findRows_31 (by decide) (by omega) (by omega) (fun h31 => ?_) (fun h31 => ?_)
    · first | refine r_iincN dX11_findRows_200 rfl kc_1 ?_ | refine r_iinc dX11_findRows_200 rfl rfl ?_
      dsimp only [List.set]
      refine r_goto 7 dX11_findRows_203 (by decide) ?_
      exact K _ _ _ _ _ _ _ hf (fS_W hS (by omega) (wB_p (by omega)))
    · exact absurd h31 (by omega)
  | succ m ih =>
    intro q hq H x3 x4 x5 x6 x7 hf hL hS
    have e2H : H 2 p = nI (sz (rs I) p) := by rw [hf.1 2 (by decide) (by decide) (by decide)]; exact e2
    refine r_iload_n dX11_findRows_24 rfl ?_
    refine r_aload_n dX11_findRows_25 rfl ?_
    refine r_getP dX11_findRows_26 g_X11_13 (S.1 _ _ rfl) rfl (S.2 _ _ _ rfl) ?_
    refine r_iload_n dX11_findRows_29 rfl ?_
    refine r_iaload _ dX11_findRows_30 (S.1 _ _ rfl) rfl (by first | decide | omega) (by decide) ?_
    rw [e2H]
    refine r_icmp_geN 200 dX11_findRows_31 (by decide) (by omega) (by omega) (fun h31 => ?_) (fun h31 => ?_)
    · exact absurd h31 (by omega)
    · refine r_iconst dX11_findRows_34 (v := nI 0) kc_0 ?_
      refine r_istore_n dX11_findRows_35 (Nat.le_of_ble_eq_true rfl) ?_
      dsimp only [List.set]
      refine r_iconst dX11_findRows_36 (v := nI 1) kc_1 ?_
      refine r_istore dX11_findRows_37 (Nat.le_of_ble_eq_true rfl) ?_
      dsimp only [List.set]
      refine r_iconst dX11_findRows_39 (v := nI 0) kc_0 ?_
      refine r_istore dX11_findRows_40 (Nat.le_of_ble_eq_true rfl) ?_
      dsimp only [List.set]
      refine l_X11_fr0 S V hp (by omega) (fun H y3 y4 y5 y6 y7 h1 h2 h3 => ih (q + 1) (by omega) H y3 y4 y5 y6 y7 h1 h2 (fS_W h3 (by omega) wB_q)) H _ _ hf hL hS (fun k h1 h2 => absurd h2 (Nat.not_lt_zero k)) (fun k h1 => absurd h1 (Nat.not_lt_zero k)) (by omega)
theorem l_X11_frP (S : St_m sh P) (V : iP (rs I)) : ∀ (m p : Nat), p + m = np (rs I) → ∀ H x2 x3 x4 x5 x6 x7, frF I H → fS H (120 * p) (wB (rs I) p 0 0) → am_R mX11_findRows (po_v (fun sh' I' P' => frF I I' ∧ fS I' 360 (win (rs I)) ∧ sh = sh' ∧ P = P')) 1 23 0 0 7 [some (.ref 0), some (.int (nI p)), x2, x3, x4, x5, x6, x7] [] sh H P := by
  obtain ⟨e1, b1⟩ := V.np
  have e1 : I 1 0 = nI (np (rs I)) := e1
  intro m
  induction m with
  | zero =>
    intro p hp H x2 x3 x4 x5 x6 x7 hf hS
    have e1H : H 1 0 = nI (np (rs I)) := by rw [hf.1 1 (by decide) (by decide) (by decide)]; exact e1
    refine r_iload_n dX11_findRows_7 rfl ?_
    refine r_aload_n dX11_findRows_8 rfl ?_
    refine r_getP dX11_findRows_9 g_X11_7 (S.1 _ _ rfl) rfl (S.2 _ _ _ rfl) ?_
    refine r_iconst dX11_findRows_12 (v := nI 0) kc_0 ?_
    refine r_iaload _ dX11_findRows_13 (S.1 _ _ rfl) rfl (by first | decide | omega) (by decide) ?_
    rw [e1H]
    refine r_icmp_geN 206 dX11_findRows_14 (by decide) (by omega) (by omega) (fun h14 => ?_) (fun h14 => ?_)
    · refine r_return dX11_findRows_206 rfl ?_
      have e : p = np (rs I) := by omega
      rw [e] at hS
      exact ⟨rfl, hf, fS_W hS (by omega) wB_end, rfl, rfl⟩
    · exact absurd h14 (by omega)
  | succ m ih =>
    intro p hp H x2 x3 x4 x5 x6 x7 hf hS
    have e1H : H 1 0 = nI (np (rs I)) := by rw [hf.1 1 (by decide) (by decide) (by decide)]; exact e1
    have hrs := frF_rs hf
    refine r_iload_n dX11_findRows_7 rfl ?_
    refine r_aload_n dX11_findRows_8 rfl ?_
    refine r_getP dX11_findRows_9 g_X11_7 (S.1 _ _ rfl) rfl (S.2 _ _ _ rfl) ?_
    refine r_iconst dX11_findRows_12 (v := nI 0) kc_0 ?_
    refine r_iaload _ dX11_findRows_13 (S.1 _ _ rfl) rfl (by first | decide | omega) (by decide) ?_
    rw [e1H]
    refine r_icmp_geN 206 dX11_findRows_14 (by decide) (by omega) (by omega) (fun h14 => ?_) (fun h14 => ?_)
    · exact absurd h14 (by omega)
    · refine r_aload_n dX11_findRows_17 rfl ?_
      refine r_iload_n dX11_findRows_18 rfl ?_
      refine r_callV1 (fr' := 0) (lo' := 0) (mc' := 0) (ms' := 0) dX11_findRows_19 mm_X11_readLed mv_X11_readLed l_X11_167 (S.1 _ _ rfl) mc_X11_readLed (by decide) ⟨by decide, by decide⟩ (Nat.zero_le _) (Nat.zero_le _) (Nat.le_of_ble_eq_true rfl) (c_X11_readLed S (by rw [hrs]; exact V) (by omega)) (am_kv ?_)
      rintro _ _ _ ⟨⟨L, rfl, hL⟩, rfl, rfl⟩
      rw [hrs] at hL
      refine r_iconst dX11_findRows_22 (v := nI 0) kc_0 ?_
      refine r_istore_n dX11_findRows_23 (Nat.le_of_ble_eq_true rfl) ?_
      dsimp only [List.set]
      refine l_X11_frQ S V (by omega) (fun H y2 y3 y4 y5 y6 y7 h1 h2 => ih (p + 1) (by omega) H y2 y3 y4 y5 y6 y7 h1 h2) (sz (rs I) p) 0 (Nat.zero_add _) _ _ _ _ _ _ ⟨fun r a b c => ?_, fun j hj => ?_⟩ (fun t ht => ?_) ?_
      · rw [va_up_ne _ _ b]; exact hf.1 r a b c
      · rw [va_up_ne _ _ (by decide)]; exact hf.2 j hj
      · rw [va_up_self]; exact hL t ht
      · obtain ⟨n, f, h1, h2, h3⟩ := hS
        exact ⟨n, f, ⟨by rw [va_up_ne _ _ (by decide)]; exact h1.1, fun j hj => by rw [va_up_ne _ _ (by decide)]; exact h1.2.1 j hj, h1.2.2⟩, h2, by omega⟩
theorem c_X11_findRows (S : St_m sh P) (V : iP (rs I)) : am_R mX11_findRows (po_v (fun sh' I' P' => frF I I' ∧ fS I' 360 (win (rs I)) ∧ sh = sh' ∧ P = P')) 1 23 0 0 0 [some (.ref 0), none, none, none, none, none, none, none] [] sh I P := by
  refine r_aload_n dX11_findRows_0 rfl ?_
  refine r_iconst dX11_findRows_1 (v := nI 0) kc_0 ?_
  refine r_putI dX11_findRows_2 f_X11_211 (S.1 _ _ rfl) rfl rfl rfl ?_
  refine r_iconst dX11_findRows_5 (v := nI 0) kc_0 ?_
  refine r_istore_n dX11_findRows_6 (Nat.le_of_ble_eq_true rfl) ?_
  dsimp only [List.set]
  refine l_X11_frP S V (np (rs I)) 0 (Nat.zero_add _) _ _ _ _ _ _ _ ⟨fun r a b c => ?_, fun j hj => ?_⟩ ?_
  · rw [va_up_ne _ _ a]
  · rw [va_up_self, pk_un hj]
  · refine ⟨0, fun _ => 0, ⟨by rw [va_up_self]; exact pk_us, fun j hj => absurd hj (Nat.not_lt_zero j), fun i j h1 h2 => absurd h2 (Nat.not_lt_zero j), fun j hj => absurd hj (Nat.not_lt_zero j)⟩, fun u => ⟨?_, ?_⟩, Nat.zero_le _⟩
    · rintro ⟨j, h1, -⟩; exact absurd h1 (Nat.not_lt_zero j)
    · rintro ⟨p', q', L, h1, -, h3, -⟩
      have h4 := h3.1
      omega
end M23
