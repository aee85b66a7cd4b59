/-! the reference: the table of least costs -/
section M7
variable {sh : ASh} {I : AIn} {P : APt}
theorem l_X11_readLedA (S : St_m sh P) {post : APo} {q : Nat} (K : ∀ L x2, (∀ t, t < 41 → L t = nI 0) → am_R mX11_readLed post 0 0 0 0 21 [some (.ref 0), some (.int (nI q)), x2, none] [] sh (va_up I 30 L) P) : ∀ (m k : Nat), k + m = 41 → ∀ L, (∀ t, t < k → L t = nI 0) → am_R mX11_readLed post 0 0 0 0 2 [some (.ref 0), some (.int (nI q)), some (.int (nI k)), none] [] sh (va_up I 30 L) P := by
  intro m
  induction m with
  | zero =>
    intro k hk L hL
    refine r_iload_n dX11_readLed_2 rfl ?_
    refine r_bipush dX11_readLed_3 (v := nI 40) (by decide) ?_
    refine r_icmp_gtN 21 dX11_readLed_5 (by decide) (by omega) (by omega) (fun h5 => ?_) (fun h5 => ?_)
    · exact K L _ (fun t ht => hL t (by omega))
    · exact absurd h5 (by omega)
  | succ m ih =>
    intro k hk L hL
    refine r_iload_n dX11_readLed_2 rfl ?_
    refine r_bipush dX11_readLed_3 (v := nI 40) (by decide) ?_
    refine r_icmp_gtN 21 dX11_readLed_5 (by decide) (by omega) (by omega) (fun h5 => ?_) (fun h5 => ?_)
    · exact absurd h5 (by omega)
    · refine r_aload_n dX11_readLed_8 rfl ?_
      refine r_getP dX11_readLed_9 g_X11_94 (S.1 _ _ rfl) rfl (S.2 _ _ _ rfl) ?_
      refine r_iload_n dX11_readLed_12 rfl ?_
      refine r_iconst dX11_readLed_13 (v := nI 0) kc_0 ?_
      refine r_bastore _ dX11_readLed_14 (S.1 _ _ rfl) rfl (by first | decide | omega) (by decide) rfl ?_
      rw [va_up_self, bx_uu]
      first | refine r_iincN dX11_readLed_15 rfl kc_1 ?_ | refine r_iinc dX11_readLed_15 rfl rfl ?_
      dsimp only [List.set]
      refine r_goto 2 dX11_readLed_18 (by decide) ?_
      refine ih (k + 1) (by omega) _ (fun t ht => ?_)
      rcases Nat.lt_or_ge t k with g | g
      · rw [pk_un (by omega)]; exact hL t g
      · have e : t = k := by omega
        subst e; exact pk_us
theorem l_X11_readLedB (S : St_m sh P) (V : iP (rs I)) {q : Nat} (hq : q < 3) : ∀ (m k : Nat), k + m = sz (rs I) q → ∀ L x3, (∀ t, t < 41 → bo (L t) (∃ i, i < k ∧ (I 3 (40 * q + i) = nI 9 ∨ I 3 (40 * q + i) = nI 10) ∧ I 4 (40 * q + i) = nI t)) → am_R mX11_readLed (po_v (fun sh' I' P' => (∃ L, I' = va_up I 30 L ∧ ∀ t, t < 41 → bo (L t) (led (rs I) q t)) ∧ sh = sh' ∧ P = P')) 0 0 0 0 23 [some (.ref 0), some (.int (nI q)), some (.int (nI k)), x3] [] sh (va_up I 30 L) P := by
  obtain ⟨e2, b2⟩ := V.sz hq
  have e2 : I 2 q = nI (sz (rs I) q) := e2
  generalize hM : sz (rs I) q = M at e2 b2
  intro m
  induction m with
  | zero =>
    intro k hk L x3 hL
    have e : k = M := by omega
    subst e
    refine r_iload_n dX11_readLed_23 rfl ?_
    refine r_aload_n dX11_readLed_24 rfl ?_
    refine r_getP dX11_readLed_25 g_X11_13 (S.1 _ _ rfl) rfl (S.2 _ _ _ rfl) ?_
    refine r_iload_n dX11_readLed_28 rfl ?_
    refine r_iaload _ dX11_readLed_29 (S.1 _ _ rfl) rfl (by first | decide | omega) (by decide) ?_
    simp (decide := true) only [va_up_ne, va_up_self]
    rw [e2]
    refine r_icmp_geN 80 dX11_readLed_30 (by decide) (by omega) (by omega) (fun h30 => ?_) (fun h30 => ?_)
    · refine r_return dX11_readLed_80 rfl ?_
      refine ⟨rfl, ⟨L, rfl, fun t ht => ?_⟩, rfl, rfl⟩
      refine (hL t ht).of ?_
      rw [← hM]
      exact Iff.rfl
    · exact absurd h30 (by omega)
  | succ m ih =>
    intro k hk L x3 hL
    have hK := V.2.2.1 q k hq (by omega)
    have e3 : I 3 (40 * q + k) = nI (nv (I 3 (40 * q + k))) := hK.1.1
    have b3 : nv (I 3 (40 * q + k)) ≤ 15 := hK.1.2
    have hA : aOk (nv (I 3 (40 * q + k))) (I 4 (40 * q + k)) := hK.2
    generalize hD : nv (I 3 (40 * q + k)) = D at e3 b3 hA
    refine r_iload_n dX11_readLed_23 rfl ?_
    refine r_aload_n dX11_readLed_24 rfl ?_
    refine r_getP dX11_readLed_25 g_X11_13 (S.1 _ _ rfl) rfl (S.2 _ _ _ rfl) ?_
    refine r_iload_n dX11_readLed_28 rfl ?_
    refine r_iaload _ dX11_readLed_29 (S.1 _ _ rfl) rfl (by first | decide | omega) (by decide) ?_
    simp (decide := true) only [va_up_ne, va_up_self]
    rw [e2]
    refine r_icmp_geN 80 dX11_readLed_30 (by decide) (by omega) (by omega) (fun h30 => ?_) (fun h30 => ?_)
    · exact absurd h30 (by omega)
    · refine r_bipush dX11_readLed_33 (v := nI 40) (by decide) ?_
      refine r_iload_n dX11_readLed_35 rfl ?_
      first | refine r_imulN dX11_readLed_36 ?_ | refine r_imul dX11_readLed_36 ?_
      refine r_iload_n dX11_readLed_37 rfl ?_
      first | refine r_iaddN dX11_readLed_38 ?_ | refine r_iadd dX11_readLed_38 ?_
      refine r_istore_n dX11_readLed_39 (Nat.le_of_ble_eq_true rfl) ?_
      dsimp only [List.set]
      refine r_aload_n dX11_readLed_40 rfl ?_
      refine r_getP dX11_readLed_41 g_X11_16 (S.1 _ _ rfl) rfl (S.2 _ _ _ rfl) ?_
      refine r_iload_n dX11_readLed_44 rfl ?_
      refine r_iaload _ dX11_readLed_45 (S.1 _ _ rfl) rfl (by first | decide | omega) (by decide) ?_
      simp (decide := true) only [va_up_ne, va_up_self]
      rw [e3]
      refine r_bipush dX11_readLed_46 (v := nI 9) (by decide) ?_
      refine r_icmp_eqN 62 dX11_readLed_48 (by decide) (by omega) (by omega) (fun h48 => ?_) (fun h48 => ?_)
      · obtain ⟨u, hu, eu⟩ : ∃ u, u ≤ 39 ∧ I 4 (40 * q + k) = nI u := by
          rw [aOk, if_neg (by omega), if_neg (by omega), if_pos (by omega)] at hA
          exact (in_iff (by decide)).mp hA
        refine r_aload_n dX11_readLed_62 rfl ?_
        refine r_getP dX11_readLed_63 g_X11_94 (S.1 _ _ rfl) rfl (S.2 _ _ _ rfl) ?_
        refine r_aload_n dX11_readLed_66 rfl ?_
        refine r_getP dX11_readLed_67 g_X11_19 (S.1 _ _ rfl) rfl (S.2 _ _ _ rfl) ?_
        refine r_iload_n dX11_readLed_70 rfl ?_
        refine r_iaload _ dX11_readLed_71 (S.1 _ _ rfl) rfl (by first | decide | omega) (by decide) ?_
        simp (decide := true) only [va_up_ne, va_up_self]
        rw [eu]
        refine r_iconst dX11_readLed_72 (v := nI 1) kc_1 ?_
        refine r_bastore _ dX11_readLed_73 (S.1 _ _ rfl) rfl (by first | decide | omega) (by decide) rfl ?_
        rw [va_up_self, bx_uu]
        first | refine r_iincN dX11_readLed_74 rfl kc_1 ?_ | refine r_iinc dX11_readLed_74 rfl rfl ?_
        dsimp only [List.set]
        refine r_goto 23 dX11_readLed_77 (by decide) ?_
        first
          | (refine ih (k + 1) (by omega) _ _ (fun t ht => (hL t ht).of ?_)
             constructor
             · rintro ⟨i, h1, h2⟩
               exact ⟨i, by omega, h2⟩
             · rintro ⟨i, h1, h2, h3⟩
               rcases Nat.lt_or_ge i k with g | g
               · exact ⟨i, g, h2, h3⟩
               · exfalso
                 have e : i = k := by omega
                 subst e
                 rw [e3, nI_eq (by omega) (by decide), nI_eq (by omega) (by decide)] at h2
                 omega
            )
          | (refine ih (k + 1) (by omega) _ _ (fun t ht => ?_)
             by_cases htu : t = u
             · subst htu
               rw [pk_us]
               exact bo_1 ⟨k, by omega, by rw [e3, nI_eq (by omega) (by decide), nI_eq (by omega) (by decide)]; omega, eu⟩
             · rw [pk_un htu]
               refine (hL t ht).of ?_
               constructor
               · rintro ⟨i, h1, h2⟩
                 exact ⟨i, by omega, h2⟩
               · rintro ⟨i, h1, h2, h3⟩
                 rcases Nat.lt_or_ge i k with g | g
                 · exact ⟨i, g, h2, h3⟩
                 · exfalso
                   have e : i = k := by omega
                   subst e
                   rw [eu, nI_eq (by omega) (by omega)] at h3
                   exact htu h3.symm
            )
      · refine r_aload_n dX11_readLed_51 rfl ?_
        refine r_getP dX11_readLed_52 g_X11_16 (S.1 _ _ rfl) rfl (S.2 _ _ _ rfl) ?_
        refine r_iload_n dX11_readLed_55 rfl ?_
        refine r_iaload _ dX11_readLed_56 (S.1 _ _ rfl) rfl (by first | decide | omega) (by decide) ?_
        simp (decide := true) only [va_up_ne, va_up_self]
        rw [e3]
        refine r_bipush dX11_readLed_57 (v := nI 10) (by decide) ?_
        refine r_icmp_neN 74 dX11_readLed_59 (by decide) (by omega) (by omega) (fun h59 => ?_) (fun h59 => ?_)
        · first | refine r_iincN dX11_readLed_74 rfl kc_1 ?_ | refine r_iinc dX11_readLed_74 rfl rfl ?_
          dsimp only [List.set]
          refine r_goto 23 dX11_readLed_77 (by decide) ?_
          first
            | (refine ih (k + 1) (by omega) _ _ (fun t ht => (hL t ht).of ?_)
               constructor
               · rintro ⟨i, h1, h2⟩
                 exact ⟨i, by omega, h2⟩
               · rintro ⟨i, h1, h2, h3⟩
                 rcases Nat.lt_or_ge i k with g | g
                 · exact ⟨i, g, h2, h3⟩
                 · exfalso
                   have e : i = k := by omega
                   subst e
                   rw [e3, nI_eq (by omega) (by decide), nI_eq (by omega) (by decide)] at h2
                   omega
              )
            | (refine ih (k + 1) (by omega) _ _ (fun t ht => ?_)
               by_cases htu : t = u
               · subst htu
                 rw [pk_us]
                 exact bo_1 ⟨k, by omega, by rw [e3, nI_eq (by omega) (by decide), nI_eq (by omega) (by decide)]; omega, eu⟩
               · rw [pk_un htu]
                 refine (hL t ht).of ?_
                 constructor
                 · rintro ⟨i, h1, h2⟩
                   exact ⟨i, by omega, h2⟩
                 · rintro ⟨i, h1, h2, h3⟩
                   rcases Nat.lt_or_ge i k with g | g
                   · exact ⟨i, g, h2, h3⟩
                   · exfalso
                     have e : i = k := by omega
                     subst e
                     rw [eu, nI_eq (by omega) (by omega)] at h3
                     exact htu h3.symm
              )
        · obtain ⟨u, hu, eu⟩ : ∃ u, u ≤ 39 ∧ I 4 (40 * q + k) = nI u := by
            rw [aOk, if_neg (by omega), if_neg (by omega), if_pos (by omega)] at hA
            exact (in_iff (by decide)).mp hA
          refine r_aload_n dX11_readLed_62 rfl ?_
          refine r_getP dX11_readLed_63 g_X11_94 (S.1 _ _ rfl) rfl (S.2 _ _ _ rfl) ?_
          refine r_aload_n dX11_readLed_66 rfl ?_
          refine r_getP dX11_readLed_67 g_X11_19 (S.1 _ _ rfl) rfl (S.2 _ _ _ rfl) ?_
          refine r_iload_n dX11_readLed_70 rfl ?_
          refine r_iaload _ dX11_readLed_71 (S.1 _ _ rfl) rfl (by first | decide | omega) (by decide) ?_
          simp (decide := true) only [va_up_ne, va_up_self]
          rw [eu]
          refine r_iconst dX11_readLed_72 (v := nI 1) kc_1 ?_
          refine r_bastore _ dX11_readLed_73 (S.1 _ _ rfl) rfl (by first | decide | omega) (by decide) rfl ?_
          rw [va_up_self, bx_uu]
          first | refine r_iincN dX11_readLed_74 rfl kc_1 ?_ | refine r_iinc dX11_readLed_74 rfl rfl ?_
          dsimp only [List.set]
          refine r_goto 23 dX11_readLed_77 (by decide) ?_
          first
            | (refine ih (k + 1) (by omega) _ _ (fun t ht => (hL t ht).of ?_)
               constructor
               · rintro ⟨i, h1, h2⟩
                 exact ⟨i, by omega, h2⟩
               · rintro ⟨i, h1, h2, h3⟩
                 rcases Nat.lt_or_ge i k with g | g
                 · exact ⟨i, g, h2, h3⟩
                 · exfalso
                   have e : i = k := by omega
                   subst e
                   rw [e3, nI_eq (by omega) (by decide), nI_eq (by omega) (by decide)] at h2
                   omega
              )
            | (refine ih (k + 1) (by omega) _ _ (fun t ht => ?_)
               by_cases htu : t = u
               · subst htu
                 rw [pk_us]
                 exact bo_1 ⟨k, by omega, by rw [e3, nI_eq (by omega) (by decide), nI_eq (by omega) (by decide)]; omega, eu⟩
               · rw [pk_un htu]
                 refine (hL t ht).of ?_
                 constructor
                 · rintro ⟨i, h1, h2⟩
                   exact ⟨i, by omega, h2⟩
                 · rintro ⟨i, h1, h2, h3⟩
                   rcases Nat.lt_or_ge i k with g | g
                   · exact ⟨i, g, h2, h3⟩
                   · exfalso
                     have e : i = k := by omega
                     subst e
                     rw [eu, nI_eq (by omega) (by omega)] at h3
                     exact htu h3.symm
              )
theorem c_X11_readLed (S : St_m sh P) (V : iP (rs I)) {q : Nat} (hq : q < 3) : am_R mX11_readLed (po_v (fun sh' I' P' => (∃ L, I' = va_up I 30 L ∧ ∀ t, t < 41 → bo (L t) (led (rs I) q t)) ∧ sh = sh' ∧ P = P')) 0 0 0 0 0 [some (.ref 0), some (.int (nI q)), none, none] [] sh I P := by
  refine r_iconst dX11_readLed_0 (v := nI 0) kc_0 ?_
  refine r_istore_n dX11_readLed_1 (Nat.le_of_ble_eq_true rfl) ?_
  dsimp only [List.set]
  have h := l_X11_readLedA (I := I) (q := q) S (post := po_v (fun sh' I' P' => (∃ L, I' = va_up I 30 L ∧ ∀ t, t < 41 → bo (L t) (led (rs I) q t)) ∧ sh = sh' ∧ P = P')) (fun L x2 hL => ?_) 41 0 rfl (I 30) (fun t ht => absurd ht (Nat.not_lt_zero t))
  · have e : va_up I 30 (I 30) = I := by
      funext k
      by_cases hk : k = 30
      · subst hk; rw [va_up_self]
      · rw [va_up_ne _ _ hk]
    rw [e] at h
    exact h
  · refine r_iconst dX11_readLed_21 (v := nI 0) kc_0 ?_
    refine r_istore_n dX11_readLed_22 (Nat.le_of_ble_eq_true rfl) ?_
    dsimp only [List.set]
    refine l_X11_readLedB S V hq (sz (rs I) q) 0 (Nat.zero_add _) L _ (fun t ht => ?_)
    rw [hL t ht]
    exact bo_0 (fun h => by obtain ⟨i, h1, -⟩ := h; omega)
theorem l_X11_stands (S : St_m sh P) {F : Nat → Int32} (hF : I 29 = F) {q t r n : Nat} (hq : q < 3) (hr : r < 6) (hn : nv (F (5 * r)) = n) (hn4 : n ≤ 4) (htn : t + n ≤ sz (rs I) q) (hz : sz (rs I) q ≤ 40) (hL : ∀ u, u < 41 → bo (I 30 u) (led (rs I) q u)) : ∀ (m k : Nat), k + m = n → (∀ i, i < k → I 3 (40 * q + t + i) = F (5 * r + 1 + i) ∧ (0 < i → ¬ led (rs I) q (t + i))) → am_R mX11_stands (po_i (fun v sh' I' P' => bo v (sdp (rs I) F q t r) ∧ sh = sh' ∧ I = I' ∧ P = P')) 0 0 0 0 26 [some (.ref 0), some (.int (nI q)), some (.int (nI t)), some (.int (nI (5 * r))), some (.int (nI n)), some (.int (nI k))] [] sh I P := by
  intro m
  induction m with
  | zero =>
    intro k hk hall
    have e : k = n := by omega
    subst e
    refine r_iload dX11_stands_26 rfl ?_
    refine r_iload dX11_stands_28 rfl ?_
    refine r_icmp_geN 86 dX11_stands_30 (by decide) (by omega) (by omega) (fun h30 => ?_) (fun h30 => ?_)
    · refine r_iconst dX11_stands_86 (v := nI 1) kc_1 ?_
      refine r_ireturn dX11_stands_87 .boolean rfl rfl ?_
      refine ⟨_, rfl, bo_1 ⟨by rw [hn]; exact htn, fun i hi => ?_⟩, rfl, rfl, rfl⟩
      rw [hn] at hi
      exact hall i hi
    · exact absurd h30 (by omega)
  | succ m ih =>
    intro k hk hall
    refine r_iload dX11_stands_26 rfl ?_
    refine r_iload dX11_stands_28 rfl ?_
    refine r_icmp_geN 86 dX11_stands_30 (by decide) (by omega) (by omega) (fun h30 => ?_) (fun h30 => ?_)
    · exact absurd h30 (by omega)
    · refine r_aload_n dX11_stands_33 rfl ?_
      refine r_getP dX11_stands_34 g_X11_16 (S.1 _ _ rfl) rfl (S.2 _ _ _ rfl) ?_
      refine r_bipush dX11_stands_37 (v := nI 40) (by decide) ?_
      refine r_iload_n dX11_stands_39 rfl ?_
      first | refine r_imulN dX11_stands_40 ?_ | refine r_imul dX11_stands_40 ?_
      refine r_iload_n dX11_stands_41 rfl ?_
      first | refine r_iaddN dX11_stands_42 ?_ | refine r_iadd dX11_stands_42 ?_
      refine r_iload dX11_stands_43 rfl ?_
      first | refine r_iaddN dX11_stands_45 ?_ | refine r_iadd dX11_stands_45 ?_
      refine r_iaload (40 * q + t + k) dX11_stands_46 (S.1 _ _ rfl) rfl (by first | decide | omega) (by decide) ?_
      refine r_aload_n dX11_stands_47 rfl ?_
      refine r_getP dX11_stands_48 g_X11_91 (S.1 _ _ rfl) rfl (S.2 _ _ _ rfl) ?_
      refine r_iload_n dX11_stands_51 rfl ?_
      refine r_iconst dX11_stands_52 (v := nI 1) kc_1 ?_
      first | refine r_iaddN dX11_stands_53 ?_ | refine r_iadd dX11_stands_53 ?_
      refine r_iload dX11_stands_54 rfl ?_
      first | refine r_iaddN dX11_stands_56 ?_ | refine r_iadd dX11_stands_56 ?_
      refine r_iaload (5 * r + 1 + k) dX11_stands_57 (S.1 _ _ rfl) rfl (by first | decide | omega) (by decide) ?_
      rw [hF]
      refine r_icmp_ne 78 dX11_stands_58 (by decide) (fun h58 => ?_) (fun h58 => ?_)
      · refine r_iconst dX11_stands_78 (v := nI 0) kc_0 ?_
        refine r_ireturn dX11_stands_79 .boolean rfl rfl ?_
        refine ⟨_, rfl, bo_0 (fun h => ?_), rfl, rfl, rfl⟩
        have h9 := h.2 k (by rw [hn]; omega)
        first | exact h58 h9.1 | exact h9.2 (by omega) ((hL _ (by omega)).t h75)
      · refine r_iload dX11_stands_61 rfl ?_
        refine r_if_leN 80 dX11_stands_63 (by decide) (by omega) (fun h63 => ?_) (fun h63 => ?_)
        · first | refine r_iincN dX11_stands_80 rfl kc_1 ?_ | refine r_iinc dX11_stands_80 rfl rfl ?_
          dsimp only [List.set]
          refine r_goto 26 dX11_stands_83 (by decide) ?_
          refine ih (k + 1) (by omega) (fun i hi => ?_)
          rcases Nat.lt_or_ge i k with g | g
          · exact hall i g
          · have e : i = k := by omega
            subst e
            first | exact ⟨h58, fun h => absurd h (by omega)⟩ | exact ⟨h58, fun _ => (hL _ (by omega)).f h75⟩
        · refine r_aload_n dX11_stands_66 rfl ?_
          refine r_getP dX11_stands_67 g_X11_94 (S.1 _ _ rfl) rfl (S.2 _ _ _ rfl) ?_
          refine r_iload_n dX11_stands_70 rfl ?_
          refine r_iload dX11_stands_71 rfl ?_
          first | refine r_iaddN dX11_stands_73 ?_ | refine r_iadd dX11_stands_73 ?_
          refine r_baload _ dX11_stands_74 (S.1 _ _ rfl) rfl (by first | decide | omega) (by decide) ?_
          refine r_if_eq 80 dX11_stands_75 (by decide) (fun h75 => ?_) (fun h75 => ?_)
          · first | refine r_iincN dX11_stands_80 rfl kc_1 ?_ | refine r_iinc dX11_stands_80 rfl rfl ?_
            dsimp only [List.set]
            refine r_goto 26 dX11_stands_83 (by decide) ?_
            refine ih (k + 1) (by omega) (fun i hi => ?_)
            rcases Nat.lt_or_ge i k with g | g
            · exact hall i g
            · have e : i = k := by omega
              subst e
              first | exact ⟨h58, fun h => absurd h (by omega)⟩ | exact ⟨h58, fun _ => (hL _ (by omega)).f h75⟩
          · refine r_iconst dX11_stands_78 (v := nI 0) kc_0 ?_
            refine r_ireturn dX11_stands_79 .boolean rfl rfl ?_
            refine ⟨_, rfl, bo_0 (fun h => ?_), rfl, rfl, rfl⟩
            have h9 := h.2 k (by rw [hn]; omega)
            first | exact h58 h9.1 | exact h9.2 (by omega) ((hL _ (by omega)).t h75)
theorem c_X11_stands (S : St_m sh P) (V : iP (rs I)) {F : Nat → Int32} (hF : I 29 = F) {q t r : Nat} (hq : q < 3) (hr : r < 6) (hO : jOl F (5 * r)) (ht : t ≤ 40) (hL : ∀ u, u < 41 → bo (I 30 u) (led (rs I) q u)) : am_R mX11_stands (po_i (fun v sh' I' P' => bo v (sdp (rs I) F q t r) ∧ sh = sh' ∧ I = I' ∧ P = P')) 0 0 0 0 0 [some (.ref 0), some (.int (nI q)), some (.int (nI t)), some (.int (nI (5 * r))), none, none] [] sh I P := by
  obtain ⟨e2, b2⟩ := V.sz hq
  have e2 : I 2 q = nI (sz (rs I) q) := e2
  have eF : F (5 * r) = nI (nv (F (5 * r))) := hO.1.2.1
  have bF : nv (F (5 * r)) ≤ 4 := hO.1.2.2
  generalize hn : nv (F (5 * r)) = n at eF bF
  refine r_aload_n dX11_stands_0 rfl ?_
  refine r_getP dX11_stands_1 g_X11_91 (S.1 _ _ rfl) rfl (S.2 _ _ _ rfl) ?_
  refine r_iload_n dX11_stands_4 rfl ?_
  refine r_iaload (5 * r) dX11_stands_5 (S.1 _ _ rfl) rfl (by first | decide | omega) (by decide) ?_
  rw [hF, eF]
  refine r_istore dX11_stands_6 (Nat.le_of_ble_eq_true rfl) ?_
  dsimp only [List.set]
  refine r_iload_n dX11_stands_8 rfl ?_
  refine r_iload dX11_stands_9 rfl ?_
  first | refine r_iaddN dX11_stands_11 ?_ | refine r_iadd dX11_stands_11 ?_
  refine r_aload_n dX11_stands_12 rfl ?_
  refine r_getP dX11_stands_13 g_X11_13 (S.1 _ _ rfl) rfl (S.2 _ _ _ rfl) ?_
  refine r_iload_n dX11_stands_16 rfl ?_
  refine r_iaload _ dX11_stands_17 (S.1 _ _ rfl) rfl (by first | decide | omega) (by decide) ?_
  rw [e2]
  refine r_icmp_leN 23 dX11_stands_18 (by decide) (by omega) (by omega) (fun h18 => ?_) (fun h18 => ?_)
  · refine r_iconst dX11_stands_23 (v := nI 0) kc_0 ?_
    refine r_istore dX11_stands_24 (Nat.le_of_ble_eq_true rfl) ?_
    dsimp only [List.set]
    exact l_X11_stands S hF hq hr hn bF h18 b2 hL n 0 (Nat.zero_add _) (fun i hi => absurd hi (Nat.not_lt_zero i))
  · refine r_iconst dX11_stands_21 (v := nI 0) kc_0 ?_
    refine r_ireturn dX11_stands_22 .boolean rfl rfl ?_
    refine ⟨_, rfl, bo_0 (fun h => ?_), rfl, rfl, rfl⟩
    have h9 := h.1
    rw [hn] at h9
    omega
def flH (H : AIn) (F : Nat → Int32) (m p : Nat) : Prop := H 29 = F ∧ H 0 28 = nI m ∧ rOk F m ∧ ∀ u, u < 41 → bo (H 30 u) (led (rs H) p u)
theorem l_X11_flI (S : St_m sh P) (V : iP (rs I)) {post : APo} {F : Nat → Int32} {m q t o : Nat} {way : Int32} {T : Nat → Nat} (hq : q < 3) (ht : t < sz (rs I) q) (hH : flH I F m q) (ho : o ≤ 20000) (hT : ∀ u, t < u → u ≤ sz (rs I) q → I 31 u = nI (T u) ∧ T u ≤ 800000)
    (K : ∀ x6 x7, am_R mX11_findLeast post 1 25 0 0 133 [some (.ref 0), some (.int (nI q)), some (.int way), some (.int (nI t)), some (.int (nI o)), some (.int (nI (o + bstR (sdp (rs I) F q) (rln F) T t m))), x6, x7] [] sh I P) : ∀ (k r : Nat), r + k = m → ∀ x7, am_R mX11_findLeast post 1 25 0 0 68 [some (.ref 0), some (.int (nI q)), some (.int way), some (.int (nI t)), some (.int (nI o)), some (.int (nI (o + bstR (sdp (rs I) F q) (rln F) T t r))), some (.int (nI r)), x7] [] sh I P := by
  obtain ⟨hF, h28, hR, hL⟩ := id hH
  have b2 := (V.sz hq).2
  have hm := hR.1
  intro k
  induction k with
  | zero =>
    intro r hr x7
    have e : r = m := by omega
    subst e
    refine r_iload dX11_findLeast_68 rfl ?_
    refine r_aload_n dX11_findLeast_70 rfl ?_
    refine r_getI dX11_findLeast_71 g_X11_170 (S.1 _ _ rfl) rfl ?_
    rw [h28]
    refine r_icmp_geN 133 dX11_findLeast_74 (by decide) (by omega) (by omega) (fun h74 => ?_) (fun h74 => ?_)
    · exact K _ _
    · exact absurd h74 (by omega)
  | succ k ih =>
    intro r hr x7
    have hO := hR.2 r (by omega)
    have eF : F (5 * r) = nI (nv (F (5 * r))) := hO.1.2.1
    have bF : nv (F (5 * r)) ≤ 4 := hO.1.2.2
    have cF := hO.1.1
    have hbd : bstR (sdp (rs I) F q) (rln F) T t r ≤ 800000 := Nat.le_trans (bstR_le r) (hT (t + 1) (by omega) (by omega)).2
    generalize hB : bstR (sdp (rs I) F q) (rln F) T t r = B at hbd
    refine r_iload dX11_findLeast_68 rfl ?_
    refine r_aload_n dX11_findLeast_70 rfl ?_
    refine r_getI dX11_findLeast_71 g_X11_170 (S.1 _ _ rfl) rfl ?_
    rw [h28]
    refine r_icmp_geN 133 dX11_findLeast_74 (by decide) (by omega) (by omega) (fun h74 => ?_) (fun h74 => ?_)
    · exact absurd h74 (by omega)
    · refine r_aload_n dX11_findLeast_77 rfl ?_
      refine r_iload_n dX11_findLeast_78 rfl ?_
      refine r_iload_n dX11_findLeast_79 rfl ?_
      refine r_iconst dX11_findLeast_80 (v := nI 5) kc_5 ?_
      refine r_iload dX11_findLeast_81 rfl ?_
      first | refine r_imulN dX11_findLeast_83 ?_ | refine r_imul dX11_findLeast_83 ?_
      refine r_callV3 (fr' := 0) (lo' := 0) (mc' := 0) (ms' := 0) dX11_findLeast_84 mm_X11_stands mv_X11_stands l_X11_173 (S.1 _ _ rfl) mc_X11_stands (by decide) ⟨by decide, by decide⟩ (Nat.zero_le _) (Nat.zero_le _) (Nat.le_of_ble_eq_true rfl) (c_X11_stands S V hF hq (by omega) hO (by omega) hL) (am_ki ?_)
      rintro v84 _ _ _ ⟨hb84, rfl, rfl, rfl⟩
      refine r_if_eq 127 dX11_findLeast_87 (by decide) (fun h87 => ?_) (fun h87 => ?_)
      · replace h87 := hb84.f h87
        have hbR : bstR (sdp (rs I) F q) (rln F) T t (r + 1) = B := by
          show cif _ _ _ = _
          rw [cif_f h87, hB]
        first | refine r_iincN dX11_findLeast_127 rfl kc_1 ?_ | refine r_iinc dX11_findLeast_127 rfl rfl ?_
        dsimp only [List.set]
        refine r_goto 68 dX11_findLeast_130 (by decide) ?_
        have h9 := ih (r + 1) (by omega)
        rw [hbR] at h9
        first
          | exact h9 _
          | (rw [show Nat.min B (T (t + n)) = T (t + n) from Nat.min_eq_right (by have := hTu.2; omega)] at h9; exact h9 _)
          | (rw [show Nat.min B (T (t + n)) = B from Nat.min_eq_left (by omega)] at h9; exact h9 _)
      · replace h87 := hb84.t h87
        have hin := h87.1
        have hTu := hT (t + nv (F (5 * r))) (by omega) hin
        have hbR : bstR (sdp (rs I) F q) (rln F) T t (r + 1) = Nat.min B (T (t + nv (F (5 * r)))) := by
          show cif _ _ _ = _
          rw [cif_t h87, hB]
          rfl
        generalize hn : nv (F (5 * r)) = n at eF bF cF hin hTu hbR
        refine r_iload dX11_findLeast_90 rfl ?_
        refine r_aload_n dX11_findLeast_92 rfl ?_
        refine r_getP dX11_findLeast_93 g_X11_98 (S.1 _ _ rfl) rfl (S.2 _ _ _ rfl) ?_
        refine r_iload_n dX11_findLeast_96 rfl ?_
        refine r_aload_n dX11_findLeast_97 rfl ?_
        refine r_getP dX11_findLeast_98 g_X11_91 (S.1 _ _ rfl) rfl (S.2 _ _ _ rfl) ?_
        refine r_iconst dX11_findLeast_101 (v := nI 5) kc_5 ?_
        refine r_iload dX11_findLeast_102 rfl ?_
        first | refine r_imulN dX11_findLeast_104 ?_ | refine r_imul dX11_findLeast_104 ?_
        refine r_iaload (5 * r) dX11_findLeast_105 (S.1 _ _ rfl) rfl (by first | decide | omega) (by decide) ?_
        rw [hF, eF]
        first | refine r_iaddN dX11_findLeast_106 ?_ | refine r_iadd dX11_findLeast_106 ?_
        refine r_iaload _ dX11_findLeast_107 (S.1 _ _ rfl) rfl (by first | decide | omega) (by decide) ?_
        rw [hTu.1]
        first | refine r_iaddN dX11_findLeast_108 ?_ | refine r_iadd dX11_findLeast_108 ?_
        refine r_istore dX11_findLeast_109 (Nat.le_of_ble_eq_true rfl) ?_
        dsimp only [List.set]
        refine r_iload dX11_findLeast_111 rfl ?_
        refine r_iload dX11_findLeast_113 rfl ?_
        refine r_icmp_geN 123 dX11_findLeast_115 (by decide) (by omega) (by omega) (fun h115 => ?_) (fun h115 => ?_)
        · refine r_iload dX11_findLeast_123 rfl ?_
          refine r_istore dX11_findLeast_125 (Nat.le_of_ble_eq_true rfl) ?_
          dsimp only [List.set]
          first | refine r_iincN dX11_findLeast_127 rfl kc_1 ?_ | refine r_iinc dX11_findLeast_127 rfl rfl ?_
          dsimp only [List.set]
          refine r_goto 68 dX11_findLeast_130 (by decide) ?_
          have h9 := ih (r + 1) (by omega)
          rw [hbR] at h9
          first
            | exact h9 _
            | (rw [show Nat.min B (T (t + n)) = T (t + n) from Nat.min_eq_right (by have := hTu.2; omega)] at h9; exact h9 _)
            | (rw [show Nat.min B (T (t + n)) = B from Nat.min_eq_left (by omega)] at h9; exact h9 _)
        · refine r_iload dX11_findLeast_118 rfl ?_
          refine r_goto 125 dX11_findLeast_120 (by decide) ?_
          refine r_istore dX11_findLeast_125 (Nat.le_of_ble_eq_true rfl) ?_
          dsimp only [List.set]
          first | refine r_iincN dX11_findLeast_127 rfl kc_1 ?_ | refine r_iinc dX11_findLeast_127 rfl rfl ?_
          dsimp only [List.set]
          refine r_goto 68 dX11_findLeast_130 (by decide) ?_
          have h9 := ih (r + 1) (by omega)
          rw [hbR] at h9
          first
            | exact h9 _
            | (rw [show Nat.min B (T (t + n)) = T (t + n) from Nat.min_eq_right (by have := hTu.2; omega)] at h9; exact h9 _)
            | (rw [show Nat.min B (T (t + n)) = B from Nat.min_eq_left (by omega)] at h9; exact h9 _)
theorem l_X11_fl (S : St_m sh P) (V : iP (rs I)) {F : Nat → Int32} {m q : Nat} {way : Int32} (hq : q < 3) (hH : flH I F m q) : ∀ (t : Nat), t ≤ sz (rs I) q → ∀ G, (∀ u, t ≤ u → u ≤ sz (rs I) q → G u = nI (lsp (rs I) F m q way u)) → ∀ x4 x5 x6 x7, am_R mX11_findLeast (po_v (fun sh' I' P' => (∃ G, I' = va_up I 31 G ∧ ∀ u, u ≤ sz (rs I) q → G u = nI (lsp (rs I) F m q way u)) ∧ sh = sh' ∧ P = P')) 1 25 0 0 26 [some (.ref 0), some (.int (nI q)), some (.int way), some (.int (nI t - nI 1)), x4, x5, x6, x7] [] sh (va_up I 31 G) P := by
  obtain ⟨hF, h28, hR, hL⟩ := id hH
  have b2 := (V.sz hq).2
  intro t
  induction t with
  | zero =>
    intro ht G hG x4 x5 x6 x7
    have e1 : nI 0 - nI 1 = (-1 : Int32) := by decide
    rw [e1]
    refine r_iload_n dX11_findLeast_26 rfl ?_
    refine r_if_lt 147 dX11_findLeast_27 (by decide) (fun h27 => ?_) (fun h27 => ?_)
    · refine r_return dX11_findLeast_147 rfl ?_
      exact ⟨rfl, ⟨G, rfl, fun u hu => hG u (Nat.zero_le _) hu⟩, rfl, rfl⟩
    · exact absurd (by decide) h27
  | succ t ih =>
    intro ht G hG x4 x5 x6 x7
    rw [pk_sub (show 1 ≤ t + 1 by omega)]
    have e31 : va_up I 31 G 31 (t + 1) = nI (lsp (rs I) F m q way (t + 1)) := by rw [va_up_self]; exact hG _ (Nat.le_refl _) ht
    have hR0 : rs (va_up I 31 G) = rs I := rs_no rfl
    have hT : ∀ u, t < u → u ≤ sz (rs I) q → va_up I 31 G 31 u = nI (lsp (rs I) F m q way u) ∧ lsp (rs I) F m q way u ≤ 800000 := fun u h1 h2 => ⟨by rw [va_up_self]; exact hG u h1 h2, lsp_le V hR hq way h2⟩
    have hd5 : I 5 (40 * q + t) = nI (nv (I 5 (40 * q + t))) ∧ nv (I 5 (40 * q + t)) ≤ 20000 := V.2.2.2 (40 * q + t) (by omega)
    have eqn : lsp (rs I) F m q way t = wt (rs I) q way t + bstR (sdp (rs I) F q) (rln F) (lsp (rs I) F m q way) t m := lst_eq (by omega) (fun r hr hsd => sdp_in hR t r (by omega) hr hsd)
    have hw := wt_le V hq way (q := t) (by omega)
    have K : ∀ y6 y7, am_R mX11_findLeast (po_v (fun sh' I' P' => (∃ G, I' = va_up I 31 G ∧ ∀ u, u ≤ sz (rs I) q → G u = nI (lsp (rs I) F m q way u)) ∧ sh = sh' ∧ P = P')) 1 25 0 0 133 [some (.ref 0), some (.int (nI q)), some (.int way), some (.int (nI t)), some (.int (nI (wt (rs I) q way t))), some (.int (nI (wt (rs I) q way t + bstR (sdp (rs I) F q) (rln F) (lsp (rs I) F m q way) t m))), y6, y7] [] sh (va_up I 31 G) P := by
      intro y6 y7
      refine r_aload_n dX11_findLeast_133 rfl ?_
      refine r_getP dX11_findLeast_134 g_X11_98 (S.1 _ _ rfl) rfl (S.2 _ _ _ rfl) ?_
      refine r_iload_n dX11_findLeast_137 rfl ?_
      refine r_iload dX11_findLeast_138 rfl ?_
      refine r_iastore _ dX11_findLeast_140 (S.1 _ _ rfl) rfl (by first | decide | omega) (by decide) ?_
      rw [va_up_self, bx_uu]
      have e2 : nI t + Int32.ofInt (-1) = nI t - nI 1 := by rw [kc_m1, Int32.sub_eq_add_neg]; rfl
      refine r_iinc dX11_findLeast_141 rfl e2 ?_
      dsimp only [List.set]
      refine r_goto 26 dX11_findLeast_144 (by decide) ?_
      refine ih (by omega) _ (fun u h1 h2 => ?_) _ _ _ _
      by_cases hu : u = t
      · subst hu
        rw [pk_us, eqn]
      · rw [pk_un hu]
        exact hG u (by omega) h2
    have hin := fun x7 => l_X11_flI (I := va_up I 31 G) (t := t) (q := q) (way := way) (T := lsp (rs I) F m q way) (o := wt (rs I) q way t) S (by rw [hR0]; exact V) hq (by rw [hR0]; omega) (F := F) (m := m) ⟨hF, h28, hR, by rw [hR0]; exact hL⟩ hw (by rw [hR0]; exact hT) (by rw [hR0]; exact K) m 0 (Nat.zero_add _) x7
    rw [hR0] at hin
    have hin : ∀ x7, am_R mX11_findLeast _ 1 25 0 0 68 [some (.ref 0), some (.int (nI q)), some (.int way), some (.int (nI t)), some (.int (nI (wt (rs I) q way t))), some (.int (nI (wt (rs I) q way t + lsp (rs I) F m q way (t + 1)))), some (.int (nI 0)), x7] [] sh (va_up I 31 G) P := hin
    show am_R mX11_findLeast _ 1 25 0 0 26 [some (.ref 0), some (.int (nI q)), some (.int way), some (.int (nI t)), x4, x5, x6, x7] [] sh (va_up I 31 G) P
    refine r_iload_n dX11_findLeast_26 rfl ?_
    refine r_if_ltN 147 dX11_findLeast_27 (by decide) (by omega) (fun h27 => ?_) (fun h27 => ?_)
    · exact absurd h27 (by omega)
    · refine r_iload_n dX11_findLeast_30 rfl ?_
      refine r_iconst dX11_findLeast_31 (v := nI 1) kc_1 ?_
      refine r_icmp_ne 49 dX11_findLeast_32 (by decide) (fun h32 => ?_) (fun h32 => ?_)
      · have ew : wt (rs I) q way t = 1 := if_neg h32
        refine r_iconst dX11_findLeast_49 (v := nI (wt (rs I) q way t)) (by rw [ew]; exact kc_1) ?_
        refine r_istore dX11_findLeast_50 (Nat.le_of_ble_eq_true rfl) ?_
        dsimp only [List.set]
        refine r_iload dX11_findLeast_52 rfl ?_
        refine r_aload_n dX11_findLeast_54 rfl ?_
        refine r_getP dX11_findLeast_55 g_X11_98 (S.1 _ _ rfl) rfl (S.2 _ _ _ rfl) ?_
        refine r_iload_n dX11_findLeast_58 rfl ?_
        refine r_iconst dX11_findLeast_59 (v := nI 1) kc_1 ?_
        first | refine r_iaddN dX11_findLeast_60 ?_ | refine r_iadd dX11_findLeast_60 ?_
        refine r_iaload _ dX11_findLeast_61 (S.1 _ _ rfl) rfl (by first | decide | omega) (by decide) ?_
        rw [e31]
        first | refine r_iaddN dX11_findLeast_62 ?_ | refine r_iadd dX11_findLeast_62 ?_
        refine r_istore dX11_findLeast_63 (Nat.le_of_ble_eq_true rfl) ?_
        dsimp only [List.set]
        refine r_iconst dX11_findLeast_65 (v := nI 0) kc_0 ?_
        refine r_istore dX11_findLeast_66 (Nat.le_of_ble_eq_true rfl) ?_
        dsimp only [List.set]
        exact hin _
      · have ew : wt (rs I) q way t = nv (I 5 (40 * q + t)) := if_pos h32
        refine r_aload_n dX11_findLeast_35 rfl ?_
        refine r_getP dX11_findLeast_36 g_X11_22 (S.1 _ _ rfl) rfl (S.2 _ _ _ rfl) ?_
        refine r_bipush dX11_findLeast_39 (v := nI 40) (by decide) ?_
        refine r_iload_n dX11_findLeast_41 rfl ?_
        first | refine r_imulN dX11_findLeast_42 ?_ | refine r_imul dX11_findLeast_42 ?_
        refine r_iload_n dX11_findLeast_43 rfl ?_
        first | refine r_iaddN dX11_findLeast_44 ?_ | refine r_iadd dX11_findLeast_44 ?_
        refine r_iaload _ dX11_findLeast_45 (S.1 _ _ rfl) rfl (by first | decide | omega) (by decide) ?_
        simp (decide := true) only [va_up_ne, va_up_self]
        rw [hd5.1, ← ew]
        refine r_goto 50 dX11_findLeast_46 (by decide) ?_
        refine r_istore dX11_findLeast_50 (Nat.le_of_ble_eq_true rfl) ?_
        dsimp only [List.set]
        refine r_iload dX11_findLeast_52 rfl ?_
        refine r_aload_n dX11_findLeast_54 rfl ?_
        refine r_getP dX11_findLeast_55 g_X11_98 (S.1 _ _ rfl) rfl (S.2 _ _ _ rfl) ?_
        refine r_iload_n dX11_findLeast_58 rfl ?_
        refine r_iconst dX11_findLeast_59 (v := nI 1) kc_1 ?_
        first | refine r_iaddN dX11_findLeast_60 ?_ | refine r_iadd dX11_findLeast_60 ?_
        refine r_iaload _ dX11_findLeast_61 (S.1 _ _ rfl) rfl (by first | decide | omega) (by decide) ?_
        rw [e31]
        first | refine r_iaddN dX11_findLeast_62 ?_ | refine r_iadd dX11_findLeast_62 ?_
        refine r_istore dX11_findLeast_63 (Nat.le_of_ble_eq_true rfl) ?_
        dsimp only [List.set]
        refine r_iconst dX11_findLeast_65 (v := nI 0) kc_0 ?_
        refine r_istore dX11_findLeast_66 (Nat.le_of_ble_eq_true rfl) ?_
        dsimp only [List.set]
        exact hin _
theorem c_X11_findLeast (S : St_m sh P) (V : iP (rs I)) {F : Nat → Int32} {m q : Nat} {way : Int32} (hq : q < 3) (hF : I 29 = F) (h28 : I 0 28 = nI m) (hR : rOk F m) : am_R mX11_findLeast (po_v (fun sh' I' P' => (∃ L G, I' = va_up (va_up I 30 L) 31 G ∧ (∀ t, t < 41 → bo (L t) (led (rs I) q t)) ∧ ∀ u, u ≤ sz (rs I) q → G u = nI (lsp (rs I) F m q way u)) ∧ sh = sh' ∧ P = P')) 1 25 0 0 0 [some (.ref 0), some (.int (nI q)), some (.int way), none, none, none, none, none] [] sh I P := by
  obtain ⟨e2, b2⟩ := V.sz hq
  have e2 : I 2 q = nI (sz (rs I) q) := e2
  refine r_aload_n dX11_findLeast_0 rfl ?_
  refine r_iload_n dX11_findLeast_1 rfl ?_
  refine r_callV1 (fr' := 0) (lo' := 0) (mc' := 0) (ms' := 0) dX11_findLeast_2 mm_X11_readLed mv_X11_readLed l_X11_167 (S.1 _ _ rfl) mc_X11_readLed (by decide) ⟨by decide, by decide⟩ (Nat.zero_le _) (Nat.zero_le _) (Nat.le_of_ble_eq_true rfl) (c_X11_readLed S V hq) (am_kv ?_)
  rintro _ _ _ ⟨⟨L, rfl, hL⟩, rfl, rfl⟩
  refine r_aload_n dX11_findLeast_5 rfl ?_
  refine r_getP dX11_findLeast_6 g_X11_98 (S.1 _ _ rfl) rfl (S.2 _ _ _ rfl) ?_
  refine r_aload_n dX11_findLeast_9 rfl ?_
  refine r_getP dX11_findLeast_10 g_X11_13 (S.1 _ _ rfl) rfl (S.2 _ _ _ rfl) ?_
  refine r_iload_n dX11_findLeast_13 rfl ?_
  refine r_iaload _ dX11_findLeast_14 (S.1 _ _ rfl) rfl (by first | decide | omega) (by decide) ?_
  simp (decide := true) only [va_up_ne, va_up_self]
  rw [e2]
  refine r_iconst dX11_findLeast_15 (v := nI 0) kc_0 ?_
  refine r_iastore _ dX11_findLeast_16 (S.1 _ _ rfl) rfl (by first | decide | omega) (by decide) ?_
  refine r_aload_n dX11_findLeast_17 rfl ?_
  refine r_getP dX11_findLeast_18 g_X11_13 (S.1 _ _ rfl) rfl (S.2 _ _ _ rfl) ?_
  refine r_iload_n dX11_findLeast_21 rfl ?_
  refine r_iaload _ dX11_findLeast_22 (S.1 _ _ rfl) rfl (by first | decide | omega) (by decide) ?_
  simp (decide := true) only [va_up_ne, va_up_self]
  rw [e2]
  refine r_iconst dX11_findLeast_23 (v := nI 1) kc_1 ?_
  refine r_isub dX11_findLeast_24 ?_
  refine r_istore_n dX11_findLeast_25 (Nat.le_of_ble_eq_true rfl) ?_
  dsimp only [List.set]
  have hR0 : rs (va_up I 30 L) = rs I := rs_no rfl
  have h9 := l_X11_fl (I := va_up I 30 L) (way := way) S (by rw [hR0]; exact V) hq (F := F) (m := m) ⟨hF, h28, hR, by rw [hR0, va_up_self]; exact hL⟩ (sz (rs I) q) (by rw [hR0]; exact Nat.le_refl _) (upd (va_up I 30 L 31) (sz (rs I) q) (nI 0)) (by
    intro u h1 h2
    rw [hR0] at h2 ⊢
    have e : u = sz (rs I) q := by omega
    subst e
    rw [pk_us, lsp, lst_end]) none none none none
  rw [hR0] at h9
  refine am_mono h9 ?_
  rintro _ _ _ _ ⟨rfl, ⟨G, rfl, hG⟩, rfl, rfl⟩
  exact ⟨rfl, ⟨L, G, rfl, hL, hG⟩, rfl, rfl⟩
end M7
