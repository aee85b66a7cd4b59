/-! the reference: run -/
section M15
variable {sh : ASh} {I : AIn} {P : APt}
theorem l_X11_runAU (S : St_m sh P) {post : APo} {y b : Int32} (hb : b = 0) {x3 : Option Value} {n : Nat} (K : ∀ x5, am_R mX11_run post 3 72 0 0 96 [some (.ref 0), some (.int y), some (.int b), x3, some (.int (nI n)), x5, none] [] sh (va_up I 35 (fun j => if j < 40 then nI 1 else I 35 j)) P) : ∀ (m k : Nat), k + m = 40 → ∀ H, H = va_up I 35 (fun j => if j < k then nI 1 else I 35 j) → am_R mX11_run post 3 72 0 0 67 [some (.ref 0), some (.int y), some (.int b), x3, some (.int (nI n)), some (.int (nI k)), none] [] sh H P := by
  intro m
  induction m with
  | zero =>
    intro k hk H hH
    have e : k = 40 := by omega
    subst e
    rw [hH]
    refine r_iload dX11_run_67 rfl ?_
    refine r_bipush dX11_run_69 (v := nI 40) (by decide) ?_
    refine r_icmp_geN 96 dX11_run_71 (by decide) (by omega) (by omega) (fun h71 => ?_) (fun h71 => ?_)
    · exact K _
    · exact absurd h71 (by omega)
  | succ m ih =>
    intro k hk H hH
    have e35 : H 35 = fun j => if j < k then nI 1 else I 35 j := by rw [hH, va_up_self]
    refine r_iload dX11_run_67 rfl ?_
    refine r_bipush dX11_run_69 (v := nI 40) (by decide) ?_
    refine r_icmp_geN 96 dX11_run_71 (by decide) (by omega) (by omega) (fun h71 => ?_) (fun h71 => ?_)
    · exact absurd h71 (by omega)
    · refine r_aload_n dX11_run_74 rfl ?_
      refine r_getP dX11_run_75 g_X11_110 (S.1 _ _ rfl) rfl (S.2 _ _ _ rfl) ?_
      refine r_iload dX11_run_78 rfl ?_
      refine r_iload_n dX11_run_80 rfl ?_
      refine r_if_ne 88 dX11_run_81 (by decide) (fun h81 => ?_) (fun h81 => ?_)
      · exact absurd hb h81
      · refine r_iconst dX11_run_84 (v := nI 1) kc_1 ?_
        refine r_goto 89 dX11_run_85 (by decide) ?_
        refine r_bastore _ dX11_run_89 (S.1 _ _ rfl) rfl (by first | decide | omega) (by decide) rfl ?_
        first | refine r_iincN dX11_run_90 rfl kc_1 ?_ | refine r_iinc dX11_run_90 rfl rfl ?_
        dsimp only [List.set]
        refine r_goto 67 dX11_run_93 (by decide) ?_
        refine ih (k + 1) (by omega) _ ?_
        rw [e35, fl0_step (fun _ => nI 1), hH, bx_uu]
theorem l_X11_runCU (S : St_m sh P) {post : APo} {y b : Int32} (hb : b = 0) {x3 : Option Value} {n q : Nat} (hq : q < 3) (hn : n ≤ 40) (K : ∀ x5, am_R mX11_run post 3 72 0 0 219 [some (.ref 0), some (.int (nI q)), some (.int b), x3, some (.int (nI n)), x5, none] [] sh (va_up (va_up I 32 (fun j => if j < n then (fun j => I 3 (40 * q + j)) j else I 32 j)) 33 (fun j => if j < n then (fun j => I 4 (40 * q + j)) j else I 33 j)) P) : ∀ (m k : Nat), k + m = n → ∀ H, H = va_up (va_up I 32 (fun j => if j < k then (fun j => I 3 (40 * q + j)) j else I 32 j)) 33 (fun j => if j < k then (fun j => I 4 (40 * q + j)) j else I 33 j) → am_R mX11_run post 3 72 0 0 140 [some (.ref 0), some (.int (nI q)), some (.int b), x3, some (.int (nI n)), some (.int (nI k)), none] [] sh H P := by
  intro m
  induction m with
  | zero =>
    intro k hk H hH
    have e : k = n := by omega
    subst e
    rw [hH]
    refine r_iload dX11_run_140 rfl ?_
    refine r_iload dX11_run_142 rfl ?_
    refine r_icmp_geN 219 dX11_run_144 (by decide) (by omega) (by omega) (fun h144 => ?_) (fun h144 => ?_)
    · exact K _
    · exact absurd h144 (by omega)
  | succ m ih =>
    intro k hk H hH
    have e32 : H 32 = fun j => if j < k then (fun j => I 3 (40 * q + j)) j else I 32 j := by rw [hH, va_up_ne _ _ (by decide), va_up_self]
    have e33 : H 33 = fun j => if j < k then (fun j => I 4 (40 * q + j)) j else I 33 j := by rw [hH, va_up_self]
    have eA : H 3 = I 3 := by rw [hH, va_up_ne _ _ (by decide), va_up_ne _ _ (by decide)]
    have eB : H 4 = I 4 := by rw [hH, va_up_ne _ _ (by decide), va_up_ne _ _ (by decide)]
    refine r_iload dX11_run_140 rfl ?_
    refine r_iload dX11_run_142 rfl ?_
    refine r_icmp_geN 219 dX11_run_144 (by decide) (by omega) (by omega) (fun h144 => ?_) (fun h144 => ?_)
    · exact absurd h144 (by omega)
    · refine r_aload_n dX11_run_147 rfl ?_
      refine r_getP dX11_run_148 g_X11_101 (S.1 _ _ rfl) rfl (S.2 _ _ _ rfl) ?_
      refine r_iload dX11_run_151 rfl ?_
      refine r_iload_n dX11_run_153 rfl ?_
      refine r_if_eq 167 dX11_run_154 (by decide) (fun h154 => ?_) (fun h154 => ?_)
      · refine r_aload_n dX11_run_167 rfl ?_
        refine r_getP dX11_run_168 g_X11_16 (S.1 _ _ rfl) rfl (S.2 _ _ _ rfl) ?_
        refine r_bipush dX11_run_171 (v := nI 40) (by decide) ?_
        refine r_iload_n dX11_run_173 rfl ?_
        first | refine r_imulN dX11_run_174 ?_ | refine r_imul dX11_run_174 ?_
        refine r_iload dX11_run_175 rfl ?_
        first | refine r_iaddN dX11_run_177 ?_ | refine r_iadd dX11_run_177 ?_
        refine r_iaload (40 * q + k) dX11_run_178 (S.1 _ _ rfl) rfl (by first | decide | omega) (by decide) ?_
        rw [eA]
        refine r_iastore _ dX11_run_179 (S.1 _ _ rfl) rfl (by first | decide | omega) (by decide) ?_
        refine r_aload_n dX11_run_180 rfl ?_
        refine r_getP dX11_run_181 g_X11_104 (S.1 _ _ rfl) rfl (S.2 _ _ _ rfl) ?_
        refine r_iload dX11_run_184 rfl ?_
        refine r_iload_n dX11_run_186 rfl ?_
        refine r_if_eq 200 dX11_run_187 (by decide) (fun h187 => ?_) (fun h187 => ?_)
        · refine r_aload_n dX11_run_200 rfl ?_
          refine r_getP dX11_run_201 g_X11_19 (S.1 _ _ rfl) rfl (S.2 _ _ _ rfl) ?_
          refine r_bipush dX11_run_204 (v := nI 40) (by decide) ?_
          refine r_iload_n dX11_run_206 rfl ?_
          first | refine r_imulN dX11_run_207 ?_ | refine r_imul dX11_run_207 ?_
          refine r_iload dX11_run_208 rfl ?_
          first | refine r_iaddN dX11_run_210 ?_ | refine r_iadd dX11_run_210 ?_
          refine r_iaload (40 * q + k) dX11_run_211 (S.1 _ _ rfl) rfl (by first | decide | omega) (by decide) ?_
          simp (decide := true) only [va_up_ne, va_up_self]
          rw [eB]
          refine r_iastore _ dX11_run_212 (S.1 _ _ rfl) rfl (by first | decide | omega) (by decide) ?_
          first | refine r_iincN dX11_run_213 rfl kc_1 ?_ | refine r_iinc dX11_run_213 rfl rfl ?_
          dsimp only [List.set]
          refine r_goto 140 dX11_run_216 (by decide) ?_
          refine ih (k + 1) (by omega) _ ?_
          have q2 : va_up H 32 (upd (H 32) k (I 3 (40 * q + k))) 33 = fun j => if j < k then (fun j => I 4 (40 * q + j)) j else I 33 j := by rw [va_up_ne _ _ (by decide), e33]
          have g1 := fl0_step (fun j => I 3 (40 * q + j)) (I 32) k
          have g2 := fl0_step (fun j => I 4 (40 * q + j)) (I 33) k
          rw [q2, e32]
          rw [g1, g2, hH, up_sw (i := 33) (j := 32) (by decide), bx_uu, bx_uu]
        · exact absurd hb h187
      · exact absurd hb h154
theorem l_X11_runAP (S : St_m sh P) {post : APo} {y b : Int32} (hb : ¬ b = 0) {x3 : Option Value} {n : Nat} (K : ∀ x5, am_R mX11_run post 3 72 0 0 96 [some (.ref 0), some (.int y), some (.int b), x3, some (.int (nI n)), x5, none] [] sh (va_up I 35 (fun j => if j < 40 then nI 0 else I 35 j)) P) : ∀ (m k : Nat), k + m = 40 → ∀ H, H = va_up I 35 (fun j => if j < k then nI 0 else I 35 j) → am_R mX11_run post 3 72 0 0 67 [some (.ref 0), some (.int y), some (.int b), x3, some (.int (nI n)), some (.int (nI k)), none] [] sh H P := by
  intro m
  induction m with
  | zero =>
    intro k hk H hH
    have e : k = 40 := by omega
    subst e
    rw [hH]
    refine r_iload dX11_run_67 rfl ?_
    refine r_bipush dX11_run_69 (v := nI 40) (by decide) ?_
    refine r_icmp_geN 96 dX11_run_71 (by decide) (by omega) (by omega) (fun h71 => ?_) (fun h71 => ?_)
    · exact K _
    · exact absurd h71 (by omega)
  | succ m ih =>
    intro k hk H hH
    have e35 : H 35 = fun j => if j < k then nI 0 else I 35 j := by rw [hH, va_up_self]
    refine r_iload dX11_run_67 rfl ?_
    refine r_bipush dX11_run_69 (v := nI 40) (by decide) ?_
    refine r_icmp_geN 96 dX11_run_71 (by decide) (by omega) (by omega) (fun h71 => ?_) (fun h71 => ?_)
    · exact absurd h71 (by omega)
    · refine r_aload_n dX11_run_74 rfl ?_
      refine r_getP dX11_run_75 g_X11_110 (S.1 _ _ rfl) rfl (S.2 _ _ _ rfl) ?_
      refine r_iload dX11_run_78 rfl ?_
      refine r_iload_n dX11_run_80 rfl ?_
      refine r_if_ne 88 dX11_run_81 (by decide) (fun h81 => ?_) (fun h81 => ?_)
      · refine r_iconst dX11_run_88 (v := nI 0) kc_0 ?_
        refine r_bastore _ dX11_run_89 (S.1 _ _ rfl) rfl (by first | decide | omega) (by decide) rfl ?_
        first | refine r_iincN dX11_run_90 rfl kc_1 ?_ | refine r_iinc dX11_run_90 rfl rfl ?_
        dsimp only [List.set]
        refine r_goto 67 dX11_run_93 (by decide) ?_
        refine ih (k + 1) (by omega) _ ?_
        rw [e35, fl0_step (fun _ => nI 0), hH, bx_uu]
      · exact absurd h81 hb
theorem l_X11_runCP (S : St_m sh P) {post : APo} {y b : Int32} (hb : ¬ b = 0) {x3 : Option Value} {n q : Nat} (hq : q < 3) (hn : n ≤ 40) (K : ∀ x5, am_R mX11_run post 3 72 0 0 219 [some (.ref 0), some (.int y), some (.int b), x3, some (.int (nI n)), x5, none] [] sh (va_up (va_up I 32 (fun j => if j < n then (fun j => I 9 j) j else I 32 j)) 33 (fun j => if j < n then (fun j => I 10 j) j else I 33 j)) P) : ∀ (m k : Nat), k + m = n → ∀ H, H = va_up (va_up I 32 (fun j => if j < k then (fun j => I 9 j) j else I 32 j)) 33 (fun j => if j < k then (fun j => I 10 j) j else I 33 j) → am_R mX11_run post 3 72 0 0 140 [some (.ref 0), some (.int y), some (.int b), x3, some (.int (nI n)), some (.int (nI k)), none] [] sh H P := by
  intro m
  induction m with
  | zero =>
    intro k hk H hH
    have e : k = n := by omega
    subst e
    rw [hH]
    refine r_iload dX11_run_140 rfl ?_
    refine r_iload dX11_run_142 rfl ?_
    refine r_icmp_geN 219 dX11_run_144 (by decide) (by omega) (by omega) (fun h144 => ?_) (fun h144 => ?_)
    · exact K _
    · exact absurd h144 (by omega)
  | succ m ih =>
    intro k hk H hH
    have e32 : H 32 = fun j => if j < k then (fun j => I 9 j) j else I 32 j := by rw [hH, va_up_ne _ _ (by decide), va_up_self]
    have e33 : H 33 = fun j => if j < k then (fun j => I 10 j) j else I 33 j := by rw [hH, va_up_self]
    have eA : H 9 = I 9 := by rw [hH, va_up_ne _ _ (by decide), va_up_ne _ _ (by decide)]
    have eB : H 10 = I 10 := by rw [hH, va_up_ne _ _ (by decide), va_up_ne _ _ (by decide)]
    refine r_iload dX11_run_140 rfl ?_
    refine r_iload dX11_run_142 rfl ?_
    refine r_icmp_geN 219 dX11_run_144 (by decide) (by omega) (by omega) (fun h144 => ?_) (fun h144 => ?_)
    · exact absurd h144 (by omega)
    · refine r_aload_n dX11_run_147 rfl ?_
      refine r_getP dX11_run_148 g_X11_101 (S.1 _ _ rfl) rfl (S.2 _ _ _ rfl) ?_
      refine r_iload dX11_run_151 rfl ?_
      refine r_iload_n dX11_run_153 rfl ?_
      refine r_if_eq 167 dX11_run_154 (by decide) (fun h154 => ?_) (fun h154 => ?_)
      · exact absurd h154 hb
      · refine r_aload_n dX11_run_157 rfl ?_
        refine r_getP dX11_run_158 g_X11_34 (S.1 _ _ rfl) rfl (S.2 _ _ _ rfl) ?_
        refine r_iload dX11_run_161 rfl ?_
        refine r_iaload _ dX11_run_163 (S.1 _ _ rfl) rfl (by first | decide | omega) (by decide) ?_
        rw [eA]
        refine r_goto 179 dX11_run_164 (by decide) ?_
        refine r_iastore _ dX11_run_179 (S.1 _ _ rfl) rfl (by first | decide | omega) (by decide) ?_
        refine r_aload_n dX11_run_180 rfl ?_
        refine r_getP dX11_run_181 g_X11_104 (S.1 _ _ rfl) rfl (S.2 _ _ _ rfl) ?_
        refine r_iload dX11_run_184 rfl ?_
        refine r_iload_n dX11_run_186 rfl ?_
        refine r_if_eq 200 dX11_run_187 (by decide) (fun h187 => ?_) (fun h187 => ?_)
        · exact absurd h187 hb
        · refine r_aload_n dX11_run_190 rfl ?_
          refine r_getP dX11_run_191 g_X11_37 (S.1 _ _ rfl) rfl (S.2 _ _ _ rfl) ?_
          refine r_iload dX11_run_194 rfl ?_
          refine r_iaload _ dX11_run_196 (S.1 _ _ rfl) rfl (by first | decide | omega) (by decide) ?_
          simp (decide := true) only [va_up_ne, va_up_self]
          rw [eB]
          refine r_goto 212 dX11_run_197 (by decide) ?_
          refine r_iastore _ dX11_run_212 (S.1 _ _ rfl) rfl (by first | decide | omega) (by decide) ?_
          first | refine r_iincN dX11_run_213 rfl kc_1 ?_ | refine r_iinc dX11_run_213 rfl rfl ?_
          dsimp only [List.set]
          refine r_goto 140 dX11_run_216 (by decide) ?_
          refine ih (k + 1) (by omega) _ ?_
          have q2 : va_up H 32 (upd (H 32) k (I 9 k)) 33 = fun j => if j < k then (fun j => I 10 j) j else I 33 j := by rw [va_up_ne _ _ (by decide), e33]
          have g1 := fl0_step (fun j => I 9 j) (I 32) k
          have g2 := fl0_step (fun j => I 10 j) (I 33) k
          rw [q2, e32]
          rw [g1, g2, hH, up_sw (i := 33) (j := 32) (by decide), bx_uu, bx_uu]
theorem l_X11_runB (S : St_m sh P) {post : APo} {y b : Int32} (hb : ¬ b = 0) {x3 : Option Value} {n c : Nat} (h11 : I 11 0 = nI c) (hc : c ≤ 40) (hpl : ∀ k, k < c → isN (I 12 (3 * k + 1)) 39) (K : ∀ B x5, (∀ t, t < 40 → bo (B t) (∃ k, k < c ∧ I 12 (3 * k + 1) = nI t)) → am_R mX11_run post 3 72 0 0 137 [some (.ref 0), some (.int y), some (.int b), x3, some (.int (nI n)), x5, none] [] sh (va_up I 35 B) P) : ∀ (m k : Nat), k + m = c → ∀ B, (∀ t, t < 40 → bo (B t) (∃ i, i < k ∧ I 12 (3 * i + 1) = nI t)) → am_R mX11_run post 3 72 0 0 99 [some (.ref 0), some (.int y), some (.int b), x3, some (.int (nI n)), some (.int (nI k)), none] [] sh (va_up I 35 B) P := by
  intro m
  induction m with
  | zero =>
    intro k hk B hB
    have e : k = c := by omega
    subst e
    refine r_iload_n dX11_run_99 rfl ?_
    refine r_if_eq 137 dX11_run_100 (by decide) (fun h100 => ?_) (fun h100 => ?_)
    · exact absurd h100 hb
    · refine r_iload dX11_run_103 rfl ?_
      refine r_aload_n dX11_run_105 rfl ?_
      refine r_getP dX11_run_106 g_X11_40 (S.1 _ _ rfl) rfl (S.2 _ _ _ rfl) ?_
      refine r_iconst dX11_run_109 (v := nI 0) kc_0 ?_
      refine r_iaload _ dX11_run_110 (S.1 _ _ rfl) rfl (by first | decide | omega) (by decide) ?_
      simp (decide := true) only [va_up_ne, va_up_self]
      rw [h11]
      refine r_icmp_geN 137 dX11_run_111 (by decide) (by omega) (by omega) (fun h111 => ?_) (fun h111 => ?_)
      · exact K B _ hB
      · exact absurd h111 (by omega)
  | succ m ih =>
    intro k hk B hB
    obtain ⟨e12, b12⟩ := hpl k (by omega)
    generalize hu : nv (I 12 (3 * k + 1)) = u at e12 b12
    refine r_iload_n dX11_run_99 rfl ?_
    refine r_if_eq 137 dX11_run_100 (by decide) (fun h100 => ?_) (fun h100 => ?_)
    · exact absurd h100 hb
    · refine r_iload dX11_run_103 rfl ?_
      refine r_aload_n dX11_run_105 rfl ?_
      refine r_getP dX11_run_106 g_X11_40 (S.1 _ _ rfl) rfl (S.2 _ _ _ rfl) ?_
      refine r_iconst dX11_run_109 (v := nI 0) kc_0 ?_
      refine r_iaload _ dX11_run_110 (S.1 _ _ rfl) rfl (by first | decide | omega) (by decide) ?_
      simp (decide := true) only [va_up_ne, va_up_self]
      rw [h11]
      refine r_icmp_geN 137 dX11_run_111 (by decide) (by omega) (by omega) (fun h111 => ?_) (fun h111 => ?_)
      · exact absurd h111 (by omega)
      · refine r_aload_n dX11_run_114 rfl ?_
        refine r_getP dX11_run_115 g_X11_110 (S.1 _ _ rfl) rfl (S.2 _ _ _ rfl) ?_
        refine r_aload_n dX11_run_118 rfl ?_
        refine r_getP dX11_run_119 g_X11_43 (S.1 _ _ rfl) rfl (S.2 _ _ _ rfl) ?_
        refine r_iconst dX11_run_122 (v := nI 3) kc_3 ?_
        refine r_iload dX11_run_123 rfl ?_
        first | refine r_imulN dX11_run_125 ?_ | refine r_imul dX11_run_125 ?_
        refine r_iconst dX11_run_126 (v := nI 1) kc_1 ?_
        first | refine r_iaddN dX11_run_127 ?_ | refine r_iadd dX11_run_127 ?_
        refine r_iaload (3 * k + 1) dX11_run_128 (S.1 _ _ rfl) rfl (by first | decide | omega) (by decide) ?_
        simp (decide := true) only [va_up_ne, va_up_self]
        rw [e12]
        refine r_iconst dX11_run_129 (v := nI 1) kc_1 ?_
        refine r_bastore _ dX11_run_130 (S.1 _ _ rfl) rfl (by first | decide | omega) (by decide) rfl ?_
        rw [va_up_self, bx_uu]
        first | refine r_iincN dX11_run_131 rfl kc_1 ?_ | refine r_iinc dX11_run_131 rfl rfl ?_
        dsimp only [List.set]
        refine r_goto 99 dX11_run_134 (by decide) ?_
        refine ih (k + 1) (by omega) _ (fun t ht => ?_)
        by_cases htu : t = u
        · subst htu
          rw [pk_us]
          exact bo_1 ⟨k, by omega, e12⟩
        · rw [pk_un htu]
          refine (hB t ht).of ⟨?_, ?_⟩
          · rintro ⟨i, h1, h2⟩
            exact ⟨i, by omega, h2⟩
          · rintro ⟨i, h1, h2⟩
            rcases Nat.lt_or_ge i k with g | g
            · exact ⟨i, g, h2⟩
            · exfalso
              have e : i = k := by omega
              subst e
              rw [e12, nI_eq (by omega) (by omega)] at h2
              exact htu h2.symm
theorem l_X11_runD (S : St_m sh P) {b : Int32} (hb : b = 0) {x3 : Option Value} {n q e : Nat} {J : AIn} {tm : Nat → Int32} {σ' : AIn} (hq : q < 3) (hn : n ≤ 40) (h34 : I 34 = tm) (hfin : ∀ H, H = va_up I 5 (fun j => if 40 * q ≤ j ∧ j < 40 * q + n then tm (j - 40 * q) else I 5 j) → rs H = σ' ∧ hi H J) : ∀ (m k : Nat), k + m = n → ∀ H, H = va_up I 5 (fun j => if 40 * q ≤ j ∧ j < 40 * q + k then tm (j - 40 * q) else I 5 j) → am_R mX11_run (mpo sh P J (nI e) σ') 3 72 0 0 231 [some (.ref 0), some (.int (nI q)), some (.int b), x3, some (.int (nI n)), some (.int (nI e)), some (.int (nI k))] [] sh H P := by
  intro m
  induction m with
  | zero =>
    intro k hk H hH
    have e2 : k = n := by omega
    subst e2
    obtain ⟨g1, g2⟩ := hfin H hH
    refine r_iload_n dX11_run_231 rfl ?_
    refine r_if_ne 267 dX11_run_232 (by decide) (fun h232 => ?_) (fun h232 => ?_)
    · exact absurd hb h232
    · refine r_iload dX11_run_235 rfl ?_
      refine r_iload dX11_run_237 rfl ?_
      refine r_icmp_geN 267 dX11_run_239 (by decide) (by omega) (by omega) (fun h239 => ?_) (fun h239 => ?_)
      · refine r_iload dX11_run_267 rfl ?_
        refine r_ireturn dX11_run_269 .int rfl rfl ?_
        exact ⟨_, rfl, rfl, g1, g2, rfl, rfl⟩
      · exact absurd h239 (by omega)
  | succ m ih =>
    intro k hk H hH
    have e5 : H 5 = fun j => if 40 * q ≤ j ∧ j < 40 * q + k then tm (j - 40 * q) else I 5 j := by rw [hH, va_up_self]
    have e34 : H 34 = tm := by rw [hH, va_up_ne _ _ (by decide)]; exact h34
    refine r_iload_n dX11_run_231 rfl ?_
    refine r_if_ne 267 dX11_run_232 (by decide) (fun h232 => ?_) (fun h232 => ?_)
    · exact absurd hb h232
    · refine r_iload dX11_run_235 rfl ?_
      refine r_iload dX11_run_237 rfl ?_
      refine r_icmp_geN 267 dX11_run_239 (by decide) (by omega) (by omega) (fun h239 => ?_) (fun h239 => ?_)
      · exact absurd h239 (by omega)
      · refine r_aload_n dX11_run_242 rfl ?_
        refine r_getP dX11_run_243 g_X11_22 (S.1 _ _ rfl) rfl (S.2 _ _ _ rfl) ?_
        refine r_bipush dX11_run_246 (v := nI 40) (by decide) ?_
        refine r_iload_n dX11_run_248 rfl ?_
        first | refine r_imulN dX11_run_249 ?_ | refine r_imul dX11_run_249 ?_
        refine r_iload dX11_run_250 rfl ?_
        first | refine r_iaddN dX11_run_252 ?_ | refine r_iadd dX11_run_252 ?_
        refine r_aload_n dX11_run_253 rfl ?_
        refine r_getP dX11_run_254 g_X11_107 (S.1 _ _ rfl) rfl (S.2 _ _ _ rfl) ?_
        refine r_iload dX11_run_257 rfl ?_
        refine r_iaload _ dX11_run_259 (S.1 _ _ rfl) rfl (by first | decide | omega) (by decide) ?_
        rw [e34]
        refine r_iastore (40 * q + k) dX11_run_260 (S.1 _ _ rfl) rfl (by first | decide | omega) (by decide) ?_
        first | refine r_iincN dX11_run_261 rfl kc_1 ?_ | refine r_iinc dX11_run_261 rfl rfl ?_
        dsimp only [List.set]
        refine r_goto 231 dX11_run_264 (by decide) ?_
        refine ih (k + 1) (by omega) _ ?_
        rw [e5, fl_step, hH, bx_uu]
end M15
