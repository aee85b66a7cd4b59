/-! the reference: pack -/
section M9
variable {sh : ASh} {I : AIn} {P : APt}
theorem c_X11_putByte (S : St_m sh P) {b : Nat} {x : Int32} (hb : I 13 0 = nI b) (hb2 : b < 320) : am_R mX11_putByte (po_v (fun sh' I' P' => I' = va_up (va_up I 14 (upd (I 14) b (x &&& nI 255))) 13 (upd (I 13) 0 (nI (b + 1))) ∧ sh = sh' ∧ P = P')) 0 0 0 0 0 [some (.ref 0), some (.int x)] [] sh I P := by
  refine r_aload_n dX11_putByte_0 rfl ?_
  refine r_getP dX11_putByte_1 g_X11_49 (S.1 _ _ rfl) rfl (S.2 _ _ _ rfl) ?_
  refine r_aload_n dX11_putByte_4 rfl ?_
  refine r_getP dX11_putByte_5 g_X11_46 (S.1 _ _ rfl) rfl (S.2 _ _ _ rfl) ?_
  refine r_iconst dX11_putByte_8 (v := nI 0) kc_0 ?_
  refine r_iaload _ dX11_putByte_9 (S.1 _ _ rfl) rfl (by first | decide | omega) (by decide) ?_
  rw [hb]
  refine r_iload_n dX11_putByte_10 rfl ?_
  refine r_sipush dX11_putByte_11 (v := nI 255) (by decide) ?_
  refine r_iand dX11_putByte_14 ?_
  refine r_iastore _ dX11_putByte_15 (S.1 _ _ rfl) rfl (by first | decide | omega) (by decide) ?_
  refine r_aload_n dX11_putByte_16 rfl ?_
  refine r_getP dX11_putByte_17 g_X11_46 (S.1 _ _ rfl) rfl (S.2 _ _ _ rfl) ?_
  refine r_iconst dX11_putByte_20 (v := nI 0) kc_0 ?_
  refine r_dup2 dX11_putByte_21 ?_
  refine r_iaload _ dX11_putByte_22 (S.1 _ _ rfl) rfl (by first | decide | omega) (by decide) ?_
  simp (decide := true) only [va_up_ne, va_up_self]
  rw [hb]
  refine r_iconst dX11_putByte_23 (v := nI 1) kc_1 ?_
  first | refine r_iaddN dX11_putByte_24 ?_ | refine r_iadd dX11_putByte_24 ?_
  refine r_iastore _ dX11_putByte_25 (S.1 _ _ rfl) rfl (by first | decide | omega) (by decide) ?_
  refine r_return dX11_putByte_26 rfl ?_
  exact ⟨rfl, by simp (decide := true) only [va_up_ne], rfl, rfl⟩
/-- the heap H holds the state s of packing, over K -/
def pkR (K : AIn) (s : PKT) (H : AIn) : Prop := (∀ r, r ≠ 11 → r ≠ 12 → r ≠ 13 → r ≠ 14 → H r = K r) ∧ H 11 = upd (K 11) 0 (nI s.1) ∧ H 12 = s.2.2.2.1 ∧ H 13 = upd (K 13) 0 (nI s.2.1) ∧ H 14 = s.2.2.2.2
theorem pkR.b {K H : AIn} {s : PKT} (h : pkR K s H) (x : Int32) : pkR K (pkB s x) (va_up (va_up H 14 (upd (H 14) s.2.1 (x &&& nI 255))) 13 (upd (H 13) 0 (nI (s.2.1 + 1)))) := by
  obtain ⟨h1, h2, h3, h4, h5⟩ := h
  refine ⟨fun r a b c d => ?_, ?_, ?_, ?_, ?_⟩
  · rw [va_up_ne _ _ c, va_up_ne _ _ d]; exact h1 r a b c d
  · rw [va_up_ne _ _ (by decide), va_up_ne _ _ (by decide)]; exact h2
  · rw [va_up_ne _ _ (by decide), va_up_ne _ _ (by decide)]; exact h3
  · rw [va_up_self, h4, fa_twice]; rfl
  · rw [va_up_ne _ _ (by decide), va_up_self, h5]; rfl
theorem pkR.n {K H : AIn} {s : PKT} (h : pkR K s H) (k len : Nat) (num : Int32) : pkR K (s.1 + 1, s.2.1, k + len, upd (upd (upd s.2.2.2.1 (3 * s.1) num) (3 * s.1 + 1) (nI k)) (3 * s.1 + 2) (nI len), s.2.2.2.2) (va_up (va_up H 12 (upd (upd (upd (H 12) (3 * s.1) num) (3 * s.1 + 1) (nI k)) (3 * s.1 + 2) (nI len))) 11 (upd (H 11) 0 (nI (s.1 + 1)))) := by
  obtain ⟨h1, h2, h3, h4, h5⟩ := h
  refine ⟨fun r a b c d => ?_, ?_, ?_, ?_, ?_⟩
  · rw [va_up_ne _ _ a, va_up_ne _ _ b]; exact h1 r a b c d
  · rw [va_up_self, h2, fa_twice]
  · rw [va_up_ne _ _ (by decide), va_up_self, h3]
  · rw [va_up_ne _ _ (by decide), va_up_ne _ _ (by decide)]; exact h4
  · rw [va_up_ne _ _ (by decide), va_up_ne _ _ (by decide)]; exact h5
/-- what stands while codes are made: K the heap ahead of them -/
def pkK (K : AIn) (q n m : Nat) (F : Nat → Int32) (T : Nat → Nat) : Prop := iP (rs K) ∧ q < 3 ∧ sz (rs K) q = n ∧ flH K F m q ∧ (∀ u, u ≤ n → K 31 u = nI (T u) ∧ T u ≤ 800000) ∧ (∀ j, j < n → K 9 j = rs K 3 (40 * q + j) ∧ K 10 j = rs K 4 (40 * q + j))
theorem pkR_rs {K H : AIn} {s : PKT} (h : pkR K s H) : (∀ r, r ≠ 11 → r ≠ 12 → r ≠ 13 → r ≠ 14 → rs H r = rs K r) := fun r a b c d => by
  unfold rs
  rw [h.1 r a b c d]
theorem pkR_iP {K H : AIn} {s : PKT} (h : pkR K s H) (V : iP (rs K)) : iP (rs H) ∧ sz (rs H) = sz (rs K) ∧ led (rs H) = led (rs K) ∧ ∀ F, sdp (rs H) F = sdp (rs K) F := by
  have g := pkR_rs h
  have e1 : rs H 1 = rs K 1 := g 1 (by decide) (by decide) (by decide) (by decide)
  have e2 : rs H 2 = rs K 2 := g 2 (by decide) (by decide) (by decide) (by decide)
  have e3 : rs H 3 = rs K 3 := g 3 (by decide) (by decide) (by decide) (by decide)
  have e4 : rs H 4 = rs K 4 := g 4 (by decide) (by decide) (by decide) (by decide)
  have e5 : rs H 5 = rs K 5 := g 5 (by decide) (by decide) (by decide) (by decide)
  have es : sz (rs H) = sz (rs K) := by funext p; unfold sz; rw [e2]
  have el : led (rs H) = led (rs K) := by funext p t; unfold led; rw [es, e3, e4]
  refine ⟨?_, es, el, fun F => by funext p q r; unfold sdp; rw [es, el, e3]⟩
  unfold iP
  rw [e1, e2, e3, e4, e5, es]
  exact V
theorem l_X11_packC (S : St_m sh P) {post : APo} {K : AIn} {q n m t : Nat} {F : Nat → Int32} {T : Nat → Nat} {s : PKT} (hK : pkK K q n m F T) (hR : pkR K s I) (ht : t < n)
    (G : ∀ x6 x7, am_R mX11_pack post 2 52 0 0 198 [some (.ref 0), some (.int (nI q)), some (.int (nI n)), some (.int (nI t)), some (.int (nI (pkC T (sdp (rs K) F q) (rln F) t (rs K 3 (40 * q + t)) m).1)), some (.int (pkC T (sdp (rs K) F q) (rln F) t (rs K 3 (40 * q + t)) m).2), x6, x7] [] sh I P) : ∀ (k r : Nat), r + k = m → ∀ x7, am_R mX11_pack post 2 52 0 0 121 [some (.ref 0), some (.int (nI q)), some (.int (nI n)), some (.int (nI t)), some (.int (nI (pkC T (sdp (rs K) F q) (rln F) t (rs K 3 (40 * q + t)) r).1)), some (.int (pkC T (sdp (rs K) F q) (rln F) t (rs K 3 (40 * q + t)) r).2), some (.int (nI r)), x7] [] sh I P := by
  obtain ⟨V, hq, hn, ⟨hF, h28, hO, hL⟩, hT, h910⟩ := hK
  obtain ⟨V2, es, el, esd⟩ := pkR_iP hR V
  have hm := hO.1
  have b2 : n ≤ 40 := by rw [← hn]; exact (V.sz hq).2
  have g0 : I 0 28 = nI m := by rw [hR.1 0 (by decide) (by decide) (by decide) (by decide)]; exact h28
  have g29 : I 29 = F := by rw [hR.1 29 (by decide) (by decide) (by decide) (by decide)]; exact hF
  have g30 : ∀ u, u < 41 → bo (I 30 u) (led (rs I) q u) := by rw [hR.1 30 (by decide) (by decide) (by decide) (by decide), el]; exact hL
  have g31 : ∀ u, u ≤ n → I 31 u = nI (T u) := fun u hu => by rw [hR.1 31 (by decide) (by decide) (by decide) (by decide)]; exact (hT u hu).1
  intro k
  induction k with
  | zero =>
    intro r hr x7
    have e : r = m := by omega
    subst e
    refine r_iload dX11_pack_121 rfl ?_
    refine r_aload_n dX11_pack_123 rfl ?_
    refine r_getI dX11_pack_124 g_X11_170 (S.1 _ _ rfl) rfl ?_
    rw [g0]
    refine r_icmp_geN 198 dX11_pack_127 (by decide) (by omega) (by omega) (fun h127 => ?_) (fun h127 => ?_)
    · exact G _ _
    · exact absurd h127 (by omega)
  | succ k ih =>
    intro r hr x7
    have hO2 := hO.2 r (by omega)
    have eF : F (5 * r) = nI (nv (F (5 * r))) := hO2.1.2.1
    have bF : nv (F (5 * r)) ≤ 4 := hO2.1.2.2
    have cF := hO2.1.1
    have hb := pkC_b (T := T) (k0 := rs K 3 (40 * q + t)) ht (m := r) (sd := sdp (rs K) F q) (ln := rln F) (fun i hi hsd => by rw [← hn]; exact (sdp_in hO t i (by rw [hn]; exact ht) (by omega) hsd).2)
    have hst : pkC T (sdp (rs K) F q) (rln F) t (rs K 3 (40 * q + t)) (r + 1) = cif ((pkC T (sdp (rs K) F q) (rln F) t (rs K 3 (40 * q + t)) r).1 < nv (F (5 * r)) ∧ sdp (rs K) F q t r ∧ 1 + T (t + nv (F (5 * r))) = T t) (nv (F (5 * r)), nI (16 + r)) (pkC T (sdp (rs K) F q) (rln F) t (rs K 3 (40 * q + t)) r) := rfl
    have ih2 := ih (r + 1) (by omega)
    generalize pkC T (sdp (rs K) F q) (rln F) t (rs K 3 (40 * q + t)) r = c at hb hst ⊢
    generalize hn5 : nv (F (5 * r)) = n5 at eF bF cF hst
    refine r_iload dX11_pack_121 rfl ?_
    refine r_aload_n dX11_pack_123 rfl ?_
    refine r_getI dX11_pack_124 g_X11_170 (S.1 _ _ rfl) rfl ?_
    rw [g0]
    refine r_icmp_geN 198 dX11_pack_127 (by decide) (by omega) (by omega) (fun h127 => ?_) (fun h127 => ?_)
    · exact absurd h127 (by omega)
    · refine r_aload_n dX11_pack_130 rfl ?_
      refine r_getP dX11_pack_131 g_X11_91 (S.1 _ _ rfl) rfl (S.2 _ _ _ rfl) ?_
      refine r_iconst dX11_pack_134 (v := nI 5) kc_5 ?_
      refine r_iload dX11_pack_135 rfl ?_
      first | refine r_imulN dX11_pack_137 ?_ | refine r_imul dX11_pack_137 ?_
      refine r_iaload (5 * r) dX11_pack_138 (S.1 _ _ rfl) rfl (by first | decide | omega) (by decide) ?_
      rw [g29, eF]
      refine r_istore dX11_pack_139 (Nat.le_of_ble_eq_true rfl) ?_
      dsimp only [List.set]
      refine r_iload dX11_pack_141 rfl ?_
      refine r_iload dX11_pack_143 rfl ?_
      refine r_icmp_leN 192 dX11_pack_145 (by decide) (by omega) (by omega) (fun h145 => ?_) (fun h145 => ?_)
      · first | refine r_iincN dX11_pack_192 rfl kc_1 ?_ | refine r_iinc dX11_pack_192 rfl rfl ?_
        dsimp only [List.set]
        refine r_goto 121 dX11_pack_195 (by decide) ?_
        first
          | (rw [hst, cif_t ⟨by omega, h158, h178⟩] at ih2; exact ih2 _)
          | (have hno : ¬ (c.1 < n5 ∧ sdp (rs K) F q t r ∧ 1 + T (t + n5) = T t) := by
               rintro ⟨a1, a2, a3⟩
               first | omega | exact h158 a2
             rw [hst, cif_f hno] at ih2; exact ih2 _)
      · refine r_aload_n dX11_pack_148 rfl ?_
        refine r_iload_n dX11_pack_149 rfl ?_
        refine r_iload_n dX11_pack_150 rfl ?_
        refine r_iconst dX11_pack_151 (v := nI 5) kc_5 ?_
        refine r_iload dX11_pack_152 rfl ?_
        first | refine r_imulN dX11_pack_154 ?_ | refine r_imul dX11_pack_154 ?_
        refine r_callV3 (fr' := 0) (lo' := 0) (mc' := 0) (ms' := 0) dX11_pack_155 mm_X11_stands mv_X11_stands l_X11_173 (S.1 _ _ rfl) mc_X11_stands (by decide) ⟨by decide, by decide⟩ (Nat.zero_le _) (Nat.zero_le _) (Nat.le_of_ble_eq_true rfl) (c_X11_stands S V2 g29 hq (by omega) hO2 (by omega) g30) (am_ki ?_)
        rintro v155 _ _ _ ⟨hb155, rfl, rfl, rfl⟩
        refine r_if_eq 192 dX11_pack_158 (by decide) (fun h158 => ?_) (fun h158 => ?_)
        · replace h158 := hb155.f h158
          rw [esd] at h158
          first | refine r_iincN dX11_pack_192 rfl kc_1 ?_ | refine r_iinc dX11_pack_192 rfl rfl ?_
          dsimp only [List.set]
          refine r_goto 121 dX11_pack_195 (by decide) ?_
          first
            | (rw [hst, cif_t ⟨by omega, h158, h178⟩] at ih2; exact ih2 _)
            | (have hno : ¬ (c.1 < n5 ∧ sdp (rs K) F q t r ∧ 1 + T (t + n5) = T t) := by
                 rintro ⟨a1, a2, a3⟩
                 first | omega | exact h158 a2
               rw [hst, cif_f hno] at ih2; exact ih2 _)
        · replace h158 := hb155.t h158
          rw [esd] at h158
          have hin : t + n5 ≤ n := by have h9 := h158.1; rw [hn5, hn] at h9; exact h9
          have hT1 := (hT (t + n5) hin).2
          have hT2 := (hT t (by omega)).2
          refine r_iconst dX11_pack_161 (v := nI 1) kc_1 ?_
          refine r_aload_n dX11_pack_162 rfl ?_
          refine r_getP dX11_pack_163 g_X11_98 (S.1 _ _ rfl) rfl (S.2 _ _ _ rfl) ?_
          refine r_iload_n dX11_pack_166 rfl ?_
          refine r_iload dX11_pack_167 rfl ?_
          first | refine r_iaddN dX11_pack_169 ?_ | refine r_iadd dX11_pack_169 ?_
          refine r_iaload _ dX11_pack_170 (S.1 _ _ rfl) rfl (by first | decide | omega) (by decide) ?_
          rw [g31 _ hin]
          first | refine r_iaddN dX11_pack_171 ?_ | refine r_iadd dX11_pack_171 ?_
          refine r_aload_n dX11_pack_172 rfl ?_
          refine r_getP dX11_pack_173 g_X11_98 (S.1 _ _ rfl) rfl (S.2 _ _ _ rfl) ?_
          refine r_iload_n dX11_pack_176 rfl ?_
          refine r_iaload _ dX11_pack_177 (S.1 _ _ rfl) rfl (by first | decide | omega) (by decide) ?_
          rw [g31 _ (by omega)]
          refine r_icmp_neN 192 dX11_pack_178 (by decide) (by omega) (by omega) (fun h178 => ?_) (fun h178 => ?_)
          · first | refine r_iincN dX11_pack_192 rfl kc_1 ?_ | refine r_iinc dX11_pack_192 rfl rfl ?_
            dsimp only [List.set]
            refine r_goto 121 dX11_pack_195 (by decide) ?_
            first
              | (rw [hst, cif_t ⟨by omega, h158, h178⟩] at ih2; exact ih2 _)
              | (have hno : ¬ (c.1 < n5 ∧ sdp (rs K) F q t r ∧ 1 + T (t + n5) = T t) := by
                   rintro ⟨a1, a2, a3⟩
                   first | omega | exact h158 a2
                 rw [hst, cif_f hno] at ih2; exact ih2 _)
          · refine r_iload dX11_pack_181 rfl ?_
            refine r_istore dX11_pack_183 (Nat.le_of_ble_eq_true rfl) ?_
            dsimp only [List.set]
            refine r_bipush dX11_pack_185 (v := nI 16) (by decide) ?_
            refine r_iload dX11_pack_187 rfl ?_
            first | refine r_iaddN dX11_pack_189 ?_ | refine r_iadd dX11_pack_189 ?_
            refine r_istore dX11_pack_190 (Nat.le_of_ble_eq_true rfl) ?_
            dsimp only [List.set]
            first | refine r_iincN dX11_pack_192 rfl kc_1 ?_ | refine r_iinc dX11_pack_192 rfl rfl ?_
            dsimp only [List.set]
            refine r_goto 121 dX11_pack_195 (by decide) ?_
            first
              | (rw [hst, cif_t ⟨by omega, h158, h178⟩] at ih2; exact ih2 _)
              | (have hno : ¬ (c.1 < n5 ∧ sdp (rs K) F q t r ∧ 1 + T (t + n5) = T t) := by
                   rintro ⟨a1, a2, a3⟩
                   first | omega | exact h158 a2
                 rw [hst, cif_f hno] at ih2; exact ih2 _)
end M9
