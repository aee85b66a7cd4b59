/-! the reference: readAll -/
section M18
variable {sh : ASh} {I : AIn} {P : APt}
def rdPo (sh : ASh) (P : APt) (K : AIn) (R : Option RD) : APo := po_i (fun v sh' I' P' => bo v (∃ s', R = some s') ∧ (∀ s', R = some s' → rdR2 K s' I' ∧ s'.2.length ≤ 40) ∧ (∀ r, r ≠ 0 → r ≠ 43 → r ≠ 44 → I' r = K r) ∧ sh = sh' ∧ P = P')
theorem rdR_len {T : Nat} {tb : Nat → Int32} {kf : Nat → Nat} : ∀ {c i : Nat} {s s' : RD}, rdR T tb kf i c s = some s' → s.2.length ≤ 40 → s.1 ≤ T → s'.2.length ≤ 40 ∧ s.1 ≤ s'.1 ∧ s'.1 ≤ T
  | 0, i, s, s', h, h1, h2 => by
    cases h
    exact ⟨h1, Nat.le_refl _, h2⟩
  | c + 1, i, s, s', h, h1, h2 => by
    unfold rdR at h
    cases ho : rdO T tb (kf i) s with
    | none => rw [ho] at h; cases h
    | some s1 =>
      rw [ho] at h
      obtain ⟨g1, g2, g3, g4⟩ := rdO_len ho h1 h2
      obtain ⟨g5, g6, g7⟩ := rdR_len h g1 g4
      exact ⟨g5, by omega, g7⟩
theorem l_X11_rdIA (S : St_m sh P) {K : AIn} {T b n : Nat} {R : Option RD} (hb : b < 16) {x2 : Int32} (hx2 : x2 < 0) (hn : n = 1) (hT : K 26 0 = nI T) (hT2 : T ≤ 160) : ∀ (c i : Nat) (s : RD) (H : AIn), i + c = n → rdR2 K s H → s.1 ≤ T → s.2.length ≤ 40 → (rdR T (K 27) (fun _ => b) i c s = none → R = none) → (∀ s' H x4, rdR T (K 27) (fun _ => b) i c s = some s' → rdR2 K s' H → am_R mX11_readAll (rdPo sh P K R) 3 65 0 0 122 [some (.ref 0), some (.int (nI b)), some (.int x2), some (.int (nI n)), x4] [] sh H P) → am_R mX11_readAll (rdPo sh P K R) 3 65 0 0 80 [some (.ref 0), some (.int (nI b)), some (.int x2), some (.int (nI n)), some (.int (nI i))] [] sh H P := by
  intro c
  induction c with
  | zero =>
    intro i s H hi hH hs hl hR G
    refine r_iload dX11_readAll_80 rfl ?_
    refine r_iload_n dX11_readAll_82 rfl ?_
    refine r_icmp_geN 122 dX11_readAll_83 (by decide) (by omega) (by omega) (fun h83 => ?_) (fun h83 => ?_)
    · exact G s H _ rfl hH
    · exact absurd h83 (by omega)
  | succ c ih =>
    intro i s H hi hH hs hl hR G
    have hst : rdR T (K 27) (fun _ => b) i (c + 1) s = (match rdO T (K 27) ((fun _ => b) i) s with | none => none | some s1 => rdR T (K 27) (fun _ => b) (i + 1) c s1) := rfl
    refine r_iload dX11_readAll_80 rfl ?_
    refine r_iload_n dX11_readAll_82 rfl ?_
    refine r_icmp_geN 122 dX11_readAll_83 (by decide) (by omega) (by omega) (fun h83 => ?_) (fun h83 => ?_)
    · exact absurd h83 (by omega)
    · refine r_aload_n dX11_readAll_86 rfl ?_
      refine r_iload_n dX11_readAll_87 rfl ?_
      refine r_if_ge 95 dX11_readAll_88 (by decide) (fun h88 => ?_) (fun h88 => ?_)
      · exact absurd hx2 (Int32.not_lt.mpr h88)
      · refine r_iload_n dX11_readAll_91 rfl ?_
        refine r_goto 108 dX11_readAll_92 (by decide) ?_
        refine r_callV1 (fr' := 2) (lo' := 43) (mc' := 0) (ms' := 0) dX11_readAll_108 mm_X11_readOrder mv_X11_readOrder l_X11_238 (S.1 _ _ rfl) mc_X11_readOrder (by decide) ⟨by decide, by decide⟩ (Nat.zero_le _) (Nat.zero_le _) (Nat.le_of_ble_eq_true rfl) (c_X11_readOrder S (k := b) (T := T) (by omega) hH hT hT2 hs hl) (am_ki ?_)
        rintro v108 _ J _ ⟨hb108, hJ, hfr, rfl, rfl⟩
        cases ho : rdO T (K 27) (b) s with
        | none =>
          have hst0 : rdR T (K 27) (fun _ => b) i (c + 1) s = none := by
            rw [hst]
            show (match rdO T (K 27) (b) s with | none => none | some s1 => _) = none
            rw [ho]
          have hR0 := hR hst0
          refine r_if_ne 116 dX11_readAll_111 (by decide) (fun h111 => ?_) (fun h111 => ?_)
          · obtain ⟨s1, g⟩ := hb108.t h111; rw [ho] at g; cases g
          · refine r_iconst dX11_readAll_114 (v := nI 0) kc_0 ?_
            refine r_ireturn dX11_readAll_115 .boolean rfl rfl ?_
            exact ⟨_, rfl, bo_0 (fun ⟨s1, g⟩ => by rw [hR0] at g; cases g), (fun s1 g => by rw [hR0] at g; cases g), hfr, rfl, rfl⟩
        | some s1 =>
          have hst1 : rdR T (K 27) (fun _ => b) i (c + 1) s = rdR T (K 27) (fun _ => b) (i + 1) c s1 := by
            rw [hst]
            show (match rdO T (K 27) (b) s with | none => none | some s1 => rdR T (K 27) (fun _ => b) (i + 1) c s1) = _
            rw [ho]
          obtain ⟨g1, g2, g3, g4⟩ := rdO_len ho hl hs
          rw [hst1] at hR G
          refine r_if_ne 116 dX11_readAll_111 (by decide) (fun h111 => ?_) (fun h111 => ?_)
          · first | refine r_iincN dX11_readAll_116 rfl kc_1 ?_ | refine r_iinc dX11_readAll_116 rfl rfl ?_
            dsimp only [List.set]
            refine r_goto 80 dX11_readAll_119 (by decide) ?_
            exact ih (i + 1) s1 J (by omega) (hJ s1 ho) g4 g1 hR G
          · exact absurd ⟨s1, ho⟩ (hb108.f h111)
theorem l_X11_rdIB (S : St_m sh P) {K : AIn} {T b n : Nat} {R : Option RD} (hb : b ≤ 255) {q : Nat} (hq : q < 6) (hO : jOk (K 7) (5 * q)) (hnn : nv (K 7 (5 * q)) = n) (hn : n ≤ 4) (hT : K 26 0 = nI T) (hT2 : T ≤ 160) : ∀ (c i : Nat) (s : RD) (H : AIn), i + c = n → rdR2 K s H → s.1 ≤ T → s.2.length ≤ 40 → (rdR T (K 27) (fun i => nv (K 7 (5 * q + 1 + i))) i c s = none → R = none) → (∀ s' H x4, rdR T (K 27) (fun i => nv (K 7 (5 * q + 1 + i))) i c s = some s' → rdR2 K s' H → am_R mX11_readAll (rdPo sh P K R) 3 65 0 0 122 [some (.ref 0), some (.int (nI b)), some (.int (nI q)), some (.int (nI n)), x4] [] sh H P) → am_R mX11_readAll (rdPo sh P K R) 3 65 0 0 80 [some (.ref 0), some (.int (nI b)), some (.int (nI q)), some (.int (nI n)), some (.int (nI i))] [] sh H P := by
  intro c
  induction c with
  | zero =>
    intro i s H hi hH hs hl hR G
    refine r_iload dX11_readAll_80 rfl ?_
    refine r_iload_n dX11_readAll_82 rfl ?_
    refine r_icmp_geN 122 dX11_readAll_83 (by decide) (by omega) (by omega) (fun h83 => ?_) (fun h83 => ?_)
    · exact G s H _ rfl hH
    · exact absurd h83 (by omega)
  | succ c ih =>
    intro i s H hi hH hs hl hR G
    have hst : rdR T (K 27) (fun i => nv (K 7 (5 * q + 1 + i))) i (c + 1) s = (match rdO T (K 27) ((fun i => nv (K 7 (5 * q + 1 + i))) i) s with | none => none | some s1 => rdR T (K 27) (fun i => nv (K 7 (5 * q + 1 + i))) (i + 1) c s1) := rfl
    have hk1 := (hO.2.1 i (by omega)).1
    have ek : H 7 (5 * q + 1 + i) = nI (nv (K 7 (5 * q + 1 + i))) := by rw [hH.1 7 (by decide) (by decide) (by decide)]; exact hk1.1
    have bk1 : nv (K 7 (5 * q + 1 + i)) ≤ 15 := hk1.2
    refine r_iload dX11_readAll_80 rfl ?_
    refine r_iload_n dX11_readAll_82 rfl ?_
    refine r_icmp_geN 122 dX11_readAll_83 (by decide) (by omega) (by omega) (fun h83 => ?_) (fun h83 => ?_)
    · exact absurd h83 (by omega)
    · refine r_aload_n dX11_readAll_86 rfl ?_
      refine r_iload_n dX11_readAll_87 rfl ?_
      refine r_if_geN 95 dX11_readAll_88 (by decide) (by omega) (fun h88 => ?_) (fun h88 => ?_)
      · refine r_aload_n dX11_readAll_95 rfl ?_
        refine r_getP dX11_readAll_96 g_X11_28 (S.1 _ _ rfl) rfl (S.2 _ _ _ rfl) ?_
        refine r_iconst dX11_readAll_99 (v := nI 5) kc_5 ?_
        refine r_iload_n dX11_readAll_100 rfl ?_
        first | refine r_imulN dX11_readAll_101 ?_ | refine r_imul dX11_readAll_101 ?_
        refine r_iconst dX11_readAll_102 (v := nI 1) kc_1 ?_
        first | refine r_iaddN dX11_readAll_103 ?_ | refine r_iadd dX11_readAll_103 ?_
        refine r_iload dX11_readAll_104 rfl ?_
        first | refine r_iaddN dX11_readAll_106 ?_ | refine r_iadd dX11_readAll_106 ?_
        refine r_iaload (5 * q + 1 + i) dX11_readAll_107 (S.1 _ _ rfl) rfl (by first | decide | omega) (by decide) ?_
        rw [ek]
        refine r_callV1 (fr' := 2) (lo' := 43) (mc' := 0) (ms' := 0) dX11_readAll_108 mm_X11_readOrder mv_X11_readOrder l_X11_238 (S.1 _ _ rfl) mc_X11_readOrder (by decide) ⟨by decide, by decide⟩ (Nat.zero_le _) (Nat.zero_le _) (Nat.le_of_ble_eq_true rfl) (c_X11_readOrder S (k := nv (K 7 (5 * q + 1 + i))) (T := T) (by omega) hH hT hT2 hs hl) (am_ki ?_)
        rintro v108 _ J _ ⟨hb108, hJ, hfr, rfl, rfl⟩
        cases ho : rdO T (K 27) (nv (K 7 (5 * q + 1 + i))) s with
        | none =>
          have hst0 : rdR T (K 27) (fun i => nv (K 7 (5 * q + 1 + i))) i (c + 1) s = none := by
            rw [hst]
            show (match rdO T (K 27) (nv (K 7 (5 * q + 1 + i))) s with | none => none | some s1 => _) = none
            rw [ho]
          have hR0 := hR hst0
          refine r_if_ne 116 dX11_readAll_111 (by decide) (fun h111 => ?_) (fun h111 => ?_)
          · obtain ⟨s1, g⟩ := hb108.t h111; rw [ho] at g; cases g
          · refine r_iconst dX11_readAll_114 (v := nI 0) kc_0 ?_
            refine r_ireturn dX11_readAll_115 .boolean rfl rfl ?_
            exact ⟨_, rfl, bo_0 (fun ⟨s1, g⟩ => by rw [hR0] at g; cases g), (fun s1 g => by rw [hR0] at g; cases g), hfr, rfl, rfl⟩
        | some s1 =>
          have hst1 : rdR T (K 27) (fun i => nv (K 7 (5 * q + 1 + i))) i (c + 1) s = rdR T (K 27) (fun i => nv (K 7 (5 * q + 1 + i))) (i + 1) c s1 := by
            rw [hst]
            show (match rdO T (K 27) (nv (K 7 (5 * q + 1 + i))) s with | none => none | some s1 => rdR T (K 27) (fun i => nv (K 7 (5 * q + 1 + i))) (i + 1) c s1) = _
            rw [ho]
          obtain ⟨g1, g2, g3, g4⟩ := rdO_len ho hl hs
          rw [hst1] at hR G
          refine r_if_ne 116 dX11_readAll_111 (by decide) (fun h111 => ?_) (fun h111 => ?_)
          · first | refine r_iincN dX11_readAll_116 rfl kc_1 ?_ | refine r_iinc dX11_readAll_116 rfl rfl ?_
            dsimp only [List.set]
            refine r_goto 80 dX11_readAll_119 (by decide) ?_
            exact ih (i + 1) s1 J (by omega) (hJ s1 ho) g4 g1 hR G
          · exact absurd ⟨s1, ho⟩ (hb108.f h111)
      · exact absurd h88 (by omega)
theorem l_X11_rdL (S : St_m sh P) {K : AIn} {T : Nat} (hJ : iJ (rs K)) (hT : K 26 0 = nI T) (hT2 : T ≤ 160) (hby : ∀ k, k < T → isN (K 27 k) 255) : ∀ (m : Nat) (s : RD) (H : AIn) (x1 x2 x3 x4 : Option Value), T ≤ s.1 + m → s.1 ≤ T → s.2.length ≤ 40 → rdR2 K s H → am_R mX11_readAll (rdPo sh P K (rdA T (K 27) (nj (rs K)) (K 7) m s)) 3 65 0 0 10 [some (.ref 0), x1, x2, x3, x4] [] sh H P := by
  have e6 : K 6 0 = nI (nj (rs K)) := hJ.1.1
  have b6 : nj (rs K) ≤ 6 := hJ.1.2
  intro m
  induction m with
  | zero =>
    intro s H x1 x2 x3 x4 hm hs hl hH
    have e46 := hH.2.2.1
    have e26 : H 26 0 = nI T := by rw [hH.1 26 (by decide) (by decide) (by decide)]; exact hT
    refine r_aload_n dX11_readAll_10 rfl ?_
    refine r_getI dX11_readAll_11 g_X11_235 (S.1 _ _ rfl) rfl ?_
    rw [e46]
    refine r_aload_n dX11_readAll_14 rfl ?_
    refine r_getP dX11_readAll_15 g_X11_85 (S.1 _ _ rfl) rfl (S.2 _ _ _ rfl) ?_
    refine r_iconst dX11_readAll_18 (v := nI 0) kc_0 ?_
    refine r_iaload _ dX11_readAll_19 (S.1 _ _ rfl) rfl (by first | decide | omega) (by decide) ?_
    rw [e26]
    refine r_icmp_geN 125 dX11_readAll_20 (by decide) (by omega) (by omega) (fun h20 => ?_) (fun h20 => ?_)
    · refine r_iconst dX11_readAll_125 (v := nI 1) kc_1 ?_
      refine r_ireturn dX11_readAll_126 .boolean rfl rfl ?_
      exact ⟨_, rfl, bo_1 ⟨_, rfl⟩, (fun s1 g => by cases g; exact ⟨hH, hl⟩), hH.1, rfl, rfl⟩
    · exact absurd h20 (by omega)
  | succ m ih =>
    intro s H x1 x2 x3 x4 hm hs hl hH
    have e46 := hH.2.2.1
    have e26 : H 26 0 = nI T := by rw [hH.1 26 (by decide) (by decide) (by decide)]; exact hT
    have e27 : H 27 = K 27 := hH.1 27 (by decide) (by decide) (by decide)
    have e60 : H 6 0 = nI (nj (rs K)) := by rw [hH.1 6 (by decide) (by decide) (by decide)]; exact e6
    have e7 : H 7 = K 7 := hH.1 7 (by decide) (by decide) (by decide)
    rcases Nat.lt_or_ge s.1 T with hlt | hge
    · obtain ⟨eb, bb⟩ := hby s.1 hlt
      have hst : rdA T (K 27) (nj (rs K)) (K 7) (m + 1) s = if nv (K 27 s.1) < 16 then (match rdR T (K 27) (fun _ => nv (K 27 s.1)) 0 1 (s.1 + 1, s.2) with | none => none | some s' => rdA T (K 27) (nj (rs K)) (K 7) m s') else if nj (rs K) ≤ nv (K 27 s.1) - 16 then none else (match rdR T (K 27) (fun i => nv (K 7 (5 * (nv (K 27 s.1) - 16) + 1 + i))) 0 (nv (K 7 (5 * (nv (K 27 s.1) - 16)))) (s.1 + 1, s.2) with | none => none | some s' => rdA T (K 27) (nj (rs K)) (K 7) m s') := by
        show (if T ≤ s.1 then some s else _) = _
        rw [if_neg (by omega)]
        rfl
      rw [hst]
      clear hst
      generalize hbv : nv (K 27 s.1) = b at eb bb
      have hH2 : rdR2 K (s.1 + 1, s.2) (va_up H 0 (upd (H 0) 46 (nI (s.1 + 1)))) := by
        refine ⟨fun r a c d => by rw [va_up_ne _ _ a]; exact hH.1 r a c d, ?_, ?_, fun k hk => ?_⟩
        · rw [va_up_self, pk_un (by decide)]; exact hH.2.1
        · rw [va_up_self, pk_us]
        · rw [va_up_ne _ _ (by decide), va_up_ne _ _ (by decide)]; exact hH.2.2.2 k hk
      refine r_aload_n dX11_readAll_10 rfl ?_
      refine r_getI dX11_readAll_11 g_X11_235 (S.1 _ _ rfl) rfl ?_
      rw [e46]
      refine r_aload_n dX11_readAll_14 rfl ?_
      refine r_getP dX11_readAll_15 g_X11_85 (S.1 _ _ rfl) rfl (S.2 _ _ _ rfl) ?_
      refine r_iconst dX11_readAll_18 (v := nI 0) kc_0 ?_
      refine r_iaload _ dX11_readAll_19 (S.1 _ _ rfl) rfl (by first | decide | omega) (by decide) ?_
      rw [e26]
      refine r_icmp_geN 125 dX11_readAll_20 (by decide) (by omega) (by omega) (fun h20 => ?_) (fun h20 => ?_)
      · exact absurd h20 (by omega)
      · refine r_aload_n dX11_readAll_23 rfl ?_
        refine r_getP dX11_readAll_24 g_X11_88 (S.1 _ _ rfl) rfl (S.2 _ _ _ rfl) ?_
        refine r_aload_n dX11_readAll_27 rfl ?_
        refine r_getI dX11_readAll_28 g_X11_235 (S.1 _ _ rfl) rfl ?_
        rw [e46]
        refine r_iaload _ dX11_readAll_31 (S.1 _ _ rfl) rfl (by first | decide | omega) (by decide) ?_
        rw [e27, eb]
        refine r_istore_n dX11_readAll_32 (Nat.le_of_ble_eq_true rfl) ?_
        dsimp only [List.set]
        refine r_aload_n dX11_readAll_33 rfl ?_
        refine r_dup dX11_readAll_34 ?_
        refine r_getI dX11_readAll_35 g_X11_235 (S.1 _ _ rfl) rfl ?_
        rw [e46]
        refine r_iconst dX11_readAll_38 (v := nI 1) kc_1 ?_
        first | refine r_iaddN dX11_readAll_39 ?_ | refine r_iadd dX11_readAll_39 ?_
        refine r_putI dX11_readAll_40 f_X11_235 (S.1 _ _ rfl) rfl rfl rfl ?_
        by_cases hb16 : b < 16
        · rw [if_pos hb16]
          have hneg : nI b - nI 16 < 0 := pk_sneg (by decide) hb16
          have hx2 := hneg
          refine r_iload_n dX11_readAll_43 rfl ?_
          refine r_bipush dX11_readAll_44 (v := nI 16) (by decide) ?_
          refine r_isub dX11_readAll_46 ?_
          refine r_istore_n dX11_readAll_47 (Nat.le_of_ble_eq_true rfl) ?_
          dsimp only [List.set]
          refine r_iload_n dX11_readAll_48 rfl ?_
          refine r_aload_n dX11_readAll_49 rfl ?_
          refine r_getP dX11_readAll_50 g_X11_25 (S.1 _ _ rfl) rfl (S.2 _ _ _ rfl) ?_
          refine r_iconst dX11_readAll_53 (v := nI 0) kc_0 ?_
          refine r_iaload _ dX11_readAll_54 (S.1 _ _ rfl) rfl (by first | decide | omega) (by decide) ?_
          simp (decide := true) only [va_up_ne, va_up_self]
          rw [e60]
          refine r_icmp_lt 60 dX11_readAll_55 (by decide) (fun h55 => ?_) (fun h55 => ?_)
          · refine r_iload_n dX11_readAll_60 rfl ?_
            refine r_if_ge 68 dX11_readAll_61 (by decide) (fun h61 => ?_) (fun h61 => ?_)
            · exact absurd hneg (Int32.not_lt.mpr h61)
            · refine r_iconst dX11_readAll_64 (v := nI 1) kc_1 ?_
              refine r_goto 76 dX11_readAll_65 (by decide) ?_
              refine r_istore_n dX11_readAll_76 (Nat.le_of_ble_eq_true rfl) ?_
              dsimp only [List.set]
              refine r_iconst dX11_readAll_77 (v := nI 0) kc_0 ?_
              refine r_istore dX11_readAll_78 (Nat.le_of_ble_eq_true rfl) ?_
              dsimp only [List.set]
              refine l_X11_rdIA (x2 := nI b - nI 16) S hb16 hx2 rfl hT hT2 1 0 (s.1 + 1, s.2) _ rfl hH2 (by show s.1 + 1 ≤ T; omega) hl (fun h => by rw [h]) (fun s1 H1 y4 h1 hH1 => ?_)
              obtain ⟨g5, g6, g7⟩ := rdR_len h1 hl (by show s.1 + 1 ≤ T; omega)
              have g6 : s.1 + 1 ≤ s1.1 := g6
              rw [h1]
              refine r_goto 10 dX11_readAll_122 (by decide) ?_
              exact ih s1 H1 _ _ _ _ (by omega) g7 g5 hH1
          · exact absurd (Int32.lt_of_lt_of_le hneg (by rw [← nI_0]; exact nI_le (Nat.zero_le _) (by omega))) h55
        · rw [if_neg hb16]
          obtain ⟨q, hq⟩ : ∃ q, b = 16 + q := ⟨b - 16, by omega⟩
          have hq2 : b - 16 = q := by omega
          rw [hq2]
          refine r_iload_n dX11_readAll_43 rfl ?_
          refine r_bipush dX11_readAll_44 (v := nI 16) (by decide) ?_
          refine r_isubN dX11_readAll_46 (by omega) ?_
          rw [hq2]
          refine r_istore_n dX11_readAll_47 (Nat.le_of_ble_eq_true rfl) ?_
          dsimp only [List.set]
          refine r_iload_n dX11_readAll_48 rfl ?_
          refine r_aload_n dX11_readAll_49 rfl ?_
          refine r_getP dX11_readAll_50 g_X11_25 (S.1 _ _ rfl) rfl (S.2 _ _ _ rfl) ?_
          refine r_iconst dX11_readAll_53 (v := nI 0) kc_0 ?_
          refine r_iaload _ dX11_readAll_54 (S.1 _ _ rfl) rfl (by first | decide | omega) (by decide) ?_
          simp (decide := true) only [va_up_ne, va_up_self]
          rw [e60]
          refine r_icmp_ltN 60 dX11_readAll_55 (by decide) (by omega) (by omega) (fun h55 => ?_) (fun h55 => ?_)
          · rw [if_neg (show ¬ nj (rs K) ≤ q by omega)]
            have hq6 : q < 6 := by omega
            have hO : jOk (K 7) (5 * q) := hJ.2.1 q (by omega)
            have en : K 7 (5 * q) = nI (nv (K 7 (5 * q))) := hO.1.2.1
            have hn4 : nv (K 7 (5 * q)) ≤ 4 := hO.1.2.2
            generalize hnn : nv (K 7 (5 * q)) = n at en hn4
            refine r_iload_n dX11_readAll_60 rfl ?_
            refine r_if_geN 68 dX11_readAll_61 (by decide) (by omega) (fun h61 => ?_) (fun h61 => ?_)
            · refine r_aload_n dX11_readAll_68 rfl ?_
              refine r_getP dX11_readAll_69 g_X11_28 (S.1 _ _ rfl) rfl (S.2 _ _ _ rfl) ?_
              refine r_iconst dX11_readAll_72 (v := nI 5) kc_5 ?_
              refine r_iload_n dX11_readAll_73 rfl ?_
              first | refine r_imulN dX11_readAll_74 ?_ | refine r_imul dX11_readAll_74 ?_
              refine r_iaload (5 * q) dX11_readAll_75 (S.1 _ _ rfl) rfl (by first | decide | omega) (by decide) ?_
              simp (decide := true) only [va_up_ne, va_up_self]
              rw [e7, en]
              refine r_istore_n dX11_readAll_76 (Nat.le_of_ble_eq_true rfl) ?_
              dsimp only [List.set]
              refine r_iconst dX11_readAll_77 (v := nI 0) kc_0 ?_
              refine r_istore dX11_readAll_78 (Nat.le_of_ble_eq_true rfl) ?_
              dsimp only [List.set]
              refine l_X11_rdIB (q := q) S bb hq6 hO hnn hn4 hT hT2 n 0 (s.1 + 1, s.2) _ (Nat.zero_add _) hH2 (by show s.1 + 1 ≤ T; omega) hl (fun h => by rw [h]) (fun s1 H1 y4 h1 hH1 => ?_)
              obtain ⟨g5, g6, g7⟩ := rdR_len h1 hl (by show s.1 + 1 ≤ T; omega)
              have g6 : s.1 + 1 ≤ s1.1 := g6
              rw [h1]
              refine r_goto 10 dX11_readAll_122 (by decide) ?_
              exact ih s1 H1 _ _ _ _ (by omega) g7 g5 hH1
            · exact absurd h61 (by omega)
          · rw [if_pos (show nj (rs K) ≤ q by omega)]
            refine r_iconst dX11_readAll_58 (v := nI 0) kc_0 ?_
            refine r_ireturn dX11_readAll_59 .boolean rfl rfl ?_
            exact ⟨_, rfl, bo_0 (fun ⟨s1, g⟩ => by cases g), (fun s1 g => by cases g), hH2.1, rfl, rfl⟩
    · have hst : rdA T (K 27) (nj (rs K)) (K 7) (m + 1) s = some s := by
        show (if T ≤ s.1 then some s else _) = _
        rw [if_pos hge]
      rw [hst]
      refine r_aload_n dX11_readAll_10 rfl ?_
      refine r_getI dX11_readAll_11 g_X11_235 (S.1 _ _ rfl) rfl ?_
      rw [e46]
      refine r_aload_n dX11_readAll_14 rfl ?_
      refine r_getP dX11_readAll_15 g_X11_85 (S.1 _ _ rfl) rfl (S.2 _ _ _ rfl) ?_
      refine r_iconst dX11_readAll_18 (v := nI 0) kc_0 ?_
      refine r_iaload _ dX11_readAll_19 (S.1 _ _ rfl) rfl (by first | decide | omega) (by decide) ?_
      rw [e26]
      refine r_icmp_geN 125 dX11_readAll_20 (by decide) (by omega) (by omega) (fun h20 => ?_) (fun h20 => ?_)
      · refine r_iconst dX11_readAll_125 (v := nI 1) kc_1 ?_
        refine r_ireturn dX11_readAll_126 .boolean rfl rfl ?_
        exact ⟨_, rfl, bo_1 ⟨_, rfl⟩, (fun s1 g => by cases g; exact ⟨hH, hl⟩), hH.1, rfl, rfl⟩
      · exact absurd h20 (by omega)
end M18
