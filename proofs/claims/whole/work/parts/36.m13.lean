/-! the reference: a run's loop -/
section M13
variable {sh : ASh} {I : AIn} {P : APt}
/-- what is run: n orders -/
def rnK (K : AIn) (n : Nat) (kd : Nat → Nat) (ag : Nat → Int32) (bg : Nat → Prop) : Prop := n ≤ 40 ∧ ∀ t, t < n → (K 32 t = nI (kd t) ∧ kd t < 16) ∧ (K 33 t = ag t ∧ aOk (kd t) (ag t)) ∧ bo (K 35 t) (bg t)
/-- the end of a run: how, and the config -/
def rnE (K : AIn) (e : Nat) (c : RC) (H : AIn) : Prop := msR (va_up (rcK K c.2.1 c.2.2.1 c.2.2.2.2 (nI c.1)) 15 (upd (K 15) 0 (nI e))) c.2.2.2.1 H
theorem l_X11_runsE (S : St_m sh P) {K : AIn} {n most t d c e : Nat} {s : MS} {tm : Nat → Int32} {x3 x5 x6 : Option Value} (he : e ≤ 3) (h : msR (rcK K d c tm (nI t)) s I) : am_R mX11_runs (po_i (fun v sh' I' P' => v = nI e ∧ rnE K e (t, d, c, s, tm) I' ∧ sh = sh' ∧ P = P')) 2 46 0 0 76 [some (.ref 0), some (.int (nI n)), some (.int (nI most)), x3, some (.int (nI e)), x5, x6] [] sh I P := by
  have e15 : I 15 = K 15 := h.1 15 (by decide) (by decide) (by decide) (by decide) (by decide)
  refine r_iload dX11_runs_76 rfl ?_
  refine r_bipush dX11_runs_78 (v := nI 99) (by decide) ?_
  refine r_icmp_neN 288 dX11_runs_80 (by decide) (by omega) (by omega) (fun h80 => ?_) (fun h80 => ?_)
  · refine r_aload_n dX11_runs_288 rfl ?_
    refine r_getP dX11_runs_289 g_X11_52 (S.1 _ _ rfl) rfl (S.2 _ _ _ rfl) ?_
    refine r_iconst dX11_runs_292 (v := nI 0) kc_0 ?_
    refine r_iload dX11_runs_293 rfl ?_
    refine r_iastore _ dX11_runs_295 (S.1 _ _ rfl) rfl (by first | decide | omega) (by decide) ?_
    rw [e15]
    refine r_iload dX11_runs_296 rfl ?_
    refine r_ireturn dX11_runs_298 .int rfl rfl ?_
    exact ⟨_, rfl, rfl, h.up (by decide) _, rfl, rfl⟩
  · exact absurd h80 (by omega)
theorem l_X11_runs (S : St_m sh P) {K : AIn} {n most : Nat} {kd : Nat → Nat} {ag : Nat → Int32} {bg : Nat → Prop} (hK : rnK K n kd ag bg) (hm : most ≤ 20000) : ∀ (m d c t : Nat) (s : MS) (tm : Nat → Int32) (x : Int32) (H : AIn) (x5 x6 : Option Value), d + m = most → t ≤ 40 → s.1 ≤ 24 → s.2.1 ≤ 40 → msR (rcK K d c tm x) s H → am_R mX11_runs (po_i (fun v sh' I' P' => v = nI (rn n kd ag bg m (t, d, c, s, tm)).1 ∧ rnE K (rn n kd ag bg m (t, d, c, s, tm)).1 (rn n kd ag bg m (t, d, c, s, tm)).2 I' ∧ sh = sh' ∧ P = P')) 2 46 0 0 76 [some (.ref 0), some (.int (nI n)), some (.int (nI most)), some (.int (nI t)), some (.int (nI 99)), x5, x6] [] sh H P := by
  obtain ⟨hn, hP⟩ := hK
  intro m
  induction m with
  | zero =>
    intro d c t s tm x H x5 x6 hd ht h24 h40 hH
    have e16 : H 16 0 = nI d := by rw [hH.1 16 (by decide) (by decide) (by decide) (by decide) (by decide)]; rfl
    have e18 : H 18 = upd (K 18) 0 x := hH.1 18 (by decide) (by decide) (by decide) (by decide) (by decide)
    have hH2 := hH.up (r := 18) (by decide) (upd (upd (K 18) 0 x) 0 (nI t))
    rw [rcK_18] at hH2
    refine r_iload dX11_runs_76 rfl ?_
    refine r_bipush dX11_runs_78 (v := nI 99) (by decide) ?_
    refine r_icmp_neN 288 dX11_runs_80 (by decide) (by omega) (by omega) (fun h80 => ?_) (fun h80 => ?_)
    · exact absurd rfl h80
    · refine r_aload_n dX11_runs_83 rfl ?_
      refine r_getP dX11_runs_84 g_X11_61 (S.1 _ _ rfl) rfl (S.2 _ _ _ rfl) ?_
      refine r_iconst dX11_runs_87 (v := nI 0) kc_0 ?_
      refine r_iload_n dX11_runs_88 rfl ?_
      refine r_iastore _ dX11_runs_89 (S.1 _ _ rfl) rfl (by first | decide | omega) (by decide) ?_
      rw [e18]
      refine r_iload_n dX11_runs_90 rfl ?_
      refine r_iload_n dX11_runs_91 rfl ?_
      refine r_icmp_ltN 101 dX11_runs_92 (by decide) (by omega) (by omega) (fun h92 => ?_) (fun h92 => ?_)
      · have er : rn n kd ag bg 0 (t, d, c, s, tm) = (3, (t, d, c, s, tm)) := by show (if n ≤ t then 0 else 3, _) = _; rw [if_neg (by omega)]
        rw [er]
        refine r_aload_n dX11_runs_101 rfl ?_
        refine r_getP dX11_runs_102 g_X11_55 (S.1 _ _ rfl) rfl (S.2 _ _ _ rfl) ?_
        refine r_iconst dX11_runs_105 (v := nI 0) kc_0 ?_
        refine r_iaload _ dX11_runs_106 (S.1 _ _ rfl) rfl (by first | decide | omega) (by decide) ?_
        simp (decide := true) only [va_up_ne, va_up_self]
        rw [e16]
        refine r_iload_n dX11_runs_107 rfl ?_
        refine r_icmp_neN 117 dX11_runs_108 (by decide) (by omega) (by omega) (fun h108 => ?_) (fun h108 => ?_)
        · exact absurd h108 (by omega)
        · refine r_iconst dX11_runs_111 (v := nI 3) kc_3 ?_
          refine r_istore dX11_runs_112 (Nat.le_of_ble_eq_true rfl) ?_
          dsimp only [List.set]
          refine r_goto 76 dX11_runs_114 (by decide) ?_
          exact l_X11_runsE S (by decide) hH2
      · have er : rn n kd ag bg 0 (t, d, c, s, tm) = (0, (t, d, c, s, tm)) := by show (if n ≤ t then 0 else 3, _) = _; rw [if_pos (by omega)]
        rw [er]
        refine r_iconst dX11_runs_95 (v := nI 0) kc_0 ?_
        refine r_istore dX11_runs_96 (Nat.le_of_ble_eq_true rfl) ?_
        dsimp only [List.set]
        refine r_goto 76 dX11_runs_98 (by decide) ?_
        exact l_X11_runsE S (by decide) hH2
  | succ m ih =>
    intro d c t s tm x H x5 x6 hd ht h24 h40 hH
    have e16 : H 16 = upd (K 16) 0 (nI d) := hH.1 16 (by decide) (by decide) (by decide) (by decide) (by decide)
    have e17 : H 17 = upd (K 17) 0 (nI c) := hH.1 17 (by decide) (by decide) (by decide) (by decide) (by decide)
    have e18 : H 18 = upd (K 18) 0 x := hH.1 18 (by decide) (by decide) (by decide) (by decide) (by decide)
    have e34 : H 34 = tm := hH.1 34 (by decide) (by decide) (by decide) (by decide) (by decide)
    have e32 : H 32 = K 32 := hH.1 32 (by decide) (by decide) (by decide) (by decide) (by decide)
    have e35 : H 35 = K 35 := hH.1 35 (by decide) (by decide) (by decide) (by decide) (by decide)
    have e19 := hH.e19
    have e21 := hH.e21
    have e160 : H 16 0 = nI d := by rw [e16]; rfl
    have e170 : H 17 0 = nI c := by rw [e17]; rfl
    have hH2 := hH.up (r := 18) (by decide) (upd (upd (K 18) 0 x) 0 (nI t))
    rw [rcK_18] at hH2
    rcases Nat.lt_or_ge t n with htn | htn
    · obtain ⟨⟨p1, p2⟩, ⟨p3, p4⟩, p5⟩ := hP t htn
      have er : rn n kd ag bg (m + 1) (t, d, c, s, tm) = cif (s.1 < wants (kd t)) (1, (t, d, c + cif (bg t) 1 0, s, tm)) (cif (high (kd t) s) (2, (t, d, c + cif (bg t) 1 0, s, tm)) (if kd t = 13 then (0, (t, d + 1, c + cif (bg t) 1 0, s, upd tm t (tm t + nI 1))) else rn n kd ag bg m ((dos (kd t) (ag t) t s).1, d + 1, c + cif (bg t) 1 0, (dos (kd t) (ag t) t s).2, upd tm t (tm t + nI 1)))) := by
        show (if n ≤ t then _ else _) = _
        rw [if_neg (by omega)]
      rw [er]
      clear er
      generalize hk : kd t = k at p1 p2 p4
      generalize hc2 : c + cif (bg t) 1 0 = c2
      have K148 : ∀ H, msR (rcK K d c2 tm (nI t)) s H → am_R mX11_runs (po_i (fun v sh' I' P' => v = nI (cif (s.1 < wants k) (1, (t, d, c2, s, tm)) (cif (high k s) (2, (t, d, c2, s, tm)) (if k = 13 then (0, (t, d + 1, c2, s, upd tm t (tm t + nI 1))) else rn n kd ag bg m ((dos k (ag t) t s).1, d + 1, c2, (dos k (ag t) t s).2, upd tm t (tm t + nI 1))))).1 ∧ rnE K (cif (s.1 < wants k) (1, (t, d, c2, s, tm)) (cif (high k s) (2, (t, d, c2, s, tm)) (if k = 13 then (0, (t, d + 1, c2, s, upd tm t (tm t + nI 1))) else rn n kd ag bg m ((dos k (ag t) t s).1, d + 1, c2, (dos k (ag t) t s).2, upd tm t (tm t + nI 1))))).1 (cif (s.1 < wants k) (1, (t, d, c2, s, tm)) (cif (high k s) (2, (t, d, c2, s, tm)) (if k = 13 then (0, (t, d + 1, c2, s, upd tm t (tm t + nI 1))) else rn n kd ag bg m ((dos k (ag t) t s).1, d + 1, c2, (dos k (ag t) t s).2, upd tm t (tm t + nI 1))))).2 I' ∧ sh = sh' ∧ P = P')) 2 46 0 0 148 [some (.ref 0), some (.int (nI n)), some (.int (nI most)), some (.int (nI t)), some (.int (nI 99)), some (.int (nI k)), x6] [] sh H P := by
        clear hH hH2 e16 e17 e18 e34 e32 e35 e19 e21 e160 e170
        intro H hH
        have e16 : H 16 = upd (K 16) 0 (nI d) := hH.1 16 (by decide) (by decide) (by decide) (by decide) (by decide)
        have e34 : H 34 = tm := hH.1 34 (by decide) (by decide) (by decide) (by decide) (by decide)
        have e19 := hH.e19
        have e21 := hH.e21
        have e160 : H 16 0 = nI d := by rw [e16]; rfl
        have K200 : ∀ v, bo v (high k s) → am_R mX11_runs (po_i (fun v sh' I' P' => v = nI (cif (s.1 < wants k) (1, (t, d, c2, s, tm)) (cif (high k s) (2, (t, d, c2, s, tm)) (if k = 13 then (0, (t, d + 1, c2, s, upd tm t (tm t + nI 1))) else rn n kd ag bg m ((dos k (ag t) t s).1, d + 1, c2, (dos k (ag t) t s).2, upd tm t (tm t + nI 1))))).1 ∧ rnE K (cif (s.1 < wants k) (1, (t, d, c2, s, tm)) (cif (high k s) (2, (t, d, c2, s, tm)) (if k = 13 then (0, (t, d + 1, c2, s, upd tm t (tm t + nI 1))) else rn n kd ag bg m ((dos k (ag t) t s).1, d + 1, c2, (dos k (ag t) t s).2, upd tm t (tm t + nI 1))))).1 (cif (s.1 < wants k) (1, (t, d, c2, s, tm)) (cif (high k s) (2, (t, d, c2, s, tm)) (if k = 13 then (0, (t, d + 1, c2, s, upd tm t (tm t + nI 1))) else rn n kd ag bg m ((dos k (ag t) t s).1, d + 1, c2, (dos k (ag t) t s).2, upd tm t (tm t + nI 1))))).2 I' ∧ sh = sh' ∧ P = P')) 2 46 0 0 200 [some (.ref 0), some (.int (nI n)), some (.int (nI most)), some (.int (nI t)), some (.int (nI 99)), some (.int (nI k)), x6] [.int v] sh H P := by
          intro v hv
          have hwm : wants k ≤ 2 := by unfold wants; split <;> decide
          refine r_istore dX11_runs_200 (Nat.le_of_ble_eq_true rfl) ?_
          dsimp only [List.set]
          refine r_aload_n dX11_runs_202 rfl ?_
          refine r_getP dX11_runs_203 g_X11_64 (S.1 _ _ rfl) rfl (S.2 _ _ _ rfl) ?_
          refine r_iconst dX11_runs_206 (v := nI 0) kc_0 ?_
          refine r_iaload _ dX11_runs_207 (S.1 _ _ rfl) rfl (by first | decide | omega) (by decide) ?_
          rw [e19]
          refine r_iload dX11_runs_208 rfl ?_
          refine r_callS1 (fr' := 0) (lo' := 0) (mc' := 0) (ms' := 0) dX11_runs_210 mm_X11_wants ms_X11_wants l_X11_197 (by decide) ⟨by decide, by decide⟩ (Nat.zero_le _) (Nat.zero_le _) (Nat.le_of_ble_eq_true rfl) (c_X11_wants p2) (am_ki ?_)
          rintro _ _ _ _ ⟨rfl, rfl, rfl, rfl⟩
          refine r_icmp_geN 222 dX11_runs_213 (by decide) (by omega) (by omega) (fun h213 => ?_) (fun h213 => ?_)
          · rw [cif_f (show ¬ s.1 < wants k by omega)]
            refine r_iload dX11_runs_222 rfl ?_
            refine r_if_eq 233 dX11_runs_224 (by decide) (fun h224 => ?_) (fun h224 => ?_)
            · replace h224 := hv.f h224
              rw [cif_f h224]
              refine r_aload_n dX11_runs_233 rfl ?_
              refine r_getP dX11_runs_234 g_X11_55 (S.1 _ _ rfl) rfl (S.2 _ _ _ rfl) ?_
              refine r_iconst dX11_runs_237 (v := nI 0) kc_0 ?_
              refine r_dup2 dX11_runs_238 ?_
              refine r_iaload _ dX11_runs_239 (S.1 _ _ rfl) rfl (by first | decide | omega) (by decide) ?_
              rw [e160]
              refine r_iconst dX11_runs_240 (v := nI 1) kc_1 ?_
              first | refine r_iaddN dX11_runs_241 ?_ | refine r_iadd dX11_runs_241 ?_
              refine r_iastore _ dX11_runs_242 (S.1 _ _ rfl) rfl (by first | decide | omega) (by decide) ?_
              rw [e16]
              refine r_aload_n dX11_runs_243 rfl ?_
              refine r_getP dX11_runs_244 g_X11_107 (S.1 _ _ rfl) rfl (S.2 _ _ _ rfl) ?_
              refine r_iload_n dX11_runs_247 rfl ?_
              refine r_dup2 dX11_runs_248 ?_
              refine r_iaload _ dX11_runs_249 (S.1 _ _ rfl) rfl (by first | decide | omega) (by decide) ?_
              simp (decide := true) only [va_up_ne, va_up_self]
              rw [e34]
              refine r_iconst dX11_runs_250 (v := nI 1) kc_1 ?_
              refine r_iadd dX11_runs_251 ?_
              refine r_iastore _ dX11_runs_252 (S.1 _ _ rfl) rfl (by first | decide | omega) (by decide) ?_
              simp (decide := true) only [va_up_ne, va_up_self]
              rw [e34]
              have hH3 := (hH.up (r := 16) (by decide) (upd (upd (K 16) 0 (nI d)) 0 (nI (d + 1)))).up (r := 34) (by decide) (upd tm t (tm t + nI 1))
              rw [rcK_16, rcK_34] at hH3
              by_cases h13 : k = 13
              · rw [if_pos h13]
                subst h13
                refine r_iload dX11_runs_253 rfl ?_
                refine r_bipush dX11_runs_255 (v := nI 13) (by decide) ?_
                refine r_icmp_neN 264 dX11_runs_257 (by decide) (by omega) (by omega) (fun h257 => ?_) (fun h257 => ?_)
                · exact absurd rfl h257
                · refine r_iconst dX11_runs_260 (v := nI 0) kc_0 ?_
                  refine r_goto 266 dX11_runs_261 (by decide) ?_
                  refine r_istore dX11_runs_266 (Nat.le_of_ble_eq_true rfl) ?_
                  dsimp only [List.set]
                  refine r_iload dX11_runs_268 rfl ?_
                  refine r_bipush dX11_runs_270 (v := nI 13) (by decide) ?_
                  refine r_icmp_neN 279 dX11_runs_272 (by decide) (by omega) (by omega) (fun h272 => ?_) (fun h272 => ?_)
                  · exact absurd rfl h272
                  · refine r_iload_n dX11_runs_275 rfl ?_
                    refine r_goto 284 dX11_runs_276 (by decide) ?_
                    refine r_istore_n dX11_runs_284 (Nat.le_of_ble_eq_true rfl) ?_
                    dsimp only [List.set]
                    refine r_goto 76 dX11_runs_285 (by decide) ?_
                    exact l_X11_runsE S (by decide) hH3
              · rw [if_neg h13]
                have hdb := dos_b p2 (show t < 40 by omega) p4 h213 h224 h24 h40
                refine r_iload dX11_runs_253 rfl ?_
                refine r_bipush dX11_runs_255 (v := nI 13) (by decide) ?_
                refine r_icmp_neN 264 dX11_runs_257 (by decide) (by omega) (by omega) (fun h257 => ?_) (fun h257 => ?_)
                · refine r_bipush dX11_runs_264 (v := nI 99) (by decide) ?_
                  refine r_istore dX11_runs_266 (Nat.le_of_ble_eq_true rfl) ?_
                  dsimp only [List.set]
                  refine r_iload dX11_runs_268 rfl ?_
                  refine r_bipush dX11_runs_270 (v := nI 13) (by decide) ?_
                  refine r_icmp_neN 279 dX11_runs_272 (by decide) (by omega) (by omega) (fun h272 => ?_) (fun h272 => ?_)
                  · refine r_aload_n dX11_runs_279 rfl ?_
                    refine r_iload_n dX11_runs_280 rfl ?_
                    refine r_callV1 (fr' := 1) (lo' := 22) (mc' := 0) (ms' := 0) dX11_runs_281 mm_X11_does mv_X11_does l_X11_201 (S.1 _ _ rfl) mc_X11_does (by decide) ⟨by decide, by decide⟩ (Nat.zero_le _) (Nat.zero_le _) (Nat.le_of_ble_eq_true rfl) (c_X11_does S hH3 (by omega) p2 (k := k) (a := ag t) p1 p3 p4 h213 h224 h24 h40) (am_ki ?_)
                    rintro _ _ J _ ⟨rfl, hJ, rfl, rfl⟩
                    refine r_istore_n dX11_runs_284 (Nat.le_of_ble_eq_true rfl) ?_
                    dsimp only [List.set]
                    refine r_goto 76 dX11_runs_285 (by decide) ?_
                    exact ih (d + 1) c2 _ _ _ _ J _ _ (by omega) hdb.1 hdb.2.1 hdb.2.2 hJ
                  · exact absurd h272 (by omega)
                · exact absurd h257 (by omega)
            · replace h224 := hv.t h224
              rw [cif_t h224]
              refine r_iconst dX11_runs_227 (v := nI 2) kc_2 ?_
              refine r_istore dX11_runs_228 (Nat.le_of_ble_eq_true rfl) ?_
              dsimp only [List.set]
              refine r_goto 285 dX11_runs_230 (by decide) ?_
              refine r_goto 76 dX11_runs_285 (by decide) ?_
              exact l_X11_runsE S (by decide) hH
          · rw [cif_t (show s.1 < wants k by omega)]
            refine r_iconst dX11_runs_216 (v := nI 1) kc_1 ?_
            refine r_istore dX11_runs_217 (Nat.le_of_ble_eq_true rfl) ?_
            dsimp only [List.set]
            refine r_goto 285 dX11_runs_219 (by decide) ?_
            refine r_goto 76 dX11_runs_285 (by decide) ?_
            exact l_X11_runsE S (by decide) hH
        refine r_aload_n dX11_runs_148 rfl ?_
        refine r_getP dX11_runs_149 g_X11_64 (S.1 _ _ rfl) rfl (S.2 _ _ _ rfl) ?_
        refine r_iconst dX11_runs_152 (v := nI 0) kc_0 ?_
        refine r_iaload _ dX11_runs_153 (S.1 _ _ rfl) rfl (by first | decide | omega) (by decide) ?_
        rw [e19]
        refine r_bipush dX11_runs_154 (v := nI 24) (by decide) ?_
        refine r_icmp_neN 177 dX11_runs_156 (by decide) (by omega) (by omega) (fun h156 => ?_) (fun h156 => ?_)
        · refine r_aload_n dX11_runs_177 rfl ?_
          refine r_getP dX11_runs_178 g_X11_70 (S.1 _ _ rfl) rfl (S.2 _ _ _ rfl) ?_
          refine r_iconst dX11_runs_181 (v := nI 0) kc_0 ?_
          refine r_iaload _ dX11_runs_182 (S.1 _ _ rfl) rfl (by first | decide | omega) (by decide) ?_
          rw [e21]
          refine r_bipush dX11_runs_183 (v := nI 40) (by decide) ?_
          refine r_icmp_neN 199 dX11_runs_185 (by decide) (by omega) (by omega) (fun h185 => ?_) (fun h185 => ?_)
          · refine r_iconst dX11_runs_199 (v := nI 0) kc_0 ?_
            refine K200 _ ?_
            first | exact bo_1 (by unfold high; omega) | exact bo_0 (by unfold high; omega)
          · refine r_iload dX11_runs_188 rfl ?_
            refine r_bipush dX11_runs_190 (v := nI 12) (by decide) ?_
            refine r_icmp_neN 199 dX11_runs_192 (by decide) (by omega) (by omega) (fun h192 => ?_) (fun h192 => ?_)
            · refine r_iconst dX11_runs_199 (v := nI 0) kc_0 ?_
              refine K200 _ ?_
              first | exact bo_1 (by unfold high; omega) | exact bo_0 (by unfold high; omega)
            · refine r_iconst dX11_runs_195 (v := nI 1) kc_1 ?_
              refine r_goto 200 dX11_runs_196 (by decide) ?_
              refine K200 _ ?_
              first | exact bo_1 (by unfold high; omega) | exact bo_0 (by unfold high; omega)
        · refine r_iload dX11_runs_159 rfl ?_
          refine r_if_eqN 195 dX11_runs_161 (by decide) (by omega) (fun h161 => ?_) (fun h161 => ?_)
          · refine r_iconst dX11_runs_195 (v := nI 1) kc_1 ?_
            refine r_goto 200 dX11_runs_196 (by decide) ?_
            refine K200 _ ?_
            first | exact bo_1 (by unfold high; omega) | exact bo_0 (by unfold high; omega)
          · refine r_iload dX11_runs_164 rfl ?_
            refine r_iconst dX11_runs_166 (v := nI 4) kc_4 ?_
            refine r_icmp_eqN 195 dX11_runs_167 (by decide) (by omega) (by omega) (fun h167 => ?_) (fun h167 => ?_)
            · refine r_iconst dX11_runs_195 (v := nI 1) kc_1 ?_
              refine r_goto 200 dX11_runs_196 (by decide) ?_
              refine K200 _ ?_
              first | exact bo_1 (by unfold high; omega) | exact bo_0 (by unfold high; omega)
            · refine r_iload dX11_runs_170 rfl ?_
              refine r_bipush dX11_runs_172 (v := nI 7) (by decide) ?_
              refine r_icmp_eqN 195 dX11_runs_174 (by decide) (by omega) (by omega) (fun h174 => ?_) (fun h174 => ?_)
              · refine r_iconst dX11_runs_195 (v := nI 1) kc_1 ?_
                refine r_goto 200 dX11_runs_196 (by decide) ?_
                refine K200 _ ?_
                first | exact bo_1 (by unfold high; omega) | exact bo_0 (by unfold high; omega)
              · refine r_aload_n dX11_runs_177 rfl ?_
                refine r_getP dX11_runs_178 g_X11_70 (S.1 _ _ rfl) rfl (S.2 _ _ _ rfl) ?_
                refine r_iconst dX11_runs_181 (v := nI 0) kc_0 ?_
                refine r_iaload _ dX11_runs_182 (S.1 _ _ rfl) rfl (by first | decide | omega) (by decide) ?_
                rw [e21]
                refine r_bipush dX11_runs_183 (v := nI 40) (by decide) ?_
                refine r_icmp_neN 199 dX11_runs_185 (by decide) (by omega) (by omega) (fun h185 => ?_) (fun h185 => ?_)
                · refine r_iconst dX11_runs_199 (v := nI 0) kc_0 ?_
                  refine K200 _ ?_
                  first | exact bo_1 (by unfold high; omega) | exact bo_0 (by unfold high; omega)
                · refine r_iload dX11_runs_188 rfl ?_
                  refine r_bipush dX11_runs_190 (v := nI 12) (by decide) ?_
                  refine r_icmp_neN 199 dX11_runs_192 (by decide) (by omega) (by omega) (fun h192 => ?_) (fun h192 => ?_)
                  · refine r_iconst dX11_runs_199 (v := nI 0) kc_0 ?_
                    refine K200 _ ?_
                    first | exact bo_1 (by unfold high; omega) | exact bo_0 (by unfold high; omega)
                  · refine r_iconst dX11_runs_195 (v := nI 1) kc_1 ?_
                    refine r_goto 200 dX11_runs_196 (by decide) ?_
                    refine K200 _ ?_
                    first | exact bo_1 (by unfold high; omega) | exact bo_0 (by unfold high; omega)
      refine r_iload dX11_runs_76 rfl ?_
      refine r_bipush dX11_runs_78 (v := nI 99) (by decide) ?_
      refine r_icmp_neN 288 dX11_runs_80 (by decide) (by omega) (by omega) (fun h80 => ?_) (fun h80 => ?_)
      · exact absurd rfl h80
      · refine r_aload_n dX11_runs_83 rfl ?_
        refine r_getP dX11_runs_84 g_X11_61 (S.1 _ _ rfl) rfl (S.2 _ _ _ rfl) ?_
        refine r_iconst dX11_runs_87 (v := nI 0) kc_0 ?_
        refine r_iload_n dX11_runs_88 rfl ?_
        refine r_iastore _ dX11_runs_89 (S.1 _ _ rfl) rfl (by first | decide | omega) (by decide) ?_
        rw [e18]
        refine r_iload_n dX11_runs_90 rfl ?_
        refine r_iload_n dX11_runs_91 rfl ?_
        refine r_icmp_ltN 101 dX11_runs_92 (by decide) (by omega) (by omega) (fun h92 => ?_) (fun h92 => ?_)
        · refine r_aload_n dX11_runs_101 rfl ?_
          refine r_getP dX11_runs_102 g_X11_55 (S.1 _ _ rfl) rfl (S.2 _ _ _ rfl) ?_
          refine r_iconst dX11_runs_105 (v := nI 0) kc_0 ?_
          refine r_iaload _ dX11_runs_106 (S.1 _ _ rfl) rfl (by first | decide | omega) (by decide) ?_
          simp (decide := true) only [va_up_ne, va_up_self]
          rw [e160]
          refine r_iload_n dX11_runs_107 rfl ?_
          refine r_icmp_neN 117 dX11_runs_108 (by decide) (by omega) (by omega) (fun h108 => ?_) (fun h108 => ?_)
          · refine r_aload_n dX11_runs_117 rfl ?_
            refine r_getP dX11_runs_118 g_X11_101 (S.1 _ _ rfl) rfl (S.2 _ _ _ rfl) ?_
            refine r_iload_n dX11_runs_121 rfl ?_
            refine r_iaload _ dX11_runs_122 (S.1 _ _ rfl) rfl (by first | decide | omega) (by decide) ?_
            simp (decide := true) only [va_up_ne, va_up_self]
            rw [e32, p1]
            refine r_istore dX11_runs_123 (Nat.le_of_ble_eq_true rfl) ?_
            dsimp only [List.set]
            refine r_aload_n dX11_runs_125 rfl ?_
            refine r_getP dX11_runs_126 g_X11_58 (S.1 _ _ rfl) rfl (S.2 _ _ _ rfl) ?_
            refine r_iconst dX11_runs_129 (v := nI 0) kc_0 ?_
            refine r_dup2 dX11_runs_130 ?_
            refine r_iaload _ dX11_runs_131 (S.1 _ _ rfl) rfl (by first | decide | omega) (by decide) ?_
            simp (decide := true) only [va_up_ne, va_up_self]
            rw [e170]
            refine r_aload_n dX11_runs_132 rfl ?_
            refine r_getP dX11_runs_133 g_X11_110 (S.1 _ _ rfl) rfl (S.2 _ _ _ rfl) ?_
            refine r_iload_n dX11_runs_136 rfl ?_
            refine r_baload _ dX11_runs_137 (S.1 _ _ rfl) rfl (by first | decide | omega) (by decide) ?_
            simp (decide := true) only [va_up_ne, va_up_self]
            rw [e35]
            refine r_if_eq 145 dX11_runs_138 (by decide) (fun h138 => ?_) (fun h138 => ?_)
            · replace h138 := p5.f h138
              have ec : c2 = c + 0 := by rw [← hc2, cif_f h138]
              have hH3 := hH2.up (r := 17) (by decide) (upd (upd (K 17) 0 (nI c)) 0 (nI c2))
              rw [rcK_17] at hH3
              refine r_iconst dX11_runs_145 (v := nI 0) kc_0 ?_
              first | refine r_iaddN dX11_runs_146 ?_ | refine r_iadd dX11_runs_146 ?_
              refine r_iastore _ dX11_runs_147 (S.1 _ _ rfl) rfl (by first | decide | omega) (by decide) ?_
              simp (decide := true) only [va_up_ne, va_up_self]
              rw [e17, ← ec]
              exact K148 _ hH3
            · replace h138 := p5.t h138
              have ec : c2 = c + 1 := by rw [← hc2, cif_t h138]
              have hH3 := hH2.up (r := 17) (by decide) (upd (upd (K 17) 0 (nI c)) 0 (nI c2))
              rw [rcK_17] at hH3
              refine r_iconst dX11_runs_141 (v := nI 1) kc_1 ?_
              refine r_goto 146 dX11_runs_142 (by decide) ?_
              first | refine r_iaddN dX11_runs_146 ?_ | refine r_iadd dX11_runs_146 ?_
              refine r_iastore _ dX11_runs_147 (S.1 _ _ rfl) rfl (by first | decide | omega) (by decide) ?_
              simp (decide := true) only [va_up_ne, va_up_self]
              rw [e17, ← ec]
              exact K148 _ hH3
          · exact absurd h108 (by omega)
        · exact absurd h92 (by omega)
    · have er : rn n kd ag bg (m + 1) (t, d, c, s, tm) = (0, (t, d, c, s, tm)) := by
        show (if n ≤ t then _ else _) = _
        rw [if_pos htn]
      rw [er]
      refine r_iload dX11_runs_76 rfl ?_
      refine r_bipush dX11_runs_78 (v := nI 99) (by decide) ?_
      refine r_icmp_neN 288 dX11_runs_80 (by decide) (by omega) (by omega) (fun h80 => ?_) (fun h80 => ?_)
      · exact absurd rfl h80
      · refine r_aload_n dX11_runs_83 rfl ?_
        refine r_getP dX11_runs_84 g_X11_61 (S.1 _ _ rfl) rfl (S.2 _ _ _ rfl) ?_
        refine r_iconst dX11_runs_87 (v := nI 0) kc_0 ?_
        refine r_iload_n dX11_runs_88 rfl ?_
        refine r_iastore _ dX11_runs_89 (S.1 _ _ rfl) rfl (by first | decide | omega) (by decide) ?_
        rw [e18]
        refine r_iload_n dX11_runs_90 rfl ?_
        refine r_iload_n dX11_runs_91 rfl ?_
        refine r_icmp_ltN 101 dX11_runs_92 (by decide) (by omega) (by omega) (fun h92 => ?_) (fun h92 => ?_)
        · exact absurd h92 (by omega)
        · refine r_iconst dX11_runs_95 (v := nI 0) kc_0 ?_
          refine r_istore dX11_runs_96 (Nat.le_of_ble_eq_true rfl) ?_
          dsimp only [List.set]
          refine r_goto 76 dX11_runs_98 (by decide) ?_
          exact l_X11_runsE S (by decide) hH2
end M13
