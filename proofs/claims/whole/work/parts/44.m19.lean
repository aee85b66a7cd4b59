/-! the reference: read -/
section M19
variable {sh : ASh} {I : AIn} {P : APt}
theorem c_X11_readAll (S : St_m sh P) (V : Inv (rs I)) : am_R mX11_readAll (rdPo sh P I (rdX (rs I))) 3 65 0 0 0 [some (.ref 0), none, none, none, none] [] sh I P := by
  have hT : isN (I 26 0) 160 := V.2.2.2.2.2.1
  have hby : ∀ k, k < nv (I 26 0) → isN (I 27 k) 255 := V.2.2.2.2.2.2
  refine r_aload_n dX11_readAll_0 rfl ?_
  refine r_iconst dX11_readAll_1 (v := nI 0) kc_0 ?_
  refine r_putI dX11_readAll_2 f_X11_232 (S.1 _ _ rfl) rfl rfl rfl ?_
  refine r_aload_n dX11_readAll_5 rfl ?_
  refine r_iconst dX11_readAll_6 (v := nI 0) kc_0 ?_
  refine r_putI dX11_readAll_7 f_X11_235 (S.1 _ _ rfl) rfl rfl rfl ?_
  exact l_X11_rdL S V.2.1 hT.1 hT.2 hby (nv (I 26 0)) (0, []) _ _ _ _ _ (by omega) (Nat.zero_le _) (Nat.zero_le _) ⟨fun r a b c => by rw [va_up_ne _ _ a, va_up_ne _ _ a], rfl, rfl, fun k hk => absurd hk (Nat.not_lt_zero k)⟩
def rdF (J : AIn) (N : Nat) (l : List (Nat × Int32)) (k : Nat) : AIn := va_up (va_up J 3 (fun j => if 40 * N ≤ j ∧ j < 40 * N + k then nI (l.getD (j - 40 * N) (0, 0)).1 else J 3 j)) 4 (fun j => if 40 * N ≤ j ∧ j < 40 * N + k then (l.getD (j - 40 * N) (0, 0)).2 else J 4 j)
theorem l_X11_read (S : St_m sh P) {post : APo} {N : Nat} {l : List (Nat × Int32)} (hN : N < 3) (hl : l.length ≤ 40) (h45 : I 0 45 = nI l.length) (h434 : ∀ k, k < l.length → I 43 k = nI (l.getD k (0, 0)).1 ∧ I 44 k = (l.getD k (0, 0)).2) (K : ∀ x2, am_R mX11_read post 4 89 0 0 106 [some (.ref 0), some (.int (nI N)), x2] [] sh (rdF I N l l.length) P) : ∀ (m k : Nat), k + m = l.length → ∀ H, H = rdF I N l k → am_R mX11_read post 4 89 0 0 58 [some (.ref 0), some (.int (nI N)), some (.int (nI k))] [] sh H P := by
  intro m
  induction m with
  | zero =>
    intro k hk H hH
    have e : k = l.length := by omega
    subst e
    rw [hH]
    have e45 : rdF I N l l.length 0 45 = nI l.length := h45
    refine r_iload_n dX11_read_58 rfl ?_
    refine r_aload_n dX11_read_59 rfl ?_
    refine r_getI dX11_read_60 g_X11_232 (S.1 _ _ rfl) rfl ?_
    rw [e45]
    refine r_icmp_geN 106 dX11_read_63 (by decide) (by omega) (by omega) (fun h63 => ?_) (fun h63 => ?_)
    · exact K _
    · exact absurd h63 (by omega)
  | succ m ih =>
    intro k hk H hH
    have e45 : H 0 45 = nI l.length := by rw [hH]; exact h45
    have e3 : H 3 = fun j => if 40 * N ≤ j ∧ j < 40 * N + k then nI (l.getD (j - 40 * N) (0, 0)).1 else I 3 j := by rw [hH]; rfl
    have e4 : H 4 = fun j => if 40 * N ≤ j ∧ j < 40 * N + k then (l.getD (j - 40 * N) (0, 0)).2 else I 4 j := by rw [hH]; rfl
    have e43 : H 43 k = nI (l.getD k (0, 0)).1 := by rw [hH]; exact (h434 k (by omega)).1
    have e44 : H 44 k = (l.getD k (0, 0)).2 := by rw [hH]; exact (h434 k (by omega)).2
    refine r_iload_n dX11_read_58 rfl ?_
    refine r_aload_n dX11_read_59 rfl ?_
    refine r_getI dX11_read_60 g_X11_232 (S.1 _ _ rfl) rfl ?_
    rw [e45]
    refine r_icmp_geN 106 dX11_read_63 (by decide) (by omega) (by omega) (fun h63 => ?_) (fun h63 => ?_)
    · exact absurd h63 (by omega)
    · refine r_aload_n dX11_read_66 rfl ?_
      refine r_getP dX11_read_67 g_X11_16 (S.1 _ _ rfl) rfl (S.2 _ _ _ rfl) ?_
      refine r_bipush dX11_read_70 (v := nI 40) (by decide) ?_
      refine r_iload_n dX11_read_72 rfl ?_
      first | refine r_imulN dX11_read_73 ?_ | refine r_imul dX11_read_73 ?_
      refine r_iload_n dX11_read_74 rfl ?_
      first | refine r_iaddN dX11_read_75 ?_ | refine r_iadd dX11_read_75 ?_
      refine r_aload_n dX11_read_76 rfl ?_
      refine r_getP dX11_read_77 g_X11_125 (S.1 _ _ rfl) rfl (S.2 _ _ _ rfl) ?_
      refine r_iload_n dX11_read_80 rfl ?_
      refine r_iaload _ dX11_read_81 (S.1 _ _ rfl) rfl (by first | decide | omega) (by decide) ?_
      rw [e43]
      refine r_iastore (40 * N + k) dX11_read_82 (S.1 _ _ rfl) rfl (by first | decide | omega) (by decide) ?_
      refine r_aload_n dX11_read_83 rfl ?_
      refine r_getP dX11_read_84 g_X11_19 (S.1 _ _ rfl) rfl (S.2 _ _ _ rfl) ?_
      refine r_bipush dX11_read_87 (v := nI 40) (by decide) ?_
      refine r_iload_n dX11_read_89 rfl ?_
      first | refine r_imulN dX11_read_90 ?_ | refine r_imul dX11_read_90 ?_
      refine r_iload_n dX11_read_91 rfl ?_
      first | refine r_iaddN dX11_read_92 ?_ | refine r_iadd dX11_read_92 ?_
      refine r_aload_n dX11_read_93 rfl ?_
      refine r_getP dX11_read_94 g_X11_128 (S.1 _ _ rfl) rfl (S.2 _ _ _ rfl) ?_
      refine r_iload_n dX11_read_97 rfl ?_
      refine r_iaload _ dX11_read_98 (S.1 _ _ rfl) rfl (by first | decide | omega) (by decide) ?_
      simp (decide := true) only [va_up_ne, va_up_self]
      rw [e44]
      refine r_iastore (40 * N + k) dX11_read_99 (S.1 _ _ rfl) rfl (by first | decide | omega) (by decide) ?_
      first | refine r_iincN dX11_read_100 rfl kc_1 ?_ | refine r_iinc dX11_read_100 rfl rfl ?_
      dsimp only [List.set]
      refine r_goto 58 dX11_read_103 (by decide) ?_
      refine ih (k + 1) (by omega) _ ?_
      have q2 : va_up H 3 (upd (H 3) (40 * N + k) (nI (l.getD k (0, 0)).1)) 4 = fun j => if 40 * N ≤ j ∧ j < 40 * N + k then (l.getD (j - 40 * N) (0, 0)).2 else I 4 j := by rw [va_up_ne _ _ (by decide), e4]
      have g1 := fl_step (fun i => nI (l.getD i (0, 0)).1) (I 3) (40 * N) k
      have g2 := fl_step (fun i => (l.getD i (0, 0)).2) (I 4) (40 * N) k
      rw [q2, e3]
      rw [g1, g2, hH, rdF, rdF, up_sw (i := 4) (j := 3) (by decide), bx_uu, bx_uu]
theorem b_X11_read (S : St_m sh P) (V : Inv (rs I))  : am_R mX11_read (mpo sh P I (rd_res (rs I)) (rd_op (rs I))) 4 89 0 0 5 [some (.ref 0), none, none] [] sh I P := by
  obtain ⟨e1, b1⟩ := V.1.np
  have e1 : I 1 0 = nI (np (rs I)) := e1
  generalize hN : np (rs I) = N at e1 b1
  refine r_aload_n dX11_read_5 rfl ?_
  refine r_getP dX11_read_6 g_X11_7 (S.1 _ _ rfl) rfl (S.2 _ _ _ rfl) ?_
  refine r_iconst dX11_read_9 (v := nI 0) kc_0 ?_
  refine r_iaload _ dX11_read_10 (S.1 _ _ rfl) rfl (by first | decide | omega) (by decide) ?_
  rw [e1]
  refine r_iconst dX11_read_11 (v := nI 3) kc_3 ?_
  refine r_icmp_eqN 22 dX11_read_12 (by decide) (by omega) (by omega) (fun h12 => ?_) (fun h12 => ?_)
  · have er : rd_res (rs I) = -1 := by rw [rd_res, cif_t (by omega)]
    have eo : rd_op (rs I) = rs I := by rw [rd_op, cif_t (by omega)]
    have hrs : rs I = rs I ∧ hi I I := ⟨rfl, hi_rf _⟩
    refine r_iconst dX11_read_22 (v := (-1)) kc_m1 ?_
    refine r_ireturn dX11_read_23 .int rfl rfl ?_
    exact ⟨_, rfl, er.symm, hrs.1.trans eo.symm, hrs.2, rfl, rfl⟩
  · refine r_aload_n dX11_read_15 rfl ?_
    refine r_callV0 (fr' := 3) (lo' := 65) (mc' := 0) (ms' := 0) dX11_read_16 mm_X11_readAll mv_X11_readAll l_X11_241 (S.1 _ _ rfl) mc_X11_readAll (by decide) ⟨by decide, by decide⟩ (Nat.zero_le _) (Nat.zero_le _) (Nat.le_of_ble_eq_true rfl) (c_X11_readAll S V) (am_ki ?_)
    rintro v16 _ J _ ⟨hb16, hR, hfr, rfl, rfl⟩
    have hJrs : rs J = rs I := by
      funext r
      by_cases c0 : r = 0
      · subst c0; rfl
      · by_cases c1 : r = 43
        · subst c1; rfl
        · by_cases c2 : r = 44
          · subst c2; rfl
          · unfold rs; rw [hfr r c0 c1 c2]
    have hJhi : hi J I := fun r hr => hfr r (by omega) (by omega) (by omega)
    refine r_if_ne 24 dX11_read_19 (by decide) (fun h19 => ?_) (fun h19 => ?_)
    · obtain ⟨s, hx⟩ := hb16.t h19
      obtain ⟨hR, hl⟩ := hR s hx
      have er : rd_res (rs I) = nI N := by rw [rd_res, cif_f (by omega), hx, hN]
      have eo : rd_op (rs I) = rdW (rs I) s.2 := by rw [rd_op, cif_f (by omega), hx]
      have f1 : J 1 0 = nI N := by rw [hfr 1 (by decide) (by decide) (by decide)]; exact e1
      have f45 := hR.2.1
      rw [er, eo]
      refine r_aload_n dX11_read_24 rfl ?_
      refine r_getP dX11_read_25 g_X11_7 (S.1 _ _ rfl) rfl (S.2 _ _ _ rfl) ?_
      refine r_iconst dX11_read_28 (v := nI 0) kc_0 ?_
      refine r_iaload _ dX11_read_29 (S.1 _ _ rfl) rfl (by first | decide | omega) (by decide) ?_
      rw [f1]
      refine r_istore_n dX11_read_30 (Nat.le_of_ble_eq_true rfl) ?_
      dsimp only [List.set]
      refine r_aload_n dX11_read_31 rfl ?_
      refine r_getP dX11_read_32 g_X11_7 (S.1 _ _ rfl) rfl (S.2 _ _ _ rfl) ?_
      refine r_iconst dX11_read_35 (v := nI 0) kc_0 ?_
      refine r_dup2 dX11_read_36 ?_
      refine r_iaload _ dX11_read_37 (S.1 _ _ rfl) rfl (by first | decide | omega) (by decide) ?_
      rw [f1]
      refine r_iconst dX11_read_38 (v := nI 1) kc_1 ?_
      first | refine r_iaddN dX11_read_39 ?_ | refine r_iadd dX11_read_39 ?_
      refine r_iastore _ dX11_read_40 (S.1 _ _ rfl) rfl (by first | decide | omega) (by decide) ?_
      refine r_aload_n dX11_read_41 rfl ?_
      refine r_getP dX11_read_42 g_X11_13 (S.1 _ _ rfl) rfl (S.2 _ _ _ rfl) ?_
      refine r_iload_n dX11_read_45 rfl ?_
      refine r_aload_n dX11_read_46 rfl ?_
      refine r_getI dX11_read_47 g_X11_232 (S.1 _ _ rfl) rfl ?_
      simp (decide := true) only [va_up_ne, va_up_self]
      rw [f45]
      refine r_iastore _ dX11_read_50 (S.1 _ _ rfl) rfl (by first | decide | omega) (by decide) ?_
      refine r_aload_n dX11_read_51 rfl ?_
      refine r_iload_n dX11_read_52 rfl ?_
      refine r_callV1 (fr' := 0) (lo' := 0) (mc' := 0) (ms' := 0) dX11_read_53 mm_X11_forget mv_X11_forget l_X11_146 (S.1 _ _ rfl) mc_X11_forget (by decide) ⟨by decide, by decide⟩ (Nat.zero_le _) (Nat.zero_le _) (Nat.le_of_ble_eq_true rfl) (c_X11_forget S (by omega)) (am_kv ?_)
      rintro _ _ _ ⟨rfl, rfl, rfl⟩
      refine r_iconst dX11_read_56 (v := nI 0) kc_0 ?_
      refine r_istore_n dX11_read_57 (Nat.le_of_ble_eq_true rfl) ?_
      dsimp only [List.set]
      refine l_X11_read (I := va_up (va_up (va_up J 1 (upd (J 1) 0 (nI (N + 1)))) 2 (upd (J 2) N (nI s.2.length))) 5 (fun j => if 40 * N ≤ j ∧ j < 40 * N + 40 then 0 else J 5 j)) (l := s.2) S (by omega) hl f45 hR.2.2.2 (fun y2 => ?_) s.2.length 0 (Nat.zero_add _) _ ?_
      · skip
        refine r_aload_n dX11_read_106 rfl ?_
        refine r_getP dX11_read_107 g_X11_85 (S.1 _ _ rfl) rfl (S.2 _ _ _ rfl) ?_
        refine r_iconst dX11_read_110 (v := nI 0) kc_0 ?_
        refine r_iconst dX11_read_111 (v := nI 0) kc_0 ?_
        refine r_iastore _ dX11_read_112 (S.1 _ _ rfl) rfl (by first | decide | omega) (by decide) ?_
        refine r_iload_n dX11_read_113 rfl ?_
        refine r_ireturn dX11_read_114 .int rfl rfl ?_
        refine ⟨_, rfl, rfl, ?_, hi_up (hi_up (hi_up (hi_up (hi_up (hi_up hJhi (by decide)) (by decide)) (by decide)) (by decide)) (by decide)) (by decide), rfl, rfl⟩
        unfold rdF
        rw [rs_up rfl, rs_up rfl, rs_up rfl, rs_up rfl, rs_up rfl, rs_up rfl, hJrs, rdW, hN]
        have j1 : J 1 = rs I 1 := hfr 1 (by decide) (by decide) (by decide)
        have j2 : J 2 = rs I 2 := hfr 2 (by decide) (by decide) (by decide)
        have j3 : J 3 = rs I 3 := hfr 3 (by decide) (by decide) (by decide)
        have j4 : J 4 = rs I 4 := hfr 4 (by decide) (by decide) (by decide)
        have j5 : J 5 = rs I 5 := hfr 5 (by decide) (by decide) (by decide)
        have j26 : J 26 = rs I 26 := hfr 26 (by decide) (by decide) (by decide)
        simp (decide := true) only [va_up_ne, va_up_self]
        rw [j1, j2, j3, j4, j5, j26]
        rfl
      · unfold rdF
        have z : ∀ j, ¬ (40 * N ≤ j ∧ j < 40 * N + 0) := fun j => by omega
        refine up_id2 (I := va_up (va_up (va_up J 1 (upd (J 1) 0 (nI (N + 1)))) 2 (upd (J 2) N (nI s.2.length))) 5 (fun j => if 40 * N ≤ j ∧ j < 40 * N + 40 then 0 else J 5 j)) 3 4 _ _ ?_ ?_ (by decide)
        · funext j; rw [if_neg (z j)]
        · funext j; rw [if_neg (z j)]
    · replace h19 := hb16.f h19
      have hx : rdX (rs I) = none := by
        cases h : rdX (rs I) with
        | none => rfl
        | some s => exact absurd ⟨s, h⟩ h19
      have er : rd_res (rs I) = -1 := by rw [rd_res, cif_f (by omega), hx]
      have eo : rd_op (rs I) = rs I := by rw [rd_op, cif_f (by omega), hx]
      have hrs : rs J = rs I ∧ hi J I := ⟨hJrs, hJhi⟩
      refine r_iconst dX11_read_22 (v := (-1)) kc_m1 ?_
      refine r_ireturn dX11_read_23 .int rfl rfl ?_
      exact ⟨_, rfl, er.symm, hrs.1.trans eo.symm, hrs.2, rfl, rfl⟩
theorem c_X11_read (S : St_m sh P) (V : Inv (rs I))  : am_R mX11_read (mpo sh P I (rd_res (rs I)) (rd_op (rs I))) 4 89 0 0 0 [some (.ref 0), none, none] [] sh I P := by
  refine r_aload_n dX11_read_0 rfl ?_
  refine r_iconst dX11_read_1 (v := nI 0) kc_0 ?_
  refine r_putI dX11_read_2 f_X11_134 (S.1 _ _ rfl) rfl rfl rfl ?_
  have e : rs (va_up I 0 (upd (I 0) 0 (nI 0))) = rs I := rs_no rfl
  have h := b_X11_read (I := va_up I 0 (upd (I 0) 0 (nI 0))) S (by rw [e]; exact V)
  rw [e] at h
  exact mpo_z h
end M19
