/-! the reference: pack, from its beginning -/
section M11
variable {sh : ASh} {I : AIn} {P : APt}
def pkX (I : AIn) (L G : Nat → Int32) (q n m k : Nat) : AIn := va_up (va_up (va_up (va_up (va_up (tjH I m (5 * m)) 30 L) 31 G) 8 (upd (I 8) 0 (nI n))) 9 (fun i => if i < k then I 3 (40 * q + i) else I 9 i)) 10 (fun i => if i < k then I 4 (40 * q + i) else I 10 i)
theorem l_X11_packX (S : St_m sh P) {post : APo} {L G : Nat → Int32} {q n m : Nat} (hq : q < 3) (hn : n ≤ 40)
    (K : ∀ x3, am_R mX11_pack post 2 52 0 0 86 [some (.ref 0), some (.int (nI q)), some (.int (nI n)), x3, none, none, none, none] [] sh (pkX I L G q n m n) P) : ∀ (c k : Nat), k + c = n → ∀ H, H = pkX I L G q n m k → am_R mX11_pack post 2 52 0 0 41 [some (.ref 0), some (.int (nI q)), some (.int (nI n)), some (.int (nI k)), none, none, none, none] [] sh H P := by
  intro c
  induction c with
  | zero =>
    intro k hk H hH
    have e : k = n := by omega
    subst e
    rw [hH]
    refine r_iload_n dX11_pack_41 rfl ?_
    refine r_iload_n dX11_pack_42 rfl ?_
    refine r_icmp_geN 86 dX11_pack_43 (by decide) (by omega) (by omega) (fun h43 => ?_) (fun h43 => ?_)
    · exact K _
    · exact absurd h43 (by omega)
  | succ c ih =>
    intro k hk H hH
    have e9 : H 9 = fun i => if i < k then I 3 (40 * q + i) else I 9 i := by rw [hH]; rfl
    have e10 : H 10 = fun i => if i < k then I 4 (40 * q + i) else I 10 i := by rw [hH]; rfl
    have e3 : H 3 = I 3 := by rw [hH]; rfl
    have e4 : H 4 = I 4 := by rw [hH]; rfl
    refine r_iload_n dX11_pack_41 rfl ?_
    refine r_iload_n dX11_pack_42 rfl ?_
    refine r_icmp_geN 86 dX11_pack_43 (by decide) (by omega) (by omega) (fun h43 => ?_) (fun h43 => ?_)
    · exact absurd h43 (by omega)
    · refine r_aload_n dX11_pack_46 rfl ?_
      refine r_getP dX11_pack_47 g_X11_34 (S.1 _ _ rfl) rfl (S.2 _ _ _ rfl) ?_
      refine r_iload_n dX11_pack_50 rfl ?_
      refine r_aload_n dX11_pack_51 rfl ?_
      refine r_getP dX11_pack_52 g_X11_16 (S.1 _ _ rfl) rfl (S.2 _ _ _ rfl) ?_
      refine r_bipush dX11_pack_55 (v := nI 40) (by decide) ?_
      refine r_iload_n dX11_pack_57 rfl ?_
      first | refine r_imulN dX11_pack_58 ?_ | refine r_imul dX11_pack_58 ?_
      refine r_iload_n dX11_pack_59 rfl ?_
      first | refine r_iaddN dX11_pack_60 ?_ | refine r_iadd dX11_pack_60 ?_
      refine r_iaload (40 * q + k) dX11_pack_61 (S.1 _ _ rfl) rfl (by first | decide | omega) (by decide) ?_
      rw [e3]
      refine r_iastore _ dX11_pack_62 (S.1 _ _ rfl) rfl (by first | decide | omega) (by decide) ?_
      refine r_aload_n dX11_pack_63 rfl ?_
      refine r_getP dX11_pack_64 g_X11_37 (S.1 _ _ rfl) rfl (S.2 _ _ _ rfl) ?_
      refine r_iload_n dX11_pack_67 rfl ?_
      refine r_aload_n dX11_pack_68 rfl ?_
      refine r_getP dX11_pack_69 g_X11_19 (S.1 _ _ rfl) rfl (S.2 _ _ _ rfl) ?_
      refine r_bipush dX11_pack_72 (v := nI 40) (by decide) ?_
      refine r_iload_n dX11_pack_74 rfl ?_
      first | refine r_imulN dX11_pack_75 ?_ | refine r_imul dX11_pack_75 ?_
      refine r_iload_n dX11_pack_76 rfl ?_
      first | refine r_iaddN dX11_pack_77 ?_ | refine r_iadd dX11_pack_77 ?_
      refine r_iaload (40 * q + k) dX11_pack_78 (S.1 _ _ rfl) rfl (by first | decide | omega) (by decide) ?_
      simp (decide := true) only [va_up_ne, va_up_self]
      rw [e4]
      refine r_iastore _ dX11_pack_79 (S.1 _ _ rfl) rfl (by first | decide | omega) (by decide) ?_
      first | refine r_iincN dX11_pack_80 rfl kc_1 ?_ | refine r_iinc dX11_pack_80 rfl rfl ?_
      dsimp only [List.set]
      refine r_goto 41 dX11_pack_83 (by decide) ?_
      refine ih (k + 1) (by omega) _ ?_
      have q2 : va_up H 9 (upd (H 9) k (I 3 (40 * q + k))) 10 = fun i => if i < k then I 4 (40 * q + i) else I 10 i := by rw [va_up_ne _ _ (by decide), e10]
      rw [q2, e9, fl0_step (fun i => I 3 (40 * q + i)), fl0_step (fun i => I 4 (40 * q + i)), hH, pkX, pkX, up_sw (i := 10) (j := 9) (by decide), bx_uu, bx_uu]
theorem pkX_rs (L G : Nat → Int32) (q n m : Nat) : rs (pkX I L G q n m n) = pk0 (rs I) q n ∧ hi (pkX I L G q n m n) I := by
  unfold pkX tjH
  rw [rs_up rfl, rs_up rfl, rs_up rfl, rs_no rfl, rs_no rfl, rs_no rfl, rs_no rfl]
  exact ⟨rfl, hi_up (hi_up (hi_up (hi_up (hi_up (hi_up (hi_up (hi_rf _) (by decide)) (by decide)) (by decide)) (by decide)) (by decide)) (by decide)) (by decide)⟩
theorem pk0_iP {σ : AIn} {q n : Nat} (V : iP σ) : iP (pk0 σ q n) ∧ sz (pk0 σ q n) = sz σ ∧ led (pk0 σ q n) = led σ ∧ ∀ F, sdp (pk0 σ q n) F = sdp σ F := ⟨V, rfl, rfl, fun _ => rfl⟩
theorem b_X11_pack (S : St_m sh P) (V : Inv (rs I))  (x : Int32): am_R mX11_pack (mpo sh P I (pa_res (rs I) x) (pa_op (rs I) x)) 2 52 0 0 5 [some (.ref 0), some (.int x), none, none, none, none, none, none] [] sh I P := by
  obtain ⟨e1, b1⟩ := V.1.np
  have e1 : I 1 0 = nI (np (rs I)) := e1
  generalize hN : np (rs I) = N at e1 b1
  obtain ⟨q1, q2⟩ := tj_rs (I := I) (nj (rs I)) (5 * nj (rs I))
  have hF : ∀ j, j < 5 * nj (rs I) → tjH I (nj (rs I)) (5 * nj (rs I)) 29 j = rs I 7 j := fun j hj => by show (if j < 5 * nj (rs I) then I 7 j else I 29 j) = I 7 j; rw [if_pos hj]
  generalize hm : nj (rs I) = m at q1 q2 hF
  refine r_aload_n dX11_pack_5 rfl ?_
  refine r_iload_n dX11_pack_6 rfl ?_
  refine r_callV1 (fr' := 1) (lo' := 22) (mc' := 0) (ms' := 0) dX11_pack_7 mm_X11_isProgram mv_X11_isProgram l_X11_150 (S.1 _ _ rfl) mc_X11_isProgram (by decide) ⟨by decide, by decide⟩ (Nat.zero_le _) (Nat.zero_le _) (Nat.le_of_ble_eq_true rfl) (c_X11_isProgram S _ e1 b1) (am_ki ?_)
  rintro v7 _ _ _ ⟨hb7, rfl, rfl, rfl⟩
  refine r_if_ne 15 dX11_pack_10 (by decide) (fun h10 => ?_) (fun h10 => ?_)
  · replace h10 := hb7.t h10
    obtain ⟨j, hj, rfl⟩ := h10
    obtain ⟨e2, b2⟩ := V.1.sz (q := j) (by omega)
    have e2 : I 2 j = nI (sz (rs I) j) := e2
    generalize hM : sz (rs I) j = M at e2 b2
    have nj : nv (nI j) = j := nv_nI (by omega)
    have hc : inR (nI j) (np (rs I)) := by rw [hN]; exact inR_nI hj
    have hR : rOk (tjH I m (5 * m) 29) m := by rw [← hm]; rw [← hm] at hF; exact V.2.1.rOk hF
    refine r_aload_n dX11_pack_15 rfl ?_
    refine r_callV0 (fr' := 0) (lo' := 0) (mc' := 0) (ms' := 0) dX11_pack_16 mm_X11_takeJoins mv_X11_takeJoins l_X11_180 (S.1 _ _ rfl) mc_X11_takeJoins (by decide) ⟨by decide, by decide⟩ (Nat.zero_le _) (Nat.zero_le _) (Nat.le_of_ble_eq_true rfl) (c_X11_takeJoins S V.2.1.1) (am_kv ?_)
    rintro _ _ _ ⟨rfl, rfl, rfl⟩
    rw [hm]
    refine r_aload_n dX11_pack_19 rfl ?_
    refine r_iload_n dX11_pack_20 rfl ?_
    refine r_iconst dX11_pack_21 (v := nI 0) kc_0 ?_
    refine r_callV2 (fr' := 1) (lo' := 25) (mc' := 0) (ms' := 0) dX11_pack_22 mm_X11_findLeast mv_X11_findLeast l_X11_176 (S.1 _ _ rfl) mc_X11_findLeast (by decide) ⟨by decide, by decide⟩ (Nat.zero_le _) (Nat.zero_le _) (Nat.le_of_ble_eq_true rfl) (c_X11_findLeast S (by rw [q1]; exact V.1) (by omega) (F := tjH I m (5 * m) 29) (m := m) rfl rfl hR) (am_kv ?_)
    rintro _ _ _ ⟨⟨L, G, rfl, hL, hG⟩, rfl, rfl⟩
    rw [q1] at hL hG
    refine r_aload_n dX11_pack_25 rfl ?_
    refine r_getP dX11_pack_26 g_X11_13 (S.1 _ _ rfl) rfl (S.2 _ _ _ rfl) ?_
    refine r_iload_n dX11_pack_29 rfl ?_
    refine r_iaload _ dX11_pack_30 (S.1 _ _ rfl) rfl (by first | decide | omega) (by decide) ?_
    rw [show va_up (va_up (tjH I m (5 * m)) 30 L) 31 G 2 j = nI M from e2]
    refine r_istore_n dX11_pack_31 (Nat.le_of_ble_eq_true rfl) ?_
    dsimp only [List.set]
    refine r_aload_n dX11_pack_32 rfl ?_
    refine r_getP dX11_pack_33 g_X11_31 (S.1 _ _ rfl) rfl (S.2 _ _ _ rfl) ?_
    refine r_iconst dX11_pack_36 (v := nI 0) kc_0 ?_
    refine r_iload_n dX11_pack_37 rfl ?_
    refine r_iastore _ dX11_pack_38 (S.1 _ _ rfl) rfl (by first | decide | omega) (by decide) ?_
    refine r_iconst dX11_pack_39 (v := nI 0) kc_0 ?_
    refine r_istore_n dX11_pack_40 (Nat.le_of_ble_eq_true rfl) ?_
    dsimp only [List.set]
    have er : pa_res (rs I) (nI j) = nI (pks (rs I) j M).1 := by rw [pa_res, cif_t hc, nj, hM]
    have eo : pa_op (rs I) (nI j) = pk1 (pk0 (rs I) j M) (pks (rs I) j M) := by rw [pa_op, cif_t hc, nj, hM]
    rw [er, eo]
    refine l_X11_packX (I := I) (L := L) (G := G) (m := m) S (by omega) b2 (fun x3 => ?_) M 0 (Nat.zero_add _) _ ?_
    · obtain ⟨r1, r2⟩ := pkX_rs (I := I) L G j M m
      have hT : ∀ u, u ≤ M → G u = nI (lsp (rs I) (tjH I m (5 * m) 29) m j (nI 0) u) ∧ lsp (rs I) (tjH I m (5 * m) 29) m j (nI 0) u ≤ 800000 := fun u hu => ⟨hG u (by rw [hM]; exact hu), lsp_le V.1 hR (by omega) _ (by rw [hM]; exact hu)⟩
      have hK : pkK (pkX I L G j M m M) j M m (tjH I m (5 * m) 29) (lsp (rs I) (tjH I m (5 * m) 29) m j (nI 0)) := by
        refine ⟨by rw [r1]; exact V.1, by omega, by rw [r1]; exact hM, ⟨rfl, rfl, hR, fun u hu => ?_⟩, hT, fun i hi => ?_⟩
        · rw [r1]; exact hL u hu
        · exact ⟨if_pos hi, if_pos hi⟩
      have hlc := lsp_congr (σ := rs I) (p := j) (way := nI 0) hR (F' := rs I 7) hF
      have hC : ∀ t, t < M → pkc (rs I) j t = pkC (lsp (rs I) (tjH I m (5 * m) 29) m j (nI 0)) (sdp (rs (pkX I L G j M m M)) (tjH I m (5 * m) 29) j) (rln (tjH I m (5 * m) 29)) t (rs (pkX I L G j M m M) 3 (40 * j + t)) m := by
        intro t ht
        rw [r1, pkc, pkT, hm]
        refine (pkC_congr (fun r hr => ?_) (fun r hr => ?_) (fun r hr hsd => ?_) ?_).symm
        · exact sdp_congr (fun i hi => hF _ (by omega)) (hR.2 r hr).1.2.2
        · show nv _ = nv _; rw [hF (5 * r) (by omega)]
        · exact hlc _ hsd.1
        · exact hlc _ (by rw [hM]; omega)
      have hL2 := fun H hH => l_X11_packL (sh := sh) (P := P) (J := I) (K := pkX I L G j M m M) (C := pkc (rs I) j) (s0 := (0, 0, 0, rs I 12, rs I 14)) S rfl hK hC r2 M 0 (Nat.zero_le _) (by omega) rfl H hH none none none none
      have ek : (fun i => rs (pkX I L G j M m M) 3 (40 * j + i)) = fun i => rs I 3 (40 * j + i) := rfl
      have ea : (fun i => rs (pkX I L G j M m M) 4 (40 * j + i)) = fun i => rs I 4 (40 * j + i) := rfl
      rw [ek, ea, r1] at hL2
      refine r_aload_n dX11_pack_86 rfl ?_
      refine r_getP dX11_pack_87 g_X11_40 (S.1 _ _ rfl) rfl (S.2 _ _ _ rfl) ?_
      refine r_iconst dX11_pack_90 (v := nI 0) kc_0 ?_
      refine r_iconst dX11_pack_91 (v := nI 0) kc_0 ?_
      refine r_iastore _ dX11_pack_92 (S.1 _ _ rfl) rfl (by first | decide | omega) (by decide) ?_
      refine r_aload_n dX11_pack_93 rfl ?_
      refine r_getP dX11_pack_94 g_X11_46 (S.1 _ _ rfl) rfl (S.2 _ _ _ rfl) ?_
      refine r_iconst dX11_pack_97 (v := nI 0) kc_0 ?_
      refine r_iconst dX11_pack_98 (v := nI 0) kc_0 ?_
      refine r_iastore _ dX11_pack_99 (S.1 _ _ rfl) rfl (by first | decide | omega) (by decide) ?_
      refine r_iconst dX11_pack_100 (v := nI 0) kc_0 ?_
      refine r_istore_n dX11_pack_101 (Nat.le_of_ble_eq_true rfl) ?_
      dsimp only [List.set]
      exact hL2 _ ⟨fun r a b c d => by rw [va_up_ne _ _ c, va_up_ne _ _ a], rfl, rfl, rfl, rfl⟩
    · rw [pkX]
      funext r
      by_cases h1 : r = 10
      · subst h1; funext i; simp [va_up, tjH]
      · by_cases h2 : r = 9
        · subst h2; funext i; simp [va_up, tjH]
        · simp only [va_up_ne _ _ h1, va_up_ne _ _ h2]
          rfl
  · replace h10 := hb7.f h10
    have hc : ¬ inR x (np (rs I)) := fun h => h10 (by rw [← hN]; exact h)
    refine r_iconst dX11_pack_13 (v := (-1)) kc_m1 ?_
    refine r_ireturn dX11_pack_14 .int rfl rfl ?_
    refine ⟨_, rfl, ?_, ?_, hi_rf _, rfl, rfl⟩
    · rw [pa_res, cif_f hc]
    · rw [pa_op, cif_f hc]
theorem c_X11_pack (S : St_m sh P) (V : Inv (rs I))  (x : Int32): am_R mX11_pack (mpo sh P I (pa_res (rs I) x) (pa_op (rs I) x)) 2 52 0 0 0 [some (.ref 0), some (.int x), none, none, none, none, none, none] [] sh I P := by
  refine r_aload_n dX11_pack_0 rfl ?_
  refine r_iconst dX11_pack_1 (v := nI 0) kc_0 ?_
  refine r_putI dX11_pack_2 f_X11_134 (S.1 _ _ rfl) rfl rfl rfl ?_
  have e : rs (va_up I 0 (upd (I 0) 0 (nI 0))) = rs I := rs_no rfl
  have h := b_X11_pack (I := va_up I 0 (upd (I 0) 0 (nI 0))) S (by rw [e]; exact V) x
  rw [e] at h
  exact mpo_z h
end M11
