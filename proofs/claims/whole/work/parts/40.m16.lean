/-! the reference: run, the whole -/
section M16
variable {sh : ASh} {I : AIn} {P : APt}
theorem rn_fin {n : Nat} {kd : Nat → Nat} {ag : Nat → Int32} {bg : Nat → Prop} (hn : n ≤ 40) (M : Nat) (s : MS) (g : Nat → Int32) (σ : AIn) : (rn n kd ag bg M (0, 0, 0, s, zr 40 g)).1 = (rn n kd ag bg M (0, 0, 0, s, fun _ => nI 0)).1 ∧ ruW σ (rn n kd ag bg M (0, 0, 0, s, zr 40 g)).1 (rn n kd ag bg M (0, 0, 0, s, zr 40 g)).2 = ruW σ (rn n kd ag bg M (0, 0, 0, s, fun _ => nI 0)).1 (rn n kd ag bg M (0, 0, 0, s, fun _ => nI 0)).2 ∧ ∀ p, ru5 σ p n (rn n kd ag bg M (0, 0, 0, s, zr 40 g)).2.2.2.2.2 = ru5 σ p n (rn n kd ag bg M (0, 0, 0, s, fun _ => nI 0)).2.2.2.2.2 := by
  obtain ⟨h1, h2, h3, h4, h5, h6⟩ := rn_tm (kd := kd) (ag := ag) (bg := bg) hn M 0 0 0 s (zr 40 g) (fun _ => nI 0) (fun j hj => if_pos hj)
  refine ⟨h1, ?_, fun p => ?_⟩
  · unfold ruW
    rw [h1, h2, h3, h4, h5]
  · funext j
    unfold ru5
    by_cases hj : 40 * p ≤ j ∧ j < 40 * p + n
    · rw [if_pos hj, if_pos hj, h6 _ (by omega)]
    · rw [if_neg hj, if_neg hj]
theorem up_id (r : Nat) (f : Nat → Int32) (h : f = I r) : I = va_up I r f := by
  funext k
  by_cases hk : k = r
  · subst hk; rw [va_up_self, h]
  · rw [va_up_ne _ _ hk]
theorem up_id2 (r s : Nat) (f g : Nat → Int32) (h : f = I r) (h2 : g = I s) (hrs : s ≠ r) : I = va_up (va_up I r f) s g := by
  rw [← up_id r f h, ← up_id s g h2]
theorem l_X11_runGU (S : St_m sh P) (V : Inv (rs I)) {b : Int32} (hb : b = 0) {q M : Nat} (hq : q < np (rs I)) (hM : M ≤ 20000) : am_R mX11_run (mpo sh P I (nI (rnU (rs I) q M).1) (va_up (ruW (rs I) (rnU (rs I) q M).1 (rnU (rs I) q M).2) 5 (ru5 (rs I) q (sz (rs I) q) (rnU (rs I) q M).2.2.2.2.2))) 3 72 0 0 43 [some (.ref 0), some (.int (nI q)), some (.int b), some (.int (nI M)), none, none, none] [] sh I P := by
  obtain ⟨e1, b1⟩ := V.1.np
  obtain ⟨e2, b2⟩ := V.1.sz (q := q) (by omega)
  have e2 : I 2 q = nI (sz (rs I) q) := e2
  have hpr := V.1.2.2.1 q
  unfold rnU
  generalize hn : sz (rs I) q = n at e2 b2 hpr
  refine r_iload_n dX11_run_43 rfl ?_
  refine r_if_eq 56 dX11_run_44 (by decide) (fun h44 => ?_) (fun h44 => ?_)
  · refine r_aload_n dX11_run_56 rfl ?_
    refine r_getP dX11_run_57 g_X11_13 (S.1 _ _ rfl) rfl (S.2 _ _ _ rfl) ?_
    refine r_iload_n dX11_run_60 rfl ?_
    refine r_iaload _ dX11_run_61 (S.1 _ _ rfl) rfl (by first | decide | omega) (by decide) ?_
    rw [e2]
    refine r_istore dX11_run_62 (Nat.le_of_ble_eq_true rfl) ?_
    dsimp only [List.set]
    refine r_iconst dX11_run_64 (v := nI 0) kc_0 ?_
    refine r_istore dX11_run_65 (Nat.le_of_ble_eq_true rfl) ?_
    dsimp only [List.set]
    refine l_X11_runAU S hb (fun x5 => ?_) 40 0 rfl _ (up_id 35 _ rfl)
    refine r_iconst dX11_run_96 (v := nI 0) kc_0 ?_
    refine r_istore dX11_run_97 (Nat.le_of_ble_eq_true rfl) ?_
    dsimp only [List.set]
    refine r_iload_n dX11_run_99 rfl ?_
    refine r_if_eq 137 dX11_run_100 (by decide) (fun h100 => ?_) (fun h100 => ?_)
    · refine r_iconst dX11_run_137 (v := nI 0) kc_0 ?_
      refine r_istore dX11_run_138 (Nat.le_of_ble_eq_true rfl) ?_
      dsimp only [List.set]
      refine l_X11_runCU (y := 0) (q := q) S hb (by omega) b2 (fun x6 => ?_) n 0 (Nat.zero_add _) _ (up_id2 32 33 _ _ rfl rfl (by decide))
      generalize hJ1 : va_up (va_up (va_up I 35 (fun j => if j < 40 then nI 1 else I 35 j)) 32 (fun j => if j < n then (fun j => va_up I 35 (fun j => if j < 40 then nI 1 else I 35 j) 3 (40 * q + j)) j else va_up I 35 (fun j => if j < 40 then nI 1 else I 35 j) 32 j)) 33 (fun j => if j < n then (fun j => va_up I 35 (fun j => if j < 40 then nI 1 else I 35 j) 4 (40 * q + j)) j else va_up I 35 (fun j => if j < 40 then nI 1 else I 35 j) 33 j) = J1
      have k32 : ∀ t, t < n → J1 32 t = rs I 3 (40 * q + t) := fun t ht => by rw [← hJ1]; exact if_pos ht
      have k33 : ∀ t, t < n → J1 33 t = rs I 4 (40 * q + t) := fun t ht => by rw [← hJ1]; exact if_pos ht
      have k35 : ∀ t, t < n → J1 35 t = nI 1 := fun t ht => by rw [← hJ1]; exact if_pos (show t < 40 by omega)
      have krs : rs J1 = rs I := by rw [← hJ1, rs_no rfl, rs_no rfl, rs_no rfl]
      have khi : hi J1 I := by rw [← hJ1]; exact hi_up (hi_up (hi_up (hi_rf _) (by decide)) (by decide)) (by decide)
      have kms : ms0 J1 = ms0 (rs I) := by rw [← hJ1]; rfl
      have hRK : rnK J1 n (fun t => nv (rs I 3 (40 * q + t))) (fun t => rs I 4 (40 * q + t)) (fun _ => True) := ⟨b2, fun t ht => ⟨⟨(k32 t ht).trans (hpr t (by omega) ht).1.1, by have := (hpr t (by omega) ht).1.2; show nv (rs I 3 (40 * q + t)) < 16; omega⟩, ⟨k33 t ht, (hpr t (by omega) ht).2⟩, by rw [k35 t ht]; exact bo_1 trivial⟩⟩
      refine r_aload_n dX11_run_219 rfl ?_
      refine r_iload dX11_run_220 rfl ?_
      refine r_iload_n dX11_run_222 rfl ?_
      refine r_callV2 (fr' := 2) (lo' := 46) (mc' := 0) (ms' := 0) dX11_run_223 mm_X11_runs mv_X11_runs l_X11_204 (S.1 _ _ rfl) mc_X11_runs (by decide) ⟨by decide, by decide⟩ (Nat.zero_le _) (Nat.zero_le _) (Nat.le_of_ble_eq_true rfl) (c_X11_runs S (n := n) (most := M) (kd := fun t => nv (rs I 3 (40 * q + t))) (ag := fun t => rs I 4 (40 * q + t)) (bg := fun _ => True) hRK hM) (am_ki ?_)
      rintro _ _ J _ ⟨rfl, hJ, rfl, rfl⟩
      obtain ⟨r1, r2, r3⟩ := rnE_rs hJ
      rw [kms] at r1 r2 ⊢
      obtain ⟨f1, f2, f3⟩ := rn_fin (n := n) (kd := fun t => nv (rs I 3 (40 * q + t))) (ag := fun t => rs I 4 (40 * q + t)) (bg := fun _ => True) b2 M (ms0 (rs I)) (J1 34) (rs I)
      rw [krs] at r1
      rw [← f2, ← f3 q, ← f1]
      generalize rn n (fun t => nv (rs I 3 (40 * q + t))) (fun t => rs I 4 (40 * q + t)) (fun _ => True) M (0, 0, 0, ms0 (rs I), zr 40 (J1 34)) = R at r1 r2 ⊢
      refine r_istore dX11_run_226 (Nat.le_of_ble_eq_true rfl) ?_
      dsimp only [List.set]
      refine r_iconst dX11_run_228 (v := nI 0) kc_0 ?_
      refine r_istore dX11_run_229 (Nat.le_of_ble_eq_true rfl) ?_
      dsimp only [List.set]
      refine l_X11_runD S hb (by omega) b2 r2 (fun H hH => ?_) n 0 (Nat.zero_add _) _ (up_id 5 _ ?_)
      · rw [hH, rs_up rfl, r1]
        refine ⟨?_, hi_up (fun r hr => (r3 r hr).trans (khi r hr)) (by decide)⟩
        have e5 : J 5 = rs I 5 := by
          have h9 := congrFun r1 5
          rw [rs_at rfl] at h9
          rw [h9]; rfl
        rw [e5]; rfl
      · funext j
        have h3 : ¬ (40 * q ≤ j ∧ j < 40 * q + 0) := by omega
        rw [if_neg h3]
    · exact absurd hb h100
  · exact absurd hb h44
theorem l_X11_runGP (S : St_m sh P) (V : Inv (rs I)) {y b : Int32} (hb : ¬ b = 0) {M : Nat} (h11 : ¬ I 11 0 = -1) (hM : M ≤ 20000) : am_R mX11_run (mpo sh P I (nI (rnP (rs I) M).1) (ruW (rs I) (rnP (rs I) M).1 (rnP (rs I) M).2)) 3 72 0 0 43 [some (.ref 0), some (.int y), some (.int b), some (.int (nI M)), none, none, none] [] sh I P := by
  obtain ⟨k11, k8, k13, hpr, hpl⟩ : isN (I 11 0) 40 ∧ isN (I 8 0) 40 ∧ isN (I 13 0) 80 ∧ (∀ k, k < nv (I 8 0) → isN (I 9 k) 15 ∧ aOk (nv (I 9 k)) (I 10 k)) ∧ (∀ k, k < nv (I 11 0) → isN (I 12 (3 * k + 1)) 39 ∧ nv (I 12 (3 * k + 1)) < nv (I 8 0)) := by
    rcases V.2.2.1 with h | h
    · exact absurd h h11
    · exact h
  have e8 := k8.1
  have b2 := k8.2
  have e11 := k11.1
  have b11 := k11.2
  unfold rnP
  show am_R mX11_run (mpo sh P I (nI (rn (nv (I 8 0)) (fun t => nv (I 9 t)) (fun t => I 10 t) (fun t => ∃ k, k < nv (I 11 0) ∧ I 12 (3 * k + 1) = nI t) M (0, 0, 0, ms0 (rs I), fun _ => nI 0)).1) (ruW (rs I) (rn (nv (I 8 0)) (fun t => nv (I 9 t)) (fun t => I 10 t) (fun t => ∃ k, k < nv (I 11 0) ∧ I 12 (3 * k + 1) = nI t) M (0, 0, 0, ms0 (rs I), fun _ => nI 0)).1 (rn (nv (I 8 0)) (fun t => nv (I 9 t)) (fun t => I 10 t) (fun t => ∃ k, k < nv (I 11 0) ∧ I 12 (3 * k + 1) = nI t) M (0, 0, 0, ms0 (rs I), fun _ => nI 0)).2)) 3 72 0 0 43 _ _ _ _ _
  generalize hn : nv (I 8 0) = n at e8 b2 hpr hpl
  generalize hc : nv (I 11 0) = c at e11 b11 hpl
  refine r_iload_n dX11_run_43 rfl ?_
  refine r_if_eq 56 dX11_run_44 (by decide) (fun h44 => ?_) (fun h44 => ?_)
  · exact absurd h44 hb
  · refine r_aload_n dX11_run_47 rfl ?_
    refine r_getP dX11_run_48 g_X11_31 (S.1 _ _ rfl) rfl (S.2 _ _ _ rfl) ?_
    refine r_iconst dX11_run_51 (v := nI 0) kc_0 ?_
    refine r_iaload _ dX11_run_52 (S.1 _ _ rfl) rfl (by first | decide | omega) (by decide) ?_
    rw [e8]
    refine r_goto 62 dX11_run_53 (by decide) ?_
    refine r_istore dX11_run_62 (Nat.le_of_ble_eq_true rfl) ?_
    dsimp only [List.set]
    refine r_iconst dX11_run_64 (v := nI 0) kc_0 ?_
    refine r_istore dX11_run_65 (Nat.le_of_ble_eq_true rfl) ?_
    dsimp only [List.set]
    refine l_X11_runAP S hb (fun x5 => ?_) 40 0 rfl _ (up_id 35 _ rfl)
    refine r_iconst dX11_run_96 (v := nI 0) kc_0 ?_
    refine r_istore dX11_run_97 (Nat.le_of_ble_eq_true rfl) ?_
    dsimp only [List.set]
    refine l_X11_runB (c := c) S hb e11 b11 (fun k hk => (hpl k hk).1) (fun B x6 hB => ?_) c 0 (Nat.zero_add _) _ (fun t ht => ?_)
    · skip
      refine r_iconst dX11_run_137 (v := nI 0) kc_0 ?_
      refine r_istore dX11_run_138 (Nat.le_of_ble_eq_true rfl) ?_
      dsimp only [List.set]
      refine l_X11_runCP (q := 0) S hb (by decide) b2 (fun x7 => ?_) n 0 (Nat.zero_add _) _ (up_id2 32 33 _ _ rfl rfl (by decide))
      generalize hJ1 : va_up (va_up (va_up I 35 B) 32 (fun j => if j < n then (fun j => va_up I 35 B 9 j) j else va_up I 35 B 32 j)) 33 (fun j => if j < n then (fun j => va_up I 35 B 10 j) j else va_up I 35 B 33 j) = J1
      have k32 : ∀ t, t < n → J1 32 t = I 9 t := fun t ht => by rw [← hJ1]; exact if_pos ht
      have k33 : ∀ t, t < n → J1 33 t = I 10 t := fun t ht => by rw [← hJ1]; exact if_pos ht
      have k35 : J1 35 = B := by rw [← hJ1]; rfl
      have krs : rs J1 = rs I := by rw [← hJ1, rs_no rfl, rs_no rfl, rs_no rfl]
      have khi : hi J1 I := by rw [← hJ1]; exact hi_up (hi_up (hi_up (hi_rf _) (by decide)) (by decide)) (by decide)
      have kms : ms0 J1 = ms0 (rs I) := by rw [← hJ1]; rfl
      have hRK : rnK J1 n (fun t => nv (I 9 t)) (fun t => I 10 t) (fun t => ∃ k, k < c ∧ I 12 (3 * k + 1) = nI t) := ⟨b2, fun t ht => ⟨⟨(k32 t ht).trans (hpr t ht).1.1, by have := (hpr t ht).1.2; show nv (I 9 t) < 16; omega⟩, ⟨k33 t ht, (hpr t ht).2⟩, by rw [k35]; exact hB t (by omega)⟩⟩
      refine r_aload_n dX11_run_219 rfl ?_
      refine r_iload dX11_run_220 rfl ?_
      refine r_iload_n dX11_run_222 rfl ?_
      refine r_callV2 (fr' := 2) (lo' := 46) (mc' := 0) (ms' := 0) dX11_run_223 mm_X11_runs mv_X11_runs l_X11_204 (S.1 _ _ rfl) mc_X11_runs (by decide) ⟨by decide, by decide⟩ (Nat.zero_le _) (Nat.zero_le _) (Nat.le_of_ble_eq_true rfl) (c_X11_runs S (n := n) (most := M) (kd := fun t => nv (I 9 t)) (ag := fun t => I 10 t) (bg := fun t => ∃ k, k < c ∧ I 12 (3 * k + 1) = nI t) hRK hM) (am_ki ?_)
      rintro _ _ J _ ⟨rfl, hJ, rfl, rfl⟩
      obtain ⟨r1, r2, r3⟩ := rnE_rs hJ
      rw [kms] at r1 r2 ⊢
      obtain ⟨f1, f2, f3⟩ := rn_fin (n := n) (kd := fun t => nv (I 9 t)) (ag := fun t => I 10 t) (bg := fun t => ∃ k, k < c ∧ I 12 (3 * k + 1) = nI t) b2 M (ms0 (rs I)) (J1 34) (rs I)
      rw [krs] at r1
      rw [← f2, ← f1]
      refine r_istore dX11_run_226 (Nat.le_of_ble_eq_true rfl) ?_
      dsimp only [List.set]
      refine r_iconst dX11_run_228 (v := nI 0) kc_0 ?_
      refine r_istore dX11_run_229 (Nat.le_of_ble_eq_true rfl) ?_
      dsimp only [List.set]
      refine r_iload_n dX11_run_231 rfl ?_
      refine r_if_ne 267 dX11_run_232 (by decide) (fun h232 => ?_) (fun h232 => ?_)
      · refine r_iload dX11_run_267 rfl ?_
        refine r_ireturn dX11_run_269 .int rfl rfl ?_
        exact ⟨_, rfl, rfl, r1, fun r hr => (r3 r hr).trans (khi r hr), rfl, rfl⟩
      · exact absurd h232 hb
    · rw [if_pos ht]
      exact bo_0 (fun h => by obtain ⟨i, h1, -⟩ := h; omega)
theorem b_X11_run (S : St_m sh P) (V : Inv (rs I))  (x b z : Int32): am_R mX11_run (mpo sh P I (ru_res (rs I) x b z) (ru_op (rs I) x b z)) 3 72 0 0 5 [some (.ref 0), some (.int x), some (.int b), some (.int z), none, none, none] [] sh I P := by
  obtain ⟨e1, b1⟩ := V.1.np
  have e1 : I 1 0 = nI (np (rs I)) := e1
  generalize hN : np (rs I) = N at e1 b1
  refine r_iload_n dX11_run_5 rfl ?_
  refine r_iconst dX11_run_6 (v := nI 0) kc_0 ?_
  refine r_sipush dX11_run_7 (v := nI 20000) (by decide) ?_
  refine r_callS3 (fr' := 0) (lo' := 0) (mc' := 0) (ms' := 0) dX11_run_10 mm_X11_in ms_X11_in l_X11_142 (by decide) ⟨by decide, by decide⟩ (Nat.zero_le _) (Nat.zero_le _) (Nat.le_of_ble_eq_true rfl) (c_X11_in _ _ _) (am_ki ?_)
  rintro v10 _ _ _ ⟨hb10, rfl, rfl, rfl⟩
  refine r_if_eq 41 dX11_run_13 (by decide) (fun h13 => ?_) (fun h13 => ?_)
  · replace h13 := hb10.f h13
    have hc : ¬ ru_c (rs I) x b z := fun h => h13 ((in_iff (by decide)).mpr (by obtain ⟨w, hw, e⟩ := h.1; exact ⟨w, by omega, e⟩))
    refine r_iconst dX11_run_41 (v := (-1)) kc_m1 ?_
    refine r_ireturn dX11_run_42 .int rfl rfl ?_
    refine ⟨_, rfl, ?_, ?_, hi_rf _, rfl, rfl⟩
    · rw [ru_res, cif_f hc]
    · rw [ru_op, cif_f hc]
  · replace h13 := hb10.t h13
    obtain ⟨M, hM, rfl⟩ := (in_iff (by decide)).mp h13
    have nM : nv (nI M) = M := nv_nI (by omega)
    refine r_iload_n dX11_run_16 rfl ?_
    refine r_if_eq 33 dX11_run_17 (by decide) (fun h17 => ?_) (fun h17 => ?_)
    · refine r_aload_n dX11_run_33 rfl ?_
      refine r_iload_n dX11_run_34 rfl ?_
      refine r_callV1 (fr' := 1) (lo' := 22) (mc' := 0) (ms' := 0) dX11_run_35 mm_X11_isProgram mv_X11_isProgram l_X11_150 (S.1 _ _ rfl) mc_X11_isProgram (by decide) ⟨by decide, by decide⟩ (Nat.zero_le _) (Nat.zero_le _) (Nat.le_of_ble_eq_true rfl) (c_X11_isProgram S _ e1 b1) (am_ki ?_)
      rintro v35 _ _ _ ⟨hb35, rfl, rfl, rfl⟩
      refine r_if_ne 43 dX11_run_38 (by decide) (fun h38 => ?_) (fun h38 => ?_)
      · replace h38 := hb35.t h38
        obtain ⟨j, hj, rfl⟩ := h38
        have nj2 : nv (nI j) = j := nv_nI (by omega)
        have hc : ru_c (rs I) (nI j) b (nI M) := ⟨inR_nI (by omega), fun e => absurd h17 e, fun _ => by rw [hN]; exact inR_nI hj⟩
        have er : ru_res (rs I) (nI j) b (nI M) = nI (rnU (rs I) j M).1 := by rw [ru_res, cif_t hc, if_pos h17, nM, nj2]
        have eo : ru_op (rs I) (nI j) b (nI M) = va_up (ruW (rs I) (rnU (rs I) j M).1 (rnU (rs I) j M).2) 5 (ru5 (rs I) j (sz (rs I) j) (rnU (rs I) j M).2.2.2.2.2) := by rw [ru_op, cif_t hc, if_pos h17, nM, nj2]
        rw [er, eo]
        first | exact l_X11_runGU S V h17 (by omega) hM | exact l_X11_runGP S V h17 h27 hM
      · replace h38 := hb35.f h38
        have hc : ¬ ru_c (rs I) x b (nI M) := fun h => h38 (by rw [← hN]; exact h.2.2 h17)
        refine r_iconst dX11_run_41 (v := (-1)) kc_m1 ?_
        refine r_ireturn dX11_run_42 .int rfl rfl ?_
        refine ⟨_, rfl, ?_, ?_, hi_rf _, rfl, rfl⟩
        · rw [ru_res, cif_f hc]
        · rw [ru_op, cif_f hc]
    · refine r_aload_n dX11_run_20 rfl ?_
      refine r_getP dX11_run_21 g_X11_40 (S.1 _ _ rfl) rfl (S.2 _ _ _ rfl) ?_
      refine r_iconst dX11_run_24 (v := nI 0) kc_0 ?_
      refine r_iaload _ dX11_run_25 (S.1 _ _ rfl) rfl (by first | decide | omega) (by decide) ?_
      refine r_iconst dX11_run_26 (v := (-1)) kc_m1 ?_
      refine r_icmp_ne 43 dX11_run_27 (by decide) (fun h27 => ?_) (fun h27 => ?_)
      · have hc : ru_c (rs I) x b (nI M) := ⟨inR_nI (by omega), fun _ => h27, fun e => absurd e h17⟩
        have er : ru_res (rs I) x b (nI M) = nI (rnP (rs I) M).1 := by rw [ru_res, cif_t hc, if_neg h17, nM]
        have eo : ru_op (rs I) x b (nI M) = ruW (rs I) (rnP (rs I) M).1 (rnP (rs I) M).2 := by rw [ru_op, cif_t hc, if_neg h17, nM]
        rw [er, eo]
        first | exact l_X11_runGU S V h17 (by omega) hM | exact l_X11_runGP S V h17 h27 hM
      · have hc : ¬ ru_c (rs I) x b (nI M) := fun h => h.2.1 h17 h27
        refine r_goto 41 dX11_run_30 (by decide) ?_
        refine r_iconst dX11_run_41 (v := (-1)) kc_m1 ?_
        refine r_ireturn dX11_run_42 .int rfl rfl ?_
        refine ⟨_, rfl, ?_, ?_, hi_rf _, rfl, rfl⟩
        · rw [ru_res, cif_f hc]
        · rw [ru_op, cif_f hc]
theorem c_X11_run (S : St_m sh P) (V : Inv (rs I))  (x b z : Int32): am_R mX11_run (mpo sh P I (ru_res (rs I) x b z) (ru_op (rs I) x b z)) 3 72 0 0 0 [some (.ref 0), some (.int x), some (.int b), some (.int z), none, none, none] [] sh I P := by
  refine r_aload_n dX11_run_0 rfl ?_
  refine r_iconst dX11_run_1 (v := nI 0) kc_0 ?_
  refine r_putI dX11_run_2 f_X11_134 (S.1 _ _ rfl) rfl rfl rfl ?_
  have e : rs (va_up I 0 (upd (I 0) 0 (nI 0))) = rs I := rs_no rfl
  have h := b_X11_run (I := va_up I 0 (upd (I 0) 0 (nI 0))) S (by rw [e]; exact V) x b z
  rw [e] at h
  exact mpo_z h
end M16
