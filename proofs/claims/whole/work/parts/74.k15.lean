/-! the class: run, whole -/
def rcB (c : RC) : Prop := c.1 ≤ 40 ∧ c.2.2.2.1.1 ≤ 24 ∧ c.2.2.2.1.2.1 ≤ 40 ∧ c.2.2.1 ≤ c.2.1 + 1 ∧ ∀ t, ∃ f, c.2.2.2.2 t = nI f ∧ f ≤ c.2.1
theorem rn_b {n : Nat} {kd : Nat → Nat} {ag : Nat → Int32} {bg : Nat → Prop} (hn : n ≤ 40) (hk : ∀ t, t < n → kd t < 16 ∧ aOk (kd t) (ag t)) : ∀ (m : Nat) (c : RC), rcB c → c.2.2.1 ≤ c.2.1 → (rn n kd ag bg m c).1 ≤ 3 ∧ rcB (rn n kd ag bg m c).2 ∧ (rn n kd ag bg m c).2.2.1 ≤ c.2.1 + m
  | 0, c, h, _ => ⟨by show (if n ≤ c.1 then 0 else 3) ≤ 3; split <;> omega, h, Nat.le_refl _⟩
  | m + 1, c, h, hb => by
    obtain ⟨h1, h2, h3, h4, h5⟩ := id h
    by_cases hle : n ≤ c.1
    · rw [rn_1 hle]
      exact ⟨Nat.zero_le _, h, Nat.le_add_right _ _⟩
    · obtain ⟨b1, eb, hb1⟩ : ∃ b1, b1 = cif (bg c.1) 1 0 ∧ b1 ≤ 1 := by
        by_cases g : bg c.1
        · exact ⟨1, by rw [cif_t g], Nat.le_refl _⟩
        · exact ⟨0, by rw [cif_f g], Nat.zero_le _⟩
      have est : rn n kd ag bg (m + 1) c = if n ≤ c.1 then (0, c) else cif (c.2.2.2.1.1 < wants (kd c.1)) (1, (c.1, c.2.1, c.2.2.1 + b1, c.2.2.2.1, c.2.2.2.2)) (cif (high (kd c.1) c.2.2.2.1) (2, (c.1, c.2.1, c.2.2.1 + b1, c.2.2.2.1, c.2.2.2.2)) (if kd c.1 = 13 then (0, (c.1, c.2.1 + 1, c.2.2.1 + b1, c.2.2.2.1, upd c.2.2.2.2 c.1 (c.2.2.2.2 c.1 + nI 1))) else rn n kd ag bg m ((dos (kd c.1) (ag c.1) c.1 c.2.2.2.1).1, c.2.1 + 1, c.2.2.1 + b1, (dos (kd c.1) (ag c.1) c.1 c.2.2.2.1).2, upd c.2.2.2.2 c.1 (c.2.2.2.2 c.1 + nI 1)))) := by rw [eb]; rfl
      have h6 : ∀ t, ∃ f, upd c.2.2.2.2 c.1 (c.2.2.2.2 c.1 + nI 1) t = nI f ∧ f ≤ c.2.1 + 1 := fun t => by
        by_cases e : t = c.1
        · obtain ⟨f, g1, g2⟩ := h5 c.1
          exact ⟨f + 1, by rw [e, pk_us, g1, nI_add], by omega⟩
        · obtain ⟨f, g1, g2⟩ := h5 t
          exact ⟨f, by rw [pk_un e]; exact g1, by omega⟩
      rw [est, if_neg hle]
      by_cases a1 : c.2.2.2.1.1 < wants (kd c.1)
      · rw [cif_t a1]
        exact ⟨(by decide : (1 : Nat) ≤ 3), ⟨h1, h2, h3, (show c.2.2.1 + b1 ≤ c.2.1 + 1 by omega), h5⟩, (show c.2.1 ≤ c.2.1 + (m + 1) by omega)⟩
      · rw [cif_f a1]
        by_cases a2 : high (kd c.1) c.2.2.2.1
        · rw [cif_t a2]
          exact ⟨(by decide : (2 : Nat) ≤ 3), ⟨h1, h2, h3, (show c.2.2.1 + b1 ≤ c.2.1 + 1 by omega), h5⟩, (show c.2.1 ≤ c.2.1 + (m + 1) by omega)⟩
        · rw [cif_f a2]
          by_cases a3 : kd c.1 = 13
          · rw [if_pos a3]
            exact ⟨Nat.zero_le _, ⟨h1, h2, h3, (show c.2.2.1 + b1 ≤ c.2.1 + 1 + 1 by omega), h6⟩, (show c.2.1 + 1 ≤ c.2.1 + (m + 1) by omega)⟩
          · rw [if_neg a3]
            obtain ⟨d1, d2, d3⟩ := dos_b (t := c.1) (hk c.1 (by omega)).1 (by omega) (hk c.1 (by omega)).2 (Nat.not_lt.mp a1) a2 h2 h3
            obtain ⟨r1, r2, r3⟩ := rn_b (bg := bg) hn hk m ((dos (kd c.1) (ag c.1) c.1 c.2.2.2.1).1, c.2.1 + 1, c.2.2.1 + b1, (dos (kd c.1) (ag c.1) c.1 c.2.2.2.1).2, upd c.2.2.2.2 c.1 (c.2.2.2.2 c.1 + nI 1)) ⟨d1, d2, d3, (show c.2.2.1 + b1 ≤ c.2.1 + 1 + 1 by omega), h6⟩ (show c.2.2.1 + b1 ≤ c.2.1 + 1 by omega)
            exact ⟨r1, r2, Nat.le_trans r3 (show c.2.1 + 1 + m ≤ c.2.1 + (m + 1) by omega)⟩
theorem rcB_0 (s : MS) (h : s.1 = 0 ∧ s.2.1 = 0) : rcB (0, 0, 0, s, fun _ => nI 0) := ⟨Nat.zero_le _, (show s.1 ≤ 24 by omega), (show s.2.1 ≤ 40 by omega), Nat.zero_le _, fun _ => ⟨0, rfl, Nat.le_refl _⟩⟩
section K15
variable {sh : ASh} {I σ : AIn} {P : APt}
theorem ms0_0 (σ : AIn) : (ms0 σ).1 = 0 ∧ (ms0 σ).2.1 = 0 ∧ ∀ k, k < 8 → (ms0 σ).2.2.2.2 k = nI 0 := ⟨rfl, rfl, fun k hk => if_pos hk⟩
theorem pgK_U (V : Inv σ) (R : RepS I 100 σ) {p : Nat} (hp : p < np σ) : pgK I (102 + 5 * p) (sz σ p) (fun t => nv (σ 3 (40 * p + t))) (fun t => σ 4 (40 * p + t)) := by
  have b1 := V.1.np.2
  refine ⟨⟨(R.1.2 p hp).1, (V.1.sz (by omega)).2⟩, fun t ht => ?_⟩
  obtain ⟨a, b⟩ := V.1.2.2.1 p t (by omega) ht
  obtain ⟨c, d, -⟩ := (R.1.2 p hp).2.1 t ht
  exact ⟨⟨c.trans a.1, Nat.lt_succ_of_le a.2⟩, d, b⟩
theorem pgK_P (V : Inv σ) (R : RepS I 100 σ) (h : σ 11 0 ≠ -1) : pgK I 120 (nv (σ 8 0)) (fun t => nv (σ 9 t)) (fun t => σ 10 t) := by
  rcases V.2.2.1 with g | ⟨-, g2, -, g4, -⟩
  · exact absurd g h
  · obtain ⟨⟨-, -, r1⟩, r2, -⟩ := R.2.2.1.2 h
    refine ⟨⟨r1.trans g2.1, g2.2⟩, fun t ht => ?_⟩
    obtain ⟨a, b⟩ := g4 t ht
    obtain ⟨c, d⟩ := r2 t ht
    exact ⟨⟨c.trans a.1, Nat.lt_succ_of_le a.2⟩, d, b⟩
theorem rpK_fr2 {I' : AIn} (h : rpK I 100 σ) (hF : ∀ r, 119 ≤ r → r ≤ 129 → r ≠ 123 → I' r = I r) : rpK I' 100 σ := by
  unfold rpK at h ⊢
  rw [hF (100 + 19) (by omega) (by omega) (by omega), hF (100 + 20) (by omega) (by omega) (by omega), hF (100 + 21) (by omega) (by omega) (by omega), hF (100 + 22) (by omega) (by omega) (by omega), hF (100 + 25) (by omega) (by omega) (by omega), hF (100 + 26) (by omega) (by omega) (by omega), hF (100 + 27) (by omega) (by omega) (by omega), hF (100 + 28) (by omega) (by omega) (by omega), hF (100 + 29) (by omega) (by omega) (by omega)]
  exact h
theorem ru_rpR {H : AIn} {q e : Nat} {c : RC} (he : e ≤ 3) (hB : rcB c) (h : rrR I q c H) : rpR H 100 (ruW σ e c) := by
  obtain ⟨f0, ⟨f1, f2, f3, f4⟩, f5, f6⟩ := h
  have e15 : ruW σ e c 15 0 = nI e := rfl
  have e19 : ruW σ e c 19 0 = nI c.2.2.2.1.1 := rfl
  have e21 : ruW σ e c 21 0 = nI c.2.2.2.1.2.1 := rfl
  have hne : nI e ≠ -1 := fun g => nI_pos (n := e) (by omega) (by rw [g]; decide)
  unfold rpR
  rw [e15, e19, e21, nv_nI (show c.2.2.2.1.1 < 2147483648 by have := hB.2.1; omega), nv_nI (show c.2.2.2.1.2.1 < 2147483648 by have := hB.2.2.1; omega)]
  refine ⟨?_, fun g => absurd g hne, fun _ => ⟨⟨f2, f3, f4, f5.1.1, f5.1.2⟩, f5.2.1, f5.2.2.1, f5.2.2.2⟩⟩
  show bo (H 130 0) _
  rw [f1]
  exact bo_1 hne
theorem ru_finU {H : AIn} {p e : Nat} {c : RC} (V : Inv σ) (R : RepS I 100 σ) (hp : p < np σ) (he : e ≤ 3) (hB : rcB c) (h : rrR I (102 + 5 * p) c H) : RepS H 100 (va_up (ruW σ e c) 5 (ru5 σ p (sz σ p) c.2.2.2.2)) ∧ cF H I := by
  have b1 := V.1.np.2
  have hR := ru_rpR (σ := σ) he hB h
  obtain ⟨f0, -, -, f6⟩ := h
  have hn4 : sz σ p ≤ 40 := (V.1.sz (by omega)).2
  have hG : ∀ r, r < 102 ∨ 116 < r → r < 130 ∨ 133 < r → H r = I r := fun r a b => f0 r (by omega) (by omega) (by omega) (by omega) (by omega)
  refine ⟨⟨?_, rpJ_σ (rpJ_fr R.2.1 (fun r h1 h2 => hG r (by omega) (by omega))) rfl rfl, rpK_σ (rpK_fr R.2.2.1 (fun r h1 h2 => hG r (by omega) (by omega))) rfl rfl rfl rfl rfl rfl rfl, rpR_σ hR rfl rfl rfl rfl rfl rfl rfl rfl rfl, rpW_σ (rpW_fr R.2.2.2.2.1 (by rw [hG 100 (by omega) (by omega)]) (fun r h1 h2 => hG r (by omega) (by omega))) rfl rfl, rpT_σ (rpT_fr R.2.2.2.2.2 (congrFun (hG 136 (by omega) (by omega)) 0) (hG 137 (by omega) (by omega))) rfl rfl⟩, fun r hr => hG r (by omega) (by omega)⟩
  refine rpP_set (p := p) R.1 V.1 b1 ?_ (fun r h1 h2 h3 => f0 r (by omega) (by omega) (by omega) (by omega) (by omega)) (fun p' h1 h2 => ?_) (fun _ => ?_)
  · rw [hG 100 (by omega) (by omega)]; exact R.1.1
  · refine ⟨h1, rfl, fun k hk => ⟨rfl, rfl, ?_⟩⟩
    show _ = if 40 * p ≤ 40 * p' + k ∧ 40 * p' + k < 40 * p + sz σ p then _ else σ 5 (40 * p' + k)
    rw [if_neg (by omega)]
  · have hP := R.1.2 p hp
    refine ⟨?_, fun k hk => ?_, fun t ht => ?_⟩
    · rw [f0 _ (by omega) (by omega) (by omega) (by omega) (by omega)]; exact hP.1
    · have hk : k < sz σ p := hk
      obtain ⟨a, b, -⟩ := hP.2.1 k hk
      rw [f0 (100 + 2 + 5 * p + 1) (by omega) (by omega) (by omega) (by omega) (by omega), f0 (100 + 2 + 5 * p + 2) (by omega) (by omega) (by omega) (by omega) (by omega)]
      refine ⟨a, b, ?_⟩
      have e5 := f6 k (by omega)
      show H (102 + 5 * p + 3) k = if 40 * p ≤ 40 * p + k ∧ 40 * p + k < 40 * p + sz σ p then c.2.2.2.2 (40 * p + k - 40 * p) else _
      rw [if_pos (by omega), Nat.add_sub_cancel_left]
      exact e5
    · rw [f0 (100 + 2 + 5 * p + 4) (by omega) (by omega) (by omega) (by omega) (by omega)]; exact hP.2.2 t ht
theorem ru_finP {H : AIn} {e : Nat} {c : RC} (V : Inv σ) (R : RepS I 100 σ) (he : e ≤ 3) (hB : rcB c) (h : rrR I 120 c H) : RepS H 100 (ruW σ e c) ∧ cF H I := by
  have b1 := V.1.np.2
  have hR := ru_rpR (σ := σ) he hB h
  obtain ⟨f0, -, -, f6⟩ := h
  have hG : ∀ r, r ≠ 123 → r < 130 ∨ 133 < r → H r = I r := fun r a b => f0 r (by omega) (by omega) (by omega) (by omega) (by omega)
  exact ⟨⟨rpP_σ (rpP_fr R.1 (by rw [hG 100 (by omega) (by omega)]) (fun r h1 h2 => hG r (by omega) (by omega)) b1) rfl rfl rfl rfl rfl, rpJ_σ (rpJ_fr R.2.1 (fun r h1 h2 => hG r (by omega) (by omega))) rfl rfl, rpK_σ (rpK_fr2 R.2.2.1 (fun r h1 h2 h3 => hG r h3 (by omega))) rfl rfl rfl rfl rfl rfl rfl, rpR_σ hR rfl rfl rfl rfl rfl rfl rfl rfl rfl, rpW_σ (rpW_fr R.2.2.2.2.1 (by rw [hG 100 (by omega) (by omega)]) (fun r h1 h2 => hG r (by omega) (by omega))) rfl rfl, rpT_σ (rpT_fr R.2.2.2.2.2 (congrFun (hG 136 (by omega) (by omega)) 0) (hG 137 (by omega) (by omega))) rfl rfl⟩, fun r hr => hG r (by omega) (by omega)⟩
theorem c_X10_run (S : St_c sh P) (V : Inv σ) (R : RepS I 100 σ) (x y z : Int32) : am_R mX10_run (cpo sh P I (ru_op σ x y z) (ru_res σ x y z)) 5 114 0 0 0 [some (.ref 60), some (.int x), some (.int y), some (.int z)] [] sh I P := by
  have b1 : np σ ≤ 3 := V.1.np.2
  have e1 : I 100 0 = nI (np σ) := R.1.1
  refine r_iload_n dX10_run_0 rfl ?_
  refine r_if_lt 11 dX10_run_1 (by decide) (fun h1 => ?_) (fun h1 => ?_)
  · have hf : ¬ ru_c σ x y z := fun h => inR_n0 (by decide) h1 h.1
    refine r_iconst dX10_run_11 (v := (-1)) kc_m1 ?_
    refine r_ireturn dX10_run_12 .int rfl rfl ?_
    exact ⟨_, rfl, by rw [ru_res, cif_f hf], by rw [ru_op, cif_f hf]; exact R, cF_rf _, rfl, rfl⟩
  · refine r_iload_n dX10_run_4 rfl ?_
    refine r_sipush dX10_run_5 (v := nI 20000) (by decide) ?_
    refine r_icmp_le 13 dX10_run_8 (by decide) (fun h8 => ?_) (fun h8 => ?_)
    · obtain ⟨most, hmost, rfl⟩ := nI_of h1
      have hm : most ≤ 20000 := (nI_leI hmost (by decide)).mp h8
      have enm : nv (nI most) = most := nv_nI hmost
      refine r_iload_n dX10_run_13 rfl ?_
      refine r_if_eq 63 dX10_run_14 (by decide) (fun h14 => ?_) (fun h14 => ?_)
      · refine r_aload_n dX10_run_63 rfl ?_
        refine r_getP dX10_run_64 g_X10_10 (by first | assumption | exact S.1 _ _ rfl) rfl (by first | assumption | exact S.2 _ _ _ rfl) ?_
        refine r_iload_n dX10_run_67 rfl ?_
        refine r_callV1 (fr' := 0) (lo' := 0) (mc' := 0) (ms' := 0) dX10_run_68 mm_X7_hasProgram mv_X7_hasProgram l_X10_47 (by first | assumption | exact S.1 _ _ rfl) mc_X7_hasProgram (by decide) ⟨by decide, by decide⟩ (Nat.zero_le _) (Nat.zero_le _) (Nat.le_of_ble_eq_true rfl) (c_X7_hasProgram (S.1 100 _ rfl) R.1.1 b1 _) (am_ki ?_)
        rintro v68 _ _ _ ⟨hb68, rfl, rfl, rfl⟩
        refine r_if_eq 98 dX10_run_71 (by decide) (fun h71 => ?_) (fun h71 => ?_)
        · replace h71 := hb68.f h71
          have hf : ¬ ru_c σ x y (nI most) := fun h => h71 (h.2.2 h14)
          refine r_iconst dX10_run_98 (v := (-1)) kc_m1 ?_
          refine r_ireturn dX10_run_99 .int rfl rfl ?_
          first
            | exact ⟨_, rfl, by rw [ru_res, cif_f hf], by rw [ru_op, cif_f hf]; exact R, cF_rf _, rfl, rfl⟩
            | (obtain ⟨r1, r2, -⟩ := rn_b (bg := fun _ => True) hK.1.2 (fun t ht9 => ⟨(hK.2 t ht9).1.2, (hK.2 t ht9).2.2⟩) most _ (rcB_0 (ms0 σ) ⟨rfl, rfl⟩) (Nat.le_refl _)
               obtain ⟨g1, g2⟩ := ru_finU V R hp r1 r2 hH
               exact ⟨_, rfl, by rw [ru_res, cif_t hc, if_pos h14, enm, enp]; rfl, by rw [ru_op, cif_t hc, if_pos h14, enm, enp]; exact g1, g2, rfl, rfl⟩)
        · replace h71 := hb68.t h71
          obtain ⟨p, hp, rfl⟩ := h71
          obtain ⟨pp, Q⟩ := SPg_of S (show p < 3 by omega)
          have sp := Q.1
          have enp : nv (nI p) = p := nv_nI (by omega)
          have hc : ru_c σ (nI p) y (nI most) := ⟨inR_nI (by omega), fun g => absurd h14 g, fun _ => inR_nI hp⟩
          have hK := pgK_U V R hp
          refine r_aload_n dX10_run_74 rfl ?_
          refine r_getP dX10_run_75 g_X10_10 (by first | assumption | exact S.1 _ _ rfl) rfl (by first | assumption | exact S.2 _ _ _ rfl) ?_
          refine r_getP dX10_run_78 g_X10_144 (by first | assumption | exact S.1 _ _ rfl) rfl (by first | assumption | exact S.2 _ _ _ rfl) ?_
          refine r_aload_n dX10_run_81 rfl ?_
          refine r_getP dX10_run_82 g_X10_10 (by first | assumption | exact S.1 _ _ rfl) rfl (by first | assumption | exact S.2 _ _ _ rfl) ?_
          refine r_getP dX10_run_85 g_X10_38 (by first | assumption | exact S.1 _ _ rfl) rfl (by first | assumption | exact S.2 _ _ _ rfl) ?_
          refine r_iload_n dX10_run_88 rfl ?_
          refine r_aaloadP p dX10_run_89 (by first | assumption | exact S.1 _ _ rfl) rfl (by first | decide | omega) (by decide) (by first | assumption | exact S.2 _ _ _ rfl) ?_
          refine r_null dX10_run_90 ?_
          refine r_iload_n dX10_run_91 rfl ?_
          refine r_callV3 (fr' := 4) (lo' := 89) (mc' := 0) (ms' := 0) dX10_run_92 mm_X6_follow mv_X6_follow l_X10_152 (by first | assumption | exact S.1 _ _ rfl) mc_X6_follow (by decide) ⟨by decide, by decide⟩ (Nat.zero_le _) (Nat.zero_le _) (Nat.le_of_ble_eq_true rfl) (c_X6_followU S Q (by omega) hK hm (ms0_0 σ)) (am_ki ?_)
          rintro v92 _ H _ ⟨rfl, hH, rfl, rfl⟩
          refine r_goto 99 dX10_run_95 (by decide) ?_
          refine r_ireturn dX10_run_99 .int rfl rfl ?_
          first
            | exact ⟨_, rfl, by rw [ru_res, cif_f hf], by rw [ru_op, cif_f hf]; exact R, cF_rf _, rfl, rfl⟩
            | (obtain ⟨r1, r2, -⟩ := rn_b (bg := fun _ => True) hK.1.2 (fun t ht9 => ⟨(hK.2 t ht9).1.2, (hK.2 t ht9).2.2⟩) most _ (rcB_0 (ms0 σ) ⟨rfl, rfl⟩) (Nat.le_refl _)
               obtain ⟨g1, g2⟩ := ru_finU V R hp r1 r2 hH
               exact ⟨_, rfl, by rw [ru_res, cif_t hc, if_pos h14, enm, enp]; rfl, by rw [ru_op, cif_t hc, if_pos h14, enm, enp]; exact g1, g2, rfl, rfl⟩)
      · refine r_aload_n dX10_run_17 rfl ?_
        refine r_getP dX10_run_18 g_X10_10 (by first | assumption | exact S.1 _ _ rfl) rfl (by first | assumption | exact S.2 _ _ _ rfl) ?_
        refine r_getP dX10_run_21 g_X10_107 (by first | assumption | exact S.1 _ _ rfl) rfl (by first | assumption | exact S.2 _ _ _ rfl) ?_
        refine r_getI dX10_run_24 g_X10_140 (by first | assumption | exact S.1 _ _ rfl) rfl ?_
        refine r_if_eq 61 dX10_run_27 (by decide) (fun h27 => ?_) (fun h27 => ?_)
        · have hf : ¬ ru_c σ x y (nI most) := fun h => R.2.2.1.1.f h27 (h.2.1 h14)
          refine r_iconst dX10_run_61 (v := (-1)) kc_m1 ?_
          refine r_ireturn dX10_run_62 .int rfl rfl ?_
          first
            | exact ⟨_, rfl, by rw [ru_res, cif_f hf], by rw [ru_op, cif_f hf]; exact R, cF_rf _, rfl, rfl⟩
            | (obtain ⟨r1, r2, -⟩ := rn_b (bg := fun t => ∃ k, k < nv (σ 11 0) ∧ σ 12 (3 * k + 1) = nI t) hK.1.2 (fun t ht9 => ⟨(hK.2 t ht9).1.2, (hK.2 t ht9).2.2⟩) most _ (rcB_0 (ms0 σ) ⟨rfl, rfl⟩) (Nat.le_refl _)
               obtain ⟨g1, g2⟩ := ru_finP V R r1 r2 hH
               exact ⟨_, rfl, by rw [ru_res, cif_t hc, if_neg h14, enm]; rfl, by rw [ru_op, cif_t hc, if_neg h14, enm]; exact g1, g2, rfl, rfl⟩)
        · have ht := R.2.2.1.1.t h27
          have hc : ru_c σ x y (nI most) := ⟨inR_nI (by omega), fun _ => ht, fun g => absurd g h14⟩
          have hK := pgK_P V R ht
          refine r_aload_n dX10_run_30 rfl ?_
          refine r_getP dX10_run_31 g_X10_10 (by first | assumption | exact S.1 _ _ rfl) rfl (by first | assumption | exact S.2 _ _ _ rfl) ?_
          refine r_getP dX10_run_34 g_X10_144 (by first | assumption | exact S.1 _ _ rfl) rfl (by first | assumption | exact S.2 _ _ _ rfl) ?_
          refine r_aload_n dX10_run_37 rfl ?_
          refine r_getP dX10_run_38 g_X10_10 (by first | assumption | exact S.1 _ _ rfl) rfl (by first | assumption | exact S.2 _ _ _ rfl) ?_
          refine r_getP dX10_run_41 g_X10_107 (by first | assumption | exact S.1 _ _ rfl) rfl (by first | assumption | exact S.2 _ _ _ rfl) ?_
          refine r_getP dX10_run_44 g_X10_148 (by first | assumption | exact S.1 _ _ rfl) rfl (by first | assumption | exact S.2 _ _ _ rfl) ?_
          refine r_aload_n dX10_run_47 rfl ?_
          refine r_getP dX10_run_48 g_X10_10 (by first | assumption | exact S.1 _ _ rfl) rfl (by first | assumption | exact S.2 _ _ _ rfl) ?_
          refine r_getP dX10_run_51 g_X10_107 (by first | assumption | exact S.1 _ _ rfl) rfl (by first | assumption | exact S.2 _ _ _ rfl) ?_
          refine r_iload_n dX10_run_54 rfl ?_
          refine r_callV3 (fr' := 4) (lo' := 89) (mc' := 0) (ms' := 0) dX10_run_55 mm_X6_follow mv_X6_follow l_X10_152 (by first | assumption | exact S.1 _ _ rfl) mc_X6_follow (by decide) ⟨by decide, by decide⟩ (Nat.zero_le _) (Nat.zero_le _) (Nat.le_of_ble_eq_true rfl) (c_X6_followP S (SPg_k S) (by omega) hK (bg := fun t => ∃ k, k < nv (σ 11 0) ∧ σ 12 (3 * k + 1) = nI t) (fun t ht9 => (R.2.2.1.2 ht).2.2.2.2 t ht9) hm (ms0_0 σ)) (am_ki ?_)
          rintro v55 _ H _ ⟨rfl, hH, rfl, rfl⟩
          refine r_goto 62 dX10_run_58 (by decide) ?_
          refine r_ireturn dX10_run_62 .int rfl rfl ?_
          first
            | exact ⟨_, rfl, by rw [ru_res, cif_f hf], by rw [ru_op, cif_f hf]; exact R, cF_rf _, rfl, rfl⟩
            | (obtain ⟨r1, r2, -⟩ := rn_b (bg := fun t => ∃ k, k < nv (σ 11 0) ∧ σ 12 (3 * k + 1) = nI t) hK.1.2 (fun t ht9 => ⟨(hK.2 t ht9).1.2, (hK.2 t ht9).2.2⟩) most _ (rcB_0 (ms0 σ) ⟨rfl, rfl⟩) (Nat.le_refl _)
               obtain ⟨g1, g2⟩ := ru_finP V R r1 r2 hH
               exact ⟨_, rfl, by rw [ru_res, cif_t hc, if_neg h14, enm]; rfl, by rw [ru_op, cif_t hc, if_neg h14, enm]; exact g1, g2, rfl, rfl⟩)
    · have hf : ¬ ru_c σ x y z := fun h => by
        obtain ⟨⟨j, hj, rfl⟩, -⟩ := h
        exact h8 (nI_le (by omega) (by decide))
      refine r_iconst dX10_run_11 (v := (-1)) kc_m1 ?_
      refine r_ireturn dX10_run_12 .int rfl rfl ?_
      exact ⟨_, rfl, by rw [ru_res, cif_f hf], by rw [ru_op, cif_f hf]; exact R, cF_rf _, rfl, rfl⟩
end K15
