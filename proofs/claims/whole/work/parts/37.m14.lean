/-! the reference: a run from its beginning -/
section M14
variable {sh : ASh} {I : AIn} {P : APt}
def zr (k : Nat) (g : Nat → Int32) : Nat → Int32 := fun j => if j < k then nI 0 else g j
theorem zr_step (k : Nat) (g : Nat → Int32) : upd (zr k g) k (nI 0) = zr (k + 1) g := fl0_step (fun _ => nI 0) g k
theorem zr_0 (g : Nat → Int32) : zr 0 g = g := rfl
def rnH (I : AIn) (a b : Nat) : AIn := va_up (va_up (va_up (va_up (va_up (va_up I 16 (upd (I 16) 0 (nI 0))) 17 (upd (I 17) 0 (nI 0))) 19 (upd (I 19) 0 (nI 0))) 21 (upd (I 21) 0 (nI 0))) 23 (zr a (I 23))) 34 (zr b (I 34))
theorem rnH_23 (a b : Nat) (c : Nat) : va_up (rnH I a b) 23 (zr c (I 23)) = rnH I c b := by
  unfold rnH
  rw [up_sw (i := 34) (j := 23) (by decide), bx_uu]
theorem rnH_34 (a b : Nat) (c : Nat) : va_up (rnH I a b) 34 (zr c (I 34)) = rnH I a c := by
  unfold rnH
  rw [bx_uu]
theorem l_X11_runsA (S : St_m sh P) {post : APo} {x1 x2 : Option Value} (K : ∀ x3, am_R mX11_runs post 2 46 0 0 49 [some (.ref 0), x1, x2, x3, none, none, none] [] sh (rnH I 8 0) P) : ∀ (m k : Nat), k + m = 8 → am_R mX11_runs post 2 46 0 0 30 [some (.ref 0), x1, x2, some (.int (nI k)), none, none, none] [] sh (rnH I k 0) P := by
  intro m
  induction m with
  | zero =>
    intro k hk
    have e : k = 8 := by omega
    subst e
    refine r_iload_n dX11_runs_30 rfl ?_
    refine r_bipush dX11_runs_31 (v := nI 8) (by decide) ?_
    refine r_icmp_geN 49 dX11_runs_33 (by decide) (by omega) (by omega) (fun h33 => ?_) (fun h33 => ?_)
    · exact K _
    · exact absurd h33 (by omega)
  | succ m ih =>
    intro k hk
    refine r_iload_n dX11_runs_30 rfl ?_
    refine r_bipush dX11_runs_31 (v := nI 8) (by decide) ?_
    refine r_icmp_geN 49 dX11_runs_33 (by decide) (by omega) (by omega) (fun h33 => ?_) (fun h33 => ?_)
    · exact absurd h33 (by omega)
    · refine r_aload_n dX11_runs_36 rfl ?_
      refine r_getP dX11_runs_37 g_X11_76 (S.1 _ _ rfl) rfl (S.2 _ _ _ rfl) ?_
      refine r_iload_n dX11_runs_40 rfl ?_
      refine r_iconst dX11_runs_41 (v := nI 0) kc_0 ?_
      refine r_iastore _ dX11_runs_42 (S.1 _ _ rfl) rfl (by first | decide | omega) (by decide) ?_
      rw [show rnH I k 0 23 = zr k (I 23) from rfl, zr_step, rnH_23]
      first | refine r_iincN dX11_runs_43 rfl kc_1 ?_ | refine r_iinc dX11_runs_43 rfl rfl ?_
      dsimp only [List.set]
      refine r_goto 30 dX11_runs_46 (by decide) ?_
      exact ih (k + 1) (by omega)
theorem l_X11_runsB (S : St_m sh P) {post : APo} {x1 x2 : Option Value} (K : ∀ x3, am_R mX11_runs post 2 46 0 0 70 [some (.ref 0), x1, x2, x3, none, none, none] [] sh (rnH I 8 40) P) : ∀ (m k : Nat), k + m = 40 → am_R mX11_runs post 2 46 0 0 51 [some (.ref 0), x1, x2, some (.int (nI k)), none, none, none] [] sh (rnH I 8 k) P := by
  intro m
  induction m with
  | zero =>
    intro k hk
    have e : k = 40 := by omega
    subst e
    refine r_iload_n dX11_runs_51 rfl ?_
    refine r_bipush dX11_runs_52 (v := nI 40) (by decide) ?_
    refine r_icmp_geN 70 dX11_runs_54 (by decide) (by omega) (by omega) (fun h54 => ?_) (fun h54 => ?_)
    · exact K _
    · exact absurd h54 (by omega)
  | succ m ih =>
    intro k hk
    refine r_iload_n dX11_runs_51 rfl ?_
    refine r_bipush dX11_runs_52 (v := nI 40) (by decide) ?_
    refine r_icmp_geN 70 dX11_runs_54 (by decide) (by omega) (by omega) (fun h54 => ?_) (fun h54 => ?_)
    · exact absurd h54 (by omega)
    · refine r_aload_n dX11_runs_57 rfl ?_
      refine r_getP dX11_runs_58 g_X11_107 (S.1 _ _ rfl) rfl (S.2 _ _ _ rfl) ?_
      refine r_iload_n dX11_runs_61 rfl ?_
      refine r_iconst dX11_runs_62 (v := nI 0) kc_0 ?_
      refine r_iastore _ dX11_runs_63 (S.1 _ _ rfl) rfl (by first | decide | omega) (by decide) ?_
      rw [show rnH I 8 k 34 = zr k (I 34) from rfl, zr_step, rnH_34]
      first | refine r_iincN dX11_runs_64 rfl kc_1 ?_ | refine r_iinc dX11_runs_64 rfl rfl ?_
      dsimp only [List.set]
      refine r_goto 51 dX11_runs_67 (by decide) ?_
      exact ih (k + 1) (by omega)
def ms0 (I : AIn) : MS := (0, 0, I 20, I 22, zr 8 (I 23))
theorem rnH_ms : msR (rcK I 0 0 (zr 40 (I 34)) (I 18 0)) (ms0 I) (rnH I 8 40) := by
  refine ⟨fun r a b c d e => ?_, rfl, rfl, rfl, rfl, rfl⟩
  unfold rnH rcK
  by_cases h1 : r = 34
  · subst h1; rfl
  · by_cases h2 : r = 17
    · subst h2; rfl
    · by_cases h3 : r = 16
      · subst h3; rfl
      · by_cases h4 : r = 18
        · subst h4
          funext j
          by_cases hj : j = 0
          · subst hj; rfl
          · simp [va_up, upd, hj]
        · rw [va_up_ne _ _ h1, va_up_ne _ _ e, va_up_ne _ _ c, va_up_ne _ _ a, va_up_ne _ _ h2, va_up_ne _ _ h3, va_up_ne _ _ h1, va_up_ne _ _ h2, va_up_ne _ _ h3, va_up_ne _ _ h4]
theorem c_X11_runs (S : St_m sh P) {n most : Nat} {kd : Nat → Nat} {ag : Nat → Int32} {bg : Nat → Prop} (hK : rnK I n kd ag bg) (hm : most ≤ 20000) : am_R mX11_runs (po_i (fun v sh' I' P' => v = nI (rn n kd ag bg most (0, 0, 0, ms0 I, zr 40 (I 34))).1 ∧ rnE I (rn n kd ag bg most (0, 0, 0, ms0 I, zr 40 (I 34))).1 (rn n kd ag bg most (0, 0, 0, ms0 I, zr 40 (I 34))).2 I' ∧ sh = sh' ∧ P = P')) 2 46 0 0 0 [some (.ref 0), some (.int (nI n)), some (.int (nI most)), none, none, none, none] [] sh I P := by
  refine r_aload_n dX11_runs_0 rfl ?_
  refine r_getP dX11_runs_1 g_X11_55 (S.1 _ _ rfl) rfl (S.2 _ _ _ rfl) ?_
  refine r_iconst dX11_runs_4 (v := nI 0) kc_0 ?_
  refine r_iconst dX11_runs_5 (v := nI 0) kc_0 ?_
  refine r_iastore _ dX11_runs_6 (S.1 _ _ rfl) rfl (by first | decide | omega) (by decide) ?_
  refine r_aload_n dX11_runs_7 rfl ?_
  refine r_getP dX11_runs_8 g_X11_58 (S.1 _ _ rfl) rfl (S.2 _ _ _ rfl) ?_
  refine r_iconst dX11_runs_11 (v := nI 0) kc_0 ?_
  refine r_iconst dX11_runs_12 (v := nI 0) kc_0 ?_
  refine r_iastore _ dX11_runs_13 (S.1 _ _ rfl) rfl (by first | decide | omega) (by decide) ?_
  try simp (decide := true) only [va_up_ne, va_up_self]
  refine r_aload_n dX11_runs_14 rfl ?_
  refine r_getP dX11_runs_15 g_X11_64 (S.1 _ _ rfl) rfl (S.2 _ _ _ rfl) ?_
  refine r_iconst dX11_runs_18 (v := nI 0) kc_0 ?_
  refine r_iconst dX11_runs_19 (v := nI 0) kc_0 ?_
  refine r_iastore _ dX11_runs_20 (S.1 _ _ rfl) rfl (by first | decide | omega) (by decide) ?_
  try simp (decide := true) only [va_up_ne, va_up_self]
  refine r_aload_n dX11_runs_21 rfl ?_
  refine r_getP dX11_runs_22 g_X11_70 (S.1 _ _ rfl) rfl (S.2 _ _ _ rfl) ?_
  refine r_iconst dX11_runs_25 (v := nI 0) kc_0 ?_
  refine r_iconst dX11_runs_26 (v := nI 0) kc_0 ?_
  refine r_iastore _ dX11_runs_27 (S.1 _ _ rfl) rfl (by first | decide | omega) (by decide) ?_
  try simp (decide := true) only [va_up_ne, va_up_self]
  refine r_iconst dX11_runs_28 (v := nI 0) kc_0 ?_
  refine r_istore_n dX11_runs_29 (Nat.le_of_ble_eq_true rfl) ?_
  dsimp only [List.set]
  have e : va_up (va_up (va_up (va_up I 16 (upd (I 16) 0 (nI 0))) 17 (upd (I 17) 0 (nI 0))) 19 (upd (I 19) 0 (nI 0))) 21 (upd (I 21) 0 (nI 0)) = rnH I 0 0 := by
    funext r
    unfold rnH
    by_cases h1 : r = 34
    · subst h1; rfl
    · by_cases h2 : r = 23
      · subst h2; rfl
      · rw [va_up_ne _ _ h1, va_up_ne _ _ h2]
  rw [e]
  refine l_X11_runsA S (fun x3 => ?_) 8 0 rfl
  refine r_iconst dX11_runs_49 (v := nI 0) kc_0 ?_
  refine r_istore_n dX11_runs_50 (Nat.le_of_ble_eq_true rfl) ?_
  dsimp only [List.set]
  refine l_X11_runsB S (fun x4 => ?_) 40 0 rfl
  refine r_iconst dX11_runs_70 (v := nI 0) kc_0 ?_
  refine r_istore_n dX11_runs_71 (Nat.le_of_ble_eq_true rfl) ?_
  dsimp only [List.set]
  refine r_bipush dX11_runs_72 (v := nI 99) (by decide) ?_
  refine r_istore dX11_runs_74 (Nat.le_of_ble_eq_true rfl) ?_
  dsimp only [List.set]
  exact l_X11_runs S hK hm most 0 0 0 _ _ _ _ _ _ (Nat.zero_add _) (by decide) (Nat.zero_le _) (Nat.zero_le _) rnH_ms
/-- only the counts of the forty places matter -/
theorem rn_tm {n : Nat} {kd : Nat → Nat} {ag : Nat → Int32} {bg : Nat → Prop} (hn : n ≤ 40) : ∀ (m : Nat) (t d c : Nat) (s : MS) (tm tm' : Nat → Int32), (∀ j, j < 40 → tm j = tm' j) → (rn n kd ag bg m (t, d, c, s, tm)).1 = (rn n kd ag bg m (t, d, c, s, tm')).1 ∧ (rn n kd ag bg m (t, d, c, s, tm)).2.1 = (rn n kd ag bg m (t, d, c, s, tm')).2.1 ∧ (rn n kd ag bg m (t, d, c, s, tm)).2.2.1 = (rn n kd ag bg m (t, d, c, s, tm')).2.2.1 ∧ (rn n kd ag bg m (t, d, c, s, tm)).2.2.2.1 = (rn n kd ag bg m (t, d, c, s, tm')).2.2.2.1 ∧ (rn n kd ag bg m (t, d, c, s, tm)).2.2.2.2.1 = (rn n kd ag bg m (t, d, c, s, tm')).2.2.2.2.1 ∧ ∀ j, j < 40 → (rn n kd ag bg m (t, d, c, s, tm)).2.2.2.2.2 j = (rn n kd ag bg m (t, d, c, s, tm')).2.2.2.2.2 j
  | 0, t, d, c, s, tm, tm', h => ⟨rfl, rfl, rfl, rfl, rfl, h⟩
  | m + 1, t, d, c, s, tm, tm', h => by
    have hu : ∀ j, j < 40 → upd tm t (tm t + nI 1) j = upd tm' t (tm' t + nI 1) j := fun j hj => by
      by_cases e : j = t
      · subst e
        rw [pk_us, pk_us, h j hj]
      · rw [pk_un e, pk_un e]
        exact h j hj
    have ih := rn_tm (kd := kd) (ag := ag) (bg := bg) hn m (dos (kd t) (ag t) t s).1 (d + 1) (c + cif (bg t) 1 0) (dos (kd t) (ag t) t s).2 _ _ hu
    unfold rn
    dsimp only
    by_cases h1 : n ≤ t
    · rw [if_pos h1, if_pos h1]
      exact ⟨rfl, rfl, rfl, rfl, rfl, h⟩
    · rw [if_neg h1, if_neg h1]
      by_cases h2 : s.1 < wants (kd t)
      · rw [cif_t h2, cif_t h2]
        exact ⟨rfl, rfl, rfl, rfl, rfl, h⟩
      · rw [cif_f h2, cif_f h2]
        by_cases h3 : high (kd t) s
        · rw [cif_t h3, cif_t h3]
          exact ⟨rfl, rfl, rfl, rfl, rfl, h⟩
        · rw [cif_f h3, cif_f h3]
          by_cases h4 : kd t = 13
          · rw [if_pos h4, if_pos h4]
            exact ⟨rfl, rfl, rfl, rfl, rfl, hu⟩
          · rw [if_neg h4, if_neg h4]
            exact ih
end M14
