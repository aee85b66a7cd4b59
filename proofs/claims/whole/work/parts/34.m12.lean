/-! the reference: one order done -/
section M12
variable {sh : ASh} {I : AIn} {P : APt}
theorem c_X11_wants {k : Nat} (hk : k < 16) : am_R mX11_wants (po_i (fun v sh' I' P' => v = nI (wants k) ∧ sh = sh' ∧ I = I' ∧ P = P')) 0 0 0 0 0 [some (.int (nI k))] [] sh I P := by
  refine r_iload_n dX11_wants_0 rfl ?_
  rcases (show k = 0 ∨ k = 1 ∨ k = 2 ∨ k = 3 ∨ k = 4 ∨ k = 5 ∨ k = 6 ∨ k = 7 ∨ k = 8 ∨ k = 9 ∨ k = 10 ∨ k = 11 ∨ k = 12 ∨ k = 13 ∨ k = 14 ∨ k = 15 by omega) with rfl | rfl | rfl | rfl | rfl | rfl | rfl | rfl | rfl | rfl | rfl | rfl | rfl | rfl | rfl | rfl
  · refine r_tabOut 68 dX11_wants_1 (by decide) (by decide) ?_
    refine r_iconst dX11_wants_68 (v := nI 0) kc_0 ?_
    refine r_ireturn dX11_wants_69 .int rfl rfl ?_
    exact ⟨_, rfl, rfl, rfl, rfl, rfl⟩
  · refine r_tabIn (off := 63) 64 dX11_wants_1 (by decide) (by decide) (by decide) (by decide) ?_
    refine r_iconst dX11_wants_64 (v := nI 2) kc_2 ?_
    refine r_ireturn dX11_wants_65 .int rfl rfl ?_
    exact ⟨_, rfl, rfl, rfl, rfl, rfl⟩
  · refine r_tabIn (off := 63) 64 dX11_wants_1 (by decide) (by decide) (by decide) (by decide) ?_
    refine r_iconst dX11_wants_64 (v := nI 2) kc_2 ?_
    refine r_ireturn dX11_wants_65 .int rfl rfl ?_
    exact ⟨_, rfl, rfl, rfl, rfl, rfl⟩
  · refine r_tabIn (off := 63) 64 dX11_wants_1 (by decide) (by decide) (by decide) (by decide) ?_
    refine r_iconst dX11_wants_64 (v := nI 2) kc_2 ?_
    refine r_ireturn dX11_wants_65 .int rfl rfl ?_
    exact ⟨_, rfl, rfl, rfl, rfl, rfl⟩
  · refine r_tabIn (off := 65) 66 dX11_wants_1 (by decide) (by decide) (by decide) (by decide) ?_
    refine r_iconst dX11_wants_66 (v := nI 1) kc_1 ?_
    refine r_ireturn dX11_wants_67 .int rfl rfl ?_
    exact ⟨_, rfl, rfl, rfl, rfl, rfl⟩
  · refine r_tabIn (off := 63) 64 dX11_wants_1 (by decide) (by decide) (by decide) (by decide) ?_
    refine r_iconst dX11_wants_64 (v := nI 2) kc_2 ?_
    refine r_ireturn dX11_wants_65 .int rfl rfl ?_
    exact ⟨_, rfl, rfl, rfl, rfl, rfl⟩
  · refine r_tabIn (off := 65) 66 dX11_wants_1 (by decide) (by decide) (by decide) (by decide) ?_
    refine r_iconst dX11_wants_66 (v := nI 1) kc_1 ?_
    refine r_ireturn dX11_wants_67 .int rfl rfl ?_
    exact ⟨_, rfl, rfl, rfl, rfl, rfl⟩
  · refine r_tabIn (off := 67) 68 dX11_wants_1 (by decide) (by decide) (by decide) (by decide) ?_
    refine r_iconst dX11_wants_68 (v := nI 0) kc_0 ?_
    refine r_ireturn dX11_wants_69 .int rfl rfl ?_
    exact ⟨_, rfl, rfl, rfl, rfl, rfl⟩
  · refine r_tabIn (off := 65) 66 dX11_wants_1 (by decide) (by decide) (by decide) (by decide) ?_
    refine r_iconst dX11_wants_66 (v := nI 1) kc_1 ?_
    refine r_ireturn dX11_wants_67 .int rfl rfl ?_
    exact ⟨_, rfl, rfl, rfl, rfl, rfl⟩
  · refine r_tabIn (off := 67) 68 dX11_wants_1 (by decide) (by decide) (by decide) (by decide) ?_
    refine r_iconst dX11_wants_68 (v := nI 0) kc_0 ?_
    refine r_ireturn dX11_wants_69 .int rfl rfl ?_
    exact ⟨_, rfl, rfl, rfl, rfl, rfl⟩
  · refine r_tabIn (off := 65) 66 dX11_wants_1 (by decide) (by decide) (by decide) (by decide) ?_
    refine r_iconst dX11_wants_66 (v := nI 1) kc_1 ?_
    refine r_ireturn dX11_wants_67 .int rfl rfl ?_
    exact ⟨_, rfl, rfl, rfl, rfl, rfl⟩
  · refine r_tabIn (off := 63) 64 dX11_wants_1 (by decide) (by decide) (by decide) (by decide) ?_
    refine r_iconst dX11_wants_64 (v := nI 2) kc_2 ?_
    refine r_ireturn dX11_wants_65 .int rfl rfl ?_
    exact ⟨_, rfl, rfl, rfl, rfl, rfl⟩
  · refine r_tabIn (off := 65) 66 dX11_wants_1 (by decide) (by decide) (by decide) (by decide) ?_
    refine r_iconst dX11_wants_66 (v := nI 1) kc_1 ?_
    refine r_ireturn dX11_wants_67 .int rfl rfl ?_
    exact ⟨_, rfl, rfl, rfl, rfl, rfl⟩
  · refine r_tabOut 68 dX11_wants_1 (by decide) (by decide) ?_
    refine r_iconst dX11_wants_68 (v := nI 0) kc_0 ?_
    refine r_ireturn dX11_wants_69 .int rfl rfl ?_
    exact ⟨_, rfl, rfl, rfl, rfl, rfl⟩
  · refine r_tabOut 68 dX11_wants_1 (by decide) (by decide) ?_
    refine r_iconst dX11_wants_68 (v := nI 0) kc_0 ?_
    refine r_ireturn dX11_wants_69 .int rfl rfl ?_
    exact ⟨_, rfl, rfl, rfl, rfl, rfl⟩
  · refine r_tabOut 68 dX11_wants_1 (by decide) (by decide) ?_
    refine r_iconst dX11_wants_68 (v := nI 0) kc_0 ?_
    refine r_ireturn dX11_wants_69 .int rfl rfl ?_
    exact ⟨_, rfl, rfl, rfl, rfl, rfl⟩
theorem c_X11_push (S : St_m sh P) {K : AIn} {s : MS} (h : msR K s I) (hb : s.1 < 96) (x : Int32) : am_R mX11_push (po_v (fun sh' I' P' => msR K (psh s x) I' ∧ sh = sh' ∧ P = P')) 0 0 0 0 0 [some (.ref 0), some (.int x)] [] sh I P := by
  have e := h.e19
  refine r_aload_n dX11_push_0 rfl ?_
  refine r_getP dX11_push_1 g_X11_67 (S.1 _ _ rfl) rfl (S.2 _ _ _ rfl) ?_
  refine r_aload_n dX11_push_4 rfl ?_
  refine r_getP dX11_push_5 g_X11_64 (S.1 _ _ rfl) rfl (S.2 _ _ _ rfl) ?_
  refine r_iconst dX11_push_8 (v := nI 0) kc_0 ?_
  refine r_iaload _ dX11_push_9 (S.1 _ _ rfl) rfl (by first | decide | omega) (by decide) ?_
  rw [e]
  refine r_iload_n dX11_push_10 rfl ?_
  refine r_iastore _ dX11_push_11 (S.1 _ _ rfl) rfl (by first | decide | omega) (by decide) ?_
  refine r_aload_n dX11_push_12 rfl ?_
  refine r_getP dX11_push_13 g_X11_64 (S.1 _ _ rfl) rfl (S.2 _ _ _ rfl) ?_
  refine r_iconst dX11_push_16 (v := nI 0) kc_0 ?_
  refine r_dup2 dX11_push_17 ?_
  refine r_iaload _ dX11_push_18 (S.1 _ _ rfl) rfl (by first | decide | omega) (by decide) ?_
  simp (decide := true) only [va_up_ne, va_up_self]
  rw [e]
  refine r_iconst dX11_push_19 (v := nI 1) kc_1 ?_
  first | refine r_iaddN dX11_push_20 ?_ | refine r_iadd dX11_push_20 ?_
  refine r_iastore _ dX11_push_21 (S.1 _ _ rfl) rfl (by first | decide | omega) (by decide) ?_
  refine r_return dX11_push_22 rfl ?_
  refine ⟨rfl, ?_, rfl, rfl⟩
  have h9 := h.psh x
  simp (decide := true) only [va_up_ne]
  exact h9
theorem c_X11_pop (S : St_m sh P) {K : AIn} {s : MS} (h : msR K s I) (hb : 1 ≤ s.1) (hb2 : s.1 ≤ 96) : am_R mX11_pop (po_i (fun v sh' I' P' => v = mtop s ∧ msR K (ppd s) I' ∧ sh = sh' ∧ P = P')) 0 0 0 0 0 [some (.ref 0)] [] sh I P := by
  have e := h.e19
  have e20 := h.2.2.1
  refine r_aload_n dX11_pop_0 rfl ?_
  refine r_getP dX11_pop_1 g_X11_64 (S.1 _ _ rfl) rfl (S.2 _ _ _ rfl) ?_
  refine r_iconst dX11_pop_4 (v := nI 0) kc_0 ?_
  refine r_dup2 dX11_pop_5 ?_
  refine r_iaload _ dX11_pop_6 (S.1 _ _ rfl) rfl (by first | decide | omega) (by decide) ?_
  rw [e]
  refine r_iconst dX11_pop_7 (v := nI 1) kc_1 ?_
  first | refine r_isubN dX11_pop_8 (by omega) ?_ | refine r_isub dX11_pop_8 ?_
  refine r_iastore _ dX11_pop_9 (S.1 _ _ rfl) rfl (by first | decide | omega) (by decide) ?_
  refine r_aload_n dX11_pop_10 rfl ?_
  refine r_getP dX11_pop_11 g_X11_67 (S.1 _ _ rfl) rfl (S.2 _ _ _ rfl) ?_
  refine r_aload_n dX11_pop_14 rfl ?_
  refine r_getP dX11_pop_15 g_X11_64 (S.1 _ _ rfl) rfl (S.2 _ _ _ rfl) ?_
  refine r_iconst dX11_pop_18 (v := nI 0) kc_0 ?_
  refine r_iaload _ dX11_pop_19 (S.1 _ _ rfl) rfl (by first | decide | omega) (by decide) ?_
  simp (decide := true) only [va_up_ne, va_up_self]
  rw [pk_us]
  refine r_iaload _ dX11_pop_20 (S.1 _ _ rfl) rfl (by first | decide | omega) (by decide) ?_
  simp (decide := true) only [va_up_ne, va_up_self]
  rw [e20]
  refine r_ireturn dX11_pop_21 .int rfl rfl ?_
  exact ⟨_, rfl, rfl, h.ppd, rfl, rfl⟩
theorem c_X11_worked {k : Nat} (hk : k < 16) (a b : Int32) : am_R mX11_worked (po_i (fun v sh' I' P' => v = wk k a b ∧ sh = sh' ∧ I = I' ∧ P = P')) 0 0 0 0 0 [some (.int (nI k)), some (.int a), some (.int b)] [] sh I P := by
  refine r_iload_n dX11_worked_0 rfl ?_
  refine r_iconst dX11_worked_1 (v := nI 1) kc_1 ?_
  refine r_icmp_neN 11 dX11_worked_2 (by decide) (by omega) (by omega) (fun h2 => ?_) (fun h2 => ?_)
  · refine r_iload_n dX11_worked_11 rfl ?_
    refine r_iconst dX11_worked_12 (v := nI 2) kc_2 ?_
    refine r_icmp_neN 22 dX11_worked_13 (by decide) (by omega) (by omega) (fun h13 => ?_) (fun h13 => ?_)
    · refine r_iload_n dX11_worked_22 rfl ?_
      refine r_iconst dX11_worked_23 (v := nI 3) kc_3 ?_
      refine r_icmp_neN 33 dX11_worked_24 (by decide) (by omega) (by omega) (fun h24 => ?_) (fun h24 => ?_)
      · refine r_iload_n dX11_worked_33 rfl ?_
        refine r_iload_n dX11_worked_34 rfl ?_
        refine r_icmp_ge 42 dX11_worked_35 (by decide) (fun h35 => ?_) (fun h35 => ?_)
        · refine r_iconst dX11_worked_42 (v := nI 0) kc_0 ?_
          refine r_ireturn dX11_worked_43 .int rfl rfl ?_
          refine ⟨_, rfl, ?_, rfl, rfl, rfl⟩
          unfold wk
          first
            | (rw [if_pos h2]; done)
            | (rw [if_neg h2, if_pos h13]; done)
            | (rw [if_neg h2, if_neg h13, if_pos h24]; done)
            | (rw [if_neg h2, if_neg h13, if_neg h24, if_neg (Int32.not_lt.mpr h35)]; done)
            | (rw [if_neg h2, if_neg h13, if_neg h24, if_pos (Int32.not_le.mp h35)]; done)
        · refine r_iconst dX11_worked_38 (v := nI 1) kc_1 ?_
          refine r_goto 43 dX11_worked_39 (by decide) ?_
          refine r_ireturn dX11_worked_43 .int rfl rfl ?_
          refine ⟨_, rfl, ?_, rfl, rfl, rfl⟩
          unfold wk
          first
            | (rw [if_pos h2]; done)
            | (rw [if_neg h2, if_pos h13]; done)
            | (rw [if_neg h2, if_neg h13, if_pos h24]; done)
            | (rw [if_neg h2, if_neg h13, if_neg h24, if_neg (Int32.not_lt.mpr h35)]; done)
            | (rw [if_neg h2, if_neg h13, if_neg h24, if_pos (Int32.not_le.mp h35)]; done)
      · refine r_iload_n dX11_worked_27 rfl ?_
        refine r_iload_n dX11_worked_28 rfl ?_
        refine r_imul dX11_worked_29 ?_
        refine r_goto 43 dX11_worked_30 (by decide) ?_
        refine r_ireturn dX11_worked_43 .int rfl rfl ?_
        refine ⟨_, rfl, ?_, rfl, rfl, rfl⟩
        unfold wk
        first
          | (rw [if_pos h2]; done)
          | (rw [if_neg h2, if_pos h13]; done)
          | (rw [if_neg h2, if_neg h13, if_pos h24]; done)
          | (rw [if_neg h2, if_neg h13, if_neg h24, if_neg (Int32.not_lt.mpr h35)]; done)
          | (rw [if_neg h2, if_neg h13, if_neg h24, if_pos (Int32.not_le.mp h35)]; done)
    · refine r_iload_n dX11_worked_16 rfl ?_
      refine r_iload_n dX11_worked_17 rfl ?_
      refine r_isub dX11_worked_18 ?_
      refine r_goto 43 dX11_worked_19 (by decide) ?_
      refine r_ireturn dX11_worked_43 .int rfl rfl ?_
      refine ⟨_, rfl, ?_, rfl, rfl, rfl⟩
      unfold wk
      first
        | (rw [if_pos h2]; done)
        | (rw [if_neg h2, if_pos h13]; done)
        | (rw [if_neg h2, if_neg h13, if_pos h24]; done)
        | (rw [if_neg h2, if_neg h13, if_neg h24, if_neg (Int32.not_lt.mpr h35)]; done)
        | (rw [if_neg h2, if_neg h13, if_neg h24, if_pos (Int32.not_le.mp h35)]; done)
  · refine r_iload_n dX11_worked_5 rfl ?_
    refine r_iload_n dX11_worked_6 rfl ?_
    refine r_iadd dX11_worked_7 ?_
    refine r_goto 43 dX11_worked_8 (by decide) ?_
    refine r_ireturn dX11_worked_43 .int rfl rfl ?_
    refine ⟨_, rfl, ?_, rfl, rfl, rfl⟩
    unfold wk
    first
      | (rw [if_pos h2]; done)
      | (rw [if_neg h2, if_pos h13]; done)
      | (rw [if_neg h2, if_neg h13, if_pos h24]; done)
      | (rw [if_neg h2, if_neg h13, if_neg h24, if_neg (Int32.not_lt.mpr h35)]; done)
      | (rw [if_neg h2, if_neg h13, if_neg h24, if_pos (Int32.not_le.mp h35)]; done)
theorem c_X11_does (S : St_m sh P) {K : AIn} {s : MS} {k t : Nat} {a : Int32} (h : msR K s I) (ht : t < 40) (hk : k < 16) (h32 : K 32 t = nI k) (h33 : K 33 t = a) (ha : aOk k a) (hw : wants k ≤ s.1) (hh : ¬ high k s) (hp : s.1 ≤ 24) (ho : s.2.1 ≤ 40) : am_R mX11_does (po_i (fun v sh' I' P' => v = nI (dos k a t s).1 ∧ msR K (dos k a t s).2 I' ∧ sh = sh' ∧ P = P')) 1 22 0 0 0 [some (.ref 0), some (.int (nI t)), none, none, none] [] sh I P := by
  have e33 : I 33 t = a := by rw [h.1 33 (by decide) (by decide) (by decide) (by decide) (by decide)]; exact h33
  have e32 : I 32 t = nI k := by rw [h.1 32 (by decide) (by decide) (by decide) (by decide) (by decide)]; exact h32
  have e19 := h.e19
  have e20 := h.2.2.1
  have e21 := h.e21
  have e23 := h.2.2.2.2.2
  refine r_aload_n dX11_does_0 rfl ?_
  refine r_getP dX11_does_1 g_X11_104 (S.1 _ _ rfl) rfl (S.2 _ _ _ rfl) ?_
  refine r_iload_n dX11_does_4 rfl ?_
  refine r_iaload _ dX11_does_5 (S.1 _ _ rfl) rfl (by first | decide | omega) (by decide) ?_
  rw [e33]
  refine r_istore_n dX11_does_6 (Nat.le_of_ble_eq_true rfl) ?_
  dsimp only [List.set]
  refine r_aload_n dX11_does_7 rfl ?_
  refine r_getP dX11_does_8 g_X11_101 (S.1 _ _ rfl) rfl (S.2 _ _ _ rfl) ?_
  refine r_iload_n dX11_does_11 rfl ?_
  refine r_iaload _ dX11_does_12 (S.1 _ _ rfl) rfl (by first | decide | omega) (by decide) ?_
  rw [e32]
  rcases (show k = 0 ∨ k = 1 ∨ k = 2 ∨ k = 3 ∨ k = 4 ∨ k = 5 ∨ k = 6 ∨ k = 7 ∨ k = 8 ∨ k = 9 ∨ k = 10 ∨ k = 11 ∨ k = 12 ∨ k = 13 ∨ k = 14 ∨ k = 15 by omega) with rfl | rfl | rfl | rfl | rfl | rfl | rfl | rfl | rfl | rfl | rfl | rfl | rfl | rfl | rfl | rfl
  · have hw2 : s.1 < 24 := by have h9 : ¬ (s.1 = 24) := fun e => hh (Or.inl ⟨e, Or.inl rfl⟩); omega
    refine r_tabIn (off := 79) 92 dX11_does_13 (by decide) (by decide) (by decide) (by decide) ?_
    refine r_aload_n dX11_does_92 rfl ?_
    refine r_iload_n dX11_does_93 rfl ?_
    refine r_callV1 (fr' := 0) (lo' := 0) (mc' := 0) (ms' := 0) dX11_does_94 mm_X11_push mv_X11_push l_X11_186 (S.1 _ _ rfl) mc_X11_push (by decide) ⟨by decide, by decide⟩ (Nat.zero_le _) (Nat.zero_le _) (Nat.le_of_ble_eq_true rfl) (c_X11_push S h (by omega) _) (am_kv ?_)
    rintro _ _ _ ⟨hJ, rfl, rfl⟩
    refine r_goto 272 dX11_does_97 (by decide) ?_
    refine r_iload_n dX11_does_272 rfl ?_
    refine r_iconst dX11_does_273 (v := nI 1) kc_1 ?_
    first | refine r_iaddN dX11_does_274 ?_ | refine r_iadd dX11_does_274 ?_
    refine r_ireturn dX11_does_275 .int rfl rfl ?_
    first
      | exact ⟨_, rfl, rfl, hJ, rfl, rfl⟩
      | exact ⟨_, rfl, rfl, h, rfl, rfl⟩
      | (refine ⟨_, rfl, rfl, ?_, rfl, rfl⟩; show msR K (psh s (s.2.2.2.2 (nv (nI u)))) _; rw [nu]; exact hJ)
      | (refine ⟨_, rfl, rfl, ?_, rfl, rfl⟩; show msR K (sreg (ppd s) (nv (nI u)) (mtop s)) _; rw [nu]; exact hJ)
      | (refine ⟨_, rfl, rfl, ?_, rfl, rfl⟩; show msR K (sreg s (nv (nI u)) (s.2.2.2.2 (nv (nI u)) + nI 1)) _; rw [nu]; exact hJ)
  · have hw3 : 2 ≤ s.1 := hw
    refine r_tabIn (off := 87) 100 dX11_does_13 (by decide) (by decide) (by decide) (by decide) ?_
    refine r_aload_n dX11_does_100 rfl ?_
    refine r_callV0 (fr' := 0) (lo' := 0) (mc' := 0) (ms' := 0) dX11_does_101 mm_X11_pop mv_X11_pop l_X11_189 (S.1 _ _ rfl) mc_X11_pop (by decide) ⟨by decide, by decide⟩ (Nat.zero_le _) (Nat.zero_le _) (Nat.le_of_ble_eq_true rfl) (c_X11_pop S h (by show 1 ≤ s.1; omega) (by show s.1 ≤ 96; omega)) (am_ki ?_)
    rintro _ _ J1 _ ⟨rfl, g1, rfl, rfl⟩
    refine r_istore_n dX11_does_104 (Nat.le_of_ble_eq_true rfl) ?_
    dsimp only [List.set]
    refine r_aload_n dX11_does_105 rfl ?_
    refine r_callV0 (fr' := 0) (lo' := 0) (mc' := 0) (ms' := 0) dX11_does_106 mm_X11_pop mv_X11_pop l_X11_189 (S.1 _ _ rfl) mc_X11_pop (by decide) ⟨by decide, by decide⟩ (Nat.zero_le _) (Nat.zero_le _) (Nat.le_of_ble_eq_true rfl) (c_X11_pop S g1 (by show 1 ≤ s.1 - 1; omega) (by show s.1 - 1 ≤ 96; omega)) (am_ki ?_)
    rintro _ _ J2 _ ⟨rfl, g2, rfl, rfl⟩
    refine r_istore dX11_does_109 (Nat.le_of_ble_eq_true rfl) ?_
    dsimp only [List.set]
    refine r_aload_n dX11_does_111 rfl ?_
    refine r_aload_n dX11_does_112 rfl ?_
    refine r_getP dX11_does_113 g_X11_101 (S.1 _ _ rfl) rfl (S.2 _ _ _ rfl) ?_
    refine r_iload_n dX11_does_116 rfl ?_
    refine r_iaload _ dX11_does_117 (S.1 _ _ rfl) rfl (by first | decide | omega) (by decide) ?_
    rw [show J2 32 = K 32 from g2.1 32 (by decide) (by decide) (by decide) (by decide) (by decide), h32]
    refine r_iload dX11_does_118 rfl ?_
    refine r_iload_n dX11_does_120 rfl ?_
    refine r_callS3 (fr' := 0) (lo' := 0) (mc' := 0) (ms' := 0) dX11_does_121 mm_X11_worked ms_X11_worked l_X11_193 (by decide) ⟨by decide, by decide⟩ (Nat.zero_le _) (Nat.zero_le _) (Nat.le_of_ble_eq_true rfl) (c_X11_worked (by omega) _ _) (am_ki ?_)
    rintro _ _ _ _ ⟨rfl, rfl, rfl, rfl⟩
    refine r_callV1 (fr' := 0) (lo' := 0) (mc' := 0) (ms' := 0) dX11_does_124 mm_X11_push mv_X11_push l_X11_186 (S.1 _ _ rfl) mc_X11_push (by decide) ⟨by decide, by decide⟩ (Nat.zero_le _) (Nat.zero_le _) (Nat.le_of_ble_eq_true rfl) (c_X11_push S g2 (by show s.1 - 1 - 1 < 96; omega) _) (am_kv ?_)
    rintro _ _ _ ⟨hJ, rfl, rfl⟩
    refine r_goto 272 dX11_does_127 (by decide) ?_
    refine r_iload_n dX11_does_272 rfl ?_
    refine r_iconst dX11_does_273 (v := nI 1) kc_1 ?_
    first | refine r_iaddN dX11_does_274 ?_ | refine r_iadd dX11_does_274 ?_
    refine r_ireturn dX11_does_275 .int rfl rfl ?_
    first
      | exact ⟨_, rfl, rfl, hJ, rfl, rfl⟩
      | exact ⟨_, rfl, rfl, h, rfl, rfl⟩
      | (refine ⟨_, rfl, rfl, ?_, rfl, rfl⟩; show msR K (psh s (s.2.2.2.2 (nv (nI u)))) _; rw [nu]; exact hJ)
      | (refine ⟨_, rfl, rfl, ?_, rfl, rfl⟩; show msR K (sreg (ppd s) (nv (nI u)) (mtop s)) _; rw [nu]; exact hJ)
      | (refine ⟨_, rfl, rfl, ?_, rfl, rfl⟩; show msR K (sreg s (nv (nI u)) (s.2.2.2.2 (nv (nI u)) + nI 1)) _; rw [nu]; exact hJ)
  · have hw3 : 2 ≤ s.1 := hw
    refine r_tabIn (off := 87) 100 dX11_does_13 (by decide) (by decide) (by decide) (by decide) ?_
    refine r_aload_n dX11_does_100 rfl ?_
    refine r_callV0 (fr' := 0) (lo' := 0) (mc' := 0) (ms' := 0) dX11_does_101 mm_X11_pop mv_X11_pop l_X11_189 (S.1 _ _ rfl) mc_X11_pop (by decide) ⟨by decide, by decide⟩ (Nat.zero_le _) (Nat.zero_le _) (Nat.le_of_ble_eq_true rfl) (c_X11_pop S h (by show 1 ≤ s.1; omega) (by show s.1 ≤ 96; omega)) (am_ki ?_)
    rintro _ _ J1 _ ⟨rfl, g1, rfl, rfl⟩
    refine r_istore_n dX11_does_104 (Nat.le_of_ble_eq_true rfl) ?_
    dsimp only [List.set]
    refine r_aload_n dX11_does_105 rfl ?_
    refine r_callV0 (fr' := 0) (lo' := 0) (mc' := 0) (ms' := 0) dX11_does_106 mm_X11_pop mv_X11_pop l_X11_189 (S.1 _ _ rfl) mc_X11_pop (by decide) ⟨by decide, by decide⟩ (Nat.zero_le _) (Nat.zero_le _) (Nat.le_of_ble_eq_true rfl) (c_X11_pop S g1 (by show 1 ≤ s.1 - 1; omega) (by show s.1 - 1 ≤ 96; omega)) (am_ki ?_)
    rintro _ _ J2 _ ⟨rfl, g2, rfl, rfl⟩
    refine r_istore dX11_does_109 (Nat.le_of_ble_eq_true rfl) ?_
    dsimp only [List.set]
    refine r_aload_n dX11_does_111 rfl ?_
    refine r_aload_n dX11_does_112 rfl ?_
    refine r_getP dX11_does_113 g_X11_101 (S.1 _ _ rfl) rfl (S.2 _ _ _ rfl) ?_
    refine r_iload_n dX11_does_116 rfl ?_
    refine r_iaload _ dX11_does_117 (S.1 _ _ rfl) rfl (by first | decide | omega) (by decide) ?_
    rw [show J2 32 = K 32 from g2.1 32 (by decide) (by decide) (by decide) (by decide) (by decide), h32]
    refine r_iload dX11_does_118 rfl ?_
    refine r_iload_n dX11_does_120 rfl ?_
    refine r_callS3 (fr' := 0) (lo' := 0) (mc' := 0) (ms' := 0) dX11_does_121 mm_X11_worked ms_X11_worked l_X11_193 (by decide) ⟨by decide, by decide⟩ (Nat.zero_le _) (Nat.zero_le _) (Nat.le_of_ble_eq_true rfl) (c_X11_worked (by omega) _ _) (am_ki ?_)
    rintro _ _ _ _ ⟨rfl, rfl, rfl, rfl⟩
    refine r_callV1 (fr' := 0) (lo' := 0) (mc' := 0) (ms' := 0) dX11_does_124 mm_X11_push mv_X11_push l_X11_186 (S.1 _ _ rfl) mc_X11_push (by decide) ⟨by decide, by decide⟩ (Nat.zero_le _) (Nat.zero_le _) (Nat.le_of_ble_eq_true rfl) (c_X11_push S g2 (by show s.1 - 1 - 1 < 96; omega) _) (am_kv ?_)
    rintro _ _ _ ⟨hJ, rfl, rfl⟩
    refine r_goto 272 dX11_does_127 (by decide) ?_
    refine r_iload_n dX11_does_272 rfl ?_
    refine r_iconst dX11_does_273 (v := nI 1) kc_1 ?_
    first | refine r_iaddN dX11_does_274 ?_ | refine r_iadd dX11_does_274 ?_
    refine r_ireturn dX11_does_275 .int rfl rfl ?_
    first
      | exact ⟨_, rfl, rfl, hJ, rfl, rfl⟩
      | exact ⟨_, rfl, rfl, h, rfl, rfl⟩
      | (refine ⟨_, rfl, rfl, ?_, rfl, rfl⟩; show msR K (psh s (s.2.2.2.2 (nv (nI u)))) _; rw [nu]; exact hJ)
      | (refine ⟨_, rfl, rfl, ?_, rfl, rfl⟩; show msR K (sreg (ppd s) (nv (nI u)) (mtop s)) _; rw [nu]; exact hJ)
      | (refine ⟨_, rfl, rfl, ?_, rfl, rfl⟩; show msR K (sreg s (nv (nI u)) (s.2.2.2.2 (nv (nI u)) + nI 1)) _; rw [nu]; exact hJ)
  · have hw3 : 2 ≤ s.1 := hw
    refine r_tabIn (off := 87) 100 dX11_does_13 (by decide) (by decide) (by decide) (by decide) ?_
    refine r_aload_n dX11_does_100 rfl ?_
    refine r_callV0 (fr' := 0) (lo' := 0) (mc' := 0) (ms' := 0) dX11_does_101 mm_X11_pop mv_X11_pop l_X11_189 (S.1 _ _ rfl) mc_X11_pop (by decide) ⟨by decide, by decide⟩ (Nat.zero_le _) (Nat.zero_le _) (Nat.le_of_ble_eq_true rfl) (c_X11_pop S h (by show 1 ≤ s.1; omega) (by show s.1 ≤ 96; omega)) (am_ki ?_)
    rintro _ _ J1 _ ⟨rfl, g1, rfl, rfl⟩
    refine r_istore_n dX11_does_104 (Nat.le_of_ble_eq_true rfl) ?_
    dsimp only [List.set]
    refine r_aload_n dX11_does_105 rfl ?_
    refine r_callV0 (fr' := 0) (lo' := 0) (mc' := 0) (ms' := 0) dX11_does_106 mm_X11_pop mv_X11_pop l_X11_189 (S.1 _ _ rfl) mc_X11_pop (by decide) ⟨by decide, by decide⟩ (Nat.zero_le _) (Nat.zero_le _) (Nat.le_of_ble_eq_true rfl) (c_X11_pop S g1 (by show 1 ≤ s.1 - 1; omega) (by show s.1 - 1 ≤ 96; omega)) (am_ki ?_)
    rintro _ _ J2 _ ⟨rfl, g2, rfl, rfl⟩
    refine r_istore dX11_does_109 (Nat.le_of_ble_eq_true rfl) ?_
    dsimp only [List.set]
    refine r_aload_n dX11_does_111 rfl ?_
    refine r_aload_n dX11_does_112 rfl ?_
    refine r_getP dX11_does_113 g_X11_101 (S.1 _ _ rfl) rfl (S.2 _ _ _ rfl) ?_
    refine r_iload_n dX11_does_116 rfl ?_
    refine r_iaload _ dX11_does_117 (S.1 _ _ rfl) rfl (by first | decide | omega) (by decide) ?_
    rw [show J2 32 = K 32 from g2.1 32 (by decide) (by decide) (by decide) (by decide) (by decide), h32]
    refine r_iload dX11_does_118 rfl ?_
    refine r_iload_n dX11_does_120 rfl ?_
    refine r_callS3 (fr' := 0) (lo' := 0) (mc' := 0) (ms' := 0) dX11_does_121 mm_X11_worked ms_X11_worked l_X11_193 (by decide) ⟨by decide, by decide⟩ (Nat.zero_le _) (Nat.zero_le _) (Nat.le_of_ble_eq_true rfl) (c_X11_worked (by omega) _ _) (am_ki ?_)
    rintro _ _ _ _ ⟨rfl, rfl, rfl, rfl⟩
    refine r_callV1 (fr' := 0) (lo' := 0) (mc' := 0) (ms' := 0) dX11_does_124 mm_X11_push mv_X11_push l_X11_186 (S.1 _ _ rfl) mc_X11_push (by decide) ⟨by decide, by decide⟩ (Nat.zero_le _) (Nat.zero_le _) (Nat.le_of_ble_eq_true rfl) (c_X11_push S g2 (by show s.1 - 1 - 1 < 96; omega) _) (am_kv ?_)
    rintro _ _ _ ⟨hJ, rfl, rfl⟩
    refine r_goto 272 dX11_does_127 (by decide) ?_
    refine r_iload_n dX11_does_272 rfl ?_
    refine r_iconst dX11_does_273 (v := nI 1) kc_1 ?_
    first | refine r_iaddN dX11_does_274 ?_ | refine r_iadd dX11_does_274 ?_
    refine r_ireturn dX11_does_275 .int rfl rfl ?_
    first
      | exact ⟨_, rfl, rfl, hJ, rfl, rfl⟩
      | exact ⟨_, rfl, rfl, h, rfl, rfl⟩
      | (refine ⟨_, rfl, rfl, ?_, rfl, rfl⟩; show msR K (psh s (s.2.2.2.2 (nv (nI u)))) _; rw [nu]; exact hJ)
      | (refine ⟨_, rfl, rfl, ?_, rfl, rfl⟩; show msR K (sreg (ppd s) (nv (nI u)) (mtop s)) _; rw [nu]; exact hJ)
      | (refine ⟨_, rfl, rfl, ?_, rfl, rfl⟩; show msR K (sreg s (nv (nI u)) (s.2.2.2.2 (nv (nI u)) + nI 1)) _; rw [nu]; exact hJ)
  · have hw2 : s.1 < 24 := by have h9 : ¬ (s.1 = 24) := fun e => hh (Or.inl ⟨e, Or.inr (Or.inl rfl)⟩); omega
    have hw3 : 1 ≤ s.1 := hw
    refine r_tabIn (off := 117) 130 dX11_does_13 (by decide) (by decide) (by decide) (by decide) ?_
    refine r_aload_n dX11_does_130 rfl ?_
    refine r_aload_n dX11_does_131 rfl ?_
    refine r_getP dX11_does_132 g_X11_67 (S.1 _ _ rfl) rfl (S.2 _ _ _ rfl) ?_
    refine r_aload_n dX11_does_135 rfl ?_
    refine r_getP dX11_does_136 g_X11_64 (S.1 _ _ rfl) rfl (S.2 _ _ _ rfl) ?_
    refine r_iconst dX11_does_139 (v := nI 0) kc_0 ?_
    refine r_iaload _ dX11_does_140 (S.1 _ _ rfl) rfl (by first | decide | omega) (by decide) ?_
    rw [e19]
    refine r_iconst dX11_does_141 (v := nI 1) kc_1 ?_
    first | refine r_isubN dX11_does_142 (by omega) ?_ | refine r_isub dX11_does_142 ?_
    refine r_iaload _ dX11_does_143 (S.1 _ _ rfl) rfl (by first | decide | omega) (by decide) ?_
    rw [e20]
    refine r_callV1 (fr' := 0) (lo' := 0) (mc' := 0) (ms' := 0) dX11_does_144 mm_X11_push mv_X11_push l_X11_186 (S.1 _ _ rfl) mc_X11_push (by decide) ⟨by decide, by decide⟩ (Nat.zero_le _) (Nat.zero_le _) (Nat.le_of_ble_eq_true rfl) (c_X11_push S h (by omega) _) (am_kv ?_)
    rintro _ _ _ ⟨hJ, rfl, rfl⟩
    refine r_goto 272 dX11_does_147 (by decide) ?_
    refine r_iload_n dX11_does_272 rfl ?_
    refine r_iconst dX11_does_273 (v := nI 1) kc_1 ?_
    first | refine r_iaddN dX11_does_274 ?_ | refine r_iadd dX11_does_274 ?_
    refine r_ireturn dX11_does_275 .int rfl rfl ?_
    first
      | exact ⟨_, rfl, rfl, hJ, rfl, rfl⟩
      | exact ⟨_, rfl, rfl, h, rfl, rfl⟩
      | (refine ⟨_, rfl, rfl, ?_, rfl, rfl⟩; show msR K (psh s (s.2.2.2.2 (nv (nI u)))) _; rw [nu]; exact hJ)
      | (refine ⟨_, rfl, rfl, ?_, rfl, rfl⟩; show msR K (sreg (ppd s) (nv (nI u)) (mtop s)) _; rw [nu]; exact hJ)
      | (refine ⟨_, rfl, rfl, ?_, rfl, rfl⟩; show msR K (sreg s (nv (nI u)) (s.2.2.2.2 (nv (nI u)) + nI 1)) _; rw [nu]; exact hJ)
  · have hw3 : 2 ≤ s.1 := hw
    refine r_tabIn (off := 137) 150 dX11_does_13 (by decide) (by decide) (by decide) (by decide) ?_
    refine r_aload_n dX11_does_150 rfl ?_
    refine r_callV0 (fr' := 0) (lo' := 0) (mc' := 0) (ms' := 0) dX11_does_151 mm_X11_pop mv_X11_pop l_X11_189 (S.1 _ _ rfl) mc_X11_pop (by decide) ⟨by decide, by decide⟩ (Nat.zero_le _) (Nat.zero_le _) (Nat.le_of_ble_eq_true rfl) (c_X11_pop S h (by show 1 ≤ s.1; omega) (by show s.1 ≤ 96; omega)) (am_ki ?_)
    rintro _ _ J1 _ ⟨rfl, g1, rfl, rfl⟩
    refine r_istore_n dX11_does_154 (Nat.le_of_ble_eq_true rfl) ?_
    dsimp only [List.set]
    refine r_aload_n dX11_does_155 rfl ?_
    refine r_callV0 (fr' := 0) (lo' := 0) (mc' := 0) (ms' := 0) dX11_does_156 mm_X11_pop mv_X11_pop l_X11_189 (S.1 _ _ rfl) mc_X11_pop (by decide) ⟨by decide, by decide⟩ (Nat.zero_le _) (Nat.zero_le _) (Nat.le_of_ble_eq_true rfl) (c_X11_pop S g1 (by show 1 ≤ s.1 - 1; omega) (by show s.1 - 1 ≤ 96; omega)) (am_ki ?_)
    rintro _ _ J2 _ ⟨rfl, g2, rfl, rfl⟩
    refine r_istore dX11_does_159 (Nat.le_of_ble_eq_true rfl) ?_
    dsimp only [List.set]
    refine r_aload_n dX11_does_161 rfl ?_
    refine r_iload_n dX11_does_162 rfl ?_
    refine r_callV1 (fr' := 0) (lo' := 0) (mc' := 0) (ms' := 0) dX11_does_163 mm_X11_push mv_X11_push l_X11_186 (S.1 _ _ rfl) mc_X11_push (by decide) ⟨by decide, by decide⟩ (Nat.zero_le _) (Nat.zero_le _) (Nat.le_of_ble_eq_true rfl) (c_X11_push S g2 (by show s.1 - 1 - 1 < 96; omega) _) (am_kv ?_)
    rintro _ J3 _ ⟨g3, rfl, rfl⟩
    refine r_aload_n dX11_does_166 rfl ?_
    refine r_iload dX11_does_167 rfl ?_
    refine r_callV1 (fr' := 0) (lo' := 0) (mc' := 0) (ms' := 0) dX11_does_169 mm_X11_push mv_X11_push l_X11_186 (S.1 _ _ rfl) mc_X11_push (by decide) ⟨by decide, by decide⟩ (Nat.zero_le _) (Nat.zero_le _) (Nat.le_of_ble_eq_true rfl) (c_X11_push S g3 (by show s.1 - 1 - 1 + 1 < 96; omega) _) (am_kv ?_)
    rintro _ _ _ ⟨hJ, rfl, rfl⟩
    refine r_goto 272 dX11_does_172 (by decide) ?_
    refine r_iload_n dX11_does_272 rfl ?_
    refine r_iconst dX11_does_273 (v := nI 1) kc_1 ?_
    first | refine r_iaddN dX11_does_274 ?_ | refine r_iadd dX11_does_274 ?_
    refine r_ireturn dX11_does_275 .int rfl rfl ?_
    first
      | exact ⟨_, rfl, rfl, hJ, rfl, rfl⟩
      | exact ⟨_, rfl, rfl, h, rfl, rfl⟩
      | (refine ⟨_, rfl, rfl, ?_, rfl, rfl⟩; show msR K (psh s (s.2.2.2.2 (nv (nI u)))) _; rw [nu]; exact hJ)
      | (refine ⟨_, rfl, rfl, ?_, rfl, rfl⟩; show msR K (sreg (ppd s) (nv (nI u)) (mtop s)) _; rw [nu]; exact hJ)
      | (refine ⟨_, rfl, rfl, ?_, rfl, rfl⟩; show msR K (sreg s (nv (nI u)) (s.2.2.2.2 (nv (nI u)) + nI 1)) _; rw [nu]; exact hJ)
  · have hw3 : 1 ≤ s.1 := hw
    refine r_tabIn (off := 162) 175 dX11_does_13 (by decide) (by decide) (by decide) (by decide) ?_
    refine r_aload_n dX11_does_175 rfl ?_
    refine r_getP dX11_does_176 g_X11_64 (S.1 _ _ rfl) rfl (S.2 _ _ _ rfl) ?_
    refine r_iconst dX11_does_179 (v := nI 0) kc_0 ?_
    refine r_dup2 dX11_does_180 ?_
    refine r_iaload _ dX11_does_181 (S.1 _ _ rfl) rfl (by first | decide | omega) (by decide) ?_
    rw [e19]
    refine r_iconst dX11_does_182 (v := nI 1) kc_1 ?_
    first | refine r_isubN dX11_does_183 (by omega) ?_ | refine r_isub dX11_does_183 ?_
    refine r_iastore _ dX11_does_184 (S.1 _ _ rfl) rfl (by first | decide | omega) (by decide) ?_
    have hJ := h.ppd
    refine r_goto 272 dX11_does_185 (by decide) ?_
    refine r_iload_n dX11_does_272 rfl ?_
    refine r_iconst dX11_does_273 (v := nI 1) kc_1 ?_
    first | refine r_iaddN dX11_does_274 ?_ | refine r_iadd dX11_does_274 ?_
    refine r_ireturn dX11_does_275 .int rfl rfl ?_
    first
      | exact ⟨_, rfl, rfl, hJ, rfl, rfl⟩
      | exact ⟨_, rfl, rfl, h, rfl, rfl⟩
      | (refine ⟨_, rfl, rfl, ?_, rfl, rfl⟩; show msR K (psh s (s.2.2.2.2 (nv (nI u)))) _; rw [nu]; exact hJ)
      | (refine ⟨_, rfl, rfl, ?_, rfl, rfl⟩; show msR K (sreg (ppd s) (nv (nI u)) (mtop s)) _; rw [nu]; exact hJ)
      | (refine ⟨_, rfl, rfl, ?_, rfl, rfl⟩; show msR K (sreg s (nv (nI u)) (s.2.2.2.2 (nv (nI u)) + nI 1)) _; rw [nu]; exact hJ)
  · have hw2 : s.1 < 24 := by have h9 : ¬ (s.1 = 24) := fun e => hh (Or.inl ⟨e, Or.inr (Or.inr rfl)⟩); omega
    have ha2 : nI 0 ≤ a ∧ a ≤ nI 7 := ha
    obtain ⟨u, hu, rfl⟩ := (in_iff (by decide)).mp ha2
    have nu : nv (nI u) = u := nv_nI (by omega)
    refine r_tabIn (off := 175) 188 dX11_does_13 (by decide) (by decide) (by decide) (by decide) ?_
    refine r_aload_n dX11_does_188 rfl ?_
    refine r_aload_n dX11_does_189 rfl ?_
    refine r_getP dX11_does_190 g_X11_76 (S.1 _ _ rfl) rfl (S.2 _ _ _ rfl) ?_
    refine r_iload_n dX11_does_193 rfl ?_
    refine r_iaload _ dX11_does_194 (S.1 _ _ rfl) rfl (by first | decide | omega) (by decide) ?_
    rw [e23]
    refine r_callV1 (fr' := 0) (lo' := 0) (mc' := 0) (ms' := 0) dX11_does_195 mm_X11_push mv_X11_push l_X11_186 (S.1 _ _ rfl) mc_X11_push (by decide) ⟨by decide, by decide⟩ (Nat.zero_le _) (Nat.zero_le _) (Nat.le_of_ble_eq_true rfl) (c_X11_push S h (by omega) _) (am_kv ?_)
    rintro _ _ _ ⟨hJ, rfl, rfl⟩
    refine r_goto 272 dX11_does_198 (by decide) ?_
    refine r_iload_n dX11_does_272 rfl ?_
    refine r_iconst dX11_does_273 (v := nI 1) kc_1 ?_
    first | refine r_iaddN dX11_does_274 ?_ | refine r_iadd dX11_does_274 ?_
    refine r_ireturn dX11_does_275 .int rfl rfl ?_
    first
      | exact ⟨_, rfl, rfl, hJ, rfl, rfl⟩
      | exact ⟨_, rfl, rfl, h, rfl, rfl⟩
      | (refine ⟨_, rfl, rfl, ?_, rfl, rfl⟩; show msR K (psh s (s.2.2.2.2 (nv (nI u)))) _; rw [nu]; exact hJ)
      | (refine ⟨_, rfl, rfl, ?_, rfl, rfl⟩; show msR K (sreg (ppd s) (nv (nI u)) (mtop s)) _; rw [nu]; exact hJ)
      | (refine ⟨_, rfl, rfl, ?_, rfl, rfl⟩; show msR K (sreg s (nv (nI u)) (s.2.2.2.2 (nv (nI u)) + nI 1)) _; rw [nu]; exact hJ)
  · have hw3 : 1 ≤ s.1 := hw
    have ha2 : nI 0 ≤ a ∧ a ≤ nI 7 := ha
    obtain ⟨u, hu, rfl⟩ := (in_iff (by decide)).mp ha2
    have nu : nv (nI u) = u := nv_nI (by omega)
    refine r_tabIn (off := 188) 201 dX11_does_13 (by decide) (by decide) (by decide) (by decide) ?_
    refine r_aload_n dX11_does_201 rfl ?_
    refine r_getP dX11_does_202 g_X11_76 (S.1 _ _ rfl) rfl (S.2 _ _ _ rfl) ?_
    refine r_iload_n dX11_does_205 rfl ?_
    refine r_aload_n dX11_does_206 rfl ?_
    refine r_callV0 (fr' := 0) (lo' := 0) (mc' := 0) (ms' := 0) dX11_does_207 mm_X11_pop mv_X11_pop l_X11_189 (S.1 _ _ rfl) mc_X11_pop (by decide) ⟨by decide, by decide⟩ (Nat.zero_le _) (Nat.zero_le _) (Nat.le_of_ble_eq_true rfl) (c_X11_pop S h (by show 1 ≤ s.1; omega) (by show s.1 ≤ 96; omega)) (am_ki ?_)
    rintro _ _ J1 _ ⟨rfl, g1, rfl, rfl⟩
    refine r_iastore _ dX11_does_210 (S.1 _ _ rfl) rfl (by first | decide | omega) (by decide) ?_
    have hJ := g1.sreg u (mtop s)
    refine r_goto 272 dX11_does_211 (by decide) ?_
    refine r_iload_n dX11_does_272 rfl ?_
    refine r_iconst dX11_does_273 (v := nI 1) kc_1 ?_
    first | refine r_iaddN dX11_does_274 ?_ | refine r_iadd dX11_does_274 ?_
    refine r_ireturn dX11_does_275 .int rfl rfl ?_
    first
      | exact ⟨_, rfl, rfl, hJ, rfl, rfl⟩
      | exact ⟨_, rfl, rfl, h, rfl, rfl⟩
      | (refine ⟨_, rfl, rfl, ?_, rfl, rfl⟩; show msR K (psh s (s.2.2.2.2 (nv (nI u)))) _; rw [nu]; exact hJ)
      | (refine ⟨_, rfl, rfl, ?_, rfl, rfl⟩; show msR K (sreg (ppd s) (nv (nI u)) (mtop s)) _; rw [nu]; exact hJ)
      | (refine ⟨_, rfl, rfl, ?_, rfl, rfl⟩; show msR K (sreg s (nv (nI u)) (s.2.2.2.2 (nv (nI u)) + nI 1)) _; rw [nu]; exact hJ)
  · have ha2 : nI 0 ≤ a ∧ a ≤ nI 39 := ha
    obtain ⟨u, hu, rfl⟩ := (in_iff (by decide)).mp ha2
    have nu : nv (nI u) = u := nv_nI (by omega)
    refine r_tabIn (off := 201) 214 dX11_does_13 (by decide) (by decide) (by decide) (by decide) ?_
    refine r_iload_n dX11_does_214 rfl ?_
    refine r_ireturn dX11_does_215 .int rfl rfl ?_
    refine ⟨_, rfl, ?_, h, rfl, rfl⟩
    show nI u = nI (nv (nI u))
    rw [nu]
  · have hw3 : 1 ≤ s.1 := hw
    have ha2 : nI 0 ≤ a ∧ a ≤ nI 39 := ha
    obtain ⟨u, hu, rfl⟩ := (in_iff (by decide)).mp ha2
    have nu : nv (nI u) = u := nv_nI (by omega)
    refine r_tabIn (off := 203) 216 dX11_does_13 (by decide) (by decide) (by decide) (by decide) ?_
    refine r_aload_n dX11_does_216 rfl ?_
    refine r_callV0 (fr' := 0) (lo' := 0) (mc' := 0) (ms' := 0) dX11_does_217 mm_X11_pop mv_X11_pop l_X11_189 (S.1 _ _ rfl) mc_X11_pop (by decide) ⟨by decide, by decide⟩ (Nat.zero_le _) (Nat.zero_le _) (Nat.le_of_ble_eq_true rfl) (c_X11_pop S h (by show 1 ≤ s.1; omega) (by show s.1 ≤ 96; omega)) (am_ki ?_)
    rintro _ _ J1 _ ⟨rfl, g1, rfl, rfl⟩
    refine r_if_ne 227 dX11_does_220 (by decide) (fun h220 => ?_) (fun h220 => ?_)
    · refine r_iload_n dX11_does_227 rfl ?_
      refine r_iconst dX11_does_228 (v := nI 1) kc_1 ?_
      first | refine r_iaddN dX11_does_229 ?_ | refine r_iadd dX11_does_229 ?_
      refine r_ireturn dX11_does_230 .int rfl rfl ?_
      refine ⟨_, rfl, ?_, g1, rfl, rfl⟩
      show _ = nI (if mtop s = 0 then nv (nI u) else t + 1)
      first | rw [if_pos h220, nu] | rw [if_neg h220]
    · refine r_iload_n dX11_does_223 rfl ?_
      refine r_goto 230 dX11_does_224 (by decide) ?_
      refine r_ireturn dX11_does_230 .int rfl rfl ?_
      refine ⟨_, rfl, ?_, g1, rfl, rfl⟩
      show _ = nI (if mtop s = 0 then nv (nI u) else t + 1)
      first | rw [if_pos h220, nu] | rw [if_neg h220]
  · have hw3 : 2 ≤ s.1 := hw
    refine r_tabIn (off := 87) 100 dX11_does_13 (by decide) (by decide) (by decide) (by decide) ?_
    refine r_aload_n dX11_does_100 rfl ?_
    refine r_callV0 (fr' := 0) (lo' := 0) (mc' := 0) (ms' := 0) dX11_does_101 mm_X11_pop mv_X11_pop l_X11_189 (S.1 _ _ rfl) mc_X11_pop (by decide) ⟨by decide, by decide⟩ (Nat.zero_le _) (Nat.zero_le _) (Nat.le_of_ble_eq_true rfl) (c_X11_pop S h (by show 1 ≤ s.1; omega) (by show s.1 ≤ 96; omega)) (am_ki ?_)
    rintro _ _ J1 _ ⟨rfl, g1, rfl, rfl⟩
    refine r_istore_n dX11_does_104 (Nat.le_of_ble_eq_true rfl) ?_
    dsimp only [List.set]
    refine r_aload_n dX11_does_105 rfl ?_
    refine r_callV0 (fr' := 0) (lo' := 0) (mc' := 0) (ms' := 0) dX11_does_106 mm_X11_pop mv_X11_pop l_X11_189 (S.1 _ _ rfl) mc_X11_pop (by decide) ⟨by decide, by decide⟩ (Nat.zero_le _) (Nat.zero_le _) (Nat.le_of_ble_eq_true rfl) (c_X11_pop S g1 (by show 1 ≤ s.1 - 1; omega) (by show s.1 - 1 ≤ 96; omega)) (am_ki ?_)
    rintro _ _ J2 _ ⟨rfl, g2, rfl, rfl⟩
    refine r_istore dX11_does_109 (Nat.le_of_ble_eq_true rfl) ?_
    dsimp only [List.set]
    refine r_aload_n dX11_does_111 rfl ?_
    refine r_aload_n dX11_does_112 rfl ?_
    refine r_getP dX11_does_113 g_X11_101 (S.1 _ _ rfl) rfl (S.2 _ _ _ rfl) ?_
    refine r_iload_n dX11_does_116 rfl ?_
    refine r_iaload _ dX11_does_117 (S.1 _ _ rfl) rfl (by first | decide | omega) (by decide) ?_
    rw [show J2 32 = K 32 from g2.1 32 (by decide) (by decide) (by decide) (by decide) (by decide), h32]
    refine r_iload dX11_does_118 rfl ?_
    refine r_iload_n dX11_does_120 rfl ?_
    refine r_callS3 (fr' := 0) (lo' := 0) (mc' := 0) (ms' := 0) dX11_does_121 mm_X11_worked ms_X11_worked l_X11_193 (by decide) ⟨by decide, by decide⟩ (Nat.zero_le _) (Nat.zero_le _) (Nat.le_of_ble_eq_true rfl) (c_X11_worked (by omega) _ _) (am_ki ?_)
    rintro _ _ _ _ ⟨rfl, rfl, rfl, rfl⟩
    refine r_callV1 (fr' := 0) (lo' := 0) (mc' := 0) (ms' := 0) dX11_does_124 mm_X11_push mv_X11_push l_X11_186 (S.1 _ _ rfl) mc_X11_push (by decide) ⟨by decide, by decide⟩ (Nat.zero_le _) (Nat.zero_le _) (Nat.le_of_ble_eq_true rfl) (c_X11_push S g2 (by show s.1 - 1 - 1 < 96; omega) _) (am_kv ?_)
    rintro _ _ _ ⟨hJ, rfl, rfl⟩
    refine r_goto 272 dX11_does_127 (by decide) ?_
    refine r_iload_n dX11_does_272 rfl ?_
    refine r_iconst dX11_does_273 (v := nI 1) kc_1 ?_
    first | refine r_iaddN dX11_does_274 ?_ | refine r_iadd dX11_does_274 ?_
    refine r_ireturn dX11_does_275 .int rfl rfl ?_
    first
      | exact ⟨_, rfl, rfl, hJ, rfl, rfl⟩
      | exact ⟨_, rfl, rfl, h, rfl, rfl⟩
      | (refine ⟨_, rfl, rfl, ?_, rfl, rfl⟩; show msR K (psh s (s.2.2.2.2 (nv (nI u)))) _; rw [nu]; exact hJ)
      | (refine ⟨_, rfl, rfl, ?_, rfl, rfl⟩; show msR K (sreg (ppd s) (nv (nI u)) (mtop s)) _; rw [nu]; exact hJ)
      | (refine ⟨_, rfl, rfl, ?_, rfl, rfl⟩; show msR K (sreg s (nv (nI u)) (s.2.2.2.2 (nv (nI u)) + nI 1)) _; rw [nu]; exact hJ)
  · have hw3 : 1 ≤ s.1 := hw
    have hw2 : s.2.1 < 40 := by have h9 : ¬ (s.2.1 = 40) := fun e => hh (Or.inr ⟨e, rfl⟩); omega
    refine r_tabIn (off := 218) 231 dX11_does_13 (by decide) (by decide) (by decide) (by decide) ?_
    refine r_aload_n dX11_does_231 rfl ?_
    refine r_getP dX11_does_232 g_X11_73 (S.1 _ _ rfl) rfl (S.2 _ _ _ rfl) ?_
    refine r_aload_n dX11_does_235 rfl ?_
    refine r_getP dX11_does_236 g_X11_70 (S.1 _ _ rfl) rfl (S.2 _ _ _ rfl) ?_
    refine r_iconst dX11_does_239 (v := nI 0) kc_0 ?_
    refine r_iaload _ dX11_does_240 (S.1 _ _ rfl) rfl (by first | decide | omega) (by decide) ?_
    rw [e21]
    refine r_aload_n dX11_does_241 rfl ?_
    refine r_callV0 (fr' := 0) (lo' := 0) (mc' := 0) (ms' := 0) dX11_does_242 mm_X11_pop mv_X11_pop l_X11_189 (S.1 _ _ rfl) mc_X11_pop (by decide) ⟨by decide, by decide⟩ (Nat.zero_le _) (Nat.zero_le _) (Nat.le_of_ble_eq_true rfl) (c_X11_pop S h (by show 1 ≤ s.1; omega) (by show s.1 ≤ 96; omega)) (am_ki ?_)
    rintro _ _ J1 _ ⟨rfl, g1, rfl, rfl⟩
    refine r_iastore _ dX11_does_245 (S.1 _ _ rfl) rfl (by first | decide | omega) (by decide) ?_
    refine r_aload_n dX11_does_246 rfl ?_
    refine r_getP dX11_does_247 g_X11_70 (S.1 _ _ rfl) rfl (S.2 _ _ _ rfl) ?_
    refine r_iconst dX11_does_250 (v := nI 0) kc_0 ?_
    refine r_dup2 dX11_does_251 ?_
    refine r_iaload _ dX11_does_252 (S.1 _ _ rfl) rfl (by first | decide | omega) (by decide) ?_
    simp (decide := true) only [va_up_ne, va_up_self]
    rw [show J1 21 0 = nI s.2.1 from g1.e21]
    refine r_iconst dX11_does_253 (v := nI 1) kc_1 ?_
    first | refine r_iaddN dX11_does_254 ?_ | refine r_iadd dX11_does_254 ?_
    refine r_iastore _ dX11_does_255 (S.1 _ _ rfl) rfl (by first | decide | omega) (by decide) ?_
    have hJ := g1.sout (mtop s)
    simp (decide := true) only [va_up_ne]
    refine r_goto 272 dX11_does_256 (by decide) ?_
    refine r_iload_n dX11_does_272 rfl ?_
    refine r_iconst dX11_does_273 (v := nI 1) kc_1 ?_
    first | refine r_iaddN dX11_does_274 ?_ | refine r_iadd dX11_does_274 ?_
    refine r_ireturn dX11_does_275 .int rfl rfl ?_
    first
      | exact ⟨_, rfl, rfl, hJ, rfl, rfl⟩
      | exact ⟨_, rfl, rfl, h, rfl, rfl⟩
      | (refine ⟨_, rfl, rfl, ?_, rfl, rfl⟩; show msR K (psh s (s.2.2.2.2 (nv (nI u)))) _; rw [nu]; exact hJ)
      | (refine ⟨_, rfl, rfl, ?_, rfl, rfl⟩; show msR K (sreg (ppd s) (nv (nI u)) (mtop s)) _; rw [nu]; exact hJ)
      | (refine ⟨_, rfl, rfl, ?_, rfl, rfl⟩; show msR K (sreg s (nv (nI u)) (s.2.2.2.2 (nv (nI u)) + nI 1)) _; rw [nu]; exact hJ)
  · refine r_tabIn (off := 259) 272 dX11_does_13 (by decide) (by decide) (by decide) (by decide) ?_
    refine r_iload_n dX11_does_272 rfl ?_
    refine r_iconst dX11_does_273 (v := nI 1) kc_1 ?_
    first | refine r_iaddN dX11_does_274 ?_ | refine r_iadd dX11_does_274 ?_
    refine r_ireturn dX11_does_275 .int rfl rfl ?_
    first
      | exact ⟨_, rfl, rfl, hJ, rfl, rfl⟩
      | exact ⟨_, rfl, rfl, h, rfl, rfl⟩
      | (refine ⟨_, rfl, rfl, ?_, rfl, rfl⟩; show msR K (psh s (s.2.2.2.2 (nv (nI u)))) _; rw [nu]; exact hJ)
      | (refine ⟨_, rfl, rfl, ?_, rfl, rfl⟩; show msR K (sreg (ppd s) (nv (nI u)) (mtop s)) _; rw [nu]; exact hJ)
      | (refine ⟨_, rfl, rfl, ?_, rfl, rfl⟩; show msR K (sreg s (nv (nI u)) (s.2.2.2.2 (nv (nI u)) + nI 1)) _; rw [nu]; exact hJ)
  · refine r_tabIn (off := 259) 272 dX11_does_13 (by decide) (by decide) (by decide) (by decide) ?_
    refine r_iload_n dX11_does_272 rfl ?_
    refine r_iconst dX11_does_273 (v := nI 1) kc_1 ?_
    first | refine r_iaddN dX11_does_274 ?_ | refine r_iadd dX11_does_274 ?_
    refine r_ireturn dX11_does_275 .int rfl rfl ?_
    first
      | exact ⟨_, rfl, rfl, hJ, rfl, rfl⟩
      | exact ⟨_, rfl, rfl, h, rfl, rfl⟩
      | (refine ⟨_, rfl, rfl, ?_, rfl, rfl⟩; show msR K (psh s (s.2.2.2.2 (nv (nI u)))) _; rw [nu]; exact hJ)
      | (refine ⟨_, rfl, rfl, ?_, rfl, rfl⟩; show msR K (sreg (ppd s) (nv (nI u)) (mtop s)) _; rw [nu]; exact hJ)
      | (refine ⟨_, rfl, rfl, ?_, rfl, rfl⟩; show msR K (sreg s (nv (nI u)) (s.2.2.2.2 (nv (nI u)) + nI 1)) _; rw [nu]; exact hJ)
  · have ha2 : nI 0 ≤ a ∧ a ≤ nI 7 := ha
    obtain ⟨u, hu, rfl⟩ := (in_iff (by decide)).mp ha2
    have nu : nv (nI u) = u := nv_nI (by omega)
    refine r_tabIn (off := 246) 259 dX11_does_13 (by decide) (by decide) (by decide) (by decide) ?_
    refine r_aload_n dX11_does_259 rfl ?_
    refine r_getP dX11_does_260 g_X11_76 (S.1 _ _ rfl) rfl (S.2 _ _ _ rfl) ?_
    refine r_iload_n dX11_does_263 rfl ?_
    refine r_dup2 dX11_does_264 ?_
    refine r_iaload _ dX11_does_265 (S.1 _ _ rfl) rfl (by first | decide | omega) (by decide) ?_
    rw [e23]
    refine r_iconst dX11_does_266 (v := nI 1) kc_1 ?_
    refine r_iadd dX11_does_267 ?_
    refine r_iastore _ dX11_does_268 (S.1 _ _ rfl) rfl (by first | decide | omega) (by decide) ?_
    have hJ := h.sreg u (s.2.2.2.2 u + nI 1)
    refine r_goto 272 dX11_does_269 (by decide) ?_
    refine r_iload_n dX11_does_272 rfl ?_
    refine r_iconst dX11_does_273 (v := nI 1) kc_1 ?_
    first | refine r_iaddN dX11_does_274 ?_ | refine r_iadd dX11_does_274 ?_
    refine r_ireturn dX11_does_275 .int rfl rfl ?_
    first
      | exact ⟨_, rfl, rfl, hJ, rfl, rfl⟩
      | exact ⟨_, rfl, rfl, h, rfl, rfl⟩
      | (refine ⟨_, rfl, rfl, ?_, rfl, rfl⟩; show msR K (psh s (s.2.2.2.2 (nv (nI u)))) _; rw [nu]; exact hJ)
      | (refine ⟨_, rfl, rfl, ?_, rfl, rfl⟩; show msR K (sreg (ppd s) (nv (nI u)) (mtop s)) _; rw [nu]; exact hJ)
      | (refine ⟨_, rfl, rfl, ?_, rfl, rfl⟩; show msR K (sreg s (nv (nI u)) (s.2.2.2.2 (nv (nI u)) + nI 1)) _; rw [nu]; exact hJ)
end M12
