/-! the reference: count, take, feed, images -/
section M4
variable {sh : ASh} {I : AIn} {P : APt}
theorem in_iffG {x : Int32} {a b : Nat} (hb : b < 2147483648) : (nI a ≤ x ∧ x ≤ nI b) ↔ ∃ j : Nat, (a ≤ j ∧ j ≤ b ∧ a < 2147483648 ∨ (2147483648 ≤ a ∧ nI a ≤ nI j ∧ j ≤ b)) ∧ x = nI j ∧ j < 2147483648 ∨ (x < 0 ∧ nI a ≤ x ∧ x ≤ nI b) := by
  constructor
  · rintro ⟨h1, h2⟩
    by_cases h0 : x < 0
    · exact ⟨0, Or.inr ⟨h0, h1, h2⟩⟩
    · obtain ⟨j, hj, rfl⟩ := nI_of h0
      refine ⟨j, Or.inl ⟨?_, rfl, hj⟩⟩
      have h2 := (nI_leI hj hb).mp h2
      by_cases ha : a < 2147483648
      · exact Or.inl ⟨(nI_leI ha hj).mp h1, h2, ha⟩
      · exact Or.inr ⟨by omega, h1, h2⟩
  · rintro ⟨j, (⟨(⟨h1, h2, h3⟩ | ⟨h1, h2, h3⟩), rfl, h4⟩ | ⟨h1, h2, h3⟩)⟩
    · exact ⟨(nI_leI h3 h4).mpr h1, (nI_leI h4 hb).mpr h2⟩
    · exact ⟨h2, (nI_leI h4 hb).mpr h3⟩
    · exact ⟨h2, h3⟩
theorem in_ab {x : Int32} {a b : Nat} (ha : a < 2147483648) (hb : b < 2147483648) : (nI a ≤ x ∧ x ≤ nI b) ↔ ∃ j : Nat, a ≤ j ∧ j ≤ b ∧ x = nI j := by
  constructor
  · rintro ⟨h1, h2⟩
    have h0 : ¬ x < 0 := by
      have h3 : nI 0 ≤ nI a := nI_le (Nat.zero_le _) ha
      have h4 := Int32.le_trans h3 h1
      rw [nI_0] at h4
      exact Int32.not_lt.mpr h4
    obtain ⟨j, hj, rfl⟩ := nI_of h0
    exact ⟨j, (nI_leI ha hj).mp h1, (nI_leI hj hb).mp h2, rfl⟩
  · rintro ⟨j, h1, h2, rfl⟩
    exact ⟨nI_le h1 (by omega), nI_le h2 hb⟩
theorem up_sw {α : Type} {f : Nat → α} {i j : Nat} {a b : α} (h : i ≠ j) : va_up (va_up f i a) j b = va_up (va_up f j b) i a := by
  funext k
  by_cases h1 : k = i
  · by_cases h2 : k = j
    · exact absurd (h1.symm.trans h2) h
    · simp [va_up, h1, h]
  · by_cases h2 : k = j
    · simp [va_up, h2, Ne.symm h]
    · simp [va_up, h1, h2]
theorem fl_step (f g : Nat → Int32) (b k : Nat) : upd (fun j => if b ≤ j ∧ j < b + k then f (j - b) else g j) (b + k) (f k) = fun j => if b ≤ j ∧ j < b + (k + 1) then f (j - b) else g j := by
  funext j
  by_cases h : j = b + k
  · subst h
    simp [upd]
  · have h2 : (b ≤ j ∧ j < b + k) ↔ (b ≤ j ∧ j < b + (k + 1)) := by omega
    simp only [upd, h, if_false, h2]
theorem fl0_step (f g : Nat → Int32) (k : Nat) : upd (fun j => if j < k then f j else g j) k (f k) = fun j => if j < k + 1 then f j else g j := by
  funext j
  by_cases h : j = k
  · subst h
    simp [upd]
  · have h2 : j < k ↔ j < k + 1 := by omega
    simp only [upd, h, if_false, h2]
theorem fa_twice (f : Nat → Int32) (i : Nat) (x y : Int32) : upd (upd f i x) i y = upd f i y := by
  funext j
  by_cases h : j = i <;> simp [upd, h]
theorem b_X11_count (S : St_m sh P) (V : Inv (rs I))  (x : Int32): am_R mX11_count (mpo sh P I (cn_res (rs I) x) (rs I)) 1 22 0 0 5 [some (.ref 0), some (.int x)] [] sh I P := by
  obtain ⟨e1, b1⟩ := V.1.np
  have e1 : I 1 0 = nI (np (rs I)) := e1
  generalize hN : np (rs I) = N at e1 b1
  refine r_iload_n dX11_count_5 rfl ?_
  rcases sw_5 x with rfl | rfl | rfl | rfl | rfl | rfl | ⟨hz, hx⟩
  · refine r_tabIn (off := 38) 44 dX11_count_6 (by decide) (by decide) (by decide) (by decide) ?_
    refine r_aload_n dX11_count_44 rfl ?_
    refine r_getP dX11_count_45 g_X11_7 (S.1 _ _ rfl) rfl (S.2 _ _ _ rfl) ?_
    refine r_iconst dX11_count_48 (v := nI 0) kc_0 ?_
    refine r_iaload _ dX11_count_49 (S.1 _ _ rfl) rfl (by first | decide | omega) (by decide) ?_
    refine r_ireturn dX11_count_50 .int rfl rfl ?_
    refine ⟨_, rfl, ?_, rfl, hi_rf _, rfl, rfl⟩
    rfl
  · refine r_tabIn (off := 45) 51 dX11_count_6 (by decide) (by decide) (by decide) (by decide) ?_
    refine r_aload_n dX11_count_51 rfl ?_
    refine r_getP dX11_count_52 g_X11_25 (S.1 _ _ rfl) rfl (S.2 _ _ _ rfl) ?_
    refine r_iconst dX11_count_55 (v := nI 0) kc_0 ?_
    refine r_iaload _ dX11_count_56 (S.1 _ _ rfl) rfl (by first | decide | omega) (by decide) ?_
    refine r_ireturn dX11_count_57 .int rfl rfl ?_
    refine ⟨_, rfl, ?_, rfl, hi_rf _, rfl, rfl⟩
    rfl
  · refine r_tabIn (off := 52) 58 dX11_count_6 (by decide) (by decide) (by decide) (by decide) ?_
    refine r_aload_n dX11_count_58 rfl ?_
    refine r_getP dX11_count_59 g_X11_40 (S.1 _ _ rfl) rfl (S.2 _ _ _ rfl) ?_
    refine r_iconst dX11_count_62 (v := nI 0) kc_0 ?_
    refine r_iaload _ dX11_count_63 (S.1 _ _ rfl) rfl (by first | decide | omega) (by decide) ?_
    refine r_ireturn dX11_count_64 .int rfl rfl ?_
    refine ⟨_, rfl, ?_, rfl, hi_rf _, rfl, rfl⟩
    rfl
  · refine r_tabIn (off := 59) 65 dX11_count_6 (by decide) (by decide) (by decide) (by decide) ?_
    refine r_aload_n dX11_count_65 rfl ?_
    refine r_getP dX11_count_66 g_X11_40 (S.1 _ _ rfl) rfl (S.2 _ _ _ rfl) ?_
    refine r_iconst dX11_count_69 (v := nI 0) kc_0 ?_
    refine r_iaload _ dX11_count_70 (S.1 _ _ rfl) rfl (by first | decide | omega) (by decide) ?_
    refine r_iconst dX11_count_71 (v := (-1)) kc_m1 ?_
    refine r_icmp_ne 79 dX11_count_72 (by decide) (fun h72 => ?_) (fun h72 => ?_)
    · refine r_aload_n dX11_count_79 rfl ?_
      refine r_getP dX11_count_80 g_X11_46 (S.1 _ _ rfl) rfl (S.2 _ _ _ rfl) ?_
      refine r_iconst dX11_count_83 (v := nI 0) kc_0 ?_
      refine r_iaload _ dX11_count_84 (S.1 _ _ rfl) rfl (by first | decide | omega) (by decide) ?_
      refine r_ireturn dX11_count_85 .int rfl rfl ?_
      refine ⟨_, rfl, ?_, rfl, hi_rf _, rfl, rfl⟩
      show _ = (if rs I 11 0 = -1 then -1 else rs I 13 0)
      first | (rw [if_pos (show rs I 11 0 = -1 from h72)]) | (rw [if_neg (show ¬ rs I 11 0 = -1 from h72)]; rfl)
    · refine r_iconst dX11_count_75 (v := (-1)) kc_m1 ?_
      refine r_goto 85 dX11_count_76 (by decide) ?_
      refine r_ireturn dX11_count_85 .int rfl rfl ?_
      refine ⟨_, rfl, ?_, rfl, hi_rf _, rfl, rfl⟩
      show _ = (if rs I 11 0 = -1 then -1 else rs I 13 0)
      first | (rw [if_pos (show rs I 11 0 = -1 from h72)]) | (rw [if_neg (show ¬ rs I 11 0 = -1 from h72)]; rfl)
  · refine r_tabIn (off := 80) 86 dX11_count_6 (by decide) (by decide) (by decide) (by decide) ?_
    refine r_aload_n dX11_count_86 rfl ?_
    refine r_getP dX11_count_87 g_X11_79 (S.1 _ _ rfl) rfl (S.2 _ _ _ rfl) ?_
    refine r_iconst dX11_count_90 (v := nI 0) kc_0 ?_
    refine r_iaload _ dX11_count_91 (S.1 _ _ rfl) rfl (by first | decide | omega) (by decide) ?_
    refine r_iconst dX11_count_92 (v := (-1)) kc_m1 ?_
    refine r_icmp_ne 100 dX11_count_93 (by decide) (fun h93 => ?_) (fun h93 => ?_)
    · refine r_aload_n dX11_count_100 rfl ?_
      refine r_getP dX11_count_101 g_X11_79 (S.1 _ _ rfl) rfl (S.2 _ _ _ rfl) ?_
      refine r_iconst dX11_count_104 (v := nI 0) kc_0 ?_
      refine r_iaload _ dX11_count_105 (S.1 _ _ rfl) rfl (by first | decide | omega) (by decide) ?_
      refine r_ireturn dX11_count_106 .int rfl rfl ?_
      refine ⟨_, rfl, ?_, rfl, hi_rf _, rfl, rfl⟩
      show _ = (if rs I 24 0 = -1 then nI 0 else rs I 24 0)
      first | (rw [if_pos (show rs I 24 0 = -1 from h93)]) | (rw [if_neg (show ¬ rs I 24 0 = -1 from h93)]; rfl)
    · refine r_iconst dX11_count_96 (v := nI 0) kc_0 ?_
      refine r_goto 106 dX11_count_97 (by decide) ?_
      refine r_ireturn dX11_count_106 .int rfl rfl ?_
      refine ⟨_, rfl, ?_, rfl, hi_rf _, rfl, rfl⟩
      show _ = (if rs I 24 0 = -1 then nI 0 else rs I 24 0)
      first | (rw [if_pos (show rs I 24 0 = -1 from h93)]) | (rw [if_neg (show ¬ rs I 24 0 = -1 from h93)]; rfl)
  · refine r_tabIn (off := 101) 107 dX11_count_6 (by decide) (by decide) (by decide) (by decide) ?_
    refine r_aload_n dX11_count_107 rfl ?_
    refine r_getP dX11_count_108 g_X11_85 (S.1 _ _ rfl) rfl (S.2 _ _ _ rfl) ?_
    refine r_iconst dX11_count_111 (v := nI 0) kc_0 ?_
    refine r_iaload _ dX11_count_112 (S.1 _ _ rfl) rfl (by first | decide | omega) (by decide) ?_
    refine r_ireturn dX11_count_113 .int rfl rfl ?_
    refine ⟨_, rfl, ?_, rfl, hi_rf _, rfl, rfl⟩
    rfl
  · have hz0 : x ≠ nI 0 := fun h => hz (Or.inl h)
    have hz1 : x ≠ nI 1 := fun h => hz (Or.inr (Or.inl h))
    have hz2 : x ≠ nI 2 := fun h => hz (Or.inr (Or.inr (Or.inl h)))
    have hz3 : x ≠ nI 3 := fun h => hz (Or.inr (Or.inr (Or.inr (Or.inl h))))
    have hz4 : x ≠ nI 4 := fun h => hz (Or.inr (Or.inr (Or.inr (Or.inr (Or.inl h)))))
    have hz5 : x ≠ nI 5 := fun h => hz (Or.inr (Or.inr (Or.inr (Or.inr (Or.inr (h))))))
    have er : cn_res (rs I) x = cif (∃ j, j < np (rs I) ∧ x = nI (10 + j)) (rs I 2 (nv x - 10)) (-1) := by rw [cn_res, if_neg hz0, if_neg hz1, if_neg hz2, if_neg hz3, if_neg hz4, if_neg hz5]
    rw [er]
    clear er hz hz0 hz1 hz2 hz3 hz4 hz5
    refine r_tabOut 114 dX11_count_6 hx (by decide) ?_
    refine r_iload_n dX11_count_114 rfl ?_
    refine r_bipush dX11_count_115 (v := nI 10) (by decide) ?_
    refine r_bipush dX11_count_117 (v := nI 9) (by decide) ?_
    refine r_aload_n dX11_count_119 rfl ?_
    refine r_getP dX11_count_120 g_X11_7 (S.1 _ _ rfl) rfl (S.2 _ _ _ rfl) ?_
    refine r_iconst dX11_count_123 (v := nI 0) kc_0 ?_
    refine r_iaload _ dX11_count_124 (S.1 _ _ rfl) rfl (by first | decide | omega) (by decide) ?_
    rw [e1]
    first | refine r_iaddN dX11_count_125 ?_ | refine r_iadd dX11_count_125 ?_
    refine r_callS3 (fr' := 0) (lo' := 0) (mc' := 0) (ms' := 0) dX11_count_126 mm_X11_in ms_X11_in l_X11_142 (by decide) ⟨by decide, by decide⟩ (Nat.zero_le _) (Nat.zero_le _) (Nat.le_of_ble_eq_true rfl) (c_X11_in _ _ _) (am_ki ?_)
    rintro v126 _ _ _ ⟨hb126, rfl, rfl, rfl⟩
    refine r_if_eq 144 dX11_count_129 (by decide) (fun h129 => ?_) (fun h129 => ?_)
    · replace h129 := hb126.f h129
      have hc : ¬ ∃ j, j < np (rs I) ∧ x = nI (10 + j) := by
        rintro ⟨j, hj, rfl⟩
        exact h129 ((in_ab (by decide) (by omega)).mpr ⟨10 + j, by omega, by omega, rfl⟩)
      refine r_iconst dX11_count_144 (v := (-1)) kc_m1 ?_
      refine r_ireturn dX11_count_145 .int rfl rfl ?_
      refine ⟨_, rfl, ?_, rfl, hi_rf _, rfl, rfl⟩
      first | rw [cif_f hc] | (rw [cif_t hc, nj2]; rfl)
    · replace h129 := hb126.t h129
      obtain ⟨j, hj1, hj2, rfl⟩ := (in_ab (by decide) (by omega)).mp h129
      have hc : ∃ w, w < np (rs I) ∧ nI j = nI (10 + w) := ⟨j - 10, by omega, by congr 1; omega⟩
      have nj2 : nv (nI j) = j := nv_nI (by omega)
      refine r_aload_n dX11_count_132 rfl ?_
      refine r_getP dX11_count_133 g_X11_13 (S.1 _ _ rfl) rfl (S.2 _ _ _ rfl) ?_
      refine r_iload_n dX11_count_136 rfl ?_
      refine r_bipush dX11_count_137 (v := nI 10) (by decide) ?_
      first | refine r_isubN dX11_count_139 (by omega) ?_ | refine r_isub dX11_count_139 ?_
      refine r_iaload _ dX11_count_140 (S.1 _ _ rfl) rfl (by first | decide | omega) (by decide) ?_
      refine r_goto 145 dX11_count_141 (by decide) ?_
      refine r_ireturn dX11_count_145 .int rfl rfl ?_
      refine ⟨_, rfl, ?_, rfl, hi_rf _, rfl, rfl⟩
      first | rw [cif_f hc] | (rw [cif_t hc, nj2]; rfl)
theorem c_X11_count (S : St_m sh P) (V : Inv (rs I))  (x : Int32): am_R mX11_count (mpo sh P I (cn_res (rs I) x) (rs I)) 1 22 0 0 0 [some (.ref 0), some (.int x)] [] sh I P := by
  refine r_aload_n dX11_count_0 rfl ?_
  refine r_iconst dX11_count_1 (v := nI 0) kc_0 ?_
  refine r_putI dX11_count_2 f_X11_134 (S.1 _ _ rfl) rfl rfl rfl ?_
  have e : rs (va_up I 0 (upd (I 0) 0 (nI 0))) = rs I := rs_no rfl
  have h := b_X11_count (I := va_up I 0 (upd (I 0) 0 (nI 0))) S (by rw [e]; exact V) x
  rw [e] at h
  exact mpo_z h
theorem l_X11_take (S : St_m sh P) {n : Nat} (hn : n ≤ 2) {σ' : AIn} {J : AIn} (post : ∀ H, H = va_up (va_up I 6 (upd (I 6) 0 (nI n))) 7 (fun j => if j < 5 * n then I 25 j else I 7 j) → rs H = σ' ∧ hi H J) : ∀ (m k : Nat), k + m = 5 * n → ∀ H, H = va_up (va_up I 6 (upd (I 6) 0 (nI n))) 7 (fun j => if j < k then I 25 j else I 7 j) → am_R mX11_take (mpo sh P J (nI n) σ') 0 0 0 0 31 [some (.ref 0), some (.int (nI k))] [] sh H P := by
  intro m
  induction m with
  | zero =>
    intro k hk H hH
    have h60 : H 6 0 = nI n := by rw [hH]; rfl
    refine r_iload_n dX11_take_31 rfl ?_
    refine r_iconst dX11_take_32 (v := nI 5) kc_5 ?_
    refine r_aload_n dX11_take_33 rfl ?_
    refine r_getP dX11_take_34 g_X11_25 (S.1 _ _ rfl) rfl (S.2 _ _ _ rfl) ?_
    refine r_iconst dX11_take_37 (v := nI 0) kc_0 ?_
    refine r_iaload _ dX11_take_38 (S.1 _ _ rfl) rfl (by first | decide | omega) (by decide) ?_
    rw [h60]
    first | refine r_imulN dX11_take_39 ?_ | refine r_imul dX11_take_39 ?_
    refine r_icmp_geN 61 dX11_take_40 (by decide) (by omega) (by omega) (fun h40 => ?_) (fun h40 => ?_)
    · refine r_aload_n dX11_take_61 rfl ?_
      refine r_getP dX11_take_62 g_X11_25 (S.1 _ _ rfl) rfl (S.2 _ _ _ rfl) ?_
      refine r_iconst dX11_take_65 (v := nI 0) kc_0 ?_
      refine r_iaload _ dX11_take_66 (S.1 _ _ rfl) rfl (by first | decide | omega) (by decide) ?_
      rw [h60]
      refine r_ireturn dX11_take_67 .int rfl rfl ?_
      have e : k = 5 * n := by omega
      subst e
      obtain ⟨q1, q2⟩ := post H hH
      exact ⟨_, rfl, rfl, q1, q2, rfl, rfl⟩
    · exact absurd h40 (by omega)
  | succ m ih =>
    intro k hk H hH
    have h60 : H 6 0 = nI n := by rw [hH]; rfl
    refine r_iload_n dX11_take_31 rfl ?_
    refine r_iconst dX11_take_32 (v := nI 5) kc_5 ?_
    refine r_aload_n dX11_take_33 rfl ?_
    refine r_getP dX11_take_34 g_X11_25 (S.1 _ _ rfl) rfl (S.2 _ _ _ rfl) ?_
    refine r_iconst dX11_take_37 (v := nI 0) kc_0 ?_
    refine r_iaload _ dX11_take_38 (S.1 _ _ rfl) rfl (by first | decide | omega) (by decide) ?_
    rw [h60]
    first | refine r_imulN dX11_take_39 ?_ | refine r_imul dX11_take_39 ?_
    refine r_icmp_geN 61 dX11_take_40 (by decide) (by omega) (by omega) (fun h40 => ?_) (fun h40 => ?_)
    · exact absurd h40 (by omega)
    · refine r_aload_n dX11_take_43 rfl ?_
      refine r_getP dX11_take_44 g_X11_28 (S.1 _ _ rfl) rfl (S.2 _ _ _ rfl) ?_
      refine r_iload_n dX11_take_47 rfl ?_
      refine r_aload_n dX11_take_48 rfl ?_
      refine r_getP dX11_take_49 g_X11_82 (S.1 _ _ rfl) rfl (S.2 _ _ _ rfl) ?_
      refine r_iload_n dX11_take_52 rfl ?_
      refine r_iaload _ dX11_take_53 (S.1 _ _ rfl) rfl (by first | decide | omega) (by decide) ?_
      refine r_iastore _ dX11_take_54 (S.1 _ _ rfl) rfl (by first | decide | omega) (by decide) ?_
      first | refine r_iincN dX11_take_55 rfl kc_1 ?_ | refine r_iinc dX11_take_55 rfl rfl ?_
      dsimp only [List.set]
      refine r_goto 31 dX11_take_58 (by decide) ?_
      refine ih (k + 1) (by omega) _ ?_
      have e7 : H 7 = fun j => if j < k then I 25 j else I 7 j := by rw [hH]; rfl
      have e25 : H 25 k = I 25 k := by rw [hH]; rfl
      rw [e7, e25, fl0_step, hH, bx_uu]
theorem b_X11_take (S : St_m sh P) (V : Inv (rs I))  : am_R mX11_take (mpo sh P I (tk_res (rs I)) (tk_op (rs I))) 0 0 0 0 5 [some (.ref 0), none] [] sh I P := by
  refine r_aload_n dX11_take_5 rfl ?_
  refine r_getP dX11_take_6 g_X11_79 (S.1 _ _ rfl) rfl (S.2 _ _ _ rfl) ?_
  refine r_iconst dX11_take_9 (v := nI 0) kc_0 ?_
  refine r_iaload _ dX11_take_10 (S.1 _ _ rfl) rfl (by first | decide | omega) (by decide) ?_
  refine r_iconst dX11_take_11 (v := (-1)) kc_m1 ?_
  refine r_icmp_ne 17 dX11_take_12 (by decide) (fun h12 => ?_) (fun h12 => ?_)
  · have r12 : ¬ rs I 24 0 = -1 := h12
    have e24 : isN (I 24 0) 2 := by
      rcases V.2.2.2.2.1 with h | h
      · exact absurd h h12
      · exact h.1
    refine r_aload_n dX11_take_17 rfl ?_
    refine r_getP dX11_take_18 g_X11_25 (S.1 _ _ rfl) rfl (S.2 _ _ _ rfl) ?_
    refine r_iconst dX11_take_21 (v := nI 0) kc_0 ?_
    refine r_aload_n dX11_take_22 rfl ?_
    refine r_getP dX11_take_23 g_X11_79 (S.1 _ _ rfl) rfl (S.2 _ _ _ rfl) ?_
    refine r_iconst dX11_take_26 (v := nI 0) kc_0 ?_
    refine r_iaload _ dX11_take_27 (S.1 _ _ rfl) rfl (by first | decide | omega) (by decide) ?_
    rw [e24.1]
    refine r_iastore _ dX11_take_28 (S.1 _ _ rfl) rfl (by first | decide | omega) (by decide) ?_
    refine r_iconst dX11_take_29 (v := nI 0) kc_0 ?_
    refine r_istore_n dX11_take_30 (Nat.le_of_ble_eq_true rfl) ?_
    dsimp only [List.set]
    have hn := e24.2
    have h9 := l_X11_take (J := I) (σ' := tk_op (rs I)) S hn (I := I) (sh := sh) (P := P) (fun H hH => ⟨by rw [hH, rs_up rfl, rs_up rfl, tk_op, if_neg r12]; rw [← e24.1]; rfl, by rw [hH]; exact hi_up (hi_up (hi_rf _) (by decide)) (by decide)⟩) (5 * nv (I 24 0)) 0 (Nat.zero_add _) (va_up I 6 (upd (I 6) 0 (nI (nv (I 24 0))))) (by
      funext r
      by_cases hr : r = 7
      · subst hr; funext j; simp [va_up]
      · simp [va_up, hr])
    have e : tk_res (rs I) = nI (nv (I 24 0)) := e24.1
    rw [e]
    exact h9
  · have r12 : rs I 24 0 = -1 := h12
    refine r_iconst dX11_take_15 (v := (-1)) kc_m1 ?_
    refine r_ireturn dX11_take_16 .int rfl rfl ?_
    refine ⟨_, rfl, ?_, ?_, hi_rf _, rfl, rfl⟩
    · rw [tk_res, r12]
    · rw [tk_op, if_pos r12]
theorem c_X11_take (S : St_m sh P) (V : Inv (rs I))  : am_R mX11_take (mpo sh P I (tk_res (rs I)) (tk_op (rs I))) 0 0 0 0 0 [some (.ref 0), none] [] sh I P := by
  refine r_aload_n dX11_take_0 rfl ?_
  refine r_iconst dX11_take_1 (v := nI 0) kc_0 ?_
  refine r_putI dX11_take_2 f_X11_134 (S.1 _ _ rfl) rfl rfl rfl ?_
  have e : rs (va_up I 0 (upd (I 0) 0 (nI 0))) = rs I := rs_no rfl
  have h := b_X11_take (I := va_up I 0 (upd (I 0) 0 (nI 0))) S (by rw [e]; exact V)
  rw [e] at h
  exact mpo_z h
def fdH (I : AIn) (x : Int32) (T k : Nat) : AIn := va_up (va_up I 27 (fun j => if T ≤ j ∧ j < T + k then fe_b x (j - T) else I 27 j)) 26 (upd (I 26) 0 (nI (T + k)))
theorem l_X11_feed (S : St_m sh P) {T n : Nat} {x : Int32} (hT : T + n ≤ 160) (hn : n ≤ 4) {σ' : AIn} {J : AIn} (post : rs (fdH I x T n) = σ' ∧ hi (fdH I x T n) J) : ∀ (m k : Nat), k + m = n → ∀ H, H = fdH I x T k → am_R mX11_feed (mpo sh P J (nI (T + n)) σ') 1 22 0 0 32 [some (.ref 0), some (.int x), some (.int (nI n)), some (.int (nI k))] [] sh H P := by
  intro m
  induction m with
  | zero =>
    intro k hk H hH
    have h26 : H 26 0 = nI (T + k) := by rw [hH]; rfl
    refine r_iload_n dX11_feed_32 rfl ?_
    refine r_iload_n dX11_feed_33 rfl ?_
    refine r_icmp_geN 77 dX11_feed_34 (by decide) (by omega) (by omega) (fun h34 => ?_) (fun h34 => ?_)
    · refine r_aload_n dX11_feed_77 rfl ?_
      refine r_getP dX11_feed_78 g_X11_85 (S.1 _ _ rfl) rfl (S.2 _ _ _ rfl) ?_
      refine r_iconst dX11_feed_81 (v := nI 0) kc_0 ?_
      refine r_iaload _ dX11_feed_82 (S.1 _ _ rfl) rfl (by first | decide | omega) (by decide) ?_
      rw [h26]
      refine r_ireturn dX11_feed_83 .int rfl rfl ?_
      have e : k = n := by omega
      subst e
      exact ⟨_, rfl, rfl, by rw [hH]; exact post.1, by rw [hH]; exact post.2, rfl, rfl⟩
    · exact absurd h34 (by omega)
  | succ m ih =>
    intro k hk H hH
    have h26 : H 26 0 = nI (T + k) := by rw [hH]; rfl
    have e27 : H 27 = fun j => if T ≤ j ∧ j < T + k then fe_b x (j - T) else I 27 j := by rw [hH]; rfl
    have e26 : H 26 = upd (I 26) 0 (nI (T + k)) := by rw [hH]; rfl
    refine r_iload_n dX11_feed_32 rfl ?_
    refine r_iload_n dX11_feed_33 rfl ?_
    refine r_icmp_geN 77 dX11_feed_34 (by decide) (by omega) (by omega) (fun h34 => ?_) (fun h34 => ?_)
    · exact absurd h34 (by omega)
    · refine r_aload_n dX11_feed_37 rfl ?_
      refine r_getP dX11_feed_38 g_X11_88 (S.1 _ _ rfl) rfl (S.2 _ _ _ rfl) ?_
      refine r_aload_n dX11_feed_41 rfl ?_
      refine r_getP dX11_feed_42 g_X11_85 (S.1 _ _ rfl) rfl (S.2 _ _ _ rfl) ?_
      refine r_iconst dX11_feed_45 (v := nI 0) kc_0 ?_
      refine r_iaload _ dX11_feed_46 (S.1 _ _ rfl) rfl (by first | decide | omega) (by decide) ?_
      rw [h26]
      refine r_iload_n dX11_feed_47 rfl ?_
      refine r_bipush dX11_feed_48 (v := nI 24) (by decide) ?_
      refine r_bipush dX11_feed_50 (v := nI 8) (by decide) ?_
      refine r_iload_n dX11_feed_52 rfl ?_
      first | refine r_imulN dX11_feed_53 ?_ | refine r_imul dX11_feed_53 ?_
      refine r_isub dX11_feed_54 ?_
      refine r_ishr dX11_feed_55 ?_
      refine r_sipush dX11_feed_56 (v := nI 255) (by decide) ?_
      refine r_iand dX11_feed_59 ?_
      refine r_iastore _ dX11_feed_60 (S.1 _ _ rfl) rfl (by first | decide | omega) (by decide) ?_
      refine r_aload_n dX11_feed_61 rfl ?_
      refine r_getP dX11_feed_62 g_X11_85 (S.1 _ _ rfl) rfl (S.2 _ _ _ rfl) ?_
      refine r_iconst dX11_feed_65 (v := nI 0) kc_0 ?_
      refine r_dup2 dX11_feed_66 ?_
      refine r_iaload _ dX11_feed_67 (S.1 _ _ rfl) rfl (by first | decide | omega) (by decide) ?_
      simp (decide := true) only [va_up_ne, va_up_self]
      rw [h26]
      refine r_iconst dX11_feed_68 (v := nI 1) kc_1 ?_
      first | refine r_iaddN dX11_feed_69 ?_ | refine r_iadd dX11_feed_69 ?_
      refine r_iastore _ dX11_feed_70 (S.1 _ _ rfl) rfl (by first | decide | omega) (by decide) ?_
      first | refine r_iincN dX11_feed_71 rfl kc_1 ?_ | refine r_iinc dX11_feed_71 rfl rfl ?_
      dsimp only [List.set]
      refine r_goto 32 dX11_feed_74 (by decide) ?_
      refine ih (k + 1) (by omega) _ ?_
      have q1 : va_up H 27 (upd (H 27) (T + k) ((x >>> ((nI 24 - nI (8 * k)) &&& 31)) &&& nI 255)) = va_up H 27 (fun j => if T ≤ j ∧ j < T + (k + 1) then fe_b x (j - T) else I 27 j) := by
        rw [e27, ← fl_step, fe_b, pk_mul]
      rw [q1]
      have q2 : va_up H 27 (fun j => if T ≤ j ∧ j < T + (k + 1) then fe_b x (j - T) else I 27 j) 26 = upd (I 26) 0 (nI (T + k)) := by rw [va_up_ne _ _ (by decide), e26]
      rw [q2, fdH, hH, fdH, up_sw (i := 26) (j := 27) (by decide), bx_uu, bx_uu, fa_twice]
      rfl
theorem b_X11_feed (S : St_m sh P) (V : Inv (rs I))  (x y : Int32): am_R mX11_feed (mpo sh P I (fe_res (rs I) x y) (fe_op (rs I) x y)) 1 22 0 0 5 [some (.ref 0), some (.int x), some (.int y), none] [] sh I P := by
  have eT : isN (I 26 0) 160 := V.2.2.2.2.2.1
  have bT := eT.2
  refine r_iload_n dX11_feed_5 rfl ?_
  refine r_iconst dX11_feed_6 (v := nI 1) kc_1 ?_
  refine r_iconst dX11_feed_7 (v := nI 4) kc_4 ?_
  refine r_callS3 (fr' := 0) (lo' := 0) (mc' := 0) (ms' := 0) dX11_feed_8 mm_X11_in ms_X11_in l_X11_142 (by decide) ⟨by decide, by decide⟩ (Nat.zero_le _) (Nat.zero_le _) (Nat.le_of_ble_eq_true rfl) (c_X11_in _ _ _) (am_ki ?_)
  rintro v8 _ _ _ ⟨hb8, rfl, rfl, rfl⟩
  refine r_if_eq 28 dX11_feed_11 (by decide) (fun h11 => ?_) (fun h11 => ?_)
  · replace h11 := hb8.f h11
    have hc : ¬ fe_c (rs I) y := fun h => h11 ((in_ab (by decide) (by decide)).mpr (by obtain ⟨w, hw, e⟩ := h.1.2; exact ⟨w, by have := h.1.1; rw [e, nv_nI (by omega)] at this; exact this, by omega, e⟩))
    refine r_iconst dX11_feed_28 (v := (-1)) kc_m1 ?_
    refine r_ireturn dX11_feed_29 .int rfl rfl ?_
    refine ⟨_, rfl, ?_, ?_, hi_rf _, rfl, rfl⟩
    · rw [fe_res, cif_f hc]
    · rw [fe_op, cif_f hc]
  · replace h11 := hb8.t h11
    obtain ⟨n, hn1, hn2, rfl⟩ := (in_ab (by decide) (by decide)).mp h11
    have nn : nv (nI n) = n := nv_nI (by omega)
    refine r_aload_n dX11_feed_14 rfl ?_
    refine r_getP dX11_feed_15 g_X11_85 (S.1 _ _ rfl) rfl (S.2 _ _ _ rfl) ?_
    refine r_iconst dX11_feed_18 (v := nI 0) kc_0 ?_
    refine r_iaload _ dX11_feed_19 (S.1 _ _ rfl) rfl (by first | decide | omega) (by decide) ?_
    rw [eT.1]
    refine r_iload_n dX11_feed_20 rfl ?_
    first | refine r_iaddN dX11_feed_21 ?_ | refine r_iadd dX11_feed_21 ?_
    refine r_sipush dX11_feed_22 (v := nI 160) (by decide) ?_
    refine r_icmp_leN 30 dX11_feed_25 (by decide) (by omega) (by omega) (fun h25 => ?_) (fun h25 => ?_)
    · have hc : fe_c (rs I) (nI n) := ⟨⟨by rw [nn]; exact hn1, inR_nI (by omega)⟩, by show nv (I 26 0) + nv (nI n) ≤ 160; rw [nn]; exact h25⟩
      refine r_iconst dX11_feed_30 (v := nI 0) kc_0 ?_
      refine r_istore_n dX11_feed_31 (Nat.le_of_ble_eq_true rfl) ?_
      dsimp only [List.set]
      have er : fe_res (rs I) x (nI n) = nI (nv (I 26 0) + n) := by rw [fe_res, cif_t hc, nn]; rfl
      have eo : fe_op (rs I) x (nI n) = rs (fdH I x (nv (I 26 0)) n) := by rw [fe_op, cif_t hc, nn, fdH, rs_up rfl, rs_up rfl]; rfl
      rw [er, eo]
      refine l_X11_feed S h25 hn2 ⟨rfl, hi_up (hi_up (hi_rf _) (by decide)) (by decide)⟩ n 0 (Nat.zero_add _) I ?_
      rw [fdH, Nat.add_zero, ← eT.1]
      funext r
      by_cases h1 : r = 26
      · subst h1; funext j; by_cases h2 : j = 0
        · subst h2; rfl
        · simp [va_up, upd, h2]
      · by_cases h2 : r = 27
        · subst h2; funext j; have h3 : ¬ (nv (I 26 0) ≤ j ∧ j < nv (I 26 0)) := by omega
          simp [va_up, h3]
        · simp [va_up, h1, h2]
    · have hc : ¬ fe_c (rs I) (nI n) := fun h => by have h9 : nv (I 26 0) + nv (nI n) ≤ 160 := h.2; rw [nn] at h9; omega
      refine r_iconst dX11_feed_28 (v := (-1)) kc_m1 ?_
      refine r_ireturn dX11_feed_29 .int rfl rfl ?_
      refine ⟨_, rfl, ?_, ?_, hi_rf _, rfl, rfl⟩
      · rw [fe_res, cif_f hc]
      · rw [fe_op, cif_f hc]
theorem c_X11_feed (S : St_m sh P) (V : Inv (rs I))  (x y : Int32): am_R mX11_feed (mpo sh P I (fe_res (rs I) x y) (fe_op (rs I) x y)) 1 22 0 0 0 [some (.ref 0), some (.int x), some (.int y), none] [] sh I P := by
  refine r_aload_n dX11_feed_0 rfl ?_
  refine r_iconst dX11_feed_1 (v := nI 0) kc_0 ?_
  refine r_putI dX11_feed_2 f_X11_134 (S.1 _ _ rfl) rfl rfl rfl ?_
  have e : rs (va_up I 0 (upd (I 0) 0 (nI 0))) = rs I := rs_no rfl
  have h := b_X11_feed (I := va_up I 0 (upd (I 0) 0 (nI 0))) S (by rw [e]; exact V) x y
  rw [e] at h
  exact mpo_z h
end M4
