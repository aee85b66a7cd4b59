/-! the reference: images, join -/
section M5
variable {sh : ASh} {I : AIn} {P : APt}
theorem cp_step (g : Nat → Int32) (a b k : Nat) (n : Nat) (h : a + n ≤ b ∨ b + n ≤ a) (hk : k < n) : upd (va_cpy g g a b k) (b + k) (va_cpy g g a b k (a + k)) = va_cpy g g a b (k + 1) := by
  funext j
  have h1 : ¬ (b ≤ a + k ∧ a + k < b + k) := by omega
  by_cases hj : j = b + k
  · subst hj
    have h2 : b ≤ b + k ∧ b + k < b + (k + 1) := by omega
    simp only [upd, va_cpy, if_true, h1, if_false, h2]
    congr 1
    omega
  · have h2 : (b ≤ j ∧ j < b + k) ↔ (b ≤ j ∧ j < b + (k + 1)) := by omega
    simp only [upd, va_cpy, hj, if_false, h2]
theorem l_X11_move {q L n a b : Nat} (hq : sh q = (2, L)) (hL : L < 2147483648) (ha : n * a + n ≤ L) (hb : n * b + n ≤ L) (hd : n * a + n ≤ n * b ∨ n * b + n ≤ n * a) : ∀ (m k : Nat), k + m = n → ∀ H, H = va_up I q (va_cpy (I q) (I q) (n * a) (n * b) k) → am_R mX11_move (po_v (fun sh' I' P' => I' = va_up I q (va_cpy (I q) (I q) (n * a) (n * b) n) ∧ sh = sh' ∧ P = P')) 0 0 0 0 3 [some (.ref q), some (.int (nI n)), some (.int (nI a)), some (.int (nI b)), some (.int (nI k))] [] sh H P := by
  intro m
  induction m with
  | zero =>
    intro k hk H hH
    refine r_iload dX11_move_3 rfl ?_
    refine r_iload_n dX11_move_5 rfl ?_
    refine r_icmp_geN 31 dX11_move_6 (by decide) (by omega) (by omega) (fun h6 => ?_) (fun h6 => ?_)
    · refine r_return dX11_move_31 rfl ?_
      have e : k = n := by omega
      subst e
      exact ⟨rfl, hH, rfl, rfl⟩
    · exact absurd h6 (by omega)
  | succ m ih =>
    intro k hk H hH
    have eq : H q = va_cpy (I q) (I q) (n * a) (n * b) k := by rw [hH, va_up_self]
    refine r_iload dX11_move_3 rfl ?_
    refine r_iload_n dX11_move_5 rfl ?_
    refine r_icmp_geN 31 dX11_move_6 (by decide) (by omega) (by omega) (fun h6 => ?_) (fun h6 => ?_)
    · exact absurd h6 (by omega)
    · refine r_aload_n dX11_move_9 rfl ?_
      refine r_iload_n dX11_move_10 rfl ?_
      refine r_iload_n dX11_move_11 rfl ?_
      first | refine r_imulN dX11_move_12 ?_ | refine r_imul dX11_move_12 ?_
      refine r_iload dX11_move_13 rfl ?_
      first | refine r_iaddN dX11_move_15 ?_ | refine r_iadd dX11_move_15 ?_
      refine r_aload_n dX11_move_16 rfl ?_
      refine r_iload_n dX11_move_17 rfl ?_
      refine r_iload_n dX11_move_18 rfl ?_
      first | refine r_imulN dX11_move_19 ?_ | refine r_imul dX11_move_19 ?_
      refine r_iload dX11_move_20 rfl ?_
      first | refine r_iaddN dX11_move_22 ?_ | refine r_iadd dX11_move_22 ?_
      refine r_iaload (n * a + k) dX11_move_23 hq rfl (by omega) hL ?_
      refine r_iastore (n * b + k) dX11_move_24 hq rfl (by omega) hL ?_
      first | refine r_iincN dX11_move_25 rfl kc_1 ?_ | refine r_iinc dX11_move_25 rfl rfl ?_
      dsimp only [List.set]
      refine r_goto 3 dX11_move_28 (by decide) ?_
      refine ih (k + 1) (by omega) _ ?_
      rw [eq, cp_step (I q) (n * a) (n * b) k n hd (by omega), hH, bx_uu]
theorem c_X11_move {q L n a b : Nat} (hq : sh q = (2, L)) (hL : L < 2147483648) (ha : n * a + n ≤ L) (hb : n * b + n ≤ L) (hd : n * a + n ≤ n * b ∨ n * b + n ≤ n * a) : am_R mX11_move (po_v (fun sh' I' P' => I' = va_up I q (va_cpy (I q) (I q) (n * a) (n * b) n) ∧ sh = sh' ∧ P = P')) 0 0 0 0 0 [some (.ref q), some (.int (nI n)), some (.int (nI a)), some (.int (nI b)), none] [] sh I P := by
  refine r_iconst dX11_move_0 (v := nI 0) kc_0 ?_
  refine r_istore dX11_move_1 (Nat.le_of_ble_eq_true rfl) ?_
  dsimp only [List.set]
  refine l_X11_move hq hL ha hb hd n 0 (Nat.zero_add _) I ?_
  funext r
  by_cases hr : r = q
  · subst hr
    funext j
    have h3 : ¬ (n * b ≤ j ∧ j < n * b + 0) := by omega
    simp only [va_up, va_cpy, if_true, h3, if_false]
  · simp only [va_up, hr, if_false]
theorem c_X11_copy (S : St_m sh P) {a b : Nat} (ha : a ≤ 3) (hb : b ≤ 3) (hab : a = 0 ∧ 1 ≤ b ∨ b = 0 ∧ 1 ≤ a) : am_R mX11_copy (po_v (fun sh' I' P' => rs I' = cpB (rs I) a b ∧ hi I' I ∧ sh = sh' ∧ P = P')) 1 24 0 0 0 [some (.ref 0), some (.int (nI a)), some (.int (nI b))] [] sh I P := by
  refine r_aload_n dX11_copy_0 rfl ?_
  refine r_getP dX11_copy_1 g_X11_7 (S.1 _ _ rfl) rfl (S.2 _ _ _ rfl) ?_
  refine r_iconst dX11_copy_4 (v := nI 1) kc_1 ?_
  refine r_iload_n dX11_copy_5 rfl ?_
  refine r_iload_n dX11_copy_6 rfl ?_
  refine r_callS4 (fr' := 0) (lo' := 0) (mc' := 0) (ms' := 0) dX11_copy_7 mm_X11_move ms_X11_move l_X11_138 (by decide) ⟨by decide, by decide⟩ (Nat.zero_le _) (Nat.zero_le _) (Nat.le_of_ble_eq_true rfl) (c_X11_move (S.1 _ _ rfl) (by decide) (by omega) (by omega) (by omega)) (am_kv ?_)
  rintro _ _ _ ⟨rfl, rfl, rfl⟩
  try simp (decide := true) only [va_up_ne, va_up_self]
  refine r_aload_n dX11_copy_10 rfl ?_
  refine r_getP dX11_copy_11 g_X11_13 (S.1 _ _ rfl) rfl (S.2 _ _ _ rfl) ?_
  refine r_iconst dX11_copy_14 (v := nI 3) kc_3 ?_
  refine r_iload_n dX11_copy_15 rfl ?_
  refine r_iload_n dX11_copy_16 rfl ?_
  refine r_callS4 (fr' := 0) (lo' := 0) (mc' := 0) (ms' := 0) dX11_copy_17 mm_X11_move ms_X11_move l_X11_138 (by decide) ⟨by decide, by decide⟩ (Nat.zero_le _) (Nat.zero_le _) (Nat.le_of_ble_eq_true rfl) (c_X11_move (S.1 _ _ rfl) (by decide) (by omega) (by omega) (by omega)) (am_kv ?_)
  rintro _ _ _ ⟨rfl, rfl, rfl⟩
  try simp (decide := true) only [va_up_ne, va_up_self]
  refine r_aload_n dX11_copy_20 rfl ?_
  refine r_getP dX11_copy_21 g_X11_16 (S.1 _ _ rfl) rfl (S.2 _ _ _ rfl) ?_
  refine r_bipush dX11_copy_24 (v := nI 120) (by decide) ?_
  refine r_iload_n dX11_copy_26 rfl ?_
  refine r_iload_n dX11_copy_27 rfl ?_
  refine r_callS4 (fr' := 0) (lo' := 0) (mc' := 0) (ms' := 0) dX11_copy_28 mm_X11_move ms_X11_move l_X11_138 (by decide) ⟨by decide, by decide⟩ (Nat.zero_le _) (Nat.zero_le _) (Nat.le_of_ble_eq_true rfl) (c_X11_move (S.1 _ _ rfl) (by decide) (by omega) (by omega) (by omega)) (am_kv ?_)
  rintro _ _ _ ⟨rfl, rfl, rfl⟩
  try simp (decide := true) only [va_up_ne, va_up_self]
  refine r_aload_n dX11_copy_31 rfl ?_
  refine r_getP dX11_copy_32 g_X11_19 (S.1 _ _ rfl) rfl (S.2 _ _ _ rfl) ?_
  refine r_bipush dX11_copy_35 (v := nI 120) (by decide) ?_
  refine r_iload_n dX11_copy_37 rfl ?_
  refine r_iload_n dX11_copy_38 rfl ?_
  refine r_callS4 (fr' := 0) (lo' := 0) (mc' := 0) (ms' := 0) dX11_copy_39 mm_X11_move ms_X11_move l_X11_138 (by decide) ⟨by decide, by decide⟩ (Nat.zero_le _) (Nat.zero_le _) (Nat.le_of_ble_eq_true rfl) (c_X11_move (S.1 _ _ rfl) (by decide) (by omega) (by omega) (by omega)) (am_kv ?_)
  rintro _ _ _ ⟨rfl, rfl, rfl⟩
  try simp (decide := true) only [va_up_ne, va_up_self]
  refine r_aload_n dX11_copy_42 rfl ?_
  refine r_getP dX11_copy_43 g_X11_22 (S.1 _ _ rfl) rfl (S.2 _ _ _ rfl) ?_
  refine r_bipush dX11_copy_46 (v := nI 120) (by decide) ?_
  refine r_iload_n dX11_copy_48 rfl ?_
  refine r_iload_n dX11_copy_49 rfl ?_
  refine r_callS4 (fr' := 0) (lo' := 0) (mc' := 0) (ms' := 0) dX11_copy_50 mm_X11_move ms_X11_move l_X11_138 (by decide) ⟨by decide, by decide⟩ (Nat.zero_le _) (Nat.zero_le _) (Nat.le_of_ble_eq_true rfl) (c_X11_move (S.1 _ _ rfl) (by decide) (by omega) (by omega) (by omega)) (am_kv ?_)
  rintro _ _ _ ⟨rfl, rfl, rfl⟩
  try simp (decide := true) only [va_up_ne, va_up_self]
  refine r_aload_n dX11_copy_53 rfl ?_
  refine r_getP dX11_copy_54 g_X11_25 (S.1 _ _ rfl) rfl (S.2 _ _ _ rfl) ?_
  refine r_iconst dX11_copy_57 (v := nI 1) kc_1 ?_
  refine r_iload_n dX11_copy_58 rfl ?_
  refine r_iload_n dX11_copy_59 rfl ?_
  refine r_callS4 (fr' := 0) (lo' := 0) (mc' := 0) (ms' := 0) dX11_copy_60 mm_X11_move ms_X11_move l_X11_138 (by decide) ⟨by decide, by decide⟩ (Nat.zero_le _) (Nat.zero_le _) (Nat.le_of_ble_eq_true rfl) (c_X11_move (S.1 _ _ rfl) (by decide) (by omega) (by omega) (by omega)) (am_kv ?_)
  rintro _ _ _ ⟨rfl, rfl, rfl⟩
  try simp (decide := true) only [va_up_ne, va_up_self]
  refine r_aload_n dX11_copy_63 rfl ?_
  refine r_getP dX11_copy_64 g_X11_28 (S.1 _ _ rfl) rfl (S.2 _ _ _ rfl) ?_
  refine r_bipush dX11_copy_67 (v := nI 30) (by decide) ?_
  refine r_iload_n dX11_copy_69 rfl ?_
  refine r_iload_n dX11_copy_70 rfl ?_
  refine r_callS4 (fr' := 0) (lo' := 0) (mc' := 0) (ms' := 0) dX11_copy_71 mm_X11_move ms_X11_move l_X11_138 (by decide) ⟨by decide, by decide⟩ (Nat.zero_le _) (Nat.zero_le _) (Nat.le_of_ble_eq_true rfl) (c_X11_move (S.1 _ _ rfl) (by decide) (by omega) (by omega) (by omega)) (am_kv ?_)
  rintro _ _ _ ⟨rfl, rfl, rfl⟩
  try simp (decide := true) only [va_up_ne, va_up_self]
  refine r_aload_n dX11_copy_74 rfl ?_
  refine r_getP dX11_copy_75 g_X11_31 (S.1 _ _ rfl) rfl (S.2 _ _ _ rfl) ?_
  refine r_iconst dX11_copy_78 (v := nI 1) kc_1 ?_
  refine r_iload_n dX11_copy_79 rfl ?_
  refine r_iload_n dX11_copy_80 rfl ?_
  refine r_callS4 (fr' := 0) (lo' := 0) (mc' := 0) (ms' := 0) dX11_copy_81 mm_X11_move ms_X11_move l_X11_138 (by decide) ⟨by decide, by decide⟩ (Nat.zero_le _) (Nat.zero_le _) (Nat.le_of_ble_eq_true rfl) (c_X11_move (S.1 _ _ rfl) (by decide) (by omega) (by omega) (by omega)) (am_kv ?_)
  rintro _ _ _ ⟨rfl, rfl, rfl⟩
  try simp (decide := true) only [va_up_ne, va_up_self]
  refine r_aload_n dX11_copy_84 rfl ?_
  refine r_getP dX11_copy_85 g_X11_34 (S.1 _ _ rfl) rfl (S.2 _ _ _ rfl) ?_
  refine r_bipush dX11_copy_88 (v := nI 40) (by decide) ?_
  refine r_iload_n dX11_copy_90 rfl ?_
  refine r_iload_n dX11_copy_91 rfl ?_
  refine r_callS4 (fr' := 0) (lo' := 0) (mc' := 0) (ms' := 0) dX11_copy_92 mm_X11_move ms_X11_move l_X11_138 (by decide) ⟨by decide, by decide⟩ (Nat.zero_le _) (Nat.zero_le _) (Nat.le_of_ble_eq_true rfl) (c_X11_move (S.1 _ _ rfl) (by decide) (by omega) (by omega) (by omega)) (am_kv ?_)
  rintro _ _ _ ⟨rfl, rfl, rfl⟩
  try simp (decide := true) only [va_up_ne, va_up_self]
  refine r_aload_n dX11_copy_95 rfl ?_
  refine r_getP dX11_copy_96 g_X11_37 (S.1 _ _ rfl) rfl (S.2 _ _ _ rfl) ?_
  refine r_bipush dX11_copy_99 (v := nI 40) (by decide) ?_
  refine r_iload_n dX11_copy_101 rfl ?_
  refine r_iload_n dX11_copy_102 rfl ?_
  refine r_callS4 (fr' := 0) (lo' := 0) (mc' := 0) (ms' := 0) dX11_copy_103 mm_X11_move ms_X11_move l_X11_138 (by decide) ⟨by decide, by decide⟩ (Nat.zero_le _) (Nat.zero_le _) (Nat.le_of_ble_eq_true rfl) (c_X11_move (S.1 _ _ rfl) (by decide) (by omega) (by omega) (by omega)) (am_kv ?_)
  rintro _ _ _ ⟨rfl, rfl, rfl⟩
  try simp (decide := true) only [va_up_ne, va_up_self]
  refine r_aload_n dX11_copy_106 rfl ?_
  refine r_getP dX11_copy_107 g_X11_40 (S.1 _ _ rfl) rfl (S.2 _ _ _ rfl) ?_
  refine r_iconst dX11_copy_110 (v := nI 1) kc_1 ?_
  refine r_iload_n dX11_copy_111 rfl ?_
  refine r_iload_n dX11_copy_112 rfl ?_
  refine r_callS4 (fr' := 0) (lo' := 0) (mc' := 0) (ms' := 0) dX11_copy_113 mm_X11_move ms_X11_move l_X11_138 (by decide) ⟨by decide, by decide⟩ (Nat.zero_le _) (Nat.zero_le _) (Nat.le_of_ble_eq_true rfl) (c_X11_move (S.1 _ _ rfl) (by decide) (by omega) (by omega) (by omega)) (am_kv ?_)
  rintro _ _ _ ⟨rfl, rfl, rfl⟩
  try simp (decide := true) only [va_up_ne, va_up_self]
  refine r_aload_n dX11_copy_116 rfl ?_
  refine r_getP dX11_copy_117 g_X11_43 (S.1 _ _ rfl) rfl (S.2 _ _ _ rfl) ?_
  refine r_bipush dX11_copy_120 (v := nI 120) (by decide) ?_
  refine r_iload_n dX11_copy_122 rfl ?_
  refine r_iload_n dX11_copy_123 rfl ?_
  refine r_callS4 (fr' := 0) (lo' := 0) (mc' := 0) (ms' := 0) dX11_copy_124 mm_X11_move ms_X11_move l_X11_138 (by decide) ⟨by decide, by decide⟩ (Nat.zero_le _) (Nat.zero_le _) (Nat.le_of_ble_eq_true rfl) (c_X11_move (S.1 _ _ rfl) (by decide) (by omega) (by omega) (by omega)) (am_kv ?_)
  rintro _ _ _ ⟨rfl, rfl, rfl⟩
  try simp (decide := true) only [va_up_ne, va_up_self]
  refine r_aload_n dX11_copy_127 rfl ?_
  refine r_getP dX11_copy_128 g_X11_46 (S.1 _ _ rfl) rfl (S.2 _ _ _ rfl) ?_
  refine r_iconst dX11_copy_131 (v := nI 1) kc_1 ?_
  refine r_iload_n dX11_copy_132 rfl ?_
  refine r_iload_n dX11_copy_133 rfl ?_
  refine r_callS4 (fr' := 0) (lo' := 0) (mc' := 0) (ms' := 0) dX11_copy_134 mm_X11_move ms_X11_move l_X11_138 (by decide) ⟨by decide, by decide⟩ (Nat.zero_le _) (Nat.zero_le _) (Nat.le_of_ble_eq_true rfl) (c_X11_move (S.1 _ _ rfl) (by decide) (by omega) (by omega) (by omega)) (am_kv ?_)
  rintro _ _ _ ⟨rfl, rfl, rfl⟩
  try simp (decide := true) only [va_up_ne, va_up_self]
  refine r_aload_n dX11_copy_137 rfl ?_
  refine r_getP dX11_copy_138 g_X11_49 (S.1 _ _ rfl) rfl (S.2 _ _ _ rfl) ?_
  refine r_bipush dX11_copy_141 (v := nI 80) (by decide) ?_
  refine r_iload_n dX11_copy_143 rfl ?_
  refine r_iload_n dX11_copy_144 rfl ?_
  refine r_callS4 (fr' := 0) (lo' := 0) (mc' := 0) (ms' := 0) dX11_copy_145 mm_X11_move ms_X11_move l_X11_138 (by decide) ⟨by decide, by decide⟩ (Nat.zero_le _) (Nat.zero_le _) (Nat.le_of_ble_eq_true rfl) (c_X11_move (S.1 _ _ rfl) (by decide) (by omega) (by omega) (by omega)) (am_kv ?_)
  rintro _ _ _ ⟨rfl, rfl, rfl⟩
  try simp (decide := true) only [va_up_ne, va_up_self]
  refine r_aload_n dX11_copy_148 rfl ?_
  refine r_getP dX11_copy_149 g_X11_52 (S.1 _ _ rfl) rfl (S.2 _ _ _ rfl) ?_
  refine r_iconst dX11_copy_152 (v := nI 1) kc_1 ?_
  refine r_iload_n dX11_copy_153 rfl ?_
  refine r_iload_n dX11_copy_154 rfl ?_
  refine r_callS4 (fr' := 0) (lo' := 0) (mc' := 0) (ms' := 0) dX11_copy_155 mm_X11_move ms_X11_move l_X11_138 (by decide) ⟨by decide, by decide⟩ (Nat.zero_le _) (Nat.zero_le _) (Nat.le_of_ble_eq_true rfl) (c_X11_move (S.1 _ _ rfl) (by decide) (by omega) (by omega) (by omega)) (am_kv ?_)
  rintro _ _ _ ⟨rfl, rfl, rfl⟩
  try simp (decide := true) only [va_up_ne, va_up_self]
  refine r_aload_n dX11_copy_158 rfl ?_
  refine r_getP dX11_copy_159 g_X11_55 (S.1 _ _ rfl) rfl (S.2 _ _ _ rfl) ?_
  refine r_iconst dX11_copy_162 (v := nI 1) kc_1 ?_
  refine r_iload_n dX11_copy_163 rfl ?_
  refine r_iload_n dX11_copy_164 rfl ?_
  refine r_callS4 (fr' := 0) (lo' := 0) (mc' := 0) (ms' := 0) dX11_copy_165 mm_X11_move ms_X11_move l_X11_138 (by decide) ⟨by decide, by decide⟩ (Nat.zero_le _) (Nat.zero_le _) (Nat.le_of_ble_eq_true rfl) (c_X11_move (S.1 _ _ rfl) (by decide) (by omega) (by omega) (by omega)) (am_kv ?_)
  rintro _ _ _ ⟨rfl, rfl, rfl⟩
  try simp (decide := true) only [va_up_ne, va_up_self]
  refine r_aload_n dX11_copy_168 rfl ?_
  refine r_getP dX11_copy_169 g_X11_58 (S.1 _ _ rfl) rfl (S.2 _ _ _ rfl) ?_
  refine r_iconst dX11_copy_172 (v := nI 1) kc_1 ?_
  refine r_iload_n dX11_copy_173 rfl ?_
  refine r_iload_n dX11_copy_174 rfl ?_
  refine r_callS4 (fr' := 0) (lo' := 0) (mc' := 0) (ms' := 0) dX11_copy_175 mm_X11_move ms_X11_move l_X11_138 (by decide) ⟨by decide, by decide⟩ (Nat.zero_le _) (Nat.zero_le _) (Nat.le_of_ble_eq_true rfl) (c_X11_move (S.1 _ _ rfl) (by decide) (by omega) (by omega) (by omega)) (am_kv ?_)
  rintro _ _ _ ⟨rfl, rfl, rfl⟩
  try simp (decide := true) only [va_up_ne, va_up_self]
  refine r_aload_n dX11_copy_178 rfl ?_
  refine r_getP dX11_copy_179 g_X11_61 (S.1 _ _ rfl) rfl (S.2 _ _ _ rfl) ?_
  refine r_iconst dX11_copy_182 (v := nI 1) kc_1 ?_
  refine r_iload_n dX11_copy_183 rfl ?_
  refine r_iload_n dX11_copy_184 rfl ?_
  refine r_callS4 (fr' := 0) (lo' := 0) (mc' := 0) (ms' := 0) dX11_copy_185 mm_X11_move ms_X11_move l_X11_138 (by decide) ⟨by decide, by decide⟩ (Nat.zero_le _) (Nat.zero_le _) (Nat.le_of_ble_eq_true rfl) (c_X11_move (S.1 _ _ rfl) (by decide) (by omega) (by omega) (by omega)) (am_kv ?_)
  rintro _ _ _ ⟨rfl, rfl, rfl⟩
  try simp (decide := true) only [va_up_ne, va_up_self]
  refine r_aload_n dX11_copy_188 rfl ?_
  refine r_getP dX11_copy_189 g_X11_64 (S.1 _ _ rfl) rfl (S.2 _ _ _ rfl) ?_
  refine r_iconst dX11_copy_192 (v := nI 1) kc_1 ?_
  refine r_iload_n dX11_copy_193 rfl ?_
  refine r_iload_n dX11_copy_194 rfl ?_
  refine r_callS4 (fr' := 0) (lo' := 0) (mc' := 0) (ms' := 0) dX11_copy_195 mm_X11_move ms_X11_move l_X11_138 (by decide) ⟨by decide, by decide⟩ (Nat.zero_le _) (Nat.zero_le _) (Nat.le_of_ble_eq_true rfl) (c_X11_move (S.1 _ _ rfl) (by decide) (by omega) (by omega) (by omega)) (am_kv ?_)
  rintro _ _ _ ⟨rfl, rfl, rfl⟩
  try simp (decide := true) only [va_up_ne, va_up_self]
  refine r_aload_n dX11_copy_198 rfl ?_
  refine r_getP dX11_copy_199 g_X11_67 (S.1 _ _ rfl) rfl (S.2 _ _ _ rfl) ?_
  refine r_bipush dX11_copy_202 (v := nI 24) (by decide) ?_
  refine r_iload_n dX11_copy_204 rfl ?_
  refine r_iload_n dX11_copy_205 rfl ?_
  refine r_callS4 (fr' := 0) (lo' := 0) (mc' := 0) (ms' := 0) dX11_copy_206 mm_X11_move ms_X11_move l_X11_138 (by decide) ⟨by decide, by decide⟩ (Nat.zero_le _) (Nat.zero_le _) (Nat.le_of_ble_eq_true rfl) (c_X11_move (S.1 _ _ rfl) (by decide) (by omega) (by omega) (by omega)) (am_kv ?_)
  rintro _ _ _ ⟨rfl, rfl, rfl⟩
  try simp (decide := true) only [va_up_ne, va_up_self]
  refine r_aload_n dX11_copy_209 rfl ?_
  refine r_getP dX11_copy_210 g_X11_70 (S.1 _ _ rfl) rfl (S.2 _ _ _ rfl) ?_
  refine r_iconst dX11_copy_213 (v := nI 1) kc_1 ?_
  refine r_iload_n dX11_copy_214 rfl ?_
  refine r_iload_n dX11_copy_215 rfl ?_
  refine r_callS4 (fr' := 0) (lo' := 0) (mc' := 0) (ms' := 0) dX11_copy_216 mm_X11_move ms_X11_move l_X11_138 (by decide) ⟨by decide, by decide⟩ (Nat.zero_le _) (Nat.zero_le _) (Nat.le_of_ble_eq_true rfl) (c_X11_move (S.1 _ _ rfl) (by decide) (by omega) (by omega) (by omega)) (am_kv ?_)
  rintro _ _ _ ⟨rfl, rfl, rfl⟩
  try simp (decide := true) only [va_up_ne, va_up_self]
  refine r_aload_n dX11_copy_219 rfl ?_
  refine r_getP dX11_copy_220 g_X11_73 (S.1 _ _ rfl) rfl (S.2 _ _ _ rfl) ?_
  refine r_bipush dX11_copy_223 (v := nI 40) (by decide) ?_
  refine r_iload_n dX11_copy_225 rfl ?_
  refine r_iload_n dX11_copy_226 rfl ?_
  refine r_callS4 (fr' := 0) (lo' := 0) (mc' := 0) (ms' := 0) dX11_copy_227 mm_X11_move ms_X11_move l_X11_138 (by decide) ⟨by decide, by decide⟩ (Nat.zero_le _) (Nat.zero_le _) (Nat.le_of_ble_eq_true rfl) (c_X11_move (S.1 _ _ rfl) (by decide) (by omega) (by omega) (by omega)) (am_kv ?_)
  rintro _ _ _ ⟨rfl, rfl, rfl⟩
  try simp (decide := true) only [va_up_ne, va_up_self]
  refine r_aload_n dX11_copy_230 rfl ?_
  refine r_getP dX11_copy_231 g_X11_76 (S.1 _ _ rfl) rfl (S.2 _ _ _ rfl) ?_
  refine r_bipush dX11_copy_234 (v := nI 8) (by decide) ?_
  refine r_iload_n dX11_copy_236 rfl ?_
  refine r_iload_n dX11_copy_237 rfl ?_
  refine r_callS4 (fr' := 0) (lo' := 0) (mc' := 0) (ms' := 0) dX11_copy_238 mm_X11_move ms_X11_move l_X11_138 (by decide) ⟨by decide, by decide⟩ (Nat.zero_le _) (Nat.zero_le _) (Nat.le_of_ble_eq_true rfl) (c_X11_move (S.1 _ _ rfl) (by decide) (by omega) (by omega) (by omega)) (am_kv ?_)
  rintro _ _ _ ⟨rfl, rfl, rfl⟩
  try simp (decide := true) only [va_up_ne, va_up_self]
  refine r_aload_n dX11_copy_241 rfl ?_
  refine r_getP dX11_copy_242 g_X11_79 (S.1 _ _ rfl) rfl (S.2 _ _ _ rfl) ?_
  refine r_iconst dX11_copy_245 (v := nI 1) kc_1 ?_
  refine r_iload_n dX11_copy_246 rfl ?_
  refine r_iload_n dX11_copy_247 rfl ?_
  refine r_callS4 (fr' := 0) (lo' := 0) (mc' := 0) (ms' := 0) dX11_copy_248 mm_X11_move ms_X11_move l_X11_138 (by decide) ⟨by decide, by decide⟩ (Nat.zero_le _) (Nat.zero_le _) (Nat.le_of_ble_eq_true rfl) (c_X11_move (S.1 _ _ rfl) (by decide) (by omega) (by omega) (by omega)) (am_kv ?_)
  rintro _ _ _ ⟨rfl, rfl, rfl⟩
  try simp (decide := true) only [va_up_ne, va_up_self]
  refine r_aload_n dX11_copy_251 rfl ?_
  refine r_getP dX11_copy_252 g_X11_82 (S.1 _ _ rfl) rfl (S.2 _ _ _ rfl) ?_
  refine r_bipush dX11_copy_255 (v := nI 15) (by decide) ?_
  refine r_iload_n dX11_copy_257 rfl ?_
  refine r_iload_n dX11_copy_258 rfl ?_
  refine r_callS4 (fr' := 0) (lo' := 0) (mc' := 0) (ms' := 0) dX11_copy_259 mm_X11_move ms_X11_move l_X11_138 (by decide) ⟨by decide, by decide⟩ (Nat.zero_le _) (Nat.zero_le _) (Nat.le_of_ble_eq_true rfl) (c_X11_move (S.1 _ _ rfl) (by decide) (by omega) (by omega) (by omega)) (am_kv ?_)
  rintro _ _ _ ⟨rfl, rfl, rfl⟩
  try simp (decide := true) only [va_up_ne, va_up_self]
  refine r_aload_n dX11_copy_262 rfl ?_
  refine r_getP dX11_copy_263 g_X11_85 (S.1 _ _ rfl) rfl (S.2 _ _ _ rfl) ?_
  refine r_iconst dX11_copy_266 (v := nI 1) kc_1 ?_
  refine r_iload_n dX11_copy_267 rfl ?_
  refine r_iload_n dX11_copy_268 rfl ?_
  refine r_callS4 (fr' := 0) (lo' := 0) (mc' := 0) (ms' := 0) dX11_copy_269 mm_X11_move ms_X11_move l_X11_138 (by decide) ⟨by decide, by decide⟩ (Nat.zero_le _) (Nat.zero_le _) (Nat.le_of_ble_eq_true rfl) (c_X11_move (S.1 _ _ rfl) (by decide) (by omega) (by omega) (by omega)) (am_kv ?_)
  rintro _ _ _ ⟨rfl, rfl, rfl⟩
  try simp (decide := true) only [va_up_ne, va_up_self]
  refine r_aload_n dX11_copy_272 rfl ?_
  refine r_getP dX11_copy_273 g_X11_88 (S.1 _ _ rfl) rfl (S.2 _ _ _ rfl) ?_
  refine r_sipush dX11_copy_276 (v := nI 160) (by decide) ?_
  refine r_iload_n dX11_copy_279 rfl ?_
  refine r_iload_n dX11_copy_280 rfl ?_
  refine r_callS4 (fr' := 0) (lo' := 0) (mc' := 0) (ms' := 0) dX11_copy_281 mm_X11_move ms_X11_move l_X11_138 (by decide) ⟨by decide, by decide⟩ (Nat.zero_le _) (Nat.zero_le _) (Nat.le_of_ble_eq_true rfl) (c_X11_move (S.1 _ _ rfl) (by decide) (by omega) (by omega) (by omega)) (am_kv ?_)
  rintro _ _ _ ⟨rfl, rfl, rfl⟩
  try simp (decide := true) only [va_up_ne, va_up_self]
  refine r_return dX11_copy_284 rfl ?_
  refine ⟨rfl, ?_, ?_, rfl, rfl⟩
  · funext r
    rcases (show r = 1 ∨ r = 2 ∨ r = 3 ∨ r = 4 ∨ r = 5 ∨ r = 6 ∨ r = 7 ∨ r = 8 ∨ r = 9 ∨ r = 10 ∨ r = 11 ∨ r = 12 ∨ r = 13 ∨ r = 14 ∨ r = 15 ∨ r = 16 ∨ r = 17 ∨ r = 18 ∨ r = 19 ∨ r = 20 ∨ r = 21 ∨ r = 22 ∨ r = 23 ∨ r = 24 ∨ r = 25 ∨ r = 26 ∨ r = 27 ∨ r = 0 ∨ 28 ≤ r by omega) with hr | hr | hr | hr | hr | hr | hr | hr | hr | hr | hr | hr | hr | hr | hr | hr | hr | hr | hr | hr | hr | hr | hr | hr | hr | hr | hr | hr | hr
    · subst hr; rw [rs_at rfl]; simp (decide := true) only [va_up_ne, va_up_self]; rfl
    · subst hr; rw [rs_at rfl]; simp (decide := true) only [va_up_ne, va_up_self]; rfl
    · subst hr; rw [rs_at rfl]; simp (decide := true) only [va_up_ne, va_up_self]; rfl
    · subst hr; rw [rs_at rfl]; simp (decide := true) only [va_up_ne, va_up_self]; rfl
    · subst hr; rw [rs_at rfl]; simp (decide := true) only [va_up_ne, va_up_self]; rfl
    · subst hr; rw [rs_at rfl]; simp (decide := true) only [va_up_ne, va_up_self]; rfl
    · subst hr; rw [rs_at rfl]; simp (decide := true) only [va_up_ne, va_up_self]; rfl
    · subst hr; rw [rs_at rfl]; simp (decide := true) only [va_up_ne, va_up_self]; rfl
    · subst hr; rw [rs_at rfl]; simp (decide := true) only [va_up_ne, va_up_self]; rfl
    · subst hr; rw [rs_at rfl]; simp (decide := true) only [va_up_ne, va_up_self]; rfl
    · subst hr; rw [rs_at rfl]; simp (decide := true) only [va_up_ne, va_up_self]; rfl
    · subst hr; rw [rs_at rfl]; simp (decide := true) only [va_up_ne, va_up_self]; rfl
    · subst hr; rw [rs_at rfl]; simp (decide := true) only [va_up_ne, va_up_self]; rfl
    · subst hr; rw [rs_at rfl]; simp (decide := true) only [va_up_ne, va_up_self]; rfl
    · subst hr; rw [rs_at rfl]; simp (decide := true) only [va_up_ne, va_up_self]; rfl
    · subst hr; rw [rs_at rfl]; simp (decide := true) only [va_up_ne, va_up_self]; rfl
    · subst hr; rw [rs_at rfl]; simp (decide := true) only [va_up_ne, va_up_self]; rfl
    · subst hr; rw [rs_at rfl]; simp (decide := true) only [va_up_ne, va_up_self]; rfl
    · subst hr; rw [rs_at rfl]; simp (decide := true) only [va_up_ne, va_up_self]; rfl
    · subst hr; rw [rs_at rfl]; simp (decide := true) only [va_up_ne, va_up_self]; rfl
    · subst hr; rw [rs_at rfl]; simp (decide := true) only [va_up_ne, va_up_self]; rfl
    · subst hr; rw [rs_at rfl]; simp (decide := true) only [va_up_ne, va_up_self]; rfl
    · subst hr; rw [rs_at rfl]; simp (decide := true) only [va_up_ne, va_up_self]; rfl
    · subst hr; rw [rs_at rfl]; simp (decide := true) only [va_up_ne, va_up_self]; rfl
    · subst hr; rw [rs_at rfl]; simp (decide := true) only [va_up_ne, va_up_self]; rfl
    · subst hr; rw [rs_at rfl]; simp (decide := true) only [va_up_ne, va_up_self]; rfl
    · subst hr; rw [rs_at rfl]; simp (decide := true) only [va_up_ne, va_up_self]; rfl
    · subst hr; funext j; simp [rs, cpB, mrow, va_cpy]
    · have e1 : bl r = 0 := by unfold bl; split <;> first | rfl | omega
      have e2 : cpB (rs I) a b r = rs I r := by funext j; rw [cpB, e1]; have h3 : ¬ (0 * b ≤ j ∧ j < 0 * b + 0) := by omega
                                                simp only [va_cpy, h3, if_false]
      rw [e2]
      unfold rs
      have h9 : ∀ k, k ≤ 27 → r ≠ k := fun k hk e => by omega
      rw [va_up_ne _ _ (h9 _ (by decide)), va_up_ne _ _ (h9 _ (by decide)), va_up_ne _ _ (h9 _ (by decide)), va_up_ne _ _ (h9 _ (by decide)), va_up_ne _ _ (h9 _ (by decide)), va_up_ne _ _ (h9 _ (by decide)), va_up_ne _ _ (h9 _ (by decide)), va_up_ne _ _ (h9 _ (by decide)), va_up_ne _ _ (h9 _ (by decide)), va_up_ne _ _ (h9 _ (by decide)), va_up_ne _ _ (h9 _ (by decide)), va_up_ne _ _ (h9 _ (by decide)), va_up_ne _ _ (h9 _ (by decide)), va_up_ne _ _ (h9 _ (by decide)), va_up_ne _ _ (h9 _ (by decide)), va_up_ne _ _ (h9 _ (by decide)), va_up_ne _ _ (h9 _ (by decide)), va_up_ne _ _ (h9 _ (by decide)), va_up_ne _ _ (h9 _ (by decide)), va_up_ne _ _ (h9 _ (by decide)), va_up_ne _ _ (h9 _ (by decide)), va_up_ne _ _ (h9 _ (by decide)), va_up_ne _ _ (h9 _ (by decide)), va_up_ne _ _ (h9 _ (by decide)), va_up_ne _ _ (h9 _ (by decide)), va_up_ne _ _ (h9 _ (by decide)), va_up_ne _ _ (h9 _ (by decide))]
  · exact hi_up (hi_up (hi_up (hi_up (hi_up (hi_up (hi_up (hi_up (hi_up (hi_up (hi_up (hi_up (hi_up (hi_up (hi_up (hi_up (hi_up (hi_up (hi_up (hi_up (hi_up (hi_up (hi_up (hi_up (hi_up (hi_up (hi_up (hi_rf _) (by decide)) (by decide)) (by decide)) (by decide)) (by decide)) (by decide)) (by decide)) (by decide)) (by decide)) (by decide)) (by decide)) (by decide)) (by decide)) (by decide)) (by decide)) (by decide)) (by decide)) (by decide)) (by decide)) (by decide)) (by decide)) (by decide)) (by decide)) (by decide)) (by decide)) (by decide)) (by decide)
theorem b_X11_image (S : St_m sh P) (V : Inv (rs I))  (x : Int32): am_R mX11_image (mpo sh P I (im_res x) (im_op (rs I) x)) 2 46 0 0 5 [some (.ref 0), some (.int x)] [] sh I P := by
  refine r_iload_n dX11_image_5 rfl ?_
  refine r_iconst dX11_image_6 (v := nI 0) kc_0 ?_
  refine r_iconst dX11_image_7 (v := nI 2) kc_2 ?_
  refine r_callS3 (fr' := 0) (lo' := 0) (mc' := 0) (ms' := 0) dX11_image_8 mm_X11_in ms_X11_in l_X11_142 (by decide) ⟨by decide, by decide⟩ (Nat.zero_le _) (Nat.zero_le _) (Nat.le_of_ble_eq_true rfl) (c_X11_in _ _ _) (am_ki ?_)
  rintro v8 _ _ _ ⟨hb8, rfl, rfl, rfl⟩
  refine r_if_ne 16 dX11_image_11 (by decide) (fun h11 => ?_) (fun h11 => ?_)
  · replace h11 := hb8.t h11
    obtain ⟨j, hj, rfl⟩ := (in_iff (by decide)).mp h11
    have hc : inR (nI j) 3 := inR_nI (by omega)
    have nj2 : nv (nI j) = j := nv_nI (by omega)
    refine r_aload_n dX11_image_16 rfl ?_
    refine r_iconst dX11_image_17 (v := nI 0) kc_0 ?_
    refine r_iload_n dX11_image_18 rfl ?_
    refine r_iconst dX11_image_19 (v := nI 1) kc_1 ?_
    first | refine r_iaddN dX11_image_20 ?_ | refine r_iadd dX11_image_20 ?_
    refine r_callV2 (fr' := 1) (lo' := 24) (mc' := 0) (ms' := 0) dX11_image_21 mm_X11_copy mv_X11_copy l_X11_245 (S.1 _ _ rfl) mc_X11_copy (by decide) ⟨by decide, by decide⟩ (Nat.zero_le _) (Nat.zero_le _) (Nat.le_of_ble_eq_true rfl) (c_X11_copy S (by omega) (by omega) (Or.inl ⟨rfl, by omega⟩)) (am_kv ?_)
    rintro _ J _ ⟨q1, q2, rfl, rfl⟩
    refine r_aload_n dX11_image_24 rfl ?_
    refine r_getP dX11_image_25 g_X11_131 (S.1 _ _ rfl) rfl (S.2 _ _ _ rfl) ?_
    refine r_iload_n dX11_image_28 rfl ?_
    refine r_iconst dX11_image_29 (v := nI 1) kc_1 ?_
    refine r_bastore _ dX11_image_30 (S.1 _ _ rfl) rfl (by first | decide | omega) (by decide) rfl ?_
    refine r_iconst dX11_image_31 (v := nI 1) kc_1 ?_
    refine r_ireturn dX11_image_32 .boolean rfl rfl ?_
    refine ⟨_, rfl, ?_, ?_, hi_up q2 (by decide), rfl, rfl⟩
    · rw [im_res, cif_t hc]
    · have e47 : J 47 = rs I 47 := by
        have h9 := congrFun q1 47
        rw [rs_at rfl] at h9
        rw [h9]
        funext j
        simp [cpB, bl, va_cpy]
      rw [im_op, cif_t hc, nj2, rs_up rfl, q1, e47]
  · replace h11 := hb8.f h11
    have hc : ¬ inR x 3 := fun h => h11 ((in_iff (by decide)).mpr (by obtain ⟨w, hw, e⟩ := h; exact ⟨w, by omega, e⟩))
    refine r_iconst dX11_image_14 (v := nI 0) kc_0 ?_
    refine r_ireturn dX11_image_15 .boolean rfl rfl ?_
    refine ⟨_, rfl, ?_, ?_, hi_rf _, rfl, rfl⟩
    · rw [im_res, cif_f hc]
    · rw [im_op, cif_f hc]
theorem c_X11_image (S : St_m sh P) (V : Inv (rs I))  (x : Int32): am_R mX11_image (mpo sh P I (im_res x) (im_op (rs I) x)) 2 46 0 0 0 [some (.ref 0), some (.int x)] [] sh I P := by
  refine r_aload_n dX11_image_0 rfl ?_
  refine r_iconst dX11_image_1 (v := nI 0) kc_0 ?_
  refine r_putI dX11_image_2 f_X11_134 (S.1 _ _ rfl) rfl rfl rfl ?_
  have e : rs (va_up I 0 (upd (I 0) 0 (nI 0))) = rs I := rs_no rfl
  have h := b_X11_image (I := va_up I 0 (upd (I 0) 0 (nI 0))) S (by rw [e]; exact V) x
  rw [e] at h
  exact mpo_z h
theorem b_X11_again (S : St_m sh P) (V : Inv (rs I))  (x : Int32): am_R mX11_again (mpo sh P I (ag_res (rs I) x) (ag_op (rs I) x)) 2 46 0 0 5 [some (.ref 0), some (.int x)] [] sh I P := by
  refine r_iload_n dX11_again_5 rfl ?_
  refine r_iconst dX11_again_6 (v := nI 0) kc_0 ?_
  refine r_iconst dX11_again_7 (v := nI 2) kc_2 ?_
  refine r_callS3 (fr' := 0) (lo' := 0) (mc' := 0) (ms' := 0) dX11_again_8 mm_X11_in ms_X11_in l_X11_142 (by decide) ⟨by decide, by decide⟩ (Nat.zero_le _) (Nat.zero_le _) (Nat.le_of_ble_eq_true rfl) (c_X11_in _ _ _) (am_ki ?_)
  rintro v8 _ _ _ ⟨hb8, rfl, rfl, rfl⟩
  refine r_if_eq 23 dX11_again_11 (by decide) (fun h11 => ?_) (fun h11 => ?_)
  · replace h11 := hb8.f h11
    have hc : ¬ ag_c (rs I) x := fun h => h11 ((in_iff (by decide)).mpr (by obtain ⟨w, hw, e⟩ := h.1; exact ⟨w, by omega, e⟩))
    refine r_iconst dX11_again_23 (v := nI 0) kc_0 ?_
    refine r_ireturn dX11_again_24 .boolean rfl rfl ?_
    refine ⟨_, rfl, ?_, ?_, hi_rf _, rfl, rfl⟩
    · rw [ag_res, cif_f hc]
    · rw [ag_op, cif_f hc]
  · replace h11 := hb8.t h11
    obtain ⟨j, hj, rfl⟩ := (in_iff (by decide)).mp h11
    have nj2 : nv (nI j) = j := nv_nI (by omega)
    refine r_aload_n dX11_again_14 rfl ?_
    refine r_getP dX11_again_15 g_X11_131 (S.1 _ _ rfl) rfl (S.2 _ _ _ rfl) ?_
    refine r_iload_n dX11_again_18 rfl ?_
    refine r_baload _ dX11_again_19 (S.1 _ _ rfl) rfl (by first | decide | omega) (by decide) ?_
    refine r_if_ne 25 dX11_again_20 (by decide) (fun h20 => ?_) (fun h20 => ?_)
    · have hc : ag_c (rs I) (nI j) := ⟨inR_nI (by omega), by rw [nj2]; exact h20⟩
      refine r_aload_n dX11_again_25 rfl ?_
      refine r_iload_n dX11_again_26 rfl ?_
      refine r_iconst dX11_again_27 (v := nI 1) kc_1 ?_
      first | refine r_iaddN dX11_again_28 ?_ | refine r_iadd dX11_again_28 ?_
      refine r_iconst dX11_again_29 (v := nI 0) kc_0 ?_
      refine r_callV2 (fr' := 1) (lo' := 24) (mc' := 0) (ms' := 0) dX11_again_30 mm_X11_copy mv_X11_copy l_X11_245 (S.1 _ _ rfl) mc_X11_copy (by decide) ⟨by decide, by decide⟩ (Nat.zero_le _) (Nat.zero_le _) (Nat.le_of_ble_eq_true rfl) (c_X11_copy S (by omega) (by omega) (Or.inr ⟨rfl, by omega⟩)) (am_kv ?_)
      rintro _ J _ ⟨q1, q2, rfl, rfl⟩
      refine r_iconst dX11_again_33 (v := nI 1) kc_1 ?_
      refine r_ireturn dX11_again_34 .boolean rfl rfl ?_
      refine ⟨_, rfl, ?_, ?_, q2, rfl, rfl⟩
      · rw [ag_res, cif_t hc]
      · rw [ag_op, cif_t hc, nj2, q1]
    · have hc : ¬ ag_c (rs I) (nI j) := fun h => h.2 (by rw [nj2]; exact h20)
      refine r_iconst dX11_again_23 (v := nI 0) kc_0 ?_
      refine r_ireturn dX11_again_24 .boolean rfl rfl ?_
      refine ⟨_, rfl, ?_, ?_, hi_rf _, rfl, rfl⟩
      · rw [ag_res, cif_f hc]
      · rw [ag_op, cif_f hc]
theorem c_X11_again (S : St_m sh P) (V : Inv (rs I))  (x : Int32): am_R mX11_again (mpo sh P I (ag_res (rs I) x) (ag_op (rs I) x)) 2 46 0 0 0 [some (.ref 0), some (.int x)] [] sh I P := by
  refine r_aload_n dX11_again_0 rfl ?_
  refine r_iconst dX11_again_1 (v := nI 0) kc_0 ?_
  refine r_putI dX11_again_2 f_X11_134 (S.1 _ _ rfl) rfl rfl rfl ?_
  have e : rs (va_up I 0 (upd (I 0) 0 (nI 0))) = rs I := rs_no rfl
  have h := b_X11_again (I := va_up I 0 (upd (I 0) 0 (nI 0))) S (by rw [e]; exact V) x
  rw [e] at h
  exact mpo_z h
end M5
