/-! the class: rows found, stands added -/
def rwS (n : Nat) (E : Nat → Nat) (lsv : Nat → Int32) (H : AIn) : Prop := H 66 0 = nI n ∧ (∀ k, k < n → H 67 k = nI (E k) ∧ E k < 1048576 ∧ H 68 k = lsv (E k)) ∧ (∀ i j, i < j → j < n → E i < E j) ∧ ∀ u, (∀ k, k < n → E k ≠ u) → lsv u = -1
section K22
variable {sh : ASh} {I σ : AIn} {P : APt}
def frP (sh : ASh) (P : APt) (I : AIn) (n : Nat) (E : Nat → Nat) (lsv : Nat → Int32) (v : Nat) : APo := po_i (fun r sh' I' P' => (∃ n' E' i, r = nI i ∧ i < n' ∧ (n ≤ n' ∧ n' ≤ n + 1) ∧ E' i = v ∧ (∀ k, k < n' → E' k = v ∨ ∃ k0, k0 < n ∧ E k0 = E' k) ∧ rwS n' E' lsv I') ∧ (∀ r, r ≠ 66 → r ≠ 67 → r ≠ 68 → I' r = I r) ∧ (∀ f, f ≠ 0 → I' 66 f = I 66 f) ∧ sh = sh' ∧ P = P')
theorem l_X0_frE (S : St_c sh P) {n v low : Nat} {E : Nat → Nat} {lsv : Nat → Int32} {x3 x4 x5 : Option Value} (h : rwS n E lsv I) (hn : n < 360) (hv : v < 1048576) (hl : low ≤ n) (h1 : ∀ k, k < low → E k < v) (h2 : ∀ k, low ≤ k → k < n → v ≤ E k) : am_R mX0_findRow (frP sh P I n E lsv v) 1 30 0 0 58 [some (.ref 66), some (.int (nI v)), some (.int (nI low)), x3, x4, x5] [] sh I P := by
  obtain ⟨e0, e1, e2, e3⟩ := id h
  have st : (∀ k, k < n → E k ≠ v) → am_R mX0_findRow (frP sh P I n E lsv v) 1 30 0 0 76 [some (.ref 66), some (.int (nI v)), some (.int (nI low)), x3, x4, x5] [] sh I P := by
    intro hne
    have hlv : lsv v = -1 := e3 v hne
    have h2s : ∀ k, low ≤ k → k < n → v < E k := fun k a b => by have := h2 k a b; have := hne k b; omega
    refine r_aload_n dX0_findRow_76 rfl ?_
    refine r_getP dX0_findRow_77 g_X0_15 (by first | assumption | exact S.1 _ _ rfl) rfl (by first | assumption | exact S.2 _ _ _ rfl) ?_
    refine r_iload_n dX0_findRow_80 rfl ?_
    refine r_aload_n dX0_findRow_81 rfl ?_
    refine r_getP dX0_findRow_82 g_X0_15 (by first | assumption | exact S.1 _ _ rfl) rfl (by first | assumption | exact S.2 _ _ _ rfl) ?_
    refine r_iload_n dX0_findRow_85 rfl ?_
    refine r_iconst dX0_findRow_86 (v := nI 1) kc_1 ?_
    first | refine r_iaddN dX0_findRow_87 ?_ | refine r_iadd dX0_findRow_87 ?_
    refine r_aload_n dX0_findRow_88 rfl ?_
    refine r_getI dX0_findRow_89 g_X0_79 (by first | assumption | exact S.1 _ _ rfl) rfl ?_
    rw [e0]
    refine r_iload_n dX0_findRow_92 rfl ?_
    first | refine r_isubN dX0_findRow_93 (by omega) ?_ | refine r_isub dX0_findRow_93 ?_
    refine r_copy low (low + 1) (n - low) dX0_findRow_94 la_X0_121 (by first | assumption | exact S.1 _ _ rfl) (by first | assumption | exact S.1 _ _ rfl) rfl rfl rfl (by first | decide | omega) (by first | decide | omega) (by decide) (by decide) ⟨by decide, Nat.le_of_ble_eq_true rfl⟩ ?_
    refine r_aload_n dX0_findRow_97 rfl ?_
    refine r_getP dX0_findRow_98 g_X0_19 (by first | assumption | exact S.1 _ _ rfl) rfl (by first | assumption | exact S.2 _ _ _ rfl) ?_
    refine r_iload_n dX0_findRow_101 rfl ?_
    refine r_aload_n dX0_findRow_102 rfl ?_
    refine r_getP dX0_findRow_103 g_X0_19 (by first | assumption | exact S.1 _ _ rfl) rfl (by first | assumption | exact S.2 _ _ _ rfl) ?_
    refine r_iload_n dX0_findRow_106 rfl ?_
    refine r_iconst dX0_findRow_107 (v := nI 1) kc_1 ?_
    first | refine r_iaddN dX0_findRow_108 ?_ | refine r_iadd dX0_findRow_108 ?_
    refine r_aload_n dX0_findRow_109 rfl ?_
    refine r_getI dX0_findRow_110 g_X0_79 (by first | assumption | exact S.1 _ _ rfl) rfl ?_
    rw [va_up_ne _ _ (by decide), e0]
    refine r_iload_n dX0_findRow_113 rfl ?_
    first | refine r_isubN dX0_findRow_114 (by omega) ?_ | refine r_isub dX0_findRow_114 ?_
    refine r_copy low (low + 1) (n - low) dX0_findRow_115 la_X0_121 (by first | assumption | exact S.1 _ _ rfl) (by first | assumption | exact S.1 _ _ rfl) rfl rfl rfl (by first | decide | omega) (by first | decide | omega) (by decide) (by decide) ⟨by decide, Nat.le_of_ble_eq_true rfl⟩ ?_
    simp (decide := true) only [va_up_ne, va_up_self]
    refine r_aload_n dX0_findRow_118 rfl ?_
    refine r_getP dX0_findRow_119 g_X0_15 (by first | assumption | exact S.1 _ _ rfl) rfl (by first | assumption | exact S.2 _ _ _ rfl) ?_
    refine r_iload_n dX0_findRow_122 rfl ?_
    refine r_iload_n dX0_findRow_123 rfl ?_
    refine r_iastore low dX0_findRow_124 (by first | assumption | exact S.1 _ _ rfl) rfl (by first | decide | omega) (by decide) ?_
    simp (decide := true) only [va_up_ne, va_up_self]
    refine r_aload_n dX0_findRow_125 rfl ?_
    refine r_getP dX0_findRow_126 g_X0_19 (by first | assumption | exact S.1 _ _ rfl) rfl (by first | assumption | exact S.2 _ _ _ rfl) ?_
    refine r_iload_n dX0_findRow_129 rfl ?_
    refine r_iconst dX0_findRow_130 (v := (-1)) kc_m1 ?_
    refine r_iastore low dX0_findRow_131 (by first | assumption | exact S.1 _ _ rfl) rfl (by first | decide | omega) (by decide) ?_
    simp (decide := true) only [va_up_ne, va_up_self]
    refine r_aload_n dX0_findRow_132 rfl ?_
    refine r_dup dX0_findRow_133 ?_
    refine r_getI dX0_findRow_134 g_X0_79 (by first | assumption | exact S.1 _ _ rfl) rfl ?_
    simp (decide := true) only [va_up_ne, va_up_self]
    rw [e0]
    refine r_iconst dX0_findRow_137 (v := nI 1) kc_1 ?_
    first | refine r_iaddN dX0_findRow_138 ?_ | refine r_iadd dX0_findRow_138 ?_
    refine r_putI dX0_findRow_139 f_X0_79 (by first | assumption | exact S.1 _ _ rfl) rfl rfl rfl ?_
    simp (decide := true) only [va_up_ne, va_up_self]
    refine r_iload_n dX0_findRow_142 rfl ?_
    refine r_ireturn dX0_findRow_143 .int rfl rfl ?_
    have k7 : ∀ k, (upd (va_cpy (I 67) (I 67) low (low + 1) (n - low)) low (nI v)) k = nI (if k < low then E k else if k = low then v else E (k - 1)) ∨ n < k := fun k => by
      by_cases g0 : n < k
      · exact Or.inr g0
      · refine Or.inl ?_
        by_cases g1 : k < low
        · rw [if_pos g1, pk_un (by omega), pk_cpy_out (by omega)]; exact (e1 k (by omega)).1
        · rw [if_neg g1]
          by_cases g2 : k = low
          · rw [if_pos g2, g2, pk_us]
          · rw [if_neg g2, pk_un g2, pk_cpy_in (by omega) (by omega), show low + (k - (low + 1)) = k - 1 by omega]; exact (e1 (k - 1) (by omega)).1
    have k8 : ∀ k, (upd (va_cpy (I 68) (I 68) low (low + 1) (n - low)) low (-1)) k = lsv (if k < low then E k else if k = low then v else E (k - 1)) ∨ n < k := fun k => by
      by_cases g0 : n < k
      · exact Or.inr g0
      · refine Or.inl ?_
        by_cases g1 : k < low
        · rw [if_pos g1, pk_un (by omega), pk_cpy_out (by omega)]; exact (e1 k (by omega)).2.2
        · rw [if_neg g1]
          by_cases g2 : k = low
          · rw [if_pos g2, g2, pk_us, hlv]
          · rw [if_neg g2, pk_un g2, pk_cpy_in (by omega) (by omega), show low + (k - (low + 1)) = k - 1 by omega]; exact (e1 (k - 1) (by omega)).2.2
    refine ⟨_, rfl, ⟨n + 1, fun k => if k < low then E k else if k = low then v else E (k - 1), low, rfl, by omega, ⟨by omega, Nat.le_refl _⟩, ?_, fun k hk => ?_, ?_, fun k hk => ⟨?_, ?_, ?_⟩, fun i j hi hj => ?_, fun u hu => e3 u (fun k hk e => ?_)⟩, fun r a b c => ?_, fun f a => ?_, rfl, rfl⟩
    · show (if low < low then E low else if low = low then v else _) = v
      rw [if_neg (Nat.lt_irrefl low), if_pos rfl]
    · show (if k < low then E k else if k = low then v else E (k - 1)) = v ∨ ∃ k0, k0 < n ∧ E k0 = (if k < low then E k else if k = low then v else E (k - 1))
      by_cases g1 : k < low
      · rw [if_pos g1]; exact Or.inr ⟨k, by omega, rfl⟩
      · rw [if_neg g1]
        by_cases g2 : k = low
        · rw [if_pos g2]; exact Or.inl rfl
        · rw [if_neg g2]; exact Or.inr ⟨k - 1, by omega, rfl⟩
    · rw [va_up_self]; exact pk_us
    · rw [va_up_ne _ _ (by decide), va_up_ne _ _ (by decide), va_up_self]
      rcases k7 k with g | g
      · exact g
      · omega
    · show (if k < low then E k else if k = low then v else E (k - 1)) < 1048576
      by_cases g1 : k < low
      · rw [if_pos g1]; exact (e1 k (by omega)).2.1
      · rw [if_neg g1]
        by_cases g2 : k = low
        · rw [if_pos g2]; exact hv
        · rw [if_neg g2]; exact (e1 (k - 1) (by omega)).2.1
    · rw [va_up_ne _ _ (by decide), va_up_self]
      rcases k8 k with g | g
      · exact g
      · omega
    · show (if i < low then E i else if i = low then v else E (i - 1)) < (if j < low then E j else if j = low then v else E (j - 1))
      by_cases a1 : i < low
      · rw [if_pos a1]
        by_cases b1 : j < low
        · rw [if_pos b1]; exact e2 i j hi (by omega)
        · rw [if_neg b1]
          by_cases b2 : j = low
          · rw [if_pos b2]; exact h1 i a1
          · rw [if_neg b2]; have := h1 i a1; have := h2s (j - 1) (by omega) (by omega); omega
      · rw [if_neg a1, if_neg (show ¬ j < low by omega), if_neg (show ¬ j = low by omega)]
        by_cases a2 : i = low
        · rw [if_pos a2]; exact h2s (j - 1) (by omega) (by omega)
        · rw [if_neg a2]; exact e2 (i - 1) (j - 1) (by omega) (by omega)
    · rcases Nat.lt_or_ge k low with g | g
      · exact hu k (by omega) (by show (if k < low then E k else _) = u; rw [if_pos g]; exact e)
      · exact hu (k + 1) (by omega) (by show (if k + 1 < low then E (k + 1) else if k + 1 = low then v else E (k + 1 - 1)) = u; rw [if_neg (by omega), if_neg (by omega), Nat.add_sub_cancel]; exact e)
    · (repeat rw [va_up_ne _ _ (by omega)])
    · rw [va_up_self, pk_un a]
  refine r_iload_n dX0_findRow_58 rfl ?_
  refine r_aload_n dX0_findRow_59 rfl ?_
  refine r_getI dX0_findRow_60 g_X0_79 (by first | assumption | exact S.1 _ _ rfl) rfl ?_
  rw [e0]
  refine r_icmp_eqN 76 dX0_findRow_63 (by decide) (by omega) (by omega) (fun h63 => ?_) (fun h63 => ?_)
  · first
      | exact st (fun k hk => by have := h1 k (by omega); omega)
      | exact st (fun k hk e => by
          rcases Nat.lt_trichotomy k low with g | g | g
          · have := h1 k g; omega
          · subst g; exact h73 e
          · have := e2 low k g hk; have := h2 low (Nat.le_refl _) (by omega); omega)
  · obtain ⟨q1, q2, q3⟩ := e1 low (by omega)
    refine r_aload_n dX0_findRow_66 rfl ?_
    refine r_getP dX0_findRow_67 g_X0_15 (by first | assumption | exact S.1 _ _ rfl) rfl (by first | assumption | exact S.2 _ _ _ rfl) ?_
    refine r_iload_n dX0_findRow_70 rfl ?_
    refine r_iaload low dX0_findRow_71 (by first | assumption | exact S.1 _ _ rfl) rfl (by first | decide | omega) (by decide) ?_
    rw [q1]
    refine r_iload_n dX0_findRow_72 rfl ?_
    refine r_icmp_eqN 142 dX0_findRow_73 (by decide) (by omega) (by omega) (fun h73 => ?_) (fun h73 => ?_)
    · refine r_iload_n dX0_findRow_142 rfl ?_
      refine r_ireturn dX0_findRow_143 .int rfl rfl ?_
      exact ⟨_, rfl, ⟨n, E, low, rfl, by omega, ⟨Nat.le_refl _, by omega⟩, h73, fun k hk => Or.inr ⟨k, hk, rfl⟩, h⟩, fun _ _ _ _ => rfl, fun _ _ => rfl, rfl, rfl⟩
    · first
        | exact st (fun k hk => by have := h1 k (by omega); omega)
        | exact st (fun k hk e => by
            rcases Nat.lt_trichotomy k low with g | g | g
            · have := h1 k g; omega
            · subst g; exact h73 e
            · have := e2 low k g hk; have := h2 low (Nat.le_refl _) (by omega); omega)
theorem l_X0_findRow (S : St_c sh P) {n v : Nat} {E : Nat → Nat} {lsv : Nat → Int32} (h : rwS n E lsv I) (hn : n < 360) (hv : v < 1048576) : ∀ (d low high step : Nat) (x5 : Option Value), low + d = high → high ≤ n → step + d ≤ n → (∀ k, k < low → E k < v) → (∀ k, high ≤ k → k < n → v ≤ E k) → am_R mX0_findRow (frP sh P I n E lsv v) 1 30 0 0 10 [some (.ref 66), some (.int (nI v)), some (.int (nI low)), some (.int (nI high)), some (.int (nI step)), x5] [] sh I P := by
  intro d
  induction d using Nat.strongRecOn with
  | ind d ih =>
    intro low high step x5 hd hh hs h1 h2
    rcases Nat.eq_zero_or_pos d with z | z
    · subst z
      have e : low = high := by omega
      subst e
      refine r_iload dX0_findRow_10 rfl ?_
      refine r_sipush dX0_findRow_12 (v := nI 360) (by decide) ?_
      refine r_icmp_geN 58 dX0_findRow_15 (by decide) (by omega) (by omega) (fun h15 => ?_) (fun h15 => ?_)
      · exact absurd h15 (by omega)
      · refine r_iload_n dX0_findRow_18 rfl ?_
        refine r_iload_n dX0_findRow_19 rfl ?_
        refine r_icmp_geN 58 dX0_findRow_20 (by decide) (by omega) (by omega) (fun h20 => ?_) (fun h20 => ?_)
        · exact l_X0_frE S h hn hv hh h1 h2
        · exact absurd h20 (by omega)
    · have hmid : (low + high) / 2 < high ∧ low ≤ (low + high) / 2 := by omega
      obtain ⟨q1, q2, q3⟩ := h.2.1 ((low + high) / 2) (by omega)
      refine r_iload dX0_findRow_10 rfl ?_
      refine r_sipush dX0_findRow_12 (v := nI 360) (by decide) ?_
      refine r_icmp_geN 58 dX0_findRow_15 (by decide) (by omega) (by omega) (fun h15 => ?_) (fun h15 => ?_)
      · exact absurd h15 (by omega)
      · refine r_iload_n dX0_findRow_18 rfl ?_
        refine r_iload_n dX0_findRow_19 rfl ?_
        refine r_icmp_geN 58 dX0_findRow_20 (by decide) (by omega) (by omega) (fun h20 => ?_) (fun h20 => ?_)
        · exact absurd h20 (by omega)
        · refine r_iload_n dX0_findRow_23 rfl ?_
          refine r_iload_n dX0_findRow_24 rfl ?_
          first | refine r_iaddN dX0_findRow_25 ?_ | refine r_iadd dX0_findRow_25 ?_
          refine r_iconst dX0_findRow_26 (v := nI 2) kc_2 ?_
          refine r_idiv dX0_findRow_27 (by decide) ?_
          rw [pk_div (by omega) (by decide) (by decide)]
          refine r_istore dX0_findRow_28 (Nat.le_of_ble_eq_true rfl) ?_
          dsimp only [List.set]
          refine r_aload_n dX0_findRow_30 rfl ?_
          refine r_getP dX0_findRow_31 g_X0_15 (by first | assumption | exact S.1 _ _ rfl) rfl (by first | assumption | exact S.2 _ _ _ rfl) ?_
          refine r_iload dX0_findRow_34 rfl ?_
          refine r_iaload ((low + high) / 2) dX0_findRow_36 (by first | assumption | exact S.1 _ _ rfl) rfl (by first | decide | omega) (by decide) ?_
          rw [q1]
          refine r_iload_n dX0_findRow_37 rfl ?_
          refine r_icmp_geN 49 dX0_findRow_38 (by decide) (by omega) (by omega) (fun h38 => ?_) (fun h38 => ?_)
          · refine r_iload dX0_findRow_49 rfl ?_
            refine r_istore_n dX0_findRow_51 (Nat.le_of_ble_eq_true rfl) ?_
            dsimp only [List.set]
            first | refine r_iincN dX0_findRow_52 rfl kc_1 ?_ | refine r_iinc dX0_findRow_52 rfl rfl ?_
            dsimp only [List.set]
            refine r_goto 10 dX0_findRow_55 (by decide) ?_
            first
              | exact ih ((low + high) / 2 - low) (by omega) low ((low + high) / 2) (step + 1) _ (by omega) (by omega) (by omega) h1 (fun k a b => by
                  rcases Nat.lt_or_ge ((low + high) / 2) k with g | g
                  · have := h.2.2.1 _ k g b; omega
                  · have e : k = (low + high) / 2 := by omega
                    rw [e]; exact h38)
              | exact ih (high - ((low + high) / 2 + 1)) (by omega) ((low + high) / 2 + 1) high (step + 1) _ (by omega) hh (by omega) (fun k a => by
                  rcases Nat.lt_or_ge k ((low + high) / 2) with g | g
                  · have := h.2.2.1 k _ g (by omega); omega
                  · have e : k = (low + high) / 2 := by omega
                    rw [e]; omega) h2
          · refine r_iload dX0_findRow_41 rfl ?_
            refine r_iconst dX0_findRow_43 (v := nI 1) kc_1 ?_
            first | refine r_iaddN dX0_findRow_44 ?_ | refine r_iadd dX0_findRow_44 ?_
            refine r_istore_n dX0_findRow_45 (Nat.le_of_ble_eq_true rfl) ?_
            dsimp only [List.set]
            refine r_goto 52 dX0_findRow_46 (by decide) ?_
            first | refine r_iincN dX0_findRow_52 rfl kc_1 ?_ | refine r_iinc dX0_findRow_52 rfl rfl ?_
            dsimp only [List.set]
            refine r_goto 10 dX0_findRow_55 (by decide) ?_
            first
              | exact ih ((low + high) / 2 - low) (by omega) low ((low + high) / 2) (step + 1) _ (by omega) (by omega) (by omega) h1 (fun k a b => by
                  rcases Nat.lt_or_ge ((low + high) / 2) k with g | g
                  · have := h.2.2.1 _ k g b; omega
                  · have e : k = (low + high) / 2 := by omega
                    rw [e]; exact h38)
              | exact ih (high - ((low + high) / 2 + 1)) (by omega) ((low + high) / 2 + 1) high (step + 1) _ (by omega) hh (by omega) (fun k a => by
                  rcases Nat.lt_or_ge k ((low + high) / 2) with g | g
                  · have := h.2.2.1 k _ g (by omega); omega
                  · have e : k = (low + high) / 2 := by omega
                    rw [e]; omega) h2
theorem c_X0_findRow (S : St_c sh P) {n v : Nat} {E : Nat → Nat} {lsv : Nat → Int32} (h : rwS n E lsv I) (hn : n < 360) (hv : v < 1048576) : am_R mX0_findRow (frP sh P I n E lsv v) 1 30 0 0 0 [some (.ref 66), some (.int (nI v)), none, none, none, none] [] sh I P := by
  refine r_iconst dX0_findRow_0 (v := nI 0) kc_0 ?_
  refine r_istore_n dX0_findRow_1 (Nat.le_of_ble_eq_true rfl) ?_
  dsimp only [List.set]
  refine r_aload_n dX0_findRow_2 rfl ?_
  refine r_getI dX0_findRow_3 g_X0_79 (by first | assumption | exact S.1 _ _ rfl) rfl ?_
  rw [h.1]
  refine r_istore_n dX0_findRow_6 (Nat.le_of_ble_eq_true rfl) ?_
  dsimp only [List.set]
  refine r_iconst dX0_findRow_7 (v := nI 0) kc_0 ?_
  refine r_istore dX0_findRow_8 (Nat.le_of_ble_eq_true rfl) ?_
  dsimp only [List.set]
  exact l_X0_findRow S h hn hv n 0 n 0 _ (Nat.zero_add _) (Nat.le_refl _) (by omega) (fun k hk => absurd hk (Nat.not_lt_zero k)) (fun k a b => absurd b (by omega))
/-- what is gathered: rows n by E, stands c, of each row its last by lsv -/
def idx (c : Nat) (rw : Nat → Nat) (u i : Nat) : Prop := i < c ∧ rw i = u
def gsS (c : Nat) (lsv : Nat → Int32) (pl en sv rw : Nat → Nat) (D : Nat → Nat → Nat → Nat → Prop) (H : AIn) : Prop := H 66 5 = nI c ∧ stA pl en sv c H ∧ (∀ i, i < c → D (rw i) (pl i) (en i) (sv i) ∧ nxt (idx c rw (rw i)) (D (rw i)) pl (H 74 i) (pl i)) ∧ ∀ u, nxt (idx c rw u) (D u) pl (lsv u) 120
def gS (c : Nat) (D : Nat → Nat → Nat → Nat → Prop) (H : AIn) : Prop := ∃ n E lsv pl en sv rw, n ≤ c ∧ (∀ k, k < n → ∃ x e s, D (E k) x e s) ∧ rwS n E lsv H ∧ gsS c lsv pl en sv rw D H
theorem nxt_D {A : Nat → Prop} {D D' : Nat → Nat → Nat → Prop} {pl : Nat → Nat} {a : Int32} {X : Nat} (h : nxt A D pl a X) (hD : ∀ x e s, D' x e s → D x e s) : nxt A D' pl a X := by
  rcases h with ⟨h1, h2⟩ | ⟨i, h1, h2, h3, h4⟩
  · exact Or.inl ⟨h1, fun x e s hx g => h2 x e s hx (hD x e s g)⟩
  · exact Or.inr ⟨i, h1, h2, h3, fun x e s a b g => h4 x e s a b (hD x e s g)⟩
theorem gS_D {c c' : Nat} {D D' : Nat → Nat → Nat → Nat → Prop} {H : AIn} (h : gS c D H) (hD : ∀ u x e s, D u x e s ↔ D' u x e s) : gS c D' H := by
  obtain ⟨n, E, lsv, pl, en, sv, rw, h1, h0, h2, h3, h4, h5, h6⟩ := h
  exact ⟨n, E, lsv, pl, en, sv, rw, h1, fun k hk => by obtain ⟨x, e, s, g⟩ := h0 k hk; exact ⟨x, e, s, (hD _ _ _ _).mp g⟩, h2, h3, h4, fun i hi => ⟨(hD _ _ _ _).mp (h5 i hi).1, nxt_D (h5 i hi).2 (fun x e s g => (hD _ _ _ _).mpr g)⟩, fun u => nxt_D (h6 u) (fun x e s g => (hD _ _ _ _).mpr g)⟩
def addD (D : Nat → Nat → Nat → Nat → Prop) (v x e s : Nat) : Nat → Nat → Nat → Nat → Prop := fun u x' e' s' => D u x' e' s' ∨ (u = v ∧ x' = x ∧ e' = e ∧ s' = s)
def va1 (f : Nat → Nat) (c x : Nat) : Nat → Nat := fun i => if i = c then x else f i
theorem va1_c {f : Nat → Nat} {c x : Nat} : va1 f c x c = x := if_pos rfl
theorem va1_n {f : Nat → Nat} {c x i : Nat} (h : i ≠ c) : va1 f c x i = f i := if_neg h
theorem nxt_add {c v x e s u : Nat} {rw pl : Nat → Nat} {D : Nat → Nat → Nat → Nat → Prop} {a : Int32} {X : Nat} (h : nxt (idx c rw u) (D u) pl a X) (hX : u = v → X ≤ x) : nxt (idx (c + 1) (va1 rw c v) u) (addD D v x e s u) (va1 pl c x) a X := by
  rcases h with ⟨h1, h2⟩ | ⟨i, ⟨h0, h1⟩, h2, h3, h4⟩
  · refine Or.inl ⟨h1, fun x' e' s' hx g => ?_⟩
    rcases g with g | ⟨g1, g2, -⟩
    · exact h2 x' e' s' hx g
    · have := hX g1; omega
  · refine Or.inr ⟨i, ⟨by omega, by rw [va1_n (by omega)]; exact h1⟩, h2, by rw [va1_n (by omega)]; exact h3, fun x' e' s' p q g => ?_⟩
    rw [va1_n (by omega)] at p
    rcases g with g | ⟨g1, g2, -⟩
    · exact h4 x' e' s' p q g
    · have := hX g1; omega
theorem c_X0_addStand (S : St_c sh P) {c v x e s : Nat} {D : Nat → Nat → Nat → Nat → Prop} (h : gS c D I) (hc : c < 360) (hv : v < 1048576) (hx : x < 120) (he : x < e ∧ e ≤ 120) (hs : s ≤ 4000000) (hold : ∀ u x' e' s', D u x' e' s' → x' ≤ x) (hnew : ∀ x' e' s', D v x' e' s' → x' < x) : am_R mX0_addStand (po_v (fun sh' I' P' => gS (c + 1) (addD D v x e s) I' ∧ (∀ r, r < 66 ∨ 76 < r → I' r = I r) ∧ sh = sh' ∧ P = P')) 2 55 0 0 0 [some (.ref 66), some (.int (nI v)), some (.int (nI x)), some (.int (nI e)), some (.int (nI s)), none] [] sh I P := by
  obtain ⟨n, E, lsv, pl, en, sv, rw, hnc, hex, hr, g1, ⟨g2, g3⟩, g4, g5⟩ := h
  refine r_aload_n dX0_addStand_0 rfl ?_
  refine r_iload_n dX0_addStand_1 rfl ?_
  refine r_callV1 (fr' := 1) (lo' := 30) (mc' := 0) (ms' := 0) dX0_addStand_2 mm_X0_findRow mv_X0_findRow l_X0_118 (by first | assumption | exact S.1 _ _ rfl) mc_X0_findRow (by decide) ⟨by decide, by decide⟩ (Nat.zero_le _) (Nat.zero_le _) (Nat.le_of_ble_eq_true rfl) (c_X0_findRow S hr (by omega) hv) (am_ki ?_)
  rintro v2 _ H _ ⟨⟨n', E', i, rfl, hi, hn', hEi, hsub, r0, r1, r2, r3⟩, hF, h66, rfl, rfl⟩
  have e5 : H 66 5 = nI c := by rw [h66 5 (by decide)]; exact g1
  have e68 : H 68 i = lsv v := by rw [(r1 i hi).2.2, hEi]
  refine r_istore dX0_addStand_5 (Nat.le_of_ble_eq_true rfl) ?_
  dsimp only [List.set]
  refine r_aload_n dX0_addStand_7 rfl ?_
  refine r_getP dX0_addStand_8 g_X0_28 (by first | assumption | exact S.1 _ _ rfl) rfl (by first | assumption | exact S.2 _ _ _ rfl) ?_
  refine r_aload_n dX0_addStand_11 rfl ?_
  refine r_getI dX0_addStand_12 g_X0_82 (by first | assumption | exact S.1 _ _ rfl) rfl ?_
  rw [e5]
  refine r_iload_n dX0_addStand_15 rfl ?_
  refine r_iastore c dX0_addStand_16 (by first | assumption | exact S.1 _ _ rfl) rfl (by first | decide | omega) (by decide) ?_
  refine r_aload_n dX0_addStand_17 rfl ?_
  refine r_getP dX0_addStand_18 g_X0_31 (by first | assumption | exact S.1 _ _ rfl) rfl (by first | assumption | exact S.2 _ _ _ rfl) ?_
  refine r_aload_n dX0_addStand_21 rfl ?_
  refine r_getI dX0_addStand_22 g_X0_82 (by first | assumption | exact S.1 _ _ rfl) rfl ?_
  simp (decide := true) only [va_up_ne, va_up_self]
  rw [e5]
  refine r_iload_n dX0_addStand_25 rfl ?_
  refine r_iastore c dX0_addStand_26 (by first | assumption | exact S.1 _ _ rfl) rfl (by first | decide | omega) (by decide) ?_
  refine r_aload_n dX0_addStand_27 rfl ?_
  refine r_getP dX0_addStand_28 g_X0_34 (by first | assumption | exact S.1 _ _ rfl) rfl (by first | assumption | exact S.2 _ _ _ rfl) ?_
  refine r_aload_n dX0_addStand_31 rfl ?_
  refine r_getI dX0_addStand_32 g_X0_82 (by first | assumption | exact S.1 _ _ rfl) rfl ?_
  simp (decide := true) only [va_up_ne, va_up_self]
  rw [e5]
  refine r_iload dX0_addStand_35 rfl ?_
  refine r_iastore c dX0_addStand_37 (by first | assumption | exact S.1 _ _ rfl) rfl (by first | decide | omega) (by decide) ?_
  refine r_aload_n dX0_addStand_38 rfl ?_
  refine r_getP dX0_addStand_39 g_X0_37 (by first | assumption | exact S.1 _ _ rfl) rfl (by first | assumption | exact S.2 _ _ _ rfl) ?_
  refine r_aload_n dX0_addStand_42 rfl ?_
  refine r_getI dX0_addStand_43 g_X0_82 (by first | assumption | exact S.1 _ _ rfl) rfl ?_
  simp (decide := true) only [va_up_ne, va_up_self]
  rw [e5]
  refine r_aload_n dX0_addStand_46 rfl ?_
  refine r_getP dX0_addStand_47 g_X0_19 (by first | assumption | exact S.1 _ _ rfl) rfl (by first | assumption | exact S.2 _ _ _ rfl) ?_
  refine r_iload dX0_addStand_50 rfl ?_
  refine r_iaload i dX0_addStand_52 (by first | assumption | exact S.1 _ _ rfl) rfl (by first | decide | omega) (by decide) ?_
  simp (decide := true) only [va_up_ne, va_up_self]
  rw [e68]
  refine r_iastore c dX0_addStand_53 (by first | assumption | exact S.1 _ _ rfl) rfl (by first | decide | omega) (by decide) ?_
  refine r_aload_n dX0_addStand_54 rfl ?_
  refine r_getP dX0_addStand_55 g_X0_19 (by first | assumption | exact S.1 _ _ rfl) rfl (by first | assumption | exact S.2 _ _ _ rfl) ?_
  refine r_iload dX0_addStand_58 rfl ?_
  refine r_aload_n dX0_addStand_60 rfl ?_
  refine r_getI dX0_addStand_61 g_X0_82 (by first | assumption | exact S.1 _ _ rfl) rfl ?_
  simp (decide := true) only [va_up_ne, va_up_self]
  rw [e5]
  refine r_iastore i dX0_addStand_64 (by first | assumption | exact S.1 _ _ rfl) rfl (by first | decide | omega) (by decide) ?_
  refine r_aload_n dX0_addStand_65 rfl ?_
  refine r_dup dX0_addStand_66 ?_
  refine r_getI dX0_addStand_67 g_X0_82 (by first | assumption | exact S.1 _ _ rfl) rfl ?_
  simp (decide := true) only [va_up_ne, va_up_self]
  rw [e5]
  refine r_iconst dX0_addStand_70 (v := nI 1) kc_1 ?_
  first | refine r_iaddN dX0_addStand_71 ?_ | refine r_iadd dX0_addStand_71 ?_
  refine r_putI dX0_addStand_72 f_X0_82 (by first | assumption | exact S.1 _ _ rfl) rfl rfl rfl ?_
  simp (decide := true) only [va_up_ne, va_up_self]
  refine r_return dX0_addStand_75 rfl ?_
  refine ⟨rfl, ⟨n', E', upd lsv v (nI c), va1 pl c x, va1 en c e, va1 sv c s, va1 rw c v, by omega, fun k hk => ?_, ⟨?_, fun k hk => ?_, r2, fun u hu => ?_⟩, ?_, ⟨by omega, fun j hj => ?_⟩, fun j hj => ?_, fun u => ?_⟩, fun r hr9 => ?_, rfl, rfl⟩
  · rcases hsub k hk with g | ⟨k0, hk0, g⟩
    · exact ⟨x, e, s, Or.inr ⟨g, rfl, rfl, rfl⟩⟩
    · obtain ⟨x9, e9, s9, q9⟩ := hex k0 hk0
      exact ⟨x9, e9, s9, Or.inl (g ▸ q9)⟩
  · rw [va_up_self, pk_un (by decide)]; exact r0
  · obtain ⟨a, b, d⟩ := r1 k hk
    rw [show ∀ (X : Nat → Int32) (Y : AIn), va_up Y 66 X 67 = Y 67 from fun _ _ => rfl, show ∀ (X : Nat → Int32) (Y : AIn), va_up Y 66 X 68 = Y 68 from fun _ _ => rfl]
    refine ⟨a, b, ?_⟩
    rw [va_up_self]
    by_cases e9 : k = i
    · rw [e9, pk_us, hEi, pk_us]
    · rw [pk_un e9, pk_un (fun g => e9 ?_)]; exact d
      rcases Nat.lt_trichotomy k i with l | l | l
      · have := r2 k i l hi; omega
      · exact l
      · have := r2 i k l hk; omega
  · rw [pk_un (fun g : u = v => hu i hi (hEi.trans g.symm))]; exact r3 u hu
  · rw [va_up_self]; exact pk_us
  · have hF1 := hF 71 (by decide) (by decide) (by decide)
    have hF2 := hF 72 (by decide) (by decide) (by decide)
    have hF3 := hF 73 (by decide) (by decide) (by decide)
    simp (decide := true) only [va_up_ne, va_up_self]
    by_cases e9 : j = c
    · subst e9
      rw [pk_us, pk_us, pk_us, va1_c, va1_c, va1_c]
      exact ⟨⟨rfl, rfl, rfl⟩, hx, he, hs⟩
    · rw [pk_un e9, pk_un e9, pk_un e9, va1_n e9, va1_n e9, va1_n e9, hF1, hF2, hF3]
      exact g3 j (by omega)
  · have hF4 := hF 74 (by decide) (by decide) (by decide)
    simp (decide := true) only [va_up_ne, va_up_self]
    by_cases e9 : j = c
    · subst e9
      rw [pk_us, va1_c, va1_c, va1_c, va1_c]
      refine ⟨Or.inr ⟨rfl, rfl, rfl, rfl⟩, nxt_add ?_ (fun _ => Nat.le_refl _)⟩
      rcases g5 v with ⟨a, b⟩ | ⟨k, ⟨a0, a1⟩, a2, a3, a4⟩
      · exact Or.inl ⟨a, fun x' e' s' hx' g => b x' e' s' (by omega) g⟩
      · have hk := (g4 k a0).1
        rw [a1] at hk
        exact Or.inr ⟨k, ⟨a0, a1⟩, a2, hnew _ _ _ hk, fun x' e' s' p q g => a4 x' e' s' p (by omega) g⟩
    · obtain ⟨d1, d2⟩ := g4 j (by omega)
      rw [pk_un e9, va1_n e9, va1_n e9, va1_n e9, va1_n e9, hF4]
      exact ⟨Or.inl d1, nxt_add d2 (fun _ => hold _ _ _ _ d1)⟩
  · by_cases e9 : u = v
    · subst e9
      rw [pk_us]
      refine Or.inr ⟨c, ⟨by omega, va1_c⟩, rfl, by rw [va1_c]; exact hx, fun x' e' s' p q g => ?_⟩
      rw [va1_c] at p
      rcases g with g | ⟨-, g2, -⟩
      · have := hnew _ _ _ g; omega
      · omega
    · rw [pk_un e9]; exact nxt_add (g5 u) (fun g => absurd g e9)
  · (repeat rw [va_up_ne _ _ (by omega)]); exact hF r (by omega) (by omega) (by omega)
end K22
