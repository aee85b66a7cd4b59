/-! the class: programs: at q, their rows at q + 1 .. q + 4 -/
def SPg (sh : ASh) (P : APt) (q : Nat) : Prop := sh q = (1, 2) ∧ sh (q + 1) = (2, 40) ∧ sh (q + 2) = (2, 40) ∧ sh (q + 3) = (2, 40) ∧ sh (q + 4) = (2, 40) ∧ P q 1 = some (q + 1) ∧ P q 2 = some (q + 2) ∧ P q 3 = some (q + 3) ∧ P q 4 = some (q + 4)
section K3
variable {sh : ASh} {I : AIn} {P : APt}
theorem c_X3_forgetRun {q : Nat} (Q : SPg sh P q)  : am_R mX3_forgetRun (po_v (fun sh' I' P' => (∀ r, r ≠ q + 3 → I' r = I r) ∧ (∀ t, t < 40 → I' (q + 3) t = nI 0) ∧ sh = sh' ∧ P = P')) 1 23 0 0 0 [some (.ref q)] [] sh I P := by
  obtain ⟨s0, s1, s2, s3, s4, p1, p2, p3, p4⟩ := Q
  refine r_aload_n dX3_forgetRun_0 rfl ?_
  refine r_getP dX3_forgetRun_1 g_X3_16 (by assumption) rfl (by assumption) ?_
  refine r_iconst dX3_forgetRun_4 (v := nI 0) kc_0 ?_
  refine r_callS2 (fr' := 0) (lo' := 0) (mc' := 0) (ms' := 0) dX3_forgetRun_5 mm_J7_fill_53178 ms_J7_fill_53178 l_X3_26 (by decide) ⟨by decide, by decide⟩ (Nat.zero_le _) (Nat.zero_le _) (Nat.le_of_ble_eq_true rfl) (c_J7_fill (by assumption) (by decide) _) (am_kv ?_)
  rintro _ _ _ ⟨rfl, rfl, rfl⟩
  refine r_return dX3_forgetRun_8 rfl ?_
  exact ⟨rfl, fun r hr => va_up_ne _ _ hr, fun t ht => by rw [va_up_self, if_pos ht], rfl, rfl⟩
theorem c_X3_clear {q : Nat} (Q : SPg sh P q)  : am_R mX3_clear (po_v (fun sh' I' P' => (∀ r, r ≠ q → r ≠ q + 3 → r ≠ q + 4 → I' r = I r) ∧ I' q 0 = nI 0 ∧ (∀ t, t < 40 → I' (q + 3) t = nI 0) ∧ (∀ t, t < 40 → I' (q + 4) t = nI 0) ∧ sh = sh' ∧ P = P')) 2 43 0 0 0 [some (.ref q)] [] sh I P := by
  obtain ⟨s0, s1, s2, s3, s4, p1, p2, p3, p4⟩ := Q
  refine r_aload_n dX3_clear_0 rfl ?_
  refine r_iconst dX3_clear_1 (v := nI 0) kc_0 ?_
  refine r_putI dX3_clear_2 f_X3_22 (by assumption) rfl rfl rfl ?_
  refine r_aload_n dX3_clear_5 rfl ?_
  refine r_getP dX3_clear_6 g_X3_19 (by assumption) rfl (by assumption) ?_
  refine r_iconst dX3_clear_9 (v := nI 0) kc_0 ?_
  refine r_callS2 (fr' := 0) (lo' := 0) (mc' := 0) (ms' := 0) dX3_clear_10 mm_J7_fill_53178 ms_J7_fill_53178 l_X3_26 (by decide) ⟨by decide, by decide⟩ (Nat.zero_le _) (Nat.zero_le _) (Nat.le_of_ble_eq_true rfl) (c_J7_fill (by assumption) (by decide) _) (am_kv ?_)
  rintro _ _ _ ⟨rfl, rfl, rfl⟩
  refine r_aload_n dX3_clear_13 rfl ?_
  refine r_callV0 (fr' := 1) (lo' := 23) (mc' := 0) (ms' := 0) dX3_clear_14 mm_X3_forgetRun mv_X3_forgetRun l_X3_32 (by assumption) mc_X3_forgetRun (by decide) ⟨by decide, by decide⟩ (Nat.zero_le _) (Nat.zero_le _) (Nat.le_of_ble_eq_true rfl) (c_X3_forgetRun ⟨s0, s1, s2, s3, s4, p1, p2, p3, p4⟩) (am_kv ?_)
  rintro _ H _ ⟨hf, ht, rfl, rfl⟩
  refine r_return dX3_clear_17 rfl ?_
  refine ⟨rfl, fun r a b c => ?_, ?_, ht, fun t h => ?_, rfl, rfl⟩
  · rw [hf r b, va_up_ne _ _ c, va_up_ne _ _ a]
  · rw [hf q (by omega), va_up_ne _ _ (by omega), va_up_self]; exact pk_us
  · rw [hf (q + 4) (by omega), va_up_self, if_pos h]
theorem c_X3_has {q : Nat} (Q : SPg sh P q) {n : Nat} (hn : I q 0 = nI n) (hn4 : n ≤ 40) (x : Int32) : am_R mX3_has (po_i (fun v sh' I' P' => bo v (inR x n) ∧ sh = sh' ∧ I = I' ∧ P = P')) 0 0 0 0 0 [some (.ref q), some (.int x)] [] sh I P := by
  obtain ⟨s0, s1, s2, s3, s4, p1, p2, p3, p4⟩ := Q
  refine r_iload_n dX3_has_0 rfl ?_
  refine r_if_lt 16 dX3_has_1 (by decide) (fun h1 => ?_) (fun h1 => ?_)
  · have hf := inR_n0 (n := n) (by omega) h1
    refine r_iconst dX3_has_16 (v := nI 0) kc_0 ?_
    refine r_ireturn dX3_has_17 .boolean rfl (by decide) ?_
    first | exact ⟨_, rfl, bo_1 ht, rfl, rfl, rfl⟩ | exact ⟨_, rfl, bo_0 hf, rfl, rfl, rfl⟩
  · refine r_iload_n dX3_has_4 rfl ?_
    refine r_aload_n dX3_has_5 rfl ?_
    refine r_getI dX3_has_6 g_X3_22 (by assumption) rfl ?_
    rw [hn]
    refine r_icmp_ge 16 dX3_has_9 (by decide) (fun h9 => ?_) (fun h9 => ?_)
    · have hf := inR_n1 (n := n) (by omega) h9
      refine r_iconst dX3_has_16 (v := nI 0) kc_0 ?_
      refine r_ireturn dX3_has_17 .boolean rfl (by decide) ?_
      first | exact ⟨_, rfl, bo_1 ht, rfl, rfl, rfl⟩ | exact ⟨_, rfl, bo_0 hf, rfl, rfl, rfl⟩
    · have ht := inR_of (n := n) (by omega) h1 h9
      refine r_iconst dX3_has_12 (v := nI 1) kc_1 ?_
      refine r_goto 17 dX3_has_13 (by decide) ?_
      refine r_ireturn dX3_has_17 .boolean rfl (by decide) ?_
      first | exact ⟨_, rfl, bo_1 ht, rfl, rfl, rfl⟩ | exact ⟨_, rfl, bo_0 hf, rfl, rfl, rfl⟩
theorem c_X3_isLedTo {q : Nat} (Q : SPg sh P q) {t c : Nat} (ht : t < 40) (hc : I (q + 4) t = nI c) (hc2 : c < 2147483648) : am_R mX3_isLedTo (po_i (fun v sh' I' P' => bo v (0 < c) ∧ sh = sh' ∧ I = I' ∧ P = P')) 0 0 0 0 0 [some (.ref q), some (.int (nI t))] [] sh I P := by
  obtain ⟨s0, s1, s2, s3, s4, p1, p2, p3, p4⟩ := Q
  refine r_aload_n dX3_isLedTo_0 rfl ?_
  refine r_getP dX3_isLedTo_1 g_X3_19 (by assumption) rfl (by assumption) ?_
  refine r_iload_n dX3_isLedTo_4 rfl ?_
  refine r_iaload t dX3_isLedTo_5 (by assumption) rfl (by first | decide | omega) (by decide) ?_
  rw [hc]
  refine r_if_leN 13 dX3_isLedTo_6 (by decide) (by omega) (fun h6 => ?_) (fun h6 => ?_)
  · refine r_iconst dX3_isLedTo_13 (v := nI 0) kc_0 ?_
    refine r_ireturn dX3_isLedTo_14 .boolean rfl (by decide) ?_
    first | exact ⟨_, rfl, bo_1 (by omega), rfl, rfl, rfl⟩ | exact ⟨_, rfl, bo_0 (by omega), rfl, rfl, rfl⟩
  · refine r_iconst dX3_isLedTo_9 (v := nI 1) kc_1 ?_
    refine r_goto 14 dX3_isLedTo_10 (by decide) ?_
    refine r_ireturn dX3_isLedTo_14 .boolean rfl (by decide) ?_
    first | exact ⟨_, rfl, bo_1 (by omega), rfl, rfl, rfl⟩ | exact ⟨_, rfl, bo_0 (by omega), rfl, rfl, rfl⟩
theorem aOk_39 {k : Nat} {a : Int32} (h : aOk k a) (hk : k = 9 ∨ k = 10) : ∃ t, t < 40 ∧ a = nI t := by
  have h2 : nI 0 ≤ a ∧ a ≤ nI 39 := by
    rcases hk with rfl | rfl <;> exact h
  obtain ⟨t, ht, e⟩ := (in_iff (by decide)).mp h2
  exact ⟨t, by omega, e⟩
def apC (n : Nat) (x a : Int32) : Prop := n < 40 ∧ inR x 16 ∧ aOk (nv x) a
def apH (I : AIn) (q n : Nat) (x a : Int32) (H : AIn) : Prop := (∀ r, r ≠ q → r ≠ q + 1 → r ≠ q + 2 → r ≠ q + 4 → H r = I r) ∧ H q 0 = nI (n + 1) ∧ H (q + 1) = upd (I (q + 1)) n x ∧ H (q + 2) = upd (I (q + 2)) n a ∧ H (q + 4) = (if nv x = 9 ∨ nv x = 10 then upd (I (q + 4)) (nv a) (I (q + 4) (nv a) + nI 1) else I (q + 4))
theorem c_X3_append {q : Nat} (Q : SPg sh P q) {n : Nat} (hn : I q 0 = nI n) (hn4 : n ≤ 40) (x a : Int32) : am_R mX3_append (po_i (fun v sh' I' P' => bo v (apC n x a) ∧ (apC n x a → apH I q n x a I') ∧ (¬ apC n x a → I = I') ∧ sh = sh' ∧ P = P')) 1 21 0 0 0 [some (.ref q), some (.int x), some (.int a)] [] sh I P := by
  obtain ⟨s0, s1, s2, s3, s4, p1, p2, p3, p4⟩ := Q
  refine r_aload_n dX3_append_0 rfl ?_
  refine r_getI dX3_append_1 g_X3_22 (by assumption) rfl ?_
  rw [hn]
  refine r_bipush dX3_append_4 (v := nI 40) (by decide) ?_
  refine r_icmp_geN 24 dX3_append_6 (by decide) (by omega) (by omega) (fun h6 => ?_) (fun h6 => ?_)
  · have hf : ¬ apC n x a := fun h => absurd h.1 (by omega)
    refine r_iconst dX3_append_24 (v := nI 0) kc_0 ?_
    refine r_ireturn dX3_append_25 .boolean rfl (by decide) ?_
    exact ⟨_, rfl, bo_0 hf, fun h => absurd h hf, fun _ => rfl, rfl, rfl⟩
  · refine r_iload_n dX3_append_9 rfl ?_
    refine r_callS1 (fr' := 0) (lo' := 0) (mc' := 0) (ms' := 0) dX3_append_10 mm_X1_isOne ms_X1_isOne l_X3_35 (by decide) ⟨by decide, by decide⟩ (Nat.zero_le _) (Nat.zero_le _) (Nat.le_of_ble_eq_true rfl) (c_X1_isOne _) (am_ki ?_)
    rintro v10 _ _ _ ⟨hb10, rfl, rfl, rfl⟩
    refine r_if_eq 24 dX3_append_13 (by decide) (fun h13 => ?_) (fun h13 => ?_)
    · replace h13 := hb10.f h13
      have hf : ¬ apC n x a := fun h => h13 h.2.1
      refine r_iconst dX3_append_24 (v := nI 0) kc_0 ?_
      refine r_ireturn dX3_append_25 .boolean rfl (by decide) ?_
      exact ⟨_, rfl, bo_0 hf, fun h => absurd h hf, fun _ => rfl, rfl, rfl⟩
    · replace h13 := hb10.t h13
      obtain ⟨k, hk, rfl⟩ := h13
      have enk : nv (nI k) = k := nv_nI (by omega)
      refine r_iload_n dX3_append_16 rfl ?_
      refine r_iload_n dX3_append_17 rfl ?_
      refine r_callS2 (fr' := 0) (lo' := 0) (mc' := 0) (ms' := 0) dX3_append_18 mm_X1_fits ms_X1_fits l_X3_41 (by decide) ⟨by decide, by decide⟩ (Nat.zero_le _) (Nat.zero_le _) (Nat.le_of_ble_eq_true rfl) (c_X1_fits hk _) (am_ki ?_)
      rintro v18 _ _ _ ⟨hb18, rfl, rfl, rfl⟩
      refine r_if_ne 26 dX3_append_21 (by decide) (fun h21 => ?_) (fun h21 => ?_)
      · replace h21 := hb18.t h21
        replace h21 : aOk k a := h21
        have hC : apC n (nI k) a := ⟨by omega, inR_nI hk, by rw [enk]; exact h21⟩
        refine r_aload_n dX3_append_26 rfl ?_
        refine r_getP dX3_append_27 g_X3_9 (by assumption) rfl (by assumption) ?_
        refine r_aload_n dX3_append_30 rfl ?_
        refine r_getI dX3_append_31 g_X3_22 (by assumption) rfl ?_
        rw [hn]
        refine r_iload_n dX3_append_34 rfl ?_
        refine r_iastore n dX3_append_35 (by assumption) rfl (by first | decide | omega) (by decide) ?_
        refine r_aload_n dX3_append_36 rfl ?_
        refine r_getP dX3_append_37 g_X3_13 (by assumption) rfl (by assumption) ?_
        refine r_aload_n dX3_append_40 rfl ?_
        refine r_getI dX3_append_41 g_X3_22 (by assumption) rfl ?_
        rw [va_up_ne _ _ (by omega), hn]
        refine r_iload_n dX3_append_44 rfl ?_
        refine r_iastore n dX3_append_45 (by assumption) rfl (by first | decide | omega) (by decide) ?_
        rw [va_up_ne _ _ (show q + 2 ≠ q + 1 by omega)]
        refine r_aload_n dX3_append_46 rfl ?_
        refine r_dup dX3_append_47 ?_
        refine r_getI dX3_append_48 g_X3_22 (by assumption) rfl ?_
        rw [va_up_ne _ _ (show q ≠ q + 2 by omega), va_up_ne _ _ (show q ≠ q + 1 by omega), hn]
        refine r_iconst dX3_append_51 (v := nI 1) kc_1 ?_
        first | refine r_iaddN dX3_append_52 ?_ | refine r_iadd dX3_append_52 ?_
        refine r_putI dX3_append_53 f_X3_22 (by assumption) rfl rfl rfl ?_
        rw [va_up_ne _ _ (show q ≠ q + 2 by omega), va_up_ne _ _ (show q ≠ q + 1 by omega)]
        refine r_iload_n dX3_append_56 rfl ?_
        refine r_callS1 (fr' := 0) (lo' := 0) (mc' := 0) (ms' := 0) dX3_append_57 mm_X1_leads ms_X1_leads l_X3_45 (by decide) ⟨by decide, by decide⟩ (Nat.zero_le _) (Nat.zero_le _) (Nat.le_of_ble_eq_true rfl) (c_X1_leads hk) (am_ki ?_)
        rintro v57 _ _ _ ⟨hb57, rfl, rfl, rfl⟩
        refine r_if_eq 73 dX3_append_60 (by decide) (fun h60 => ?_) (fun h60 => ?_)
        · replace h60 := hb57.f h60
          have hf : ¬ (nv (nI k) = 9 ∨ nv (nI k) = 10) := by rw [enk]; exact h60
          refine r_iconst dX3_append_73 (v := nI 1) kc_1 ?_
          refine r_ireturn dX3_append_74 .boolean rfl (by decide) ?_
          refine ⟨_, rfl, bo_1 hC, fun _ => ⟨fun r a b c d => ?_, ?_, ?_, ?_, ?_⟩, fun h => absurd hC h, rfl, rfl⟩
          · first | rw [va_up_ne _ _ d, va_up_ne _ _ a, va_up_ne _ _ c, va_up_ne _ _ b] | rw [va_up_ne _ _ a, va_up_ne _ _ c, va_up_ne _ _ b]
          · first | rw [va_up_ne _ _ (by omega), va_up_self] | rw [va_up_self]
            exact pk_us
          · first | rw [va_up_ne _ _ (by omega), va_up_ne _ _ (by omega), va_up_ne _ _ (by omega), va_up_self] | rw [va_up_ne _ _ (by omega), va_up_ne _ _ (by omega), va_up_self]
          · first | rw [va_up_ne _ _ (by omega), va_up_ne _ _ (by omega), va_up_self] | rw [va_up_ne _ _ (by omega), va_up_self]
          · first | rw [va_up_self, enk, nv_nI (by omega), if_pos h60] | rw [va_up_ne _ _ (by omega), va_up_ne _ _ (by omega), va_up_ne _ _ (by omega), enk, if_neg h60]
        · replace h60 := hb57.t h60
          obtain ⟨t, ht, rfl⟩ := aOk_39 h21 h60
          refine r_aload_n dX3_append_63 rfl ?_
          refine r_getP dX3_append_64 g_X3_19 (by assumption) rfl (by assumption) ?_
          refine r_iload_n dX3_append_67 rfl ?_
          refine r_dup2 dX3_append_68 ?_
          refine r_iaload t dX3_append_69 (by assumption) rfl (by first | decide | omega) (by decide) ?_
          rw [va_up_ne _ _ (show q + 4 ≠ q by omega), va_up_ne _ _ (show q + 4 ≠ q + 2 by omega), va_up_ne _ _ (show q + 4 ≠ q + 1 by omega)]
          refine r_iconst dX3_append_70 (v := nI 1) kc_1 ?_
          refine r_iadd dX3_append_71 ?_
          refine r_iastore t dX3_append_72 (by assumption) rfl (by first | decide | omega) (by decide) ?_
          rw [va_up_ne _ _ (show q + 4 ≠ q by omega), va_up_ne _ _ (show q + 4 ≠ q + 2 by omega), va_up_ne _ _ (show q + 4 ≠ q + 1 by omega)]
          refine r_iconst dX3_append_73 (v := nI 1) kc_1 ?_
          refine r_ireturn dX3_append_74 .boolean rfl (by decide) ?_
          refine ⟨_, rfl, bo_1 hC, fun _ => ⟨fun r a b c d => ?_, ?_, ?_, ?_, ?_⟩, fun h => absurd hC h, rfl, rfl⟩
          · first | rw [va_up_ne _ _ d, va_up_ne _ _ a, va_up_ne _ _ c, va_up_ne _ _ b] | rw [va_up_ne _ _ a, va_up_ne _ _ c, va_up_ne _ _ b]
          · first | rw [va_up_ne _ _ (by omega), va_up_self] | rw [va_up_self]
            exact pk_us
          · first | rw [va_up_ne _ _ (by omega), va_up_ne _ _ (by omega), va_up_ne _ _ (by omega), va_up_self] | rw [va_up_ne _ _ (by omega), va_up_ne _ _ (by omega), va_up_self]
          · first | rw [va_up_ne _ _ (by omega), va_up_ne _ _ (by omega), va_up_self] | rw [va_up_ne _ _ (by omega), va_up_self]
          · first | rw [va_up_self, enk, nv_nI (by omega), if_pos h60] | rw [va_up_ne _ _ (by omega), va_up_ne _ _ (by omega), va_up_ne _ _ (by omega), enk, if_neg h60]
      · replace h21 := hb18.f h21
        have hf : ¬ apC n (nI k) a := fun h => h21 (by have := h.2.2; rw [enk] at this; exact this)
        refine r_iconst dX3_append_24 (v := nI 0) kc_0 ?_
        refine r_ireturn dX3_append_25 .boolean rfl (by decide) ?_
        exact ⟨_, rfl, bo_0 hf, fun h => absurd h hf, fun _ => rfl, rfl, rfl⟩
def rpC (k : Nat) (a : Int32) : Prop := hasA k ∧ aOk k a
def rpH (I : AIn) (q k j : Nat) (b a : Int32) (H : AIn) : Prop := (∀ r, r ≠ q + 2 → r ≠ q + 4 → H r = I r) ∧ H (q + 2) = upd (I (q + 2)) j a ∧ H (q + 4) = (if k = 9 ∨ k = 10 then upd (upd (I (q + 4)) (nv b) (I (q + 4) (nv b) - nI 1)) (nv a) (upd (I (q + 4)) (nv b) (I (q + 4) (nv b) - nI 1) (nv a) + nI 1) else I (q + 4))
theorem c_X3_replace {q : Nat} (Q : SPg sh P q) {j k : Nat} (hj : j < 40) (hk : I (q + 1) j = nI k) (hk6 : k < 16) {b : Int32} (hb : I (q + 2) j = b) (hb2 : aOk k b) (a : Int32) : am_R mX3_replace (po_i (fun v sh' I' P' => bo v (rpC k a) ∧ (rpC k a → rpH I q k j b a I') ∧ (¬ rpC k a → I = I') ∧ sh = sh' ∧ P = P')) 1 21 0 0 0 [some (.ref q), some (.int (nI j)), some (.int a), none] [] sh I P := by
  obtain ⟨s0, s1, s2, s3, s4, p1, p2, p3, p4⟩ := Q
  refine r_aload_n dX3_replace_0 rfl ?_
  refine r_getP dX3_replace_1 g_X3_9 (by assumption) rfl (by assumption) ?_
  refine r_iload_n dX3_replace_4 rfl ?_
  refine r_iaload j dX3_replace_5 (by assumption) rfl (by first | decide | omega) (by decide) ?_
  rw [hk]
  refine r_istore_n dX3_replace_6 (Nat.le_of_ble_eq_true rfl) ?_
  dsimp only [List.set]
  refine r_iload_n dX3_replace_7 rfl ?_
  refine r_callS1 (fr' := 0) (lo' := 0) (mc' := 0) (ms' := 0) dX3_replace_8 mm_X1_hasArgument ms_X1_hasArgument l_X3_48 (by decide) ⟨by decide, by decide⟩ (Nat.zero_le _) (Nat.zero_le _) (Nat.le_of_ble_eq_true rfl) (c_X1_hasArgument hk6) (am_ki ?_)
  rintro v8 _ _ _ ⟨hb8, rfl, rfl, rfl⟩
  refine r_if_eq 22 dX3_replace_11 (by decide) (fun h11 => ?_) (fun h11 => ?_)
  · replace h11 := hb8.f h11
    have hf : ¬ rpC k a := fun h => h11 h.1
    refine r_iconst dX3_replace_22 (v := nI 0) kc_0 ?_
    refine r_ireturn dX3_replace_23 .boolean rfl (by decide) ?_
    exact ⟨_, rfl, bo_0 hf, fun h => absurd h hf, fun _ => rfl, rfl, rfl⟩
  · replace h11 := hb8.t h11
    refine r_iload_n dX3_replace_14 rfl ?_
    refine r_iload_n dX3_replace_15 rfl ?_
    refine r_callS2 (fr' := 0) (lo' := 0) (mc' := 0) (ms' := 0) dX3_replace_16 mm_X1_fits ms_X1_fits l_X3_41 (by decide) ⟨by decide, by decide⟩ (Nat.zero_le _) (Nat.zero_le _) (Nat.le_of_ble_eq_true rfl) (c_X1_fits hk6 _) (am_ki ?_)
    rintro v16 _ _ _ ⟨hb16, rfl, rfl, rfl⟩
    refine r_if_ne 24 dX3_replace_19 (by decide) (fun h19 => ?_) (fun h19 => ?_)
    · replace h19 := hb16.t h19
      have hC : rpC k a := ⟨h11, h19⟩
      refine r_iload_n dX3_replace_24 rfl ?_
      refine r_callS1 (fr' := 0) (lo' := 0) (mc' := 0) (ms' := 0) dX3_replace_25 mm_X1_leads ms_X1_leads l_X3_45 (by decide) ⟨by decide, by decide⟩ (Nat.zero_le _) (Nat.zero_le _) (Nat.le_of_ble_eq_true rfl) (c_X1_leads hk6) (am_ki ?_)
      rintro v25 _ _ _ ⟨hb25, rfl, rfl, rfl⟩
      refine r_if_eq 56 dX3_replace_28 (by decide) (fun h28 => ?_) (fun h28 => ?_)
      · replace h28 := hb25.f h28
        refine r_aload_n dX3_replace_56 rfl ?_
        refine r_getP dX3_replace_57 g_X3_13 (by assumption) rfl (by assumption) ?_
        refine r_iload_n dX3_replace_60 rfl ?_
        refine r_iload_n dX3_replace_61 rfl ?_
        refine r_iastore j dX3_replace_62 (by assumption) rfl (by first | decide | omega) (by decide) ?_
        refine r_iconst dX3_replace_63 (v := nI 1) kc_1 ?_
        refine r_ireturn dX3_replace_64 .boolean rfl (by decide) ?_
        refine ⟨_, rfl, bo_1 hC, fun _ => ⟨fun r a b => ?_, ?_, ?_⟩, fun h => absurd hC h, rfl, rfl⟩
        · first | rw [va_up_ne _ _ a, va_up_ne _ _ b] | rw [va_up_ne _ _ a]
        · first | rw [va_up_self, va_up_ne _ _ (by omega)] | rw [va_up_self]
        · first | rw [va_up_ne _ _ (by omega), if_neg h28] | rw [va_up_ne _ _ (by omega), va_up_self, if_pos h28, nv_nI (show u < 2147483648 by omega), nv_nI (show t < 2147483648 by omega)]
      · replace h28 := hb25.t h28
        obtain ⟨t, ht, rfl⟩ := aOk_39 h19 h28
        obtain ⟨u, hu, ub⟩ := aOk_39 hb2 h28
        have enu : nv b = u := by rw [ub, nv_nI (by omega)]
        refine r_aload_n dX3_replace_31 rfl ?_
        refine r_getP dX3_replace_32 g_X3_19 (by assumption) rfl (by assumption) ?_
        refine r_aload_n dX3_replace_35 rfl ?_
        refine r_getP dX3_replace_36 g_X3_13 (by assumption) rfl (by assumption) ?_
        refine r_iload_n dX3_replace_39 rfl ?_
        refine r_iaload j dX3_replace_40 (by assumption) rfl (by first | decide | omega) (by decide) ?_
        rw [hb, ub]
        refine r_dup2 dX3_replace_41 ?_
        refine r_iaload u dX3_replace_42 (by assumption) rfl (by first | decide | omega) (by decide) ?_
        refine r_iconst dX3_replace_43 (v := nI 1) kc_1 ?_
        refine r_isub dX3_replace_44 ?_
        refine r_iastore u dX3_replace_45 (by assumption) rfl (by first | decide | omega) (by decide) ?_
        refine r_aload_n dX3_replace_46 rfl ?_
        refine r_getP dX3_replace_47 g_X3_19 (by assumption) rfl (by assumption) ?_
        refine r_iload_n dX3_replace_50 rfl ?_
        refine r_dup2 dX3_replace_51 ?_
        refine r_iaload t dX3_replace_52 (by assumption) rfl (by first | decide | omega) (by decide) ?_
        rw [va_up_self]
        refine r_iconst dX3_replace_53 (v := nI 1) kc_1 ?_
        refine r_iadd dX3_replace_54 ?_
        refine r_iastore t dX3_replace_55 (by assumption) rfl (by first | decide | omega) (by decide) ?_
        rw [va_up_self, bx_uu]
        refine r_aload_n dX3_replace_56 rfl ?_
        refine r_getP dX3_replace_57 g_X3_13 (by assumption) rfl (by assumption) ?_
        refine r_iload_n dX3_replace_60 rfl ?_
        refine r_iload_n dX3_replace_61 rfl ?_
        refine r_iastore j dX3_replace_62 (by assumption) rfl (by first | decide | omega) (by decide) ?_
        refine r_iconst dX3_replace_63 (v := nI 1) kc_1 ?_
        refine r_ireturn dX3_replace_64 .boolean rfl (by decide) ?_
        refine ⟨_, rfl, bo_1 hC, fun _ => ⟨fun r a b => ?_, ?_, ?_⟩, fun h => absurd hC h, rfl, rfl⟩
        · first | rw [va_up_ne _ _ a, va_up_ne _ _ b] | rw [va_up_ne _ _ a]
        · first | rw [va_up_self, va_up_ne _ _ (by omega)] | rw [va_up_self]
        · first | rw [va_up_ne _ _ (by omega), if_neg h28] | rw [va_up_ne _ _ (by omega), va_up_self, if_pos h28, nv_nI (show u < 2147483648 by omega), nv_nI (show t < 2147483648 by omega)]
    · replace h19 := hb16.f h19
      have hf : ¬ rpC k a := fun h => h19 h.2
      refine r_iconst dX3_replace_22 (v := nI 0) kc_0 ?_
      refine r_ireturn dX3_replace_23 .boolean rfl (by decide) ?_
      exact ⟨_, rfl, bo_0 hf, fun h => absurd h hf, fun _ => rfl, rfl, rfl⟩
/-- how many orders a code at j could have: R of them, and no more -/
def rcR (n : Nat) (kd : Nat → Nat) (L : Nat → Nat) (j R : Nat) : Prop := (1 ≤ R ∧ R ≤ 4) ∧ j + R ≤ n ∧ (∀ i, 0 < i → i < R → L (j + i) = 0) ∧ (∀ i, i + 1 < R → ¬ isLs (kd (j + i)))
def rcE (n : Nat) (kd : Nat → Nat) (L : Nat → Nat) (j R : Nat) : Prop := rcR n kd L j R ∧ ¬ rcR n kd L j (R + 1)
theorem l_X3_reach {q : Nat} (Q : SPg sh P q) {n : Nat} {kd L : Nat → Nat} (hn : I q 0 = nI n) (hn4 : n ≤ 40) (hk : ∀ k, k < n → I (q + 1) k = nI (kd k) ∧ kd k < 16) (hL : ∀ t, t < 40 → I (q + 4) t = nI (L t) ∧ L t < 2147483648) {j : Nat} (hj : j < n) : ∀ (m R : Nat), R + m = 4 → rcR n kd L j R → am_R mX3_reach (po_i (fun v sh' I' P' => (∃ R, v = nI R ∧ rcE n kd L j R) ∧ sh = sh' ∧ I = I' ∧ P = P')) 2 40 0 0 2 [some (.ref q), some (.int (nI j)), some (.int (nI R))] [] sh I P := by
  obtain ⟨s0, s1, s2, s3, s4, p1, p2, p3, p4⟩ := id Q
  intro m
  induction m with
  | zero =>
    intro R hR hr
    have e : R = 4 := by omega
    subst e
    refine r_iload_n dX3_reach_2 rfl ?_
    refine r_iconst dX3_reach_3 (v := nI 4) kc_4 ?_
    refine r_icmp_geN 49 dX3_reach_4 (by decide) (by omega) (by omega) (fun h4 => ?_) (fun h4 => ?_)
    · refine r_iload_n dX3_reach_49 rfl ?_
      refine r_ireturn dX3_reach_50 .int rfl rfl ?_
      exact ⟨_, rfl, ⟨4, rfl, hr, fun h => absurd h.1.2 (by decide)⟩, rfl, rfl, rfl⟩
    · exact absurd h4 (by omega)
  | succ m ih =>
    intro R hR hr
    have hr2 := hr.2.1
    have hr1 := hr.1.1
    have fin : ¬ rcR n kd L j (R + 1) → ∃ R', nI R = nI R' ∧ rcE n kd L j R' := fun h => ⟨R, rfl, hr, h⟩
    refine r_iload_n dX3_reach_2 rfl ?_
    refine r_iconst dX3_reach_3 (v := nI 4) kc_4 ?_
    refine r_icmp_geN 49 dX3_reach_4 (by decide) (by omega) (by omega) (fun h4 => ?_) (fun h4 => ?_)
    · exact absurd h4 (by omega)
    · refine r_iload_n dX3_reach_7 rfl ?_
      refine r_iload_n dX3_reach_8 rfl ?_
      first | refine r_iaddN dX3_reach_9 ?_ | refine r_iadd dX3_reach_9 ?_
      refine r_aload_n dX3_reach_10 rfl ?_
      refine r_getI dX3_reach_11 g_X3_22 (by assumption) rfl ?_
      rw [hn]
      refine r_icmp_geN 49 dX3_reach_14 (by decide) (by omega) (by omega) (fun h14 => ?_) (fun h14 => ?_)
      · have hx : ¬ rcR n kd L j (R + 1) := fun h => absurd h.2.1 (by omega)
        refine r_iload_n dX3_reach_49 rfl ?_
        refine r_ireturn dX3_reach_50 .int rfl rfl ?_
        exact ⟨_, rfl, fin hx, rfl, rfl, rfl⟩
      · obtain ⟨l1, l2⟩ := hL (j + R) (by omega)
        obtain ⟨k1, k2⟩ := hk (j + R - 1) (by omega)
        have ek : j + R - 1 = j + (R - 1) := by omega
        refine r_aload_n dX3_reach_17 rfl ?_
        refine r_iload_n dX3_reach_18 rfl ?_
        refine r_iload_n dX3_reach_19 rfl ?_
        first | refine r_iaddN dX3_reach_20 ?_ | refine r_iadd dX3_reach_20 ?_
        refine r_callV1 (fr' := 0) (lo' := 0) (mc' := 0) (ms' := 0) dX3_reach_21 mm_X3_isLedTo mv_X3_isLedTo l_X3_53 (by assumption) mc_X3_isLedTo (by decide) ⟨by decide, by decide⟩ (Nat.zero_le _) (Nat.zero_le _) (Nat.le_of_ble_eq_true rfl) (c_X3_isLedTo Q (by omega) l1 l2) (am_ki ?_)
        rintro v21 _ _ _ ⟨hb21, rfl, rfl, rfl⟩
        refine r_if_ne 49 dX3_reach_24 (by decide) (fun h24 => ?_) (fun h24 => ?_)
        · replace h24 := hb21.t h24
          have hx : ¬ rcR n kd L j (R + 1) := fun h => absurd (h.2.2.1 R (by omega) (by omega)) (by omega)
          refine r_iload_n dX3_reach_49 rfl ?_
          refine r_ireturn dX3_reach_50 .int rfl rfl ?_
          exact ⟨_, rfl, fin hx, rfl, rfl, rfl⟩
        · replace h24 := hb21.f h24
          refine r_aload_n dX3_reach_27 rfl ?_
          refine r_getP dX3_reach_28 g_X3_9 (by assumption) rfl (by assumption) ?_
          refine r_iload_n dX3_reach_31 rfl ?_
          refine r_iload_n dX3_reach_32 rfl ?_
          first | refine r_iaddN dX3_reach_33 ?_ | refine r_iadd dX3_reach_33 ?_
          refine r_iconst dX3_reach_34 (v := nI 1) kc_1 ?_
          first | refine r_isubN dX3_reach_35 (by omega) ?_ | refine r_isub dX3_reach_35 ?_
          refine r_iaload (j + R - 1) dX3_reach_36 (by assumption) rfl (by first | decide | omega) (by decide) ?_
          rw [k1]
          refine r_callS1 (fr' := 1) (lo' := 20) (mc' := 0) (ms' := 0) dX3_reach_37 mm_X1_isLastAlone ms_X1_isLastAlone l_X3_56 (by decide) ⟨by decide, by decide⟩ (Nat.zero_le _) (Nat.zero_le _) (Nat.le_of_ble_eq_true rfl) (c_X1_isLastAlone k2) (am_ki ?_)
          rintro v37 _ _ _ ⟨hb37, rfl, rfl, rfl⟩
          refine r_if_ne 49 dX3_reach_40 (by decide) (fun h40 => ?_) (fun h40 => ?_)
          · replace h40 := hb37.t h40
            have hx : ¬ rcR n kd L j (R + 1) := fun h => h.2.2.2 (R - 1) (by omega) (by rw [← ek]; exact h40)
            refine r_iload_n dX3_reach_49 rfl ?_
            refine r_ireturn dX3_reach_50 .int rfl rfl ?_
            exact ⟨_, rfl, fin hx, rfl, rfl, rfl⟩
          · replace h40 := hb37.f h40
            first | refine r_iincN dX3_reach_43 rfl kc_1 ?_ | refine r_iinc dX3_reach_43 rfl rfl ?_
            dsimp only [List.set]
            refine r_goto 2 dX3_reach_46 (by decide) ?_
            refine ih (R + 1) (by omega) ⟨⟨by omega, by omega⟩, by omega, fun i h1 h2 => ?_, fun i h1 => ?_⟩
            · rcases Nat.lt_or_ge i R with g | g
              · exact hr.2.2.1 i h1 g
              · have e : i = R := by omega
                subst e; omega
            · rcases Nat.lt_or_ge (i + 1) R with g | g
              · exact hr.2.2.2 i g
              · have e : i = R - 1 := by omega
                subst e; rw [← ek]; exact h40
theorem c_X3_reach {q : Nat} (Q : SPg sh P q) {n : Nat} {kd L : Nat → Nat} (hn : I q 0 = nI n) (hn4 : n ≤ 40) (hk : ∀ k, k < n → I (q + 1) k = nI (kd k) ∧ kd k < 16) (hL : ∀ t, t < 40 → I (q + 4) t = nI (L t) ∧ L t < 2147483648) {j : Nat} (hj : j < n) : am_R mX3_reach (po_i (fun v sh' I' P' => (∃ R, v = nI R ∧ rcE n kd L j R) ∧ sh = sh' ∧ I = I' ∧ P = P')) 2 40 0 0 0 [some (.ref q), some (.int (nI j)), none] [] sh I P := by
  refine r_iconst dX3_reach_0 (v := nI 1) kc_1 ?_
  refine r_istore_n dX3_reach_1 (Nat.le_of_ble_eq_true rfl) ?_
  dsimp only [List.set]
  exact l_X3_reach Q hn hn4 hk hL hj 3 1 rfl ⟨by decide, by omega, fun i h1 h2 => absurd h2 (by omega), fun i h1 => absurd h1 (by omega)⟩
theorem c_X3_weight {q : Nat} (Q : SPg sh P q) {j : Nat} (hj : j < 40) (b : Int32) : am_R mX3_weight (po_i (fun v sh' I' P' => v = (if b = 0 then nI 1 else I (q + 3) j) ∧ sh = sh' ∧ I = I' ∧ P = P')) 0 0 0 0 0 [some (.ref q), some (.int (nI j)), some (.int b)] [] sh I P := by
  obtain ⟨s0, s1, s2, s3, s4, p1, p2, p3, p4⟩ := Q
  refine r_iload_n dX3_weight_0 rfl ?_
  refine r_if_eq 13 dX3_weight_1 (by decide) (fun h1 => ?_) (fun h1 => ?_)
  · rw [if_pos h1]
    refine r_iconst dX3_weight_13 (v := nI 1) kc_1 ?_
    refine r_ireturn dX3_weight_14 .int rfl rfl ?_
    exact ⟨_, rfl, rfl, rfl, rfl, rfl⟩
  · rw [if_neg h1]
    refine r_aload_n dX3_weight_4 rfl ?_
    refine r_getP dX3_weight_5 g_X3_16 (by assumption) rfl (by assumption) ?_
    refine r_iload_n dX3_weight_8 rfl ?_
    refine r_iaload j dX3_weight_9 (by assumption) rfl (by first | decide | omega) (by decide) ?_
    refine r_goto 14 dX3_weight_10 (by decide) ?_
    refine r_ireturn dX3_weight_14 .int rfl rfl ?_
    exact ⟨_, rfl, rfl, rfl, rfl, rfl⟩
def cpP (I : AIn) (q q' : Nat) (H : AIn) : Prop := (∀ r, r ≠ q → r ≠ q + 1 → r ≠ q + 2 → r ≠ q + 3 → r ≠ q + 4 → H r = I r) ∧ H q 0 = I q' 0 ∧ ∀ j, j < 40 → H (q + 1) j = I (q' + 1) j ∧ H (q + 2) j = I (q' + 2) j ∧ H (q + 3) j = I (q' + 3) j ∧ H (q + 4) j = I (q' + 4) j
theorem c_X3_copyFrom {q q' : Nat} (Q : SPg sh P q) (Q' : SPg sh P q') (hd : q + 4 < q' ∨ q' + 4 < q) : am_R mX3_copyFrom (po_v (fun sh' I' P' => cpP I q q' I' ∧ sh = sh' ∧ P = P')) 1 30 0 0 0 [some (.ref q), some (.ref q')] [] sh I P := by
  obtain ⟨s0, s1, s2, s3, s4, p1, p2, p3, p4⟩ := Q
  obtain ⟨t0, t1, t2, t3, t4, u1, u2, u3, u4⟩ := Q'
  refine r_aload_n dX3_copyFrom_0 rfl ?_
  refine r_aload_n dX3_copyFrom_1 rfl ?_
  refine r_getI dX3_copyFrom_2 g_X3_22 (by assumption) rfl ?_
  refine r_putI dX3_copyFrom_5 f_X3_22 (by assumption) rfl rfl rfl ?_
  refine r_aload_n dX3_copyFrom_8 rfl ?_
  refine r_getP dX3_copyFrom_9 g_X3_9 (by assumption) rfl (by assumption) ?_
  refine r_iconst dX3_copyFrom_12 (v := nI 0) kc_0 ?_
  refine r_aload_n dX3_copyFrom_13 rfl ?_
  refine r_getP dX3_copyFrom_14 g_X3_9 (by assumption) rfl (by assumption) ?_
  refine r_iconst dX3_copyFrom_17 (v := nI 0) kc_0 ?_
  refine r_bipush dX3_copyFrom_18 (v := nI 40) (by decide) ?_
  refine r_copy 0 0 40 dX3_copyFrom_20 la_X3_59 (by assumption) (by assumption) rfl rfl rfl (by first | decide | omega) (by first | decide | omega) (by decide) (by decide) ⟨by decide, Nat.le_of_ble_eq_true rfl⟩ ?_
  refine r_aload_n dX3_copyFrom_23 rfl ?_
  refine r_getP dX3_copyFrom_24 g_X3_13 (by assumption) rfl (by assumption) ?_
  refine r_iconst dX3_copyFrom_27 (v := nI 0) kc_0 ?_
  refine r_aload_n dX3_copyFrom_28 rfl ?_
  refine r_getP dX3_copyFrom_29 g_X3_13 (by assumption) rfl (by assumption) ?_
  refine r_iconst dX3_copyFrom_32 (v := nI 0) kc_0 ?_
  refine r_bipush dX3_copyFrom_33 (v := nI 40) (by decide) ?_
  refine r_copy 0 0 40 dX3_copyFrom_35 la_X3_59 (by assumption) (by assumption) rfl rfl rfl (by first | decide | omega) (by first | decide | omega) (by decide) (by decide) ⟨by decide, Nat.le_of_ble_eq_true rfl⟩ ?_
  refine r_aload_n dX3_copyFrom_38 rfl ?_
  refine r_getP dX3_copyFrom_39 g_X3_16 (by assumption) rfl (by assumption) ?_
  refine r_iconst dX3_copyFrom_42 (v := nI 0) kc_0 ?_
  refine r_aload_n dX3_copyFrom_43 rfl ?_
  refine r_getP dX3_copyFrom_44 g_X3_16 (by assumption) rfl (by assumption) ?_
  refine r_iconst dX3_copyFrom_47 (v := nI 0) kc_0 ?_
  refine r_bipush dX3_copyFrom_48 (v := nI 40) (by decide) ?_
  refine r_copy 0 0 40 dX3_copyFrom_50 la_X3_59 (by assumption) (by assumption) rfl rfl rfl (by first | decide | omega) (by first | decide | omega) (by decide) (by decide) ⟨by decide, Nat.le_of_ble_eq_true rfl⟩ ?_
  refine r_aload_n dX3_copyFrom_53 rfl ?_
  refine r_getP dX3_copyFrom_54 g_X3_19 (by assumption) rfl (by assumption) ?_
  refine r_iconst dX3_copyFrom_57 (v := nI 0) kc_0 ?_
  refine r_aload_n dX3_copyFrom_58 rfl ?_
  refine r_getP dX3_copyFrom_59 g_X3_19 (by assumption) rfl (by assumption) ?_
  refine r_iconst dX3_copyFrom_62 (v := nI 0) kc_0 ?_
  refine r_bipush dX3_copyFrom_63 (v := nI 40) (by decide) ?_
  refine r_copy 0 0 40 dX3_copyFrom_65 la_X3_59 (by assumption) (by assumption) rfl rfl rfl (by first | decide | omega) (by first | decide | omega) (by decide) (by decide) ⟨by decide, Nat.le_of_ble_eq_true rfl⟩ ?_
  refine r_return dX3_copyFrom_68 rfl ?_
  refine ⟨rfl, ⟨fun r a b c d e => ?_, ?_, fun j hj => ⟨?_, ?_, ?_, ?_⟩⟩, rfl, rfl⟩
  · rw [va_up_ne _ _ e, va_up_ne _ _ d, va_up_ne _ _ c, va_up_ne _ _ b, va_up_ne _ _ a]
  · rw [va_up_ne _ _ (by omega), va_up_ne _ _ (by omega), va_up_ne _ _ (by omega), va_up_ne _ _ (by omega), va_up_self]; exact pk_us
  · rw [va_up_ne _ _ (by omega), va_up_ne _ _ (by omega), va_up_ne _ _ (by omega), va_up_self, sb_cpy0 hj, va_up_ne _ _ (by omega)]
  · rw [va_up_ne _ _ (by omega), va_up_ne _ _ (by omega), va_up_self, sb_cpy0 hj, va_up_ne _ _ (by omega), va_up_ne _ _ (by omega)]
  · rw [va_up_ne _ _ (by omega), va_up_self, sb_cpy0 hj, va_up_ne _ _ (by omega), va_up_ne _ _ (by omega), va_up_ne _ _ (by omega)]
  · rw [va_up_self, sb_cpy0 hj, va_up_ne _ _ (by omega), va_up_ne _ _ (by omega), va_up_ne _ _ (by omega), va_up_ne _ _ (by omega)]
end K3
