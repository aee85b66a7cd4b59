/-! the class: a State is made -/
def SPk (sh : ASh) (P : APt) (q : Nat) : Prop := (sh q = (1, 1) ∧ P q 1 = some (q + 1) ∧ SPg sh P (q + 1)) ∧ (sh (q + 6) = (2, 40) ∧ P q 3 = some (q + 6)) ∧ (sh (q + 7) = (2, 40) ∧ P q 4 = some (q + 7)) ∧ (sh (q + 8) = (2, 40) ∧ P q 5 = some (q + 8)) ∧ (sh (q + 9) = (2, 80) ∧ P q 7 = some (q + 9)) ∧ sh (q + 10) = (2, 40) ∧ P q 8 = some (q + 10)
def SRn (sh : ASh) (P : APt) (q : Nat) : Prop := sh q = (1, 4) ∧ (sh (q + 1) = (2, 24) ∧ P q 5 = some (q + 1)) ∧ (sh (q + 2) = (2, 40) ∧ P q 7 = some (q + 2)) ∧ sh (q + 3) = (2, 8) ∧ P q 8 = some (q + 3)
def STd (sh : ASh) (P : APt) (q : Nat) : Prop := sh q = (1, 6) ∧ sh (q + 1) = (2, 160) ∧ P q 1 = some (q + 1)
def SSt (sh : ASh) (P : APt) (B : Nat) : Prop := (sh B = (1, 5) ∧ sh (B + 1) = (4, 3) ∧ P B 1 = some (B + 1)) ∧ (∀ p, p < 3 → P (B + 1) p = some (B + 2 + 5 * p) ∧ SPg sh P (B + 2 + 5 * p)) ∧ (SRw sh P (B + 17) ∧ P B 2 = some (B + 17)) ∧ (SPk sh P (B + 19) ∧ P B 3 = some (B + 19)) ∧ (SRn sh P (B + 30) ∧ P B 4 = some (B + 30)) ∧ (SRw sh P (B + 34) ∧ P B 6 = some (B + 34)) ∧ STd sh P (B + 36) ∧ P B 7 = some (B + 36)
theorem bA_o {sh : ASh} {z n k : Nat} (h : k ≠ z) : bA sh z n k = sh k := va_up_ne _ _ h
theorem zA_o {I : AIn} {z k : Nat} (h : k ≠ z) : zA I z k = I k := va_up_ne _ _ h
theorem bP_o {P : APt} {q f z k : Nat} (h : k ≠ q) (h2 : k ≠ z) : bP P q f z k = P k := by unfold bP; rw [va_up_ne _ _ h, va_up_ne _ _ h2]
theorem shK_o {sh : ASh} {q k : Nat} (h : k ≤ q ∨ q + 10 < k) : shK sh q k = sh k := by
  unfold shK
  rw [bA_o (by omega), bA_o (by omega), bA_o (by omega), bA_o (by omega), bA_o (by omega), bA_o (by omega), bA_o (by omega), bA_o (by omega), bA_o (by omega), va_up_ne _ _ (by omega)]
theorem inK_o {I : AIn} {q k : Nat} (h : k ≤ q ∨ q + 10 < k) : inK I q k = I k := by
  unfold inK
  rw [zA_o (by omega), zA_o (by omega), zA_o (by omega), zA_o (by omega), zA_o (by omega), zA_o (by omega), zA_o (by omega), zA_o (by omega), zA_o (by omega), zA_o (by omega)]
theorem ptK_o {P : APt} {q k : Nat} (h : k < q ∨ q + 10 < k) : ptK P q k = P k := by
  unfold ptK
  rw [bP_o (by omega) (by omega), bP_o (by omega) (by omega), bP_o (by omega) (by omega), bP_o (by omega) (by omega), bP_o (by omega) (by omega), va_up_ne _ _ (by omega), bP_o (by omega) (by omega), bP_o (by omega) (by omega), bP_o (by omega) (by omega), bP_o (by omega) (by omega), va_up_ne _ _ (by omega)]
section K17
variable {sh : ASh} {I σ : AIn} {P : APt}
set_option maxRecDepth 20000 in
theorem c_X7_init_100 (s0 : sh 100 = (1, 5)) (hU : ∀ k, 100 < k → k ≤ 137 → (sh k).1 = 0) : am_R mX7_init (po_v (fun sh' I' P' => SSt sh' P' 100 ∧ (∀ k, k < 100 ∨ 137 < k → sh' k = sh k ∧ P' k = P k ∧ I' k = I k) ∧ I' 100 = I 100 ∧ ∀ k, 100 < k → k ≤ 137 → I' k = fun _ => 0)) 3 60 37 1172 0 [some (.ref 100), none] [] sh I P := by
  refine r_aload_n dX7_init_0 rfl ?_
  refine r_obj dX7_init_1 lo_X7_1 ⟨by decide, Nat.le_of_ble_eq_true rfl⟩ ?_
  refine r_aload_n dX7_init_4 rfl ?_
  refine r_iconst dX7_init_5 (v := nI 3) kc_3 ?_
  refine r_anewP 101 3 dX7_init_6 kl_X7_9 (hU 101 (by decide) (by decide)) rfl (by decide) (by decide) (by decide) ?_
  refine r_putP dX7_init_9 f_X7_11 (by first | exact s0 | rfl) rfl rfl (fun _ => rfl) (fun _ => rfl) ?_
  refine r_aload_n dX7_init_12 rfl ?_
  refine r_new 117 dX7_init_13 k_X7_15 (hU 117 (by decide) (by decide)) (by decide) (by decide) ?_
  refine r_dup dX7_init_16 ?_
  refine r_callN0 (fr' := 1) (lo' := 20) (mc' := 1) (ms' := 6) dX7_init_17 mm_X5_init rfl mi_X5_init rfl RX10 (by decide) (by decide) ⟨by decide, by decide⟩ (by decide) (by decide) (Nat.le_of_ble_eq_true rfl) (c_X5_init (q := 117) rfl (fun k h1 h2 => by rcases (show k = 118 by omega) with rfl <;> exact hU _ (by decide) (by decide))) (am_kv ?_)
  rintro _ _ _ ⟨rfl, rfl, rfl⟩
  refine r_putP dX7_init_20 f_X7_18 (by first | exact s0 | rfl) rfl rfl (fun _ => rfl) (fun _ => rfl) ?_
  refine r_aload_n dX7_init_23 rfl ?_
  refine r_new 119 dX7_init_24 k_X7_22 (hU 119 (by decide) (by decide)) (by decide) (by decide) ?_
  refine r_dup dX7_init_27 ?_
  refine r_callN0 (fr' := 2) (lo' := 40) (mc' := 10) (ms' := 405) dX7_init_28 mm_X2_init rfl mi_X2_init rfl RX10 (by decide) (by decide) ⟨by decide, by decide⟩ (by decide) (by decide) (Nat.le_of_ble_eq_true rfl) (c_X2_init (q := 119) rfl (fun k h1 h2 => by rcases (show k = 120 ∨ k = 121 ∨ k = 122 ∨ k = 123 ∨ k = 124 ∨ k = 125 ∨ k = 126 ∨ k = 127 ∨ k = 128 ∨ k = 129 by omega) with rfl | rfl | rfl | rfl | rfl | rfl | rfl | rfl | rfl | rfl <;> exact hU _ (by decide) (by decide))) (am_kv ?_)
  rintro _ _ _ ⟨rfl, rfl, rfl⟩
  refine r_putP dX7_init_31 f_X7_25 (by first | exact s0 | rfl) rfl rfl (fun _ => rfl) (fun _ => rfl) ?_
  refine r_aload_n dX7_init_34 rfl ?_
  refine r_new 130 dX7_init_35 k_X7_29 (hU 130 (by decide) (by decide)) (by decide) (by decide) ?_
  refine r_dup dX7_init_38 ?_
  refine r_callN0 (fr' := 1) (lo' := 20) (mc' := 3) (ms' := 72) dX7_init_39 mm_X6_init rfl mi_X6_init rfl RX10 (by decide) (by decide) ⟨by decide, by decide⟩ (by decide) (by decide) (Nat.le_of_ble_eq_true rfl) (c_X6_init (q := 130) rfl (fun k h1 h2 => by rcases (show k = 131 ∨ k = 132 ∨ k = 133 by omega) with rfl | rfl | rfl <;> exact hU _ (by decide) (by decide))) (am_kv ?_)
  rintro _ _ _ ⟨rfl, rfl, rfl⟩
  refine r_putP dX7_init_42 f_X7_32 (by first | exact s0 | rfl) rfl rfl (fun _ => rfl) (fun _ => rfl) ?_
  refine r_aload_n dX7_init_45 rfl ?_
  refine r_new 134 dX7_init_46 k_X7_15 (hU 134 (by decide) (by decide)) (by decide) (by decide) ?_
  refine r_dup dX7_init_49 ?_
  refine r_callN0 (fr' := 1) (lo' := 20) (mc' := 1) (ms' := 6) dX7_init_50 mm_X5_init rfl mi_X5_init rfl RX10 (by decide) (by decide) ⟨by decide, by decide⟩ (by decide) (by decide) (Nat.le_of_ble_eq_true rfl) (c_X5_init (q := 134) rfl (fun k h1 h2 => by rcases (show k = 135 by omega) with rfl <;> exact hU _ (by decide) (by decide))) (am_kv ?_)
  rintro _ _ _ ⟨rfl, rfl, rfl⟩
  refine r_putP dX7_init_53 f_X7_36 (by first | exact s0 | rfl) rfl rfl (fun _ => rfl) (fun _ => rfl) ?_
  refine r_aload_n dX7_init_56 rfl ?_
  refine r_new 136 dX7_init_57 k_X7_39 (hU 136 (by decide) (by decide)) (by decide) (by decide) ?_
  refine r_dup dX7_init_60 ?_
  refine r_callN0 (fr' := 1) (lo' := 20) (mc' := 1) (ms' := 160) dX7_init_61 mm_X8_init rfl mi_X8_init rfl RX10 (by decide) (by decide) ⟨by decide, by decide⟩ (by decide) (by decide) (Nat.le_of_ble_eq_true rfl) (c_X8_init (q := 136) rfl (fun k h1 h2 => by rcases (show k = 137 by omega) with rfl <;> exact hU _ (by decide) (by decide))) (am_kv ?_)
  rintro _ _ _ ⟨rfl, rfl, rfl⟩
  refine r_putP dX7_init_64 f_X7_42 (by first | exact s0 | rfl) rfl rfl (fun _ => rfl) (fun _ => rfl) ?_
  refine r_iconst dX7_init_67 (v := nI 0) kc_0 ?_
  refine r_istore_n dX7_init_68 (Nat.le_of_ble_eq_true rfl) ?_
  dsimp only [List.set]
  refine r_iload_n dX7_init_69 rfl ?_
  refine r_iconst dX7_init_70 (v := nI 3) kc_3 ?_
  refine r_icmp_geN 93 dX7_init_71 (by decide) (by omega) (by omega) (fun h71 => ?_) (fun h71 => ?_)
  · exact absurd h71 (by omega)
  · refine r_aload_n dX7_init_74 rfl ?_
    refine r_getP dX7_init_75 g_X7_11 (by first | exact s0 | rfl) rfl rfl ?_
    refine r_iload_n dX7_init_78 rfl ?_
    refine r_new 102 dX7_init_79 k_X7_9 (hU 102 (by decide) (by decide)) (by decide) (by decide) ?_
    refine r_dup dX7_init_82 ?_
    refine r_callN0 (fr' := 1) (lo' := 20) (mc' := 4) (ms' := 160) dX7_init_83 mm_X3_init rfl mi_X3_init rfl RX10 (by decide) (by decide) ⟨by decide, by decide⟩ (by decide) (by decide) (Nat.le_of_ble_eq_true rfl) (c_X3_init (q := 102) rfl (fun k h1 h2 => by rcases (show k = 103 ∨ k = 104 ∨ k = 105 ∨ k = 106 by omega) with rfl | rfl | rfl | rfl <;> exact hU _ (by decide) (by decide))) (am_kv ?_)
    rintro _ _ _ ⟨rfl, rfl, rfl⟩
    refine r_aastoreP 0 dX7_init_86 (by first | exact s0 | rfl) rfl rfl (by first | decide | omega) (by decide) ?_
    first | refine r_iincN dX7_init_87 rfl kc_1 ?_ | refine r_iinc dX7_init_87 rfl rfl ?_
    dsimp only [List.set]
    refine r_goto 69 dX7_init_90 (by decide) ?_
    refine r_iload_n dX7_init_69 rfl ?_
    refine r_iconst dX7_init_70 (v := nI 3) kc_3 ?_
    refine r_icmp_geN 93 dX7_init_71 (by decide) (by omega) (by omega) (fun h71 => ?_) (fun h71 => ?_)
    · exact absurd h71 (by omega)
    · refine r_aload_n dX7_init_74 rfl ?_
      refine r_getP dX7_init_75 g_X7_11 (by first | exact s0 | rfl) rfl rfl ?_
      refine r_iload_n dX7_init_78 rfl ?_
      refine r_new 107 dX7_init_79 k_X7_9 (hU 107 (by decide) (by decide)) (by decide) (by decide) ?_
      refine r_dup dX7_init_82 ?_
      refine r_callN0 (fr' := 1) (lo' := 20) (mc' := 4) (ms' := 160) dX7_init_83 mm_X3_init rfl mi_X3_init rfl RX10 (by decide) (by decide) ⟨by decide, by decide⟩ (by decide) (by decide) (Nat.le_of_ble_eq_true rfl) (c_X3_init (q := 107) rfl (fun k h1 h2 => by rcases (show k = 108 ∨ k = 109 ∨ k = 110 ∨ k = 111 by omega) with rfl | rfl | rfl | rfl <;> exact hU _ (by decide) (by decide))) (am_kv ?_)
      rintro _ _ _ ⟨rfl, rfl, rfl⟩
      refine r_aastoreP 1 dX7_init_86 (by first | exact s0 | rfl) rfl rfl (by first | decide | omega) (by decide) ?_
      first | refine r_iincN dX7_init_87 rfl kc_1 ?_ | refine r_iinc dX7_init_87 rfl rfl ?_
      dsimp only [List.set]
      refine r_goto 69 dX7_init_90 (by decide) ?_
      refine r_iload_n dX7_init_69 rfl ?_
      refine r_iconst dX7_init_70 (v := nI 3) kc_3 ?_
      refine r_icmp_geN 93 dX7_init_71 (by decide) (by omega) (by omega) (fun h71 => ?_) (fun h71 => ?_)
      · exact absurd h71 (by omega)
      · refine r_aload_n dX7_init_74 rfl ?_
        refine r_getP dX7_init_75 g_X7_11 (by first | exact s0 | rfl) rfl rfl ?_
        refine r_iload_n dX7_init_78 rfl ?_
        refine r_new 112 dX7_init_79 k_X7_9 (hU 112 (by decide) (by decide)) (by decide) (by decide) ?_
        refine r_dup dX7_init_82 ?_
        refine r_callN0 (fr' := 1) (lo' := 20) (mc' := 4) (ms' := 160) dX7_init_83 mm_X3_init rfl mi_X3_init rfl RX10 (by decide) (by decide) ⟨by decide, by decide⟩ (by decide) (by decide) (Nat.le_of_ble_eq_true rfl) (c_X3_init (q := 112) rfl (fun k h1 h2 => by rcases (show k = 113 ∨ k = 114 ∨ k = 115 ∨ k = 116 by omega) with rfl | rfl | rfl | rfl <;> exact hU _ (by decide) (by decide))) (am_kv ?_)
        rintro _ _ _ ⟨rfl, rfl, rfl⟩
        refine r_aastoreP 2 dX7_init_86 (by first | exact s0 | rfl) rfl rfl (by first | decide | omega) (by decide) ?_
        first | refine r_iincN dX7_init_87 rfl kc_1 ?_ | refine r_iinc dX7_init_87 rfl rfl ?_
        dsimp only [List.set]
        refine r_goto 69 dX7_init_90 (by decide) ?_
        refine r_iload_n dX7_init_69 rfl ?_
        refine r_iconst dX7_init_70 (v := nI 3) kc_3 ?_
        refine r_icmp_geN 93 dX7_init_71 (by decide) (by omega) (by omega) (fun h71 => ?_) (fun h71 => ?_)
        · refine r_return dX7_init_93 rfl ?_
          refine ⟨rfl, ⟨⟨s0, rfl, rfl⟩, fun p hp => ?_, ⟨⟨rfl, rfl, rfl⟩, rfl⟩, ⟨⟨⟨rfl, rfl, ⟨rfl, rfl, rfl, rfl, rfl, rfl, rfl, rfl, rfl⟩⟩, ⟨rfl, rfl⟩, ⟨rfl, rfl⟩, ⟨rfl, rfl⟩, ⟨rfl, rfl⟩, rfl, rfl⟩, rfl⟩, ⟨⟨rfl, ⟨rfl, rfl⟩, ⟨rfl, rfl⟩, rfl, rfl⟩, rfl⟩, ⟨⟨rfl, rfl, rfl⟩, rfl⟩, ⟨rfl, rfl, rfl⟩, rfl⟩, fun k hk => ⟨?_, ?_, ?_⟩, ?_, fun k h1 h2 => ?_⟩
          · rcases (show p = 0 ∨ p = 1 ∨ p = 2 by omega) with rfl | rfl | rfl <;> exact ⟨rfl, rfl, rfl, rfl, rfl, rfl, rfl, rfl, rfl, rfl⟩
          · rw [bA_o (by omega), bA_o (by omega), bA_o (by omega), bA_o (by omega), va_up_ne _ _ (by omega), bA_o (by omega), bA_o (by omega), bA_o (by omega), bA_o (by omega), va_up_ne _ _ (by omega), bA_o (by omega), bA_o (by omega), bA_o (by omega), bA_o (by omega), va_up_ne _ _ (by omega), bA_o (by omega), va_up_ne _ _ (by omega), bA_o (by omega), va_up_ne _ _ (by omega), bA_o (by omega), bA_o (by omega), bA_o (by omega), va_up_ne _ _ (by omega), shK_o (by omega), va_up_ne _ _ (by omega), bA_o (by omega), va_up_ne _ _ (by omega), va_up_ne _ _ (by omega)]
          · rw [va_up_ne _ _ (by omega), bP_o (by omega) (by omega), bP_o (by omega) (by omega), bP_o (by omega) (by omega), bP_o (by omega) (by omega), va_up_ne _ _ (by omega), va_up_ne _ _ (by omega), bP_o (by omega) (by omega), bP_o (by omega) (by omega), bP_o (by omega) (by omega), bP_o (by omega) (by omega), va_up_ne _ _ (by omega), va_up_ne _ _ (by omega), bP_o (by omega) (by omega), bP_o (by omega) (by omega), bP_o (by omega) (by omega), bP_o (by omega) (by omega), va_up_ne _ _ (by omega), va_up_ne _ _ (by omega), bP_o (by omega) (by omega), va_up_ne _ _ (by omega), va_up_ne _ _ (by omega), bP_o (by omega) (by omega), va_up_ne _ _ (by omega), va_up_ne _ _ (by omega), bP_o (by omega) (by omega), bP_o (by omega) (by omega), bP_o (by omega) (by omega), va_up_ne _ _ (by omega), va_up_ne _ _ (by omega), ptK_o (by omega), va_up_ne _ _ (by omega), va_up_ne _ _ (by omega), bP_o (by omega) (by omega), va_up_ne _ _ (by omega), va_up_ne _ _ (by omega), va_up_ne _ _ (by omega)]
          · rw [zA_o (by omega), zA_o (by omega), zA_o (by omega), zA_o (by omega), va_up_ne _ _ (by omega), zA_o (by omega), zA_o (by omega), zA_o (by omega), zA_o (by omega), va_up_ne _ _ (by omega), zA_o (by omega), zA_o (by omega), zA_o (by omega), zA_o (by omega), va_up_ne _ _ (by omega), zA_o (by omega), va_up_ne _ _ (by omega), zA_o (by omega), va_up_ne _ _ (by omega), zA_o (by omega), zA_o (by omega), zA_o (by omega), va_up_ne _ _ (by omega), inK_o (by omega), va_up_ne _ _ (by omega), zA_o (by omega), va_up_ne _ _ (by omega), va_up_ne _ _ (by omega)]
          · rfl
          · rcases (show k = 101 ∨ k = 102 ∨ k = 103 ∨ k = 104 ∨ k = 105 ∨ k = 106 ∨ k = 107 ∨ k = 108 ∨ k = 109 ∨ k = 110 ∨ k = 111 ∨ k = 112 ∨ k = 113 ∨ k = 114 ∨ k = 115 ∨ k = 116 ∨ k = 117 ∨ k = 118 ∨ k = 119 ∨ k = 120 ∨ k = 121 ∨ k = 122 ∨ k = 123 ∨ k = 124 ∨ k = 125 ∨ k = 126 ∨ k = 127 ∨ k = 128 ∨ k = 129 ∨ k = 130 ∨ k = 131 ∨ k = 132 ∨ k = 133 ∨ k = 134 ∨ k = 135 ∨ k = 136 ∨ k = 137 by omega) with rfl | rfl | rfl | rfl | rfl | rfl | rfl | rfl | rfl | rfl | rfl | rfl | rfl | rfl | rfl | rfl | rfl | rfl | rfl | rfl | rfl | rfl | rfl | rfl | rfl | rfl | rfl | rfl | rfl | rfl | rfl | rfl | rfl | rfl | rfl | rfl | rfl <;> rfl
        · exact absurd h71 (by omega)
set_option maxRecDepth 20000 in
theorem c_X7_init_200 (s0 : sh 200 = (1, 5)) (hU : ∀ k, 200 < k → k ≤ 237 → (sh k).1 = 0) : am_R mX7_init (po_v (fun sh' I' P' => SSt sh' P' 200 ∧ (∀ k, k < 200 ∨ 237 < k → sh' k = sh k ∧ P' k = P k ∧ I' k = I k) ∧ I' 200 = I 200 ∧ ∀ k, 200 < k → k ≤ 237 → I' k = fun _ => 0)) 3 60 37 1172 0 [some (.ref 200), none] [] sh I P := by
  refine r_aload_n dX7_init_0 rfl ?_
  refine r_obj dX7_init_1 lo_X7_1 ⟨by decide, Nat.le_of_ble_eq_true rfl⟩ ?_
  refine r_aload_n dX7_init_4 rfl ?_
  refine r_iconst dX7_init_5 (v := nI 3) kc_3 ?_
  refine r_anewP 201 3 dX7_init_6 kl_X7_9 (hU 201 (by decide) (by decide)) rfl (by decide) (by decide) (by decide) ?_
  refine r_putP dX7_init_9 f_X7_11 (by first | exact s0 | rfl) rfl rfl (fun _ => rfl) (fun _ => rfl) ?_
  refine r_aload_n dX7_init_12 rfl ?_
  refine r_new 217 dX7_init_13 k_X7_15 (hU 217 (by decide) (by decide)) (by decide) (by decide) ?_
  refine r_dup dX7_init_16 ?_
  refine r_callN0 (fr' := 1) (lo' := 20) (mc' := 1) (ms' := 6) dX7_init_17 mm_X5_init rfl mi_X5_init rfl RX10 (by decide) (by decide) ⟨by decide, by decide⟩ (by decide) (by decide) (Nat.le_of_ble_eq_true rfl) (c_X5_init (q := 217) rfl (fun k h1 h2 => by rcases (show k = 218 by omega) with rfl <;> exact hU _ (by decide) (by decide))) (am_kv ?_)
  rintro _ _ _ ⟨rfl, rfl, rfl⟩
  refine r_putP dX7_init_20 f_X7_18 (by first | exact s0 | rfl) rfl rfl (fun _ => rfl) (fun _ => rfl) ?_
  refine r_aload_n dX7_init_23 rfl ?_
  refine r_new 219 dX7_init_24 k_X7_22 (hU 219 (by decide) (by decide)) (by decide) (by decide) ?_
  refine r_dup dX7_init_27 ?_
  refine r_callN0 (fr' := 2) (lo' := 40) (mc' := 10) (ms' := 405) dX7_init_28 mm_X2_init rfl mi_X2_init rfl RX10 (by decide) (by decide) ⟨by decide, by decide⟩ (by decide) (by decide) (Nat.le_of_ble_eq_true rfl) (c_X2_init (q := 219) rfl (fun k h1 h2 => by rcases (show k = 220 ∨ k = 221 ∨ k = 222 ∨ k = 223 ∨ k = 224 ∨ k = 225 ∨ k = 226 ∨ k = 227 ∨ k = 228 ∨ k = 229 by omega) with rfl | rfl | rfl | rfl | rfl | rfl | rfl | rfl | rfl | rfl <;> exact hU _ (by decide) (by decide))) (am_kv ?_)
  rintro _ _ _ ⟨rfl, rfl, rfl⟩
  refine r_putP dX7_init_31 f_X7_25 (by first | exact s0 | rfl) rfl rfl (fun _ => rfl) (fun _ => rfl) ?_
  refine r_aload_n dX7_init_34 rfl ?_
  refine r_new 230 dX7_init_35 k_X7_29 (hU 230 (by decide) (by decide)) (by decide) (by decide) ?_
  refine r_dup dX7_init_38 ?_
  refine r_callN0 (fr' := 1) (lo' := 20) (mc' := 3) (ms' := 72) dX7_init_39 mm_X6_init rfl mi_X6_init rfl RX10 (by decide) (by decide) ⟨by decide, by decide⟩ (by decide) (by decide) (Nat.le_of_ble_eq_true rfl) (c_X6_init (q := 230) rfl (fun k h1 h2 => by rcases (show k = 231 ∨ k = 232 ∨ k = 233 by omega) with rfl | rfl | rfl <;> exact hU _ (by decide) (by decide))) (am_kv ?_)
  rintro _ _ _ ⟨rfl, rfl, rfl⟩
  refine r_putP dX7_init_42 f_X7_32 (by first | exact s0 | rfl) rfl rfl (fun _ => rfl) (fun _ => rfl) ?_
  refine r_aload_n dX7_init_45 rfl ?_
  refine r_new 234 dX7_init_46 k_X7_15 (hU 234 (by decide) (by decide)) (by decide) (by decide) ?_
  refine r_dup dX7_init_49 ?_
  refine r_callN0 (fr' := 1) (lo' := 20) (mc' := 1) (ms' := 6) dX7_init_50 mm_X5_init rfl mi_X5_init rfl RX10 (by decide) (by decide) ⟨by decide, by decide⟩ (by decide) (by decide) (Nat.le_of_ble_eq_true rfl) (c_X5_init (q := 234) rfl (fun k h1 h2 => by rcases (show k = 235 by omega) with rfl <;> exact hU _ (by decide) (by decide))) (am_kv ?_)
  rintro _ _ _ ⟨rfl, rfl, rfl⟩
  refine r_putP dX7_init_53 f_X7_36 (by first | exact s0 | rfl) rfl rfl (fun _ => rfl) (fun _ => rfl) ?_
  refine r_aload_n dX7_init_56 rfl ?_
  refine r_new 236 dX7_init_57 k_X7_39 (hU 236 (by decide) (by decide)) (by decide) (by decide) ?_
  refine r_dup dX7_init_60 ?_
  refine r_callN0 (fr' := 1) (lo' := 20) (mc' := 1) (ms' := 160) dX7_init_61 mm_X8_init rfl mi_X8_init rfl RX10 (by decide) (by decide) ⟨by decide, by decide⟩ (by decide) (by decide) (Nat.le_of_ble_eq_true rfl) (c_X8_init (q := 236) rfl (fun k h1 h2 => by rcases (show k = 237 by omega) with rfl <;> exact hU _ (by decide) (by decide))) (am_kv ?_)
  rintro _ _ _ ⟨rfl, rfl, rfl⟩
  refine r_putP dX7_init_64 f_X7_42 (by first | exact s0 | rfl) rfl rfl (fun _ => rfl) (fun _ => rfl) ?_
  refine r_iconst dX7_init_67 (v := nI 0) kc_0 ?_
  refine r_istore_n dX7_init_68 (Nat.le_of_ble_eq_true rfl) ?_
  dsimp only [List.set]
  refine r_iload_n dX7_init_69 rfl ?_
  refine r_iconst dX7_init_70 (v := nI 3) kc_3 ?_
  refine r_icmp_geN 93 dX7_init_71 (by decide) (by omega) (by omega) (fun h71 => ?_) (fun h71 => ?_)
  · exact absurd h71 (by omega)
  · refine r_aload_n dX7_init_74 rfl ?_
    refine r_getP dX7_init_75 g_X7_11 (by first | exact s0 | rfl) rfl rfl ?_
    refine r_iload_n dX7_init_78 rfl ?_
    refine r_new 202 dX7_init_79 k_X7_9 (hU 202 (by decide) (by decide)) (by decide) (by decide) ?_
    refine r_dup dX7_init_82 ?_
    refine r_callN0 (fr' := 1) (lo' := 20) (mc' := 4) (ms' := 160) dX7_init_83 mm_X3_init rfl mi_X3_init rfl RX10 (by decide) (by decide) ⟨by decide, by decide⟩ (by decide) (by decide) (Nat.le_of_ble_eq_true rfl) (c_X3_init (q := 202) rfl (fun k h1 h2 => by rcases (show k = 203 ∨ k = 204 ∨ k = 205 ∨ k = 206 by omega) with rfl | rfl | rfl | rfl <;> exact hU _ (by decide) (by decide))) (am_kv ?_)
    rintro _ _ _ ⟨rfl, rfl, rfl⟩
    refine r_aastoreP 0 dX7_init_86 (by first | exact s0 | rfl) rfl rfl (by first | decide | omega) (by decide) ?_
    first | refine r_iincN dX7_init_87 rfl kc_1 ?_ | refine r_iinc dX7_init_87 rfl rfl ?_
    dsimp only [List.set]
    refine r_goto 69 dX7_init_90 (by decide) ?_
    refine r_iload_n dX7_init_69 rfl ?_
    refine r_iconst dX7_init_70 (v := nI 3) kc_3 ?_
    refine r_icmp_geN 93 dX7_init_71 (by decide) (by omega) (by omega) (fun h71 => ?_) (fun h71 => ?_)
    · exact absurd h71 (by omega)
    · refine r_aload_n dX7_init_74 rfl ?_
      refine r_getP dX7_init_75 g_X7_11 (by first | exact s0 | rfl) rfl rfl ?_
      refine r_iload_n dX7_init_78 rfl ?_
      refine r_new 207 dX7_init_79 k_X7_9 (hU 207 (by decide) (by decide)) (by decide) (by decide) ?_
      refine r_dup dX7_init_82 ?_
      refine r_callN0 (fr' := 1) (lo' := 20) (mc' := 4) (ms' := 160) dX7_init_83 mm_X3_init rfl mi_X3_init rfl RX10 (by decide) (by decide) ⟨by decide, by decide⟩ (by decide) (by decide) (Nat.le_of_ble_eq_true rfl) (c_X3_init (q := 207) rfl (fun k h1 h2 => by rcases (show k = 208 ∨ k = 209 ∨ k = 210 ∨ k = 211 by omega) with rfl | rfl | rfl | rfl <;> exact hU _ (by decide) (by decide))) (am_kv ?_)
      rintro _ _ _ ⟨rfl, rfl, rfl⟩
      refine r_aastoreP 1 dX7_init_86 (by first | exact s0 | rfl) rfl rfl (by first | decide | omega) (by decide) ?_
      first | refine r_iincN dX7_init_87 rfl kc_1 ?_ | refine r_iinc dX7_init_87 rfl rfl ?_
      dsimp only [List.set]
      refine r_goto 69 dX7_init_90 (by decide) ?_
      refine r_iload_n dX7_init_69 rfl ?_
      refine r_iconst dX7_init_70 (v := nI 3) kc_3 ?_
      refine r_icmp_geN 93 dX7_init_71 (by decide) (by omega) (by omega) (fun h71 => ?_) (fun h71 => ?_)
      · exact absurd h71 (by omega)
      · refine r_aload_n dX7_init_74 rfl ?_
        refine r_getP dX7_init_75 g_X7_11 (by first | exact s0 | rfl) rfl rfl ?_
        refine r_iload_n dX7_init_78 rfl ?_
        refine r_new 212 dX7_init_79 k_X7_9 (hU 212 (by decide) (by decide)) (by decide) (by decide) ?_
        refine r_dup dX7_init_82 ?_
        refine r_callN0 (fr' := 1) (lo' := 20) (mc' := 4) (ms' := 160) dX7_init_83 mm_X3_init rfl mi_X3_init rfl RX10 (by decide) (by decide) ⟨by decide, by decide⟩ (by decide) (by decide) (Nat.le_of_ble_eq_true rfl) (c_X3_init (q := 212) rfl (fun k h1 h2 => by rcases (show k = 213 ∨ k = 214 ∨ k = 215 ∨ k = 216 by omega) with rfl | rfl | rfl | rfl <;> exact hU _ (by decide) (by decide))) (am_kv ?_)
        rintro _ _ _ ⟨rfl, rfl, rfl⟩
        refine r_aastoreP 2 dX7_init_86 (by first | exact s0 | rfl) rfl rfl (by first | decide | omega) (by decide) ?_
        first | refine r_iincN dX7_init_87 rfl kc_1 ?_ | refine r_iinc dX7_init_87 rfl rfl ?_
        dsimp only [List.set]
        refine r_goto 69 dX7_init_90 (by decide) ?_
        refine r_iload_n dX7_init_69 rfl ?_
        refine r_iconst dX7_init_70 (v := nI 3) kc_3 ?_
        refine r_icmp_geN 93 dX7_init_71 (by decide) (by omega) (by omega) (fun h71 => ?_) (fun h71 => ?_)
        · refine r_return dX7_init_93 rfl ?_
          refine ⟨rfl, ⟨⟨s0, rfl, rfl⟩, fun p hp => ?_, ⟨⟨rfl, rfl, rfl⟩, rfl⟩, ⟨⟨⟨rfl, rfl, ⟨rfl, rfl, rfl, rfl, rfl, rfl, rfl, rfl, rfl⟩⟩, ⟨rfl, rfl⟩, ⟨rfl, rfl⟩, ⟨rfl, rfl⟩, ⟨rfl, rfl⟩, rfl, rfl⟩, rfl⟩, ⟨⟨rfl, ⟨rfl, rfl⟩, ⟨rfl, rfl⟩, rfl, rfl⟩, rfl⟩, ⟨⟨rfl, rfl, rfl⟩, rfl⟩, ⟨rfl, rfl, rfl⟩, rfl⟩, fun k hk => ⟨?_, ?_, ?_⟩, ?_, fun k h1 h2 => ?_⟩
          · rcases (show p = 0 ∨ p = 1 ∨ p = 2 by omega) with rfl | rfl | rfl <;> exact ⟨rfl, rfl, rfl, rfl, rfl, rfl, rfl, rfl, rfl, rfl⟩
          · rw [bA_o (by omega), bA_o (by omega), bA_o (by omega), bA_o (by omega), va_up_ne _ _ (by omega), bA_o (by omega), bA_o (by omega), bA_o (by omega), bA_o (by omega), va_up_ne _ _ (by omega), bA_o (by omega), bA_o (by omega), bA_o (by omega), bA_o (by omega), va_up_ne _ _ (by omega), bA_o (by omega), va_up_ne _ _ (by omega), bA_o (by omega), va_up_ne _ _ (by omega), bA_o (by omega), bA_o (by omega), bA_o (by omega), va_up_ne _ _ (by omega), shK_o (by omega), va_up_ne _ _ (by omega), bA_o (by omega), va_up_ne _ _ (by omega), va_up_ne _ _ (by omega)]
          · rw [va_up_ne _ _ (by omega), bP_o (by omega) (by omega), bP_o (by omega) (by omega), bP_o (by omega) (by omega), bP_o (by omega) (by omega), va_up_ne _ _ (by omega), va_up_ne _ _ (by omega), bP_o (by omega) (by omega), bP_o (by omega) (by omega), bP_o (by omega) (by omega), bP_o (by omega) (by omega), va_up_ne _ _ (by omega), va_up_ne _ _ (by omega), bP_o (by omega) (by omega), bP_o (by omega) (by omega), bP_o (by omega) (by omega), bP_o (by omega) (by omega), va_up_ne _ _ (by omega), va_up_ne _ _ (by omega), bP_o (by omega) (by omega), va_up_ne _ _ (by omega), va_up_ne _ _ (by omega), bP_o (by omega) (by omega), va_up_ne _ _ (by omega), va_up_ne _ _ (by omega), bP_o (by omega) (by omega), bP_o (by omega) (by omega), bP_o (by omega) (by omega), va_up_ne _ _ (by omega), va_up_ne _ _ (by omega), ptK_o (by omega), va_up_ne _ _ (by omega), va_up_ne _ _ (by omega), bP_o (by omega) (by omega), va_up_ne _ _ (by omega), va_up_ne _ _ (by omega), va_up_ne _ _ (by omega)]
          · rw [zA_o (by omega), zA_o (by omega), zA_o (by omega), zA_o (by omega), va_up_ne _ _ (by omega), zA_o (by omega), zA_o (by omega), zA_o (by omega), zA_o (by omega), va_up_ne _ _ (by omega), zA_o (by omega), zA_o (by omega), zA_o (by omega), zA_o (by omega), va_up_ne _ _ (by omega), zA_o (by omega), va_up_ne _ _ (by omega), zA_o (by omega), va_up_ne _ _ (by omega), zA_o (by omega), zA_o (by omega), zA_o (by omega), va_up_ne _ _ (by omega), inK_o (by omega), va_up_ne _ _ (by omega), zA_o (by omega), va_up_ne _ _ (by omega), va_up_ne _ _ (by omega)]
          · rfl
          · rcases (show k = 201 ∨ k = 202 ∨ k = 203 ∨ k = 204 ∨ k = 205 ∨ k = 206 ∨ k = 207 ∨ k = 208 ∨ k = 209 ∨ k = 210 ∨ k = 211 ∨ k = 212 ∨ k = 213 ∨ k = 214 ∨ k = 215 ∨ k = 216 ∨ k = 217 ∨ k = 218 ∨ k = 219 ∨ k = 220 ∨ k = 221 ∨ k = 222 ∨ k = 223 ∨ k = 224 ∨ k = 225 ∨ k = 226 ∨ k = 227 ∨ k = 228 ∨ k = 229 ∨ k = 230 ∨ k = 231 ∨ k = 232 ∨ k = 233 ∨ k = 234 ∨ k = 235 ∨ k = 236 ∨ k = 237 by omega) with rfl | rfl | rfl | rfl | rfl | rfl | rfl | rfl | rfl | rfl | rfl | rfl | rfl | rfl | rfl | rfl | rfl | rfl | rfl | rfl | rfl | rfl | rfl | rfl | rfl | rfl | rfl | rfl | rfl | rfl | rfl | rfl | rfl | rfl | rfl | rfl | rfl <;> rfl
        · exact absurd h71 (by omega)
set_option maxRecDepth 20000 in
theorem c_X7_init_300 (s0 : sh 300 = (1, 5)) (hU : ∀ k, 300 < k → k ≤ 337 → (sh k).1 = 0) : am_R mX7_init (po_v (fun sh' I' P' => SSt sh' P' 300 ∧ (∀ k, k < 300 ∨ 337 < k → sh' k = sh k ∧ P' k = P k ∧ I' k = I k) ∧ I' 300 = I 300 ∧ ∀ k, 300 < k → k ≤ 337 → I' k = fun _ => 0)) 3 60 37 1172 0 [some (.ref 300), none] [] sh I P := by
  refine r_aload_n dX7_init_0 rfl ?_
  refine r_obj dX7_init_1 lo_X7_1 ⟨by decide, Nat.le_of_ble_eq_true rfl⟩ ?_
  refine r_aload_n dX7_init_4 rfl ?_
  refine r_iconst dX7_init_5 (v := nI 3) kc_3 ?_
  refine r_anewP 301 3 dX7_init_6 kl_X7_9 (hU 301 (by decide) (by decide)) rfl (by decide) (by decide) (by decide) ?_
  refine r_putP dX7_init_9 f_X7_11 (by first | exact s0 | rfl) rfl rfl (fun _ => rfl) (fun _ => rfl) ?_
  refine r_aload_n dX7_init_12 rfl ?_
  refine r_new 317 dX7_init_13 k_X7_15 (hU 317 (by decide) (by decide)) (by decide) (by decide) ?_
  refine r_dup dX7_init_16 ?_
  refine r_callN0 (fr' := 1) (lo' := 20) (mc' := 1) (ms' := 6) dX7_init_17 mm_X5_init rfl mi_X5_init rfl RX10 (by decide) (by decide) ⟨by decide, by decide⟩ (by decide) (by decide) (Nat.le_of_ble_eq_true rfl) (c_X5_init (q := 317) rfl (fun k h1 h2 => by rcases (show k = 318 by omega) with rfl <;> exact hU _ (by decide) (by decide))) (am_kv ?_)
  rintro _ _ _ ⟨rfl, rfl, rfl⟩
  refine r_putP dX7_init_20 f_X7_18 (by first | exact s0 | rfl) rfl rfl (fun _ => rfl) (fun _ => rfl) ?_
  refine r_aload_n dX7_init_23 rfl ?_
  refine r_new 319 dX7_init_24 k_X7_22 (hU 319 (by decide) (by decide)) (by decide) (by decide) ?_
  refine r_dup dX7_init_27 ?_
  refine r_callN0 (fr' := 2) (lo' := 40) (mc' := 10) (ms' := 405) dX7_init_28 mm_X2_init rfl mi_X2_init rfl RX10 (by decide) (by decide) ⟨by decide, by decide⟩ (by decide) (by decide) (Nat.le_of_ble_eq_true rfl) (c_X2_init (q := 319) rfl (fun k h1 h2 => by rcases (show k = 320 ∨ k = 321 ∨ k = 322 ∨ k = 323 ∨ k = 324 ∨ k = 325 ∨ k = 326 ∨ k = 327 ∨ k = 328 ∨ k = 329 by omega) with rfl | rfl | rfl | rfl | rfl | rfl | rfl | rfl | rfl | rfl <;> exact hU _ (by decide) (by decide))) (am_kv ?_)
  rintro _ _ _ ⟨rfl, rfl, rfl⟩
  refine r_putP dX7_init_31 f_X7_25 (by first | exact s0 | rfl) rfl rfl (fun _ => rfl) (fun _ => rfl) ?_
  refine r_aload_n dX7_init_34 rfl ?_
  refine r_new 330 dX7_init_35 k_X7_29 (hU 330 (by decide) (by decide)) (by decide) (by decide) ?_
  refine r_dup dX7_init_38 ?_
  refine r_callN0 (fr' := 1) (lo' := 20) (mc' := 3) (ms' := 72) dX7_init_39 mm_X6_init rfl mi_X6_init rfl RX10 (by decide) (by decide) ⟨by decide, by decide⟩ (by decide) (by decide) (Nat.le_of_ble_eq_true rfl) (c_X6_init (q := 330) rfl (fun k h1 h2 => by rcases (show k = 331 ∨ k = 332 ∨ k = 333 by omega) with rfl | rfl | rfl <;> exact hU _ (by decide) (by decide))) (am_kv ?_)
  rintro _ _ _ ⟨rfl, rfl, rfl⟩
  refine r_putP dX7_init_42 f_X7_32 (by first | exact s0 | rfl) rfl rfl (fun _ => rfl) (fun _ => rfl) ?_
  refine r_aload_n dX7_init_45 rfl ?_
  refine r_new 334 dX7_init_46 k_X7_15 (hU 334 (by decide) (by decide)) (by decide) (by decide) ?_
  refine r_dup dX7_init_49 ?_
  refine r_callN0 (fr' := 1) (lo' := 20) (mc' := 1) (ms' := 6) dX7_init_50 mm_X5_init rfl mi_X5_init rfl RX10 (by decide) (by decide) ⟨by decide, by decide⟩ (by decide) (by decide) (Nat.le_of_ble_eq_true rfl) (c_X5_init (q := 334) rfl (fun k h1 h2 => by rcases (show k = 335 by omega) with rfl <;> exact hU _ (by decide) (by decide))) (am_kv ?_)
  rintro _ _ _ ⟨rfl, rfl, rfl⟩
  refine r_putP dX7_init_53 f_X7_36 (by first | exact s0 | rfl) rfl rfl (fun _ => rfl) (fun _ => rfl) ?_
  refine r_aload_n dX7_init_56 rfl ?_
  refine r_new 336 dX7_init_57 k_X7_39 (hU 336 (by decide) (by decide)) (by decide) (by decide) ?_
  refine r_dup dX7_init_60 ?_
  refine r_callN0 (fr' := 1) (lo' := 20) (mc' := 1) (ms' := 160) dX7_init_61 mm_X8_init rfl mi_X8_init rfl RX10 (by decide) (by decide) ⟨by decide, by decide⟩ (by decide) (by decide) (Nat.le_of_ble_eq_true rfl) (c_X8_init (q := 336) rfl (fun k h1 h2 => by rcases (show k = 337 by omega) with rfl <;> exact hU _ (by decide) (by decide))) (am_kv ?_)
  rintro _ _ _ ⟨rfl, rfl, rfl⟩
  refine r_putP dX7_init_64 f_X7_42 (by first | exact s0 | rfl) rfl rfl (fun _ => rfl) (fun _ => rfl) ?_
  refine r_iconst dX7_init_67 (v := nI 0) kc_0 ?_
  refine r_istore_n dX7_init_68 (Nat.le_of_ble_eq_true rfl) ?_
  dsimp only [List.set]
  refine r_iload_n dX7_init_69 rfl ?_
  refine r_iconst dX7_init_70 (v := nI 3) kc_3 ?_
  refine r_icmp_geN 93 dX7_init_71 (by decide) (by omega) (by omega) (fun h71 => ?_) (fun h71 => ?_)
  · exact absurd h71 (by omega)
  · refine r_aload_n dX7_init_74 rfl ?_
    refine r_getP dX7_init_75 g_X7_11 (by first | exact s0 | rfl) rfl rfl ?_
    refine r_iload_n dX7_init_78 rfl ?_
    refine r_new 302 dX7_init_79 k_X7_9 (hU 302 (by decide) (by decide)) (by decide) (by decide) ?_
    refine r_dup dX7_init_82 ?_
    refine r_callN0 (fr' := 1) (lo' := 20) (mc' := 4) (ms' := 160) dX7_init_83 mm_X3_init rfl mi_X3_init rfl RX10 (by decide) (by decide) ⟨by decide, by decide⟩ (by decide) (by decide) (Nat.le_of_ble_eq_true rfl) (c_X3_init (q := 302) rfl (fun k h1 h2 => by rcases (show k = 303 ∨ k = 304 ∨ k = 305 ∨ k = 306 by omega) with rfl | rfl | rfl | rfl <;> exact hU _ (by decide) (by decide))) (am_kv ?_)
    rintro _ _ _ ⟨rfl, rfl, rfl⟩
    refine r_aastoreP 0 dX7_init_86 (by first | exact s0 | rfl) rfl rfl (by first | decide | omega) (by decide) ?_
    first | refine r_iincN dX7_init_87 rfl kc_1 ?_ | refine r_iinc dX7_init_87 rfl rfl ?_
    dsimp only [List.set]
    refine r_goto 69 dX7_init_90 (by decide) ?_
    refine r_iload_n dX7_init_69 rfl ?_
    refine r_iconst dX7_init_70 (v := nI 3) kc_3 ?_
    refine r_icmp_geN 93 dX7_init_71 (by decide) (by omega) (by omega) (fun h71 => ?_) (fun h71 => ?_)
    · exact absurd h71 (by omega)
    · refine r_aload_n dX7_init_74 rfl ?_
      refine r_getP dX7_init_75 g_X7_11 (by first | exact s0 | rfl) rfl rfl ?_
      refine r_iload_n dX7_init_78 rfl ?_
      refine r_new 307 dX7_init_79 k_X7_9 (hU 307 (by decide) (by decide)) (by decide) (by decide) ?_
      refine r_dup dX7_init_82 ?_
      refine r_callN0 (fr' := 1) (lo' := 20) (mc' := 4) (ms' := 160) dX7_init_83 mm_X3_init rfl mi_X3_init rfl RX10 (by decide) (by decide) ⟨by decide, by decide⟩ (by decide) (by decide) (Nat.le_of_ble_eq_true rfl) (c_X3_init (q := 307) rfl (fun k h1 h2 => by rcases (show k = 308 ∨ k = 309 ∨ k = 310 ∨ k = 311 by omega) with rfl | rfl | rfl | rfl <;> exact hU _ (by decide) (by decide))) (am_kv ?_)
      rintro _ _ _ ⟨rfl, rfl, rfl⟩
      refine r_aastoreP 1 dX7_init_86 (by first | exact s0 | rfl) rfl rfl (by first | decide | omega) (by decide) ?_
      first | refine r_iincN dX7_init_87 rfl kc_1 ?_ | refine r_iinc dX7_init_87 rfl rfl ?_
      dsimp only [List.set]
      refine r_goto 69 dX7_init_90 (by decide) ?_
      refine r_iload_n dX7_init_69 rfl ?_
      refine r_iconst dX7_init_70 (v := nI 3) kc_3 ?_
      refine r_icmp_geN 93 dX7_init_71 (by decide) (by omega) (by omega) (fun h71 => ?_) (fun h71 => ?_)
      · exact absurd h71 (by omega)
      · refine r_aload_n dX7_init_74 rfl ?_
        refine r_getP dX7_init_75 g_X7_11 (by first | exact s0 | rfl) rfl rfl ?_
        refine r_iload_n dX7_init_78 rfl ?_
        refine r_new 312 dX7_init_79 k_X7_9 (hU 312 (by decide) (by decide)) (by decide) (by decide) ?_
        refine r_dup dX7_init_82 ?_
        refine r_callN0 (fr' := 1) (lo' := 20) (mc' := 4) (ms' := 160) dX7_init_83 mm_X3_init rfl mi_X3_init rfl RX10 (by decide) (by decide) ⟨by decide, by decide⟩ (by decide) (by decide) (Nat.le_of_ble_eq_true rfl) (c_X3_init (q := 312) rfl (fun k h1 h2 => by rcases (show k = 313 ∨ k = 314 ∨ k = 315 ∨ k = 316 by omega) with rfl | rfl | rfl | rfl <;> exact hU _ (by decide) (by decide))) (am_kv ?_)
        rintro _ _ _ ⟨rfl, rfl, rfl⟩
        refine r_aastoreP 2 dX7_init_86 (by first | exact s0 | rfl) rfl rfl (by first | decide | omega) (by decide) ?_
        first | refine r_iincN dX7_init_87 rfl kc_1 ?_ | refine r_iinc dX7_init_87 rfl rfl ?_
        dsimp only [List.set]
        refine r_goto 69 dX7_init_90 (by decide) ?_
        refine r_iload_n dX7_init_69 rfl ?_
        refine r_iconst dX7_init_70 (v := nI 3) kc_3 ?_
        refine r_icmp_geN 93 dX7_init_71 (by decide) (by omega) (by omega) (fun h71 => ?_) (fun h71 => ?_)
        · refine r_return dX7_init_93 rfl ?_
          refine ⟨rfl, ⟨⟨s0, rfl, rfl⟩, fun p hp => ?_, ⟨⟨rfl, rfl, rfl⟩, rfl⟩, ⟨⟨⟨rfl, rfl, ⟨rfl, rfl, rfl, rfl, rfl, rfl, rfl, rfl, rfl⟩⟩, ⟨rfl, rfl⟩, ⟨rfl, rfl⟩, ⟨rfl, rfl⟩, ⟨rfl, rfl⟩, rfl, rfl⟩, rfl⟩, ⟨⟨rfl, ⟨rfl, rfl⟩, ⟨rfl, rfl⟩, rfl, rfl⟩, rfl⟩, ⟨⟨rfl, rfl, rfl⟩, rfl⟩, ⟨rfl, rfl, rfl⟩, rfl⟩, fun k hk => ⟨?_, ?_, ?_⟩, ?_, fun k h1 h2 => ?_⟩
          · rcases (show p = 0 ∨ p = 1 ∨ p = 2 by omega) with rfl | rfl | rfl <;> exact ⟨rfl, rfl, rfl, rfl, rfl, rfl, rfl, rfl, rfl, rfl⟩
          · rw [bA_o (by omega), bA_o (by omega), bA_o (by omega), bA_o (by omega), va_up_ne _ _ (by omega), bA_o (by omega), bA_o (by omega), bA_o (by omega), bA_o (by omega), va_up_ne _ _ (by omega), bA_o (by omega), bA_o (by omega), bA_o (by omega), bA_o (by omega), va_up_ne _ _ (by omega), bA_o (by omega), va_up_ne _ _ (by omega), bA_o (by omega), va_up_ne _ _ (by omega), bA_o (by omega), bA_o (by omega), bA_o (by omega), va_up_ne _ _ (by omega), shK_o (by omega), va_up_ne _ _ (by omega), bA_o (by omega), va_up_ne _ _ (by omega), va_up_ne _ _ (by omega)]
          · rw [va_up_ne _ _ (by omega), bP_o (by omega) (by omega), bP_o (by omega) (by omega), bP_o (by omega) (by omega), bP_o (by omega) (by omega), va_up_ne _ _ (by omega), va_up_ne _ _ (by omega), bP_o (by omega) (by omega), bP_o (by omega) (by omega), bP_o (by omega) (by omega), bP_o (by omega) (by omega), va_up_ne _ _ (by omega), va_up_ne _ _ (by omega), bP_o (by omega) (by omega), bP_o (by omega) (by omega), bP_o (by omega) (by omega), bP_o (by omega) (by omega), va_up_ne _ _ (by omega), va_up_ne _ _ (by omega), bP_o (by omega) (by omega), va_up_ne _ _ (by omega), va_up_ne _ _ (by omega), bP_o (by omega) (by omega), va_up_ne _ _ (by omega), va_up_ne _ _ (by omega), bP_o (by omega) (by omega), bP_o (by omega) (by omega), bP_o (by omega) (by omega), va_up_ne _ _ (by omega), va_up_ne _ _ (by omega), ptK_o (by omega), va_up_ne _ _ (by omega), va_up_ne _ _ (by omega), bP_o (by omega) (by omega), va_up_ne _ _ (by omega), va_up_ne _ _ (by omega), va_up_ne _ _ (by omega)]
          · rw [zA_o (by omega), zA_o (by omega), zA_o (by omega), zA_o (by omega), va_up_ne _ _ (by omega), zA_o (by omega), zA_o (by omega), zA_o (by omega), zA_o (by omega), va_up_ne _ _ (by omega), zA_o (by omega), zA_o (by omega), zA_o (by omega), zA_o (by omega), va_up_ne _ _ (by omega), zA_o (by omega), va_up_ne _ _ (by omega), zA_o (by omega), va_up_ne _ _ (by omega), zA_o (by omega), zA_o (by omega), zA_o (by omega), va_up_ne _ _ (by omega), inK_o (by omega), va_up_ne _ _ (by omega), zA_o (by omega), va_up_ne _ _ (by omega), va_up_ne _ _ (by omega)]
          · rfl
          · rcases (show k = 301 ∨ k = 302 ∨ k = 303 ∨ k = 304 ∨ k = 305 ∨ k = 306 ∨ k = 307 ∨ k = 308 ∨ k = 309 ∨ k = 310 ∨ k = 311 ∨ k = 312 ∨ k = 313 ∨ k = 314 ∨ k = 315 ∨ k = 316 ∨ k = 317 ∨ k = 318 ∨ k = 319 ∨ k = 320 ∨ k = 321 ∨ k = 322 ∨ k = 323 ∨ k = 324 ∨ k = 325 ∨ k = 326 ∨ k = 327 ∨ k = 328 ∨ k = 329 ∨ k = 330 ∨ k = 331 ∨ k = 332 ∨ k = 333 ∨ k = 334 ∨ k = 335 ∨ k = 336 ∨ k = 337 by omega) with rfl | rfl | rfl | rfl | rfl | rfl | rfl | rfl | rfl | rfl | rfl | rfl | rfl | rfl | rfl | rfl | rfl | rfl | rfl | rfl | rfl | rfl | rfl | rfl | rfl | rfl | rfl | rfl | rfl | rfl | rfl | rfl | rfl | rfl | rfl | rfl | rfl <;> rfl
        · exact absurd h71 (by omega)
set_option maxRecDepth 20000 in
theorem c_X7_init_400 (s0 : sh 400 = (1, 5)) (hU : ∀ k, 400 < k → k ≤ 437 → (sh k).1 = 0) : am_R mX7_init (po_v (fun sh' I' P' => SSt sh' P' 400 ∧ (∀ k, k < 400 ∨ 437 < k → sh' k = sh k ∧ P' k = P k ∧ I' k = I k) ∧ I' 400 = I 400 ∧ ∀ k, 400 < k → k ≤ 437 → I' k = fun _ => 0)) 3 60 37 1172 0 [some (.ref 400), none] [] sh I P := by
  refine r_aload_n dX7_init_0 rfl ?_
  refine r_obj dX7_init_1 lo_X7_1 ⟨by decide, Nat.le_of_ble_eq_true rfl⟩ ?_
  refine r_aload_n dX7_init_4 rfl ?_
  refine r_iconst dX7_init_5 (v := nI 3) kc_3 ?_
  refine r_anewP 401 3 dX7_init_6 kl_X7_9 (hU 401 (by decide) (by decide)) rfl (by decide) (by decide) (by decide) ?_
  refine r_putP dX7_init_9 f_X7_11 (by first | exact s0 | rfl) rfl rfl (fun _ => rfl) (fun _ => rfl) ?_
  refine r_aload_n dX7_init_12 rfl ?_
  refine r_new 417 dX7_init_13 k_X7_15 (hU 417 (by decide) (by decide)) (by decide) (by decide) ?_
  refine r_dup dX7_init_16 ?_
  refine r_callN0 (fr' := 1) (lo' := 20) (mc' := 1) (ms' := 6) dX7_init_17 mm_X5_init rfl mi_X5_init rfl RX10 (by decide) (by decide) ⟨by decide, by decide⟩ (by decide) (by decide) (Nat.le_of_ble_eq_true rfl) (c_X5_init (q := 417) rfl (fun k h1 h2 => by rcases (show k = 418 by omega) with rfl <;> exact hU _ (by decide) (by decide))) (am_kv ?_)
  rintro _ _ _ ⟨rfl, rfl, rfl⟩
  refine r_putP dX7_init_20 f_X7_18 (by first | exact s0 | rfl) rfl rfl (fun _ => rfl) (fun _ => rfl) ?_
  refine r_aload_n dX7_init_23 rfl ?_
  refine r_new 419 dX7_init_24 k_X7_22 (hU 419 (by decide) (by decide)) (by decide) (by decide) ?_
  refine r_dup dX7_init_27 ?_
  refine r_callN0 (fr' := 2) (lo' := 40) (mc' := 10) (ms' := 405) dX7_init_28 mm_X2_init rfl mi_X2_init rfl RX10 (by decide) (by decide) ⟨by decide, by decide⟩ (by decide) (by decide) (Nat.le_of_ble_eq_true rfl) (c_X2_init (q := 419) rfl (fun k h1 h2 => by rcases (show k = 420 ∨ k = 421 ∨ k = 422 ∨ k = 423 ∨ k = 424 ∨ k = 425 ∨ k = 426 ∨ k = 427 ∨ k = 428 ∨ k = 429 by omega) with rfl | rfl | rfl | rfl | rfl | rfl | rfl | rfl | rfl | rfl <;> exact hU _ (by decide) (by decide))) (am_kv ?_)
  rintro _ _ _ ⟨rfl, rfl, rfl⟩
  refine r_putP dX7_init_31 f_X7_25 (by first | exact s0 | rfl) rfl rfl (fun _ => rfl) (fun _ => rfl) ?_
  refine r_aload_n dX7_init_34 rfl ?_
  refine r_new 430 dX7_init_35 k_X7_29 (hU 430 (by decide) (by decide)) (by decide) (by decide) ?_
  refine r_dup dX7_init_38 ?_
  refine r_callN0 (fr' := 1) (lo' := 20) (mc' := 3) (ms' := 72) dX7_init_39 mm_X6_init rfl mi_X6_init rfl RX10 (by decide) (by decide) ⟨by decide, by decide⟩ (by decide) (by decide) (Nat.le_of_ble_eq_true rfl) (c_X6_init (q := 430) rfl (fun k h1 h2 => by rcases (show k = 431 ∨ k = 432 ∨ k = 433 by omega) with rfl | rfl | rfl <;> exact hU _ (by decide) (by decide))) (am_kv ?_)
  rintro _ _ _ ⟨rfl, rfl, rfl⟩
  refine r_putP dX7_init_42 f_X7_32 (by first | exact s0 | rfl) rfl rfl (fun _ => rfl) (fun _ => rfl) ?_
  refine r_aload_n dX7_init_45 rfl ?_
  refine r_new 434 dX7_init_46 k_X7_15 (hU 434 (by decide) (by decide)) (by decide) (by decide) ?_
  refine r_dup dX7_init_49 ?_
  refine r_callN0 (fr' := 1) (lo' := 20) (mc' := 1) (ms' := 6) dX7_init_50 mm_X5_init rfl mi_X5_init rfl RX10 (by decide) (by decide) ⟨by decide, by decide⟩ (by decide) (by decide) (Nat.le_of_ble_eq_true rfl) (c_X5_init (q := 434) rfl (fun k h1 h2 => by rcases (show k = 435 by omega) with rfl <;> exact hU _ (by decide) (by decide))) (am_kv ?_)
  rintro _ _ _ ⟨rfl, rfl, rfl⟩
  refine r_putP dX7_init_53 f_X7_36 (by first | exact s0 | rfl) rfl rfl (fun _ => rfl) (fun _ => rfl) ?_
  refine r_aload_n dX7_init_56 rfl ?_
  refine r_new 436 dX7_init_57 k_X7_39 (hU 436 (by decide) (by decide)) (by decide) (by decide) ?_
  refine r_dup dX7_init_60 ?_
  refine r_callN0 (fr' := 1) (lo' := 20) (mc' := 1) (ms' := 160) dX7_init_61 mm_X8_init rfl mi_X8_init rfl RX10 (by decide) (by decide) ⟨by decide, by decide⟩ (by decide) (by decide) (Nat.le_of_ble_eq_true rfl) (c_X8_init (q := 436) rfl (fun k h1 h2 => by rcases (show k = 437 by omega) with rfl <;> exact hU _ (by decide) (by decide))) (am_kv ?_)
  rintro _ _ _ ⟨rfl, rfl, rfl⟩
  refine r_putP dX7_init_64 f_X7_42 (by first | exact s0 | rfl) rfl rfl (fun _ => rfl) (fun _ => rfl) ?_
  refine r_iconst dX7_init_67 (v := nI 0) kc_0 ?_
  refine r_istore_n dX7_init_68 (Nat.le_of_ble_eq_true rfl) ?_
  dsimp only [List.set]
  refine r_iload_n dX7_init_69 rfl ?_
  refine r_iconst dX7_init_70 (v := nI 3) kc_3 ?_
  refine r_icmp_geN 93 dX7_init_71 (by decide) (by omega) (by omega) (fun h71 => ?_) (fun h71 => ?_)
  · exact absurd h71 (by omega)
  · refine r_aload_n dX7_init_74 rfl ?_
    refine r_getP dX7_init_75 g_X7_11 (by first | exact s0 | rfl) rfl rfl ?_
    refine r_iload_n dX7_init_78 rfl ?_
    refine r_new 402 dX7_init_79 k_X7_9 (hU 402 (by decide) (by decide)) (by decide) (by decide) ?_
    refine r_dup dX7_init_82 ?_
    refine r_callN0 (fr' := 1) (lo' := 20) (mc' := 4) (ms' := 160) dX7_init_83 mm_X3_init rfl mi_X3_init rfl RX10 (by decide) (by decide) ⟨by decide, by decide⟩ (by decide) (by decide) (Nat.le_of_ble_eq_true rfl) (c_X3_init (q := 402) rfl (fun k h1 h2 => by rcases (show k = 403 ∨ k = 404 ∨ k = 405 ∨ k = 406 by omega) with rfl | rfl | rfl | rfl <;> exact hU _ (by decide) (by decide))) (am_kv ?_)
    rintro _ _ _ ⟨rfl, rfl, rfl⟩
    refine r_aastoreP 0 dX7_init_86 (by first | exact s0 | rfl) rfl rfl (by first | decide | omega) (by decide) ?_
    first | refine r_iincN dX7_init_87 rfl kc_1 ?_ | refine r_iinc dX7_init_87 rfl rfl ?_
    dsimp only [List.set]
    refine r_goto 69 dX7_init_90 (by decide) ?_
    refine r_iload_n dX7_init_69 rfl ?_
    refine r_iconst dX7_init_70 (v := nI 3) kc_3 ?_
    refine r_icmp_geN 93 dX7_init_71 (by decide) (by omega) (by omega) (fun h71 => ?_) (fun h71 => ?_)
    · exact absurd h71 (by omega)
    · refine r_aload_n dX7_init_74 rfl ?_
      refine r_getP dX7_init_75 g_X7_11 (by first | exact s0 | rfl) rfl rfl ?_
      refine r_iload_n dX7_init_78 rfl ?_
      refine r_new 407 dX7_init_79 k_X7_9 (hU 407 (by decide) (by decide)) (by decide) (by decide) ?_
      refine r_dup dX7_init_82 ?_
      refine r_callN0 (fr' := 1) (lo' := 20) (mc' := 4) (ms' := 160) dX7_init_83 mm_X3_init rfl mi_X3_init rfl RX10 (by decide) (by decide) ⟨by decide, by decide⟩ (by decide) (by decide) (Nat.le_of_ble_eq_true rfl) (c_X3_init (q := 407) rfl (fun k h1 h2 => by rcases (show k = 408 ∨ k = 409 ∨ k = 410 ∨ k = 411 by omega) with rfl | rfl | rfl | rfl <;> exact hU _ (by decide) (by decide))) (am_kv ?_)
      rintro _ _ _ ⟨rfl, rfl, rfl⟩
      refine r_aastoreP 1 dX7_init_86 (by first | exact s0 | rfl) rfl rfl (by first | decide | omega) (by decide) ?_
      first | refine r_iincN dX7_init_87 rfl kc_1 ?_ | refine r_iinc dX7_init_87 rfl rfl ?_
      dsimp only [List.set]
      refine r_goto 69 dX7_init_90 (by decide) ?_
      refine r_iload_n dX7_init_69 rfl ?_
      refine r_iconst dX7_init_70 (v := nI 3) kc_3 ?_
      refine r_icmp_geN 93 dX7_init_71 (by decide) (by omega) (by omega) (fun h71 => ?_) (fun h71 => ?_)
      · exact absurd h71 (by omega)
      · refine r_aload_n dX7_init_74 rfl ?_
        refine r_getP dX7_init_75 g_X7_11 (by first | exact s0 | rfl) rfl rfl ?_
        refine r_iload_n dX7_init_78 rfl ?_
        refine r_new 412 dX7_init_79 k_X7_9 (hU 412 (by decide) (by decide)) (by decide) (by decide) ?_
        refine r_dup dX7_init_82 ?_
        refine r_callN0 (fr' := 1) (lo' := 20) (mc' := 4) (ms' := 160) dX7_init_83 mm_X3_init rfl mi_X3_init rfl RX10 (by decide) (by decide) ⟨by decide, by decide⟩ (by decide) (by decide) (Nat.le_of_ble_eq_true rfl) (c_X3_init (q := 412) rfl (fun k h1 h2 => by rcases (show k = 413 ∨ k = 414 ∨ k = 415 ∨ k = 416 by omega) with rfl | rfl | rfl | rfl <;> exact hU _ (by decide) (by decide))) (am_kv ?_)
        rintro _ _ _ ⟨rfl, rfl, rfl⟩
        refine r_aastoreP 2 dX7_init_86 (by first | exact s0 | rfl) rfl rfl (by first | decide | omega) (by decide) ?_
        first | refine r_iincN dX7_init_87 rfl kc_1 ?_ | refine r_iinc dX7_init_87 rfl rfl ?_
        dsimp only [List.set]
        refine r_goto 69 dX7_init_90 (by decide) ?_
        refine r_iload_n dX7_init_69 rfl ?_
        refine r_iconst dX7_init_70 (v := nI 3) kc_3 ?_
        refine r_icmp_geN 93 dX7_init_71 (by decide) (by omega) (by omega) (fun h71 => ?_) (fun h71 => ?_)
        · refine r_return dX7_init_93 rfl ?_
          refine ⟨rfl, ⟨⟨s0, rfl, rfl⟩, fun p hp => ?_, ⟨⟨rfl, rfl, rfl⟩, rfl⟩, ⟨⟨⟨rfl, rfl, ⟨rfl, rfl, rfl, rfl, rfl, rfl, rfl, rfl, rfl⟩⟩, ⟨rfl, rfl⟩, ⟨rfl, rfl⟩, ⟨rfl, rfl⟩, ⟨rfl, rfl⟩, rfl, rfl⟩, rfl⟩, ⟨⟨rfl, ⟨rfl, rfl⟩, ⟨rfl, rfl⟩, rfl, rfl⟩, rfl⟩, ⟨⟨rfl, rfl, rfl⟩, rfl⟩, ⟨rfl, rfl, rfl⟩, rfl⟩, fun k hk => ⟨?_, ?_, ?_⟩, ?_, fun k h1 h2 => ?_⟩
          · rcases (show p = 0 ∨ p = 1 ∨ p = 2 by omega) with rfl | rfl | rfl <;> exact ⟨rfl, rfl, rfl, rfl, rfl, rfl, rfl, rfl, rfl, rfl⟩
          · rw [bA_o (by omega), bA_o (by omega), bA_o (by omega), bA_o (by omega), va_up_ne _ _ (by omega), bA_o (by omega), bA_o (by omega), bA_o (by omega), bA_o (by omega), va_up_ne _ _ (by omega), bA_o (by omega), bA_o (by omega), bA_o (by omega), bA_o (by omega), va_up_ne _ _ (by omega), bA_o (by omega), va_up_ne _ _ (by omega), bA_o (by omega), va_up_ne _ _ (by omega), bA_o (by omega), bA_o (by omega), bA_o (by omega), va_up_ne _ _ (by omega), shK_o (by omega), va_up_ne _ _ (by omega), bA_o (by omega), va_up_ne _ _ (by omega), va_up_ne _ _ (by omega)]
          · rw [va_up_ne _ _ (by omega), bP_o (by omega) (by omega), bP_o (by omega) (by omega), bP_o (by omega) (by omega), bP_o (by omega) (by omega), va_up_ne _ _ (by omega), va_up_ne _ _ (by omega), bP_o (by omega) (by omega), bP_o (by omega) (by omega), bP_o (by omega) (by omega), bP_o (by omega) (by omega), va_up_ne _ _ (by omega), va_up_ne _ _ (by omega), bP_o (by omega) (by omega), bP_o (by omega) (by omega), bP_o (by omega) (by omega), bP_o (by omega) (by omega), va_up_ne _ _ (by omega), va_up_ne _ _ (by omega), bP_o (by omega) (by omega), va_up_ne _ _ (by omega), va_up_ne _ _ (by omega), bP_o (by omega) (by omega), va_up_ne _ _ (by omega), va_up_ne _ _ (by omega), bP_o (by omega) (by omega), bP_o (by omega) (by omega), bP_o (by omega) (by omega), va_up_ne _ _ (by omega), va_up_ne _ _ (by omega), ptK_o (by omega), va_up_ne _ _ (by omega), va_up_ne _ _ (by omega), bP_o (by omega) (by omega), va_up_ne _ _ (by omega), va_up_ne _ _ (by omega), va_up_ne _ _ (by omega)]
          · rw [zA_o (by omega), zA_o (by omega), zA_o (by omega), zA_o (by omega), va_up_ne _ _ (by omega), zA_o (by omega), zA_o (by omega), zA_o (by omega), zA_o (by omega), va_up_ne _ _ (by omega), zA_o (by omega), zA_o (by omega), zA_o (by omega), zA_o (by omega), va_up_ne _ _ (by omega), zA_o (by omega), va_up_ne _ _ (by omega), zA_o (by omega), va_up_ne _ _ (by omega), zA_o (by omega), zA_o (by omega), zA_o (by omega), va_up_ne _ _ (by omega), inK_o (by omega), va_up_ne _ _ (by omega), zA_o (by omega), va_up_ne _ _ (by omega), va_up_ne _ _ (by omega)]
          · rfl
          · rcases (show k = 401 ∨ k = 402 ∨ k = 403 ∨ k = 404 ∨ k = 405 ∨ k = 406 ∨ k = 407 ∨ k = 408 ∨ k = 409 ∨ k = 410 ∨ k = 411 ∨ k = 412 ∨ k = 413 ∨ k = 414 ∨ k = 415 ∨ k = 416 ∨ k = 417 ∨ k = 418 ∨ k = 419 ∨ k = 420 ∨ k = 421 ∨ k = 422 ∨ k = 423 ∨ k = 424 ∨ k = 425 ∨ k = 426 ∨ k = 427 ∨ k = 428 ∨ k = 429 ∨ k = 430 ∨ k = 431 ∨ k = 432 ∨ k = 433 ∨ k = 434 ∨ k = 435 ∨ k = 436 ∨ k = 437 by omega) with rfl | rfl | rfl | rfl | rfl | rfl | rfl | rfl | rfl | rfl | rfl | rfl | rfl | rfl | rfl | rfl | rfl | rfl | rfl | rfl | rfl | rfl | rfl | rfl | rfl | rfl | rfl | rfl | rfl | rfl | rfl | rfl | rfl | rfl | rfl | rfl | rfl <;> rfl
        · exact absurd h71 (by omega)
end K17
