/-! the class: its parts are made -/
def bA (sh : ASh) (k n : Nat) : ASh := va_up sh k (2, n)
def bP (P : APt) (q f k : Nat) : APt := va_up (va_up P k (fun _ => none)) q (va_up (va_up P k (fun _ => none) q) f (some k))
def zA (I : AIn) (k : Nat) : AIn := va_up I k (fun _ => 0)
section K16
variable {sh : ASh} {I σ : AIn} {P : APt}
theorem c_X3_init {q : Nat} (s0 : sh q = (1, 2)) (hU : ∀ k, q < k → k ≤ q + 4 → (sh k).1 = 0) : am_R mX3_init (po_v (fun sh' I' P' => sh' = (bA (bA (bA (bA sh (q + 1) 40) (q + 2) 40) (q + 3) 40) (q + 4) 40) ∧ I' = (zA (zA (zA (zA I (q + 1)) (q + 2)) (q + 3)) (q + 4)) ∧ P' = (bP (bP (bP (bP P q 1 (q + 1)) q 2 (q + 2)) q 3 (q + 3)) q 4 (q + 4)))) 1 20 4 160 0 [some (.ref q)] [] sh I P := by
  refine r_aload_n dX3_init_0 rfl ?_
  refine r_obj dX3_init_1 lo_X3_1 ⟨by decide, Nat.le_of_ble_eq_true rfl⟩ ?_
  refine r_aload_n dX3_init_4 rfl ?_
  refine r_bipush dX3_init_5 (v := nI 40) (by decide) ?_
  refine r_newarrI (q + 1) 40 dX3_init_7 w_arrI (by first | exact hU _ (by omega) (by omega) | ((repeat rw [va_up_ne _ _ (by omega)]); exact hU _ (by omega) (by omega))) rfl (by decide) (by decide) (by decide) ?_
  refine r_putP dX3_init_9 f_X3_9 (by first | assumption | ((repeat rw [va_up_ne _ _ (by omega)]); assumption)) rfl rfl (fun _ => rfl) (fun _ => rfl) ?_
  refine r_aload_n dX3_init_12 rfl ?_
  refine r_bipush dX3_init_13 (v := nI 40) (by decide) ?_
  refine r_newarrI (q + 2) 40 dX3_init_15 w_arrI (by first | exact hU _ (by omega) (by omega) | ((repeat rw [va_up_ne _ _ (by omega)]); exact hU _ (by omega) (by omega))) rfl (by decide) (by decide) (by decide) ?_
  refine r_putP dX3_init_17 f_X3_13 (by first | assumption | ((repeat rw [va_up_ne _ _ (by omega)]); assumption)) rfl rfl (fun _ => rfl) (fun _ => rfl) ?_
  refine r_aload_n dX3_init_20 rfl ?_
  refine r_bipush dX3_init_21 (v := nI 40) (by decide) ?_
  refine r_newarrI (q + 3) 40 dX3_init_23 w_arrI (by first | exact hU _ (by omega) (by omega) | ((repeat rw [va_up_ne _ _ (by omega)]); exact hU _ (by omega) (by omega))) rfl (by decide) (by decide) (by decide) ?_
  refine r_putP dX3_init_25 f_X3_16 (by first | assumption | ((repeat rw [va_up_ne _ _ (by omega)]); assumption)) rfl rfl (fun _ => rfl) (fun _ => rfl) ?_
  refine r_aload_n dX3_init_28 rfl ?_
  refine r_bipush dX3_init_29 (v := nI 40) (by decide) ?_
  refine r_newarrI (q + 4) 40 dX3_init_31 w_arrI (by first | exact hU _ (by omega) (by omega) | ((repeat rw [va_up_ne _ _ (by omega)]); exact hU _ (by omega) (by omega))) rfl (by decide) (by decide) (by decide) ?_
  refine r_putP dX3_init_33 f_X3_19 (by first | assumption | ((repeat rw [va_up_ne _ _ (by omega)]); assumption)) rfl rfl (fun _ => rfl) (fun _ => rfl) ?_
  refine r_return dX3_init_36 rfl ?_
  exact ⟨rfl, rfl, rfl, rfl⟩
theorem c_X5_init {q : Nat} (s0 : sh q = (1, 3)) (hU : ∀ k, q < k → k ≤ q + 1 → (sh k).1 = 0) : am_R mX5_init (po_v (fun sh' I' P' => sh' = (bA sh (q + 1) 6) ∧ I' = (zA I (q + 1)) ∧ P' = (bP P q 1 (q + 1)))) 1 20 1 6 0 [some (.ref q)] [] sh I P := by
  refine r_aload_n dX5_init_0 rfl ?_
  refine r_obj dX5_init_1 lo_X5_3 ⟨by decide, Nat.le_of_ble_eq_true rfl⟩ ?_
  refine r_aload_n dX5_init_4 rfl ?_
  refine r_bipush dX5_init_5 (v := nI 6) (by decide) ?_
  refine r_newarrI (q + 1) 6 dX5_init_7 w_arrI (by first | exact hU _ (by omega) (by omega) | ((repeat rw [va_up_ne _ _ (by omega)]); exact hU _ (by omega) (by omega))) rfl (by decide) (by decide) (by decide) ?_
  refine r_putP dX5_init_9 f_X5_11 (by first | assumption | ((repeat rw [va_up_ne _ _ (by omega)]); assumption)) rfl rfl (fun _ => rfl) (fun _ => rfl) ?_
  refine r_return dX5_init_12 rfl ?_
  exact ⟨rfl, rfl, rfl, rfl⟩
theorem c_X6_init {q : Nat} (s0 : sh q = (1, 4)) (hU : ∀ k, q < k → k ≤ q + 3 → (sh k).1 = 0) : am_R mX6_init (po_v (fun sh' I' P' => sh' = (bA (bA (bA sh (q + 1) 24) (q + 2) 40) (q + 3) 8) ∧ I' = (zA (zA (zA I (q + 1)) (q + 2)) (q + 3)) ∧ P' = (bP (bP (bP P q 5 (q + 1)) q 7 (q + 2)) q 8 (q + 3)))) 1 20 3 72 0 [some (.ref q)] [] sh I P := by
  refine r_aload_n dX6_init_0 rfl ?_
  refine r_obj dX6_init_1 lo_X6_1 ⟨by decide, Nat.le_of_ble_eq_true rfl⟩ ?_
  refine r_aload_n dX6_init_4 rfl ?_
  refine r_bipush dX6_init_5 (v := nI 24) (by decide) ?_
  refine r_newarrI (q + 1) 24 dX6_init_7 w_arrI (by first | exact hU _ (by omega) (by omega) | ((repeat rw [va_up_ne _ _ (by omega)]); exact hU _ (by omega) (by omega))) rfl (by decide) (by decide) (by decide) ?_
  refine r_putP dX6_init_9 f_X6_9 (by first | assumption | ((repeat rw [va_up_ne _ _ (by omega)]); assumption)) rfl rfl (fun _ => rfl) (fun _ => rfl) ?_
  refine r_aload_n dX6_init_12 rfl ?_
  refine r_bipush dX6_init_13 (v := nI 40) (by decide) ?_
  refine r_newarrI (q + 2) 40 dX6_init_15 w_arrI (by first | exact hU _ (by omega) (by omega) | ((repeat rw [va_up_ne _ _ (by omega)]); exact hU _ (by omega) (by omega))) rfl (by decide) (by decide) (by decide) ?_
  refine r_putP dX6_init_17 f_X6_13 (by first | assumption | ((repeat rw [va_up_ne _ _ (by omega)]); assumption)) rfl rfl (fun _ => rfl) (fun _ => rfl) ?_
  refine r_aload_n dX6_init_20 rfl ?_
  refine r_bipush dX6_init_21 (v := nI 8) (by decide) ?_
  refine r_newarrI (q + 3) 8 dX6_init_23 w_arrI (by first | exact hU _ (by omega) (by omega) | ((repeat rw [va_up_ne _ _ (by omega)]); exact hU _ (by omega) (by omega))) rfl (by decide) (by decide) (by decide) ?_
  refine r_putP dX6_init_25 f_X6_16 (by first | assumption | ((repeat rw [va_up_ne _ _ (by omega)]); assumption)) rfl rfl (fun _ => rfl) (fun _ => rfl) ?_
  refine r_return dX6_init_28 rfl ?_
  exact ⟨rfl, rfl, rfl, rfl⟩
theorem c_X8_init {q : Nat} (s0 : sh q = (1, 6)) (hU : ∀ k, q < k → k ≤ q + 1 → (sh k).1 = 0) : am_R mX8_init (po_v (fun sh' I' P' => sh' = (bA sh (q + 1) 160) ∧ I' = (zA I (q + 1)) ∧ P' = (bP P q 1 (q + 1)))) 1 20 1 160 0 [some (.ref q)] [] sh I P := by
  refine r_aload_n dX8_init_0 rfl ?_
  refine r_obj dX8_init_1 lo_X8_3 ⟨by decide, Nat.le_of_ble_eq_true rfl⟩ ?_
  refine r_aload_n dX8_init_4 rfl ?_
  refine r_sipush dX8_init_5 (v := nI 160) (by decide) ?_
  refine r_newarrI (q + 1) 160 dX8_init_8 w_arrI (by first | exact hU _ (by omega) (by omega) | ((repeat rw [va_up_ne _ _ (by omega)]); exact hU _ (by omega) (by omega))) rfl (by decide) (by decide) (by decide) ?_
  refine r_putP dX8_init_10 f_X8_11 (by first | assumption | ((repeat rw [va_up_ne _ _ (by omega)]); assumption)) rfl rfl (fun _ => rfl) (fun _ => rfl) ?_
  refine r_return dX8_init_13 rfl ?_
  exact ⟨rfl, rfl, rfl, rfl⟩
theorem c_X9_init {q : Nat} (s0 : sh q = (1, 7)) (hU : ∀ k, q < k → k ≤ q + 3 → (sh k).1 = 0) : am_R mX9_init (po_v (fun sh' I' P' => sh' = (bA (bA (bA sh (q + 1) 40) (q + 2) 40) (q + 3) 41) ∧ I' = (zA (zA (zA I (q + 1)) (q + 2)) (q + 3)) ∧ P' = (bP (bP (bP P q 0 (q + 1)) q 1 (q + 2)) q 2 (q + 3)))) 1 20 3 121 0 [some (.ref q)] [] sh I P := by
  refine r_aload_n dX9_init_0 rfl ?_
  refine r_obj dX9_init_1 lo_X9_3 ⟨by decide, Nat.le_of_ble_eq_true rfl⟩ ?_
  refine r_aload_n dX9_init_4 rfl ?_
  refine r_bipush dX9_init_5 (v := nI 40) (by decide) ?_
  refine r_newarrI (q + 1) 40 dX9_init_7 w_arrI (by first | exact hU _ (by omega) (by omega) | ((repeat rw [va_up_ne _ _ (by omega)]); exact hU _ (by omega) (by omega))) rfl (by decide) (by decide) (by decide) ?_
  refine r_putP dX9_init_9 f_X9_11 (by first | assumption | ((repeat rw [va_up_ne _ _ (by omega)]); assumption)) rfl rfl (fun _ => rfl) (fun _ => rfl) ?_
  refine r_aload_n dX9_init_12 rfl ?_
  refine r_bipush dX9_init_13 (v := nI 40) (by decide) ?_
  refine r_newarrI (q + 2) 40 dX9_init_15 w_arrI (by first | exact hU _ (by omega) (by omega) | ((repeat rw [va_up_ne _ _ (by omega)]); exact hU _ (by omega) (by omega))) rfl (by decide) (by decide) (by decide) ?_
  refine r_putP dX9_init_17 f_X9_17 (by first | assumption | ((repeat rw [va_up_ne _ _ (by omega)]); assumption)) rfl rfl (fun _ => rfl) (fun _ => rfl) ?_
  refine r_aload_n dX9_init_20 rfl ?_
  refine r_bipush dX9_init_21 (v := nI 41) (by decide) ?_
  refine r_newarrI (q + 3) 41 dX9_init_23 w_arrI (by first | exact hU _ (by omega) (by omega) | ((repeat rw [va_up_ne _ _ (by omega)]); exact hU _ (by omega) (by omega))) rfl (by decide) (by decide) (by decide) ?_
  refine r_putP dX9_init_25 f_X9_20 (by first | assumption | ((repeat rw [va_up_ne _ _ (by omega)]); assumption)) rfl rfl (fun _ => rfl) (fun _ => rfl) ?_
  refine r_return dX9_init_28 rfl ?_
  exact ⟨rfl, rfl, rfl, rfl⟩
theorem c_X0_init {q : Nat} (s0 : sh q = (1, 0)) (hU : ∀ k, q < k → k ≤ q + 10 → (sh k).1 = 0) : am_R mX0_init (po_v (fun sh' I' P' => sh' = (bA (bA (bA (bA (bA (bA (bA (bA (bA (bA sh (q + 1) 360) (q + 2) 360) (q + 3) 360) (q + 4) 361) (q + 5) 360) (q + 6) 360) (q + 7) 360) (q + 8) 360) (q + 9) 360) (q + 10) 360) ∧ I' = (zA (zA (zA (zA (zA (zA (zA (zA (zA (zA I (q + 1)) (q + 2)) (q + 3)) (q + 4)) (q + 5)) (q + 6)) (q + 7)) (q + 8)) (q + 9)) (q + 10)) ∧ P' = (bP (bP (bP (bP (bP (bP (bP (bP (bP (bP P q 1 (q + 1)) q 2 (q + 2)) q 3 (q + 3)) q 4 (q + 4)) q 6 (q + 5)) q 7 (q + 6)) q 8 (q + 7)) q 9 (q + 8)) q 10 (q + 9)) q 11 (q + 10)))) 1 20 10 3601 0 [some (.ref q)] [] sh I P := by
  refine r_aload_n dX0_init_0 rfl ?_
  refine r_obj dX0_init_1 lo_X0_7 ⟨by decide, Nat.le_of_ble_eq_true rfl⟩ ?_
  refine r_aload_n dX0_init_4 rfl ?_
  refine r_sipush dX0_init_5 (v := nI 360) (by decide) ?_
  refine r_newarrI (q + 1) 360 dX0_init_8 w_arrI (by first | exact hU _ (by omega) (by omega) | ((repeat rw [va_up_ne _ _ (by omega)]); exact hU _ (by omega) (by omega))) rfl (by decide) (by decide) (by decide) ?_
  refine r_putP dX0_init_10 f_X0_15 (by first | assumption | ((repeat rw [va_up_ne _ _ (by omega)]); assumption)) rfl rfl (fun _ => rfl) (fun _ => rfl) ?_
  refine r_aload_n dX0_init_13 rfl ?_
  refine r_sipush dX0_init_14 (v := nI 360) (by decide) ?_
  refine r_newarrI (q + 2) 360 dX0_init_17 w_arrI (by first | exact hU _ (by omega) (by omega) | ((repeat rw [va_up_ne _ _ (by omega)]); exact hU _ (by omega) (by omega))) rfl (by decide) (by decide) (by decide) ?_
  refine r_putP dX0_init_19 f_X0_19 (by first | assumption | ((repeat rw [va_up_ne _ _ (by omega)]); assumption)) rfl rfl (fun _ => rfl) (fun _ => rfl) ?_
  refine r_aload_n dX0_init_22 rfl ?_
  refine r_sipush dX0_init_23 (v := nI 360) (by decide) ?_
  refine r_newarrI (q + 3) 360 dX0_init_26 w_arrI (by first | exact hU _ (by omega) (by omega) | ((repeat rw [va_up_ne _ _ (by omega)]); exact hU _ (by omega) (by omega))) rfl (by decide) (by decide) (by decide) ?_
  refine r_putP dX0_init_28 f_X0_22 (by first | assumption | ((repeat rw [va_up_ne _ _ (by omega)]); assumption)) rfl rfl (fun _ => rfl) (fun _ => rfl) ?_
  refine r_aload_n dX0_init_31 rfl ?_
  refine r_sipush dX0_init_32 (v := nI 361) (by decide) ?_
  refine r_newarrI (q + 4) 361 dX0_init_35 w_arrI (by first | exact hU _ (by omega) (by omega) | ((repeat rw [va_up_ne _ _ (by omega)]); exact hU _ (by omega) (by omega))) rfl (by decide) (by decide) (by decide) ?_
  refine r_putP dX0_init_37 f_X0_25 (by first | assumption | ((repeat rw [va_up_ne _ _ (by omega)]); assumption)) rfl rfl (fun _ => rfl) (fun _ => rfl) ?_
  refine r_aload_n dX0_init_40 rfl ?_
  refine r_sipush dX0_init_41 (v := nI 360) (by decide) ?_
  refine r_newarrI (q + 5) 360 dX0_init_44 w_arrI (by first | exact hU _ (by omega) (by omega) | ((repeat rw [va_up_ne _ _ (by omega)]); exact hU _ (by omega) (by omega))) rfl (by decide) (by decide) (by decide) ?_
  refine r_putP dX0_init_46 f_X0_28 (by first | assumption | ((repeat rw [va_up_ne _ _ (by omega)]); assumption)) rfl rfl (fun _ => rfl) (fun _ => rfl) ?_
  refine r_aload_n dX0_init_49 rfl ?_
  refine r_sipush dX0_init_50 (v := nI 360) (by decide) ?_
  refine r_newarrI (q + 6) 360 dX0_init_53 w_arrI (by first | exact hU _ (by omega) (by omega) | ((repeat rw [va_up_ne _ _ (by omega)]); exact hU _ (by omega) (by omega))) rfl (by decide) (by decide) (by decide) ?_
  refine r_putP dX0_init_55 f_X0_31 (by first | assumption | ((repeat rw [va_up_ne _ _ (by omega)]); assumption)) rfl rfl (fun _ => rfl) (fun _ => rfl) ?_
  refine r_aload_n dX0_init_58 rfl ?_
  refine r_sipush dX0_init_59 (v := nI 360) (by decide) ?_
  refine r_newarrI (q + 7) 360 dX0_init_62 w_arrI (by first | exact hU _ (by omega) (by omega) | ((repeat rw [va_up_ne _ _ (by omega)]); exact hU _ (by omega) (by omega))) rfl (by decide) (by decide) (by decide) ?_
  refine r_putP dX0_init_64 f_X0_34 (by first | assumption | ((repeat rw [va_up_ne _ _ (by omega)]); assumption)) rfl rfl (fun _ => rfl) (fun _ => rfl) ?_
  refine r_aload_n dX0_init_67 rfl ?_
  refine r_sipush dX0_init_68 (v := nI 360) (by decide) ?_
  refine r_newarrI (q + 8) 360 dX0_init_71 w_arrI (by first | exact hU _ (by omega) (by omega) | ((repeat rw [va_up_ne _ _ (by omega)]); exact hU _ (by omega) (by omega))) rfl (by decide) (by decide) (by decide) ?_
  refine r_putP dX0_init_73 f_X0_37 (by first | assumption | ((repeat rw [va_up_ne _ _ (by omega)]); assumption)) rfl rfl (fun _ => rfl) (fun _ => rfl) ?_
  refine r_aload_n dX0_init_76 rfl ?_
  refine r_sipush dX0_init_77 (v := nI 360) (by decide) ?_
  refine r_newarrI (q + 9) 360 dX0_init_80 w_arrI (by first | exact hU _ (by omega) (by omega) | ((repeat rw [va_up_ne _ _ (by omega)]); exact hU _ (by omega) (by omega))) rfl (by decide) (by decide) (by decide) ?_
  refine r_putP dX0_init_82 f_X0_40 (by first | assumption | ((repeat rw [va_up_ne _ _ (by omega)]); assumption)) rfl rfl (fun _ => rfl) (fun _ => rfl) ?_
  refine r_aload_n dX0_init_85 rfl ?_
  refine r_sipush dX0_init_86 (v := nI 360) (by decide) ?_
  refine r_newarrI (q + 10) 360 dX0_init_89 w_arrI (by first | exact hU _ (by omega) (by omega) | ((repeat rw [va_up_ne _ _ (by omega)]); exact hU _ (by omega) (by omega))) rfl (by decide) (by decide) (by decide) ?_
  refine r_putP dX0_init_91 f_X0_43 (by first | assumption | ((repeat rw [va_up_ne _ _ (by omega)]); assumption)) rfl rfl (fun _ => rfl) (fun _ => rfl) ?_
  refine r_return dX0_init_94 rfl ?_
  exact ⟨rfl, rfl, rfl, rfl⟩
def shK (sh : ASh) (q : Nat) : ASh := (bA (bA (bA (bA (bA (bA (bA (bA (bA (va_up sh (q + 1) (1, 2)) (q + 1 + 1) 40) (q + 1 + 2) 40) (q + 1 + 3) 40) (q + 1 + 4) 40) (q + 6) 40) (q + 7) 40) (q + 8) 40) (q + 9) 80) (q + 10) 40)
def inK (I : AIn) (q : Nat) : AIn := (zA (zA (zA (zA (zA (zA (zA (zA (zA (zA I (q + 1)) (q + 1 + 1)) (q + 1 + 2)) (q + 1 + 3)) (q + 1 + 4)) (q + 6)) (q + 7)) (q + 8)) (q + 9)) (q + 10))
def ptK (P : APt) (q : Nat) : APt := (bP (bP (bP (bP (bP (va_up (bP (bP (bP (bP (va_up P (q + 1) (fun _ => none)) (q + 1) 1 (q + 1 + 1)) (q + 1) 2 (q + 1 + 2)) (q + 1) 3 (q + 1 + 3)) (q + 1) 4 (q + 1 + 4)) (q) (va_up ((bP (bP (bP (bP (va_up P (q + 1) (fun _ => none)) (q + 1) 1 (q + 1 + 1)) (q + 1) 2 (q + 1 + 2)) (q + 1) 3 (q + 1 + 3)) (q + 1) 4 (q + 1 + 4)) (q)) 1 (some (q + 1)))) q 3 (q + 6)) q 4 (q + 7)) q 5 (q + 8)) q 7 (q + 9)) q 8 (q + 10))
theorem c_X2_init {q : Nat} (s0 : sh q = (1, 1)) (hU : ∀ k, q < k → k ≤ q + 10 → (sh k).1 = 0) : am_R mX2_init (po_v (fun sh' I' P' => sh' = shK sh q ∧ I' = inK I q ∧ P' = ptK P q)) 2 40 10 405 0 [some (.ref q)] [] sh I P := by
  refine r_aload_n dX2_init_0 rfl ?_
  refine r_obj dX2_init_1 lo_X2_5 ⟨by decide, Nat.le_of_ble_eq_true rfl⟩ ?_
  refine r_aload_n dX2_init_4 rfl ?_
  refine r_new (q + 1) dX2_init_5 k_X2_1 (hU _ (by omega) (by omega)) (by decide) (by decide) ?_
  refine r_dup dX2_init_8 ?_
  refine r_callN0 (fr' := 1) (lo' := 20) (mc' := 4) (ms' := 160) dX2_init_9 mm_X3_init rfl mi_X3_init rfl RX10 (by decide) (by decide) ⟨by decide, by decide⟩ (by decide) (by decide) (Nat.le_of_ble_eq_true rfl) (c_X3_init (q := q + 1) (by rw [va_up_self]) (fun k h1 h2 => by rw [va_up_ne _ _ (by omega)]; exact hU _ (by omega) (by omega))) (am_kv ?_)
  rintro _ _ _ ⟨rfl, rfl, rfl⟩
  refine r_putP dX2_init_12 f_X2_12 (by (repeat rw [va_up_ne _ _ (by omega)]); unfold bA; (repeat rw [va_up_ne _ _ (by omega)]); assumption) rfl rfl (fun _ => rfl) (fun _ => rfl) ?_
  refine r_aload_n dX2_init_15 rfl ?_
  refine r_bipush dX2_init_16 (v := nI 40) (by decide) ?_
  refine r_newarrI (q + 6) 40 dX2_init_18 w_arrI (by (repeat rw [va_up_ne _ _ (by omega)]); unfold bA; (repeat rw [va_up_ne _ _ (by omega)]); exact hU _ (by omega) (by omega)) rfl (by decide) (by decide) (by decide) ?_
  refine r_putP dX2_init_20 f_X2_18 (by (repeat rw [va_up_ne _ _ (by omega)]); unfold bA; (repeat rw [va_up_ne _ _ (by omega)]); assumption) rfl rfl (fun _ => rfl) (fun _ => rfl) ?_
  refine r_aload_n dX2_init_23 rfl ?_
  refine r_bipush dX2_init_24 (v := nI 40) (by decide) ?_
  refine r_newarrI (q + 7) 40 dX2_init_26 w_arrI (by (repeat rw [va_up_ne _ _ (by omega)]); unfold bA; (repeat rw [va_up_ne _ _ (by omega)]); exact hU _ (by omega) (by omega)) rfl (by decide) (by decide) (by decide) ?_
  refine r_putP dX2_init_28 f_X2_22 (by (repeat rw [va_up_ne _ _ (by omega)]); unfold bA; (repeat rw [va_up_ne _ _ (by omega)]); assumption) rfl rfl (fun _ => rfl) (fun _ => rfl) ?_
  refine r_aload_n dX2_init_31 rfl ?_
  refine r_bipush dX2_init_32 (v := nI 40) (by decide) ?_
  refine r_newarrI (q + 8) 40 dX2_init_34 w_arrI (by (repeat rw [va_up_ne _ _ (by omega)]); unfold bA; (repeat rw [va_up_ne _ _ (by omega)]); exact hU _ (by omega) (by omega)) rfl (by decide) (by decide) (by decide) ?_
  refine r_putP dX2_init_36 f_X2_25 (by (repeat rw [va_up_ne _ _ (by omega)]); unfold bA; (repeat rw [va_up_ne _ _ (by omega)]); assumption) rfl rfl (fun _ => rfl) (fun _ => rfl) ?_
  refine r_aload_n dX2_init_39 rfl ?_
  refine r_bipush dX2_init_40 (v := nI 80) (by decide) ?_
  refine r_newarrI (q + 9) 80 dX2_init_42 w_arrI (by (repeat rw [va_up_ne _ _ (by omega)]); unfold bA; (repeat rw [va_up_ne _ _ (by omega)]); exact hU _ (by omega) (by omega)) rfl (by decide) (by decide) (by decide) ?_
  refine r_putP dX2_init_44 f_X2_28 (by (repeat rw [va_up_ne _ _ (by omega)]); unfold bA; (repeat rw [va_up_ne _ _ (by omega)]); assumption) rfl rfl (fun _ => rfl) (fun _ => rfl) ?_
  refine r_aload_n dX2_init_47 rfl ?_
  refine r_bipush dX2_init_48 (v := nI 40) (by decide) ?_
  refine r_newarrI (q + 10) 40 dX2_init_50 w_arrI (by (repeat rw [va_up_ne _ _ (by omega)]); unfold bA; (repeat rw [va_up_ne _ _ (by omega)]); exact hU _ (by omega) (by omega)) rfl (by decide) (by decide) (by decide) ?_
  refine r_putP dX2_init_52 f_X2_31 (by (repeat rw [va_up_ne _ _ (by omega)]); unfold bA; (repeat rw [va_up_ne _ _ (by omega)]); assumption) rfl rfl (fun _ => rfl) (fun _ => rfl) ?_
  refine r_return dX2_init_55 rfl ?_
  exact ⟨rfl, rfl, rfl, rfl⟩
end K16
