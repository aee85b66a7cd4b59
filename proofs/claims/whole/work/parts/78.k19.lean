/-! the class: copies, image, again -/
theorem bo.fit {r : Int32} {c : Prop} (h : bo r c) : fits .boolean (.int r) = true := by
  rcases h with ⟨_, rfl⟩ | ⟨_, rfl⟩ <;> decide
def cpK (I : AIn) (q q' : Nat) (H : AIn) : Prop := (∀ r, r < q ∨ q + 10 < r → H r = I r) ∧ (H q 0 = I q' 0 ∧ H q 2 = I q' 2 ∧ H q 6 = I q' 6) ∧ (H (q + 1) 0 = I (q' + 1) 0 ∧ ∀ j, j < 40 → H (q + 2) j = I (q' + 2) j ∧ H (q + 3) j = I (q' + 3) j) ∧ (∀ j, j < 40 → H (q + 6) j = I (q' + 6) j ∧ H (q + 7) j = I (q' + 7) j ∧ H (q + 8) j = I (q' + 8) j ∧ H (q + 10) j = I (q' + 10) j) ∧ ∀ j, j < 80 → H (q + 9) j = I (q' + 9) j
def cpR (I : AIn) (q q' : Nat) (H : AIn) : Prop := (∀ r, r < q ∨ q + 3 < r → H r = I r) ∧ (H q 0 = I q' 0 ∧ H q 1 = I q' 1 ∧ H q 2 = I q' 2 ∧ H q 3 = I q' 3 ∧ H q 4 = I q' 4 ∧ H q 6 = I q' 6) ∧ (∀ j, j < 24 → H (q + 1) j = I (q' + 1) j) ∧ (∀ j, j < 40 → H (q + 2) j = I (q' + 2) j) ∧ ∀ j, j < 8 → H (q + 3) j = I (q' + 3) j
def cpT (I : AIn) (q q' : Nat) (H : AIn) : Prop := (∀ r, r < q ∨ q + 1 < r → H r = I r) ∧ H q 0 = I q' 0 ∧ ∀ j, j < 160 → H (q + 1) j = I (q' + 1) j
section K19
variable {sh : ASh} {I σ τ : AIn} {P : APt}
theorem c_X2_copyFrom {q q' : Nat} {T : Prop} (K : SPk sh P q) (K' : SPk sh P q') (hd : q + 10 < q' ∨ q' + 10 < q) (hb : bo (I q' 0) T) : am_R mX2_copyFrom (po_v (fun sh' I' P' => cpK I q q' I' ∧ sh = sh' ∧ P = P')) 2 51 0 0 0 [some (.ref q), some (.ref q')] [] sh I P := by
  obtain ⟨⟨a0, a1, Q⟩, ⟨a2, a3⟩, ⟨a4, a5⟩, ⟨a6, a7⟩, ⟨a8, a9⟩, a10, a11⟩ := K
  obtain ⟨⟨c0, c1, Q'⟩, ⟨c2, c3⟩, ⟨c4, c5⟩, ⟨c6, c7⟩, ⟨c8, c9⟩, c10, c11⟩ := K'
  have sq := Q.1
  refine r_aload_n dX2_copyFrom_0 rfl ?_
  refine r_aload_n dX2_copyFrom_1 rfl ?_
  refine r_getI dX2_copyFrom_2 g_X2_34 (by assumption) rfl ?_
  refine r_putI dX2_copyFrom_5 f_X2_34 (by assumption) rfl hb.nar hb.fit ?_
  refine r_aload_n dX2_copyFrom_8 rfl ?_
  refine r_getP dX2_copyFrom_9 g_X2_12 (by assumption) rfl (by assumption) ?_
  refine r_aload_n dX2_copyFrom_12 rfl ?_
  refine r_getP dX2_copyFrom_13 g_X2_12 (by assumption) rfl (by assumption) ?_
  refine r_callV1 (fr' := 1) (lo' := 30) (mc' := 0) (ms' := 0) dX2_copyFrom_16 mm_X3_copyFrom mv_X3_copyFrom l_X2_45 (by assumption) mc_X3_copyFrom (by decide) ⟨by decide, by decide⟩ (Nat.zero_le _) (Nat.zero_le _) (Nat.le_of_ble_eq_true rfl) (c_X3_copyFrom Q Q' (by omega)) (am_kv ?_)
  rintro _ H2 _ ⟨hc, rfl, rfl⟩
  have f2 : ∀ r, r ≤ q ∨ q + 5 < r → H2 r = va_up I q (upd (I q) 0 (I q' 0)) r := fun r h => hc.1 r (by omega) (by omega) (by omega) (by omega) (by omega)
  refine r_aload_n dX2_copyFrom_19 rfl ?_
  refine r_aload_n dX2_copyFrom_20 rfl ?_
  refine r_getI dX2_copyFrom_21 g_X2_38 (by assumption) rfl ?_
  refine r_putI dX2_copyFrom_24 f_X2_38 (by assumption) rfl rfl rfl ?_
  refine r_aload_n dX2_copyFrom_27 rfl ?_
  refine r_getP dX2_copyFrom_28 g_X2_18 (by assumption) rfl (by assumption) ?_
  refine r_iconst dX2_copyFrom_31 (v := nI 0) kc_0 ?_
  refine r_aload_n dX2_copyFrom_32 rfl ?_
  refine r_getP dX2_copyFrom_33 g_X2_18 (by assumption) rfl (by assumption) ?_
  refine r_iconst dX2_copyFrom_36 (v := nI 0) kc_0 ?_
  refine r_bipush dX2_copyFrom_37 (v := nI 40) (by decide) ?_
  refine r_copy 0 0 40 dX2_copyFrom_39 la_X2_76 (by assumption) (by assumption) rfl rfl rfl (by first | decide | omega) (by first | decide | omega) (by decide) (by decide) ⟨by decide, Nat.le_of_ble_eq_true rfl⟩ ?_
  refine r_aload_n dX2_copyFrom_42 rfl ?_
  refine r_getP dX2_copyFrom_43 g_X2_22 (by assumption) rfl (by assumption) ?_
  refine r_iconst dX2_copyFrom_46 (v := nI 0) kc_0 ?_
  refine r_aload_n dX2_copyFrom_47 rfl ?_
  refine r_getP dX2_copyFrom_48 g_X2_22 (by assumption) rfl (by assumption) ?_
  refine r_iconst dX2_copyFrom_51 (v := nI 0) kc_0 ?_
  refine r_bipush dX2_copyFrom_52 (v := nI 40) (by decide) ?_
  refine r_copy 0 0 40 dX2_copyFrom_54 la_X2_76 (by assumption) (by assumption) rfl rfl rfl (by first | decide | omega) (by first | decide | omega) (by decide) (by decide) ⟨by decide, Nat.le_of_ble_eq_true rfl⟩ ?_
  refine r_aload_n dX2_copyFrom_57 rfl ?_
  refine r_getP dX2_copyFrom_58 g_X2_25 (by assumption) rfl (by assumption) ?_
  refine r_iconst dX2_copyFrom_61 (v := nI 0) kc_0 ?_
  refine r_aload_n dX2_copyFrom_62 rfl ?_
  refine r_getP dX2_copyFrom_63 g_X2_25 (by assumption) rfl (by assumption) ?_
  refine r_iconst dX2_copyFrom_66 (v := nI 0) kc_0 ?_
  refine r_bipush dX2_copyFrom_67 (v := nI 40) (by decide) ?_
  refine r_copy 0 0 40 dX2_copyFrom_69 la_X2_76 (by assumption) (by assumption) rfl rfl rfl (by first | decide | omega) (by first | decide | omega) (by decide) (by decide) ⟨by decide, Nat.le_of_ble_eq_true rfl⟩ ?_
  refine r_aload_n dX2_copyFrom_72 rfl ?_
  refine r_aload_n dX2_copyFrom_73 rfl ?_
  refine r_getI dX2_copyFrom_74 g_X2_42 (by assumption) rfl ?_
  refine r_putI dX2_copyFrom_77 f_X2_42 (by assumption) rfl rfl rfl ?_
  refine r_aload_n dX2_copyFrom_80 rfl ?_
  refine r_getP dX2_copyFrom_81 g_X2_28 (by assumption) rfl (by assumption) ?_
  refine r_iconst dX2_copyFrom_84 (v := nI 0) kc_0 ?_
  refine r_aload_n dX2_copyFrom_85 rfl ?_
  refine r_getP dX2_copyFrom_86 g_X2_28 (by assumption) rfl (by assumption) ?_
  refine r_iconst dX2_copyFrom_89 (v := nI 0) kc_0 ?_
  refine r_bipush dX2_copyFrom_90 (v := nI 80) (by decide) ?_
  refine r_copy 0 0 80 dX2_copyFrom_92 la_X2_76 (by assumption) (by assumption) rfl rfl rfl (by first | decide | omega) (by first | decide | omega) (by decide) (by decide) ⟨by decide, Nat.le_of_ble_eq_true rfl⟩ ?_
  refine r_aload_n dX2_copyFrom_95 rfl ?_
  refine r_getP dX2_copyFrom_96 g_X2_31 (by assumption) rfl (by assumption) ?_
  refine r_iconst dX2_copyFrom_99 (v := nI 0) kc_0 ?_
  refine r_aload_n dX2_copyFrom_100 rfl ?_
  refine r_getP dX2_copyFrom_101 g_X2_31 (by assumption) rfl (by assumption) ?_
  refine r_iconst dX2_copyFrom_104 (v := nI 0) kc_0 ?_
  refine r_bipush dX2_copyFrom_105 (v := nI 40) (by decide) ?_
  refine r_copy 0 0 40 dX2_copyFrom_107 la_X2_76 (by assumption) (by assumption) rfl rfl rfl (by first | decide | omega) (by first | decide | omega) (by decide) (by decide) ⟨by decide, Nat.le_of_ble_eq_true rfl⟩ ?_
  refine r_return dX2_copyFrom_110 rfl ?_
  refine ⟨rfl, ⟨fun r hr => ?_, ⟨?_, ?_, ?_⟩, ⟨?_, fun j hj => ⟨?_, ?_⟩⟩, fun j hj => ⟨?_, ?_, ?_, ?_⟩, fun j hj => ?_⟩, rfl, rfl⟩
  · (repeat (first | rw [va_up_self] | rw [va_up_ne _ _ (by omega)] | rw [pk_us] | rw [pk_un (by decide)] | rw [sb_cpy0 (by omega)] | rw [f2 _ (by omega)]))
  · (repeat (first | rw [va_up_self] | rw [va_up_ne _ _ (by omega)] | rw [pk_us] | rw [pk_un (by decide)] | rw [sb_cpy0 (by omega)] | rw [f2 _ (by omega)]))
  · (repeat (first | rw [va_up_self] | rw [va_up_ne _ _ (by omega)] | rw [pk_us] | rw [pk_un (by decide)] | rw [sb_cpy0 (by omega)] | rw [f2 _ (by omega)]))
  · (repeat (first | rw [va_up_self] | rw [va_up_ne _ _ (by omega)] | rw [pk_us] | rw [pk_un (by decide)] | rw [sb_cpy0 (by omega)] | rw [f2 _ (by omega)]))
  · (repeat rw [va_up_ne _ _ (by omega)]); rw [hc.2.1, va_up_ne _ _ (by omega)]
  · (repeat rw [va_up_ne _ _ (by omega)]); rw [(hc.2.2 j hj).1, va_up_ne _ _ (by omega)]
  · (repeat rw [va_up_ne _ _ (by omega)]); rw [(hc.2.2 j hj).2.1, va_up_ne _ _ (by omega)]
  · (repeat (first | rw [va_up_self] | rw [va_up_ne _ _ (by omega)] | rw [pk_us] | rw [pk_un (by decide)] | rw [sb_cpy0 (by omega)] | rw [f2 _ (by omega)]))
  · (repeat (first | rw [va_up_self] | rw [va_up_ne _ _ (by omega)] | rw [pk_us] | rw [pk_un (by decide)] | rw [sb_cpy0 (by omega)] | rw [f2 _ (by omega)]))
  · (repeat (first | rw [va_up_self] | rw [va_up_ne _ _ (by omega)] | rw [pk_us] | rw [pk_un (by decide)] | rw [sb_cpy0 (by omega)] | rw [f2 _ (by omega)]))
  · (repeat (first | rw [va_up_self] | rw [va_up_ne _ _ (by omega)] | rw [pk_us] | rw [pk_un (by decide)] | rw [sb_cpy0 (by omega)] | rw [f2 _ (by omega)]))
  · (repeat (first | rw [va_up_self] | rw [va_up_ne _ _ (by omega)] | rw [pk_us] | rw [pk_un (by decide)] | rw [sb_cpy0 (by omega)] | rw [f2 _ (by omega)]))
theorem c_X6_copyFrom {q q' : Nat} {T : Prop} (K : SRn sh P q) (K' : SRn sh P q') (hd : q + 3 < q' ∨ q' + 3 < q) (hb : bo (I q' 0) T) : am_R mX6_copyFrom (po_v (fun sh' I' P' => cpR I q q' I' ∧ sh = sh' ∧ P = P')) 1 30 0 0 0 [some (.ref q), some (.ref q')] [] sh I P := by
  obtain ⟨a0, ⟨a1, a2⟩, ⟨a3, a4⟩, a5, a6⟩ := K
  obtain ⟨c0, ⟨c1, c2⟩, ⟨c3, c4⟩, c5, c6⟩ := K'
  refine r_aload_n dX6_copyFrom_0 rfl ?_
  refine r_aload_n dX6_copyFrom_1 rfl ?_
  refine r_getI dX6_copyFrom_2 g_X6_48 (by assumption) rfl ?_
  refine r_putI dX6_copyFrom_5 f_X6_48 (by assumption) rfl hb.nar hb.fit ?_
  refine r_aload_n dX6_copyFrom_8 rfl ?_
  refine r_aload_n dX6_copyFrom_9 rfl ?_
  refine r_getI dX6_copyFrom_10 g_X6_52 (by assumption) rfl ?_
  refine r_putI dX6_copyFrom_13 f_X6_52 (by assumption) rfl rfl rfl ?_
  refine r_aload_n dX6_copyFrom_16 rfl ?_
  refine r_aload_n dX6_copyFrom_17 rfl ?_
  refine r_getI dX6_copyFrom_18 g_X6_41 (by assumption) rfl ?_
  refine r_putI dX6_copyFrom_21 f_X6_41 (by assumption) rfl rfl rfl ?_
  refine r_aload_n dX6_copyFrom_24 rfl ?_
  refine r_aload_n dX6_copyFrom_25 rfl ?_
  refine r_getI dX6_copyFrom_26 g_X6_31 (by assumption) rfl ?_
  refine r_putI dX6_copyFrom_29 f_X6_31 (by assumption) rfl rfl rfl ?_
  refine r_aload_n dX6_copyFrom_32 rfl ?_
  refine r_aload_n dX6_copyFrom_33 rfl ?_
  refine r_getI dX6_copyFrom_34 g_X6_55 (by assumption) rfl ?_
  refine r_putI dX6_copyFrom_37 f_X6_55 (by assumption) rfl rfl rfl ?_
  refine r_aload_n dX6_copyFrom_40 rfl ?_
  refine r_getP dX6_copyFrom_41 g_X6_9 (by assumption) rfl (by assumption) ?_
  refine r_iconst dX6_copyFrom_44 (v := nI 0) kc_0 ?_
  refine r_aload_n dX6_copyFrom_45 rfl ?_
  refine r_getP dX6_copyFrom_46 g_X6_9 (by assumption) rfl (by assumption) ?_
  refine r_iconst dX6_copyFrom_49 (v := nI 0) kc_0 ?_
  refine r_bipush dX6_copyFrom_50 (v := nI 24) (by decide) ?_
  refine r_copy 0 0 24 dX6_copyFrom_52 la_X6_105 (by assumption) (by assumption) rfl rfl rfl (by first | decide | omega) (by first | decide | omega) (by decide) (by decide) ⟨by decide, Nat.le_of_ble_eq_true rfl⟩ ?_
  refine r_aload_n dX6_copyFrom_55 rfl ?_
  refine r_aload_n dX6_copyFrom_56 rfl ?_
  refine r_getI dX6_copyFrom_57 g_X6_58 (by assumption) rfl ?_
  refine r_putI dX6_copyFrom_60 f_X6_58 (by assumption) rfl rfl rfl ?_
  refine r_aload_n dX6_copyFrom_63 rfl ?_
  refine r_getP dX6_copyFrom_64 g_X6_13 (by assumption) rfl (by assumption) ?_
  refine r_iconst dX6_copyFrom_67 (v := nI 0) kc_0 ?_
  refine r_aload_n dX6_copyFrom_68 rfl ?_
  refine r_getP dX6_copyFrom_69 g_X6_13 (by assumption) rfl (by assumption) ?_
  refine r_iconst dX6_copyFrom_72 (v := nI 0) kc_0 ?_
  refine r_bipush dX6_copyFrom_73 (v := nI 40) (by decide) ?_
  refine r_copy 0 0 40 dX6_copyFrom_75 la_X6_105 (by assumption) (by assumption) rfl rfl rfl (by first | decide | omega) (by first | decide | omega) (by decide) (by decide) ⟨by decide, Nat.le_of_ble_eq_true rfl⟩ ?_
  refine r_aload_n dX6_copyFrom_78 rfl ?_
  refine r_getP dX6_copyFrom_79 g_X6_16 (by assumption) rfl (by assumption) ?_
  refine r_iconst dX6_copyFrom_82 (v := nI 0) kc_0 ?_
  refine r_aload_n dX6_copyFrom_83 rfl ?_
  refine r_getP dX6_copyFrom_84 g_X6_16 (by assumption) rfl (by assumption) ?_
  refine r_iconst dX6_copyFrom_87 (v := nI 0) kc_0 ?_
  refine r_bipush dX6_copyFrom_88 (v := nI 8) (by decide) ?_
  refine r_copy 0 0 8 dX6_copyFrom_90 la_X6_105 (by assumption) (by assumption) rfl rfl rfl (by first | decide | omega) (by first | decide | omega) (by decide) (by decide) ⟨by decide, Nat.le_of_ble_eq_true rfl⟩ ?_
  refine r_return dX6_copyFrom_93 rfl ?_
  refine ⟨rfl, ⟨fun r hr => ?_, ⟨?_, ?_, ?_, ?_, ?_, ?_⟩, fun j hj => ?_, fun j hj => ?_, fun j hj => ?_⟩, rfl, rfl⟩
  · (repeat (first | rw [va_up_self] | rw [va_up_ne _ _ (by omega)] | rw [pk_us] | rw [pk_un (by decide)] | rw [sb_cpy0 (by omega)]))
  · (repeat (first | rw [va_up_self] | rw [va_up_ne _ _ (by omega)] | rw [pk_us] | rw [pk_un (by decide)] | rw [sb_cpy0 (by omega)]))
  · (repeat (first | rw [va_up_self] | rw [va_up_ne _ _ (by omega)] | rw [pk_us] | rw [pk_un (by decide)] | rw [sb_cpy0 (by omega)]))
  · (repeat (first | rw [va_up_self] | rw [va_up_ne _ _ (by omega)] | rw [pk_us] | rw [pk_un (by decide)] | rw [sb_cpy0 (by omega)]))
  · (repeat (first | rw [va_up_self] | rw [va_up_ne _ _ (by omega)] | rw [pk_us] | rw [pk_un (by decide)] | rw [sb_cpy0 (by omega)]))
  · (repeat (first | rw [va_up_self] | rw [va_up_ne _ _ (by omega)] | rw [pk_us] | rw [pk_un (by decide)] | rw [sb_cpy0 (by omega)]))
  · (repeat (first | rw [va_up_self] | rw [va_up_ne _ _ (by omega)] | rw [pk_us] | rw [pk_un (by decide)] | rw [sb_cpy0 (by omega)]))
  · (repeat (first | rw [va_up_self] | rw [va_up_ne _ _ (by omega)] | rw [pk_us] | rw [pk_un (by decide)] | rw [sb_cpy0 (by omega)]))
  · (repeat (first | rw [va_up_self] | rw [va_up_ne _ _ (by omega)] | rw [pk_us] | rw [pk_un (by decide)] | rw [sb_cpy0 (by omega)]))
  · (repeat (first | rw [va_up_self] | rw [va_up_ne _ _ (by omega)] | rw [pk_us] | rw [pk_un (by decide)] | rw [sb_cpy0 (by omega)]))
theorem c_X8_copyFrom {q q' : Nat} (K : STd sh P q) (K' : STd sh P q') (hd : q + 1 < q' ∨ q' + 1 < q) : am_R mX8_copyFrom (po_v (fun sh' I' P' => cpT I q q' I' ∧ sh = sh' ∧ P = P')) 1 30 0 0 0 [some (.ref q), some (.ref q')] [] sh I P := by
  obtain ⟨a0, a1, a2⟩ := K
  obtain ⟨c0, c1, c2⟩ := K'
  refine r_aload_n dX8_copyFrom_0 rfl ?_
  refine r_aload_n dX8_copyFrom_1 rfl ?_
  refine r_getI dX8_copyFrom_2 g_X8_15 (by assumption) rfl ?_
  refine r_putI dX8_copyFrom_5 f_X8_15 (by assumption) rfl rfl rfl ?_
  refine r_aload_n dX8_copyFrom_8 rfl ?_
  refine r_getP dX8_copyFrom_9 g_X8_11 (by assumption) rfl (by assumption) ?_
  refine r_iconst dX8_copyFrom_12 (v := nI 0) kc_0 ?_
  refine r_aload_n dX8_copyFrom_13 rfl ?_
  refine r_getP dX8_copyFrom_14 g_X8_11 (by assumption) rfl (by assumption) ?_
  refine r_iconst dX8_copyFrom_17 (v := nI 0) kc_0 ?_
  refine r_sipush dX8_copyFrom_18 (v := nI 160) (by decide) ?_
  refine r_copy 0 0 160 dX8_copyFrom_21 la_X8_57 (by assumption) (by assumption) rfl rfl rfl (by first | decide | omega) (by first | decide | omega) (by decide) (by decide) ⟨by decide, Nat.le_of_ble_eq_true rfl⟩ ?_
  refine r_return dX8_copyFrom_24 rfl ?_
  refine ⟨rfl, ⟨fun r hr => ?_, ?_, fun j hj => ?_⟩, rfl, rfl⟩
  · (repeat (first | rw [va_up_self] | rw [va_up_ne _ _ (by omega)] | rw [pk_us] | rw [pk_un (by decide)] | rw [sb_cpy0 (by omega)]))
  · (repeat (first | rw [va_up_self] | rw [va_up_ne _ _ (by omega)] | rw [pk_us] | rw [pk_un (by decide)] | rw [sb_cpy0 (by omega)]))
  · (repeat (first | rw [va_up_self] | rw [va_up_ne _ _ (by omega)] | rw [pk_us] | rw [pk_un (by decide)] | rw [sb_cpy0 (by omega)]))
theorem Pg_cp {H H' : AIn} {q q' n : Nat} {kd ag tm : Nat → Int32} (h : PgN H q' n kd ag tm) (hn : n ≤ 40) (hc : cpP H q q' H') : PgN H' q n kd ag tm := by
  refine ⟨by rw [hc.2.1]; exact h.1, fun k hk => ?_, fun t ht => ?_⟩
  · obtain ⟨a, b, c, -⟩ := hc.2.2 k (by omega)
    rw [a, b, c]
    exact h.2.1 k hk
  · rw [(hc.2.2 t ht).2.2.2]; exact h.2.2 t ht
theorem rpJ_cp {H J : AIn} {r r' m : Nat} {E : Nat → Nat} (h : RwR I r' m E) (e0 : H r' 0 = I r' 0) (e1 : H (r' + 1) = I (r' + 1)) (hJ : J = va_up (va_up H r (upd (H r) 0 (H r' 0))) (r + 1) (va_cpy (H (r' + 1)) (H (r + 1)) 0 0 6)) : RwR J r m E := by
  subst hJ
  have h6 := h.2.1
  refine ⟨?_, h6, fun j hj => ?_⟩
  · rw [va_up_ne _ _ (by omega), va_up_self, pk_us, e0]; exact h.1
  · rw [va_up_self, sb_cpy0 (by omega), e1]; exact h.2.2 j hj
theorem rpK_cp {H J : AIn} {B B' : Nat} (V : iK τ) (h : rpK I B' τ) (e : ∀ r, B' + 19 ≤ r → r ≤ B' + 29 → H r = I r) (hc : cpK H (B + 19) (B' + 19) J) : rpK J B τ := by
  obtain ⟨-, ⟨c1, c2, c3⟩, ⟨c4, c5⟩, c6, c7⟩ := hc
  rw [e _ (by omega) (by omega)] at c1 c2 c3 c4
  refine ⟨by rw [c1]; exact h.1, fun ht => ?_⟩
  obtain ⟨⟨r1, r2, r3⟩, r4, r5, r6, r7⟩ := h.2 ht
  obtain ⟨v1, v2, v3⟩ := V.n ht
  have b1 := v1.2
  have b2 := v2.2
  have b3 := v3.2
  refine ⟨⟨by rw [c2]; exact r1, by rw [c3]; exact r2, ?_⟩, fun k hk => ?_, fun k hk => ?_, fun k hk => ?_, fun t ht2 => ?_⟩
  · exact c4.trans r3
  · obtain ⟨d1, d2⟩ := c5 k (by omega)
    rw [e _ (by omega) (by omega)] at d1 d2
    exact ⟨d1.trans (r4 k hk).1, d2.trans (r4 k hk).2⟩
  · obtain ⟨d1, d2, d3, -⟩ := c6 k (by omega)
    rw [e _ (by omega) (by omega)] at d1 d2 d3
    exact ⟨d1.trans (r5 k hk).1, d2.trans (r5 k hk).2.1, d3.trans (r5 k hk).2.2⟩
  · have d := c7 k (by omega)
    rw [e _ (by omega) (by omega)] at d
    exact d.trans (r6 k hk)
  · obtain ⟨-, -, -, d⟩ := c6 t (by omega)
    rw [e _ (by omega) (by omega)] at d
    have := r7 t ht2
    rw [show J (B + 29) t = I (B' + 29) t from d]
    exact this
theorem rpR_cp {H J : AIn} {B B' : Nat} (V : iR τ) (h : rpR I B' τ) (e : ∀ r, B' + 30 ≤ r → r ≤ B' + 33 → H r = I r) (hc : cpR H (B + 30) (B' + 30) J) : rpR J B τ := by
  obtain ⟨-, ⟨c0, c1, c2, c3, c4, c5⟩, c6, c7, c8⟩ := hc
  rw [e _ (by omega) (by omega)] at c0 c1 c2 c3 c4 c5
  have d6 : ∀ j, j < 24 → J (B + 31) j = I (B' + 31) j := fun j hj => by have := c6 j hj; rw [e _ (by omega) (by omega)] at this; exact this
  have d7 : ∀ j, j < 40 → J (B + 32) j = I (B' + 32) j := fun j hj => by have := c7 j hj; rw [e _ (by omega) (by omega)] at this; exact this
  have d8 : ∀ j, j < 8 → J (B + 33) j = I (B' + 33) j := fun j hj => by have := c8 j hj; rw [e _ (by omega) (by omega)] at this; exact this
  refine ⟨by rw [c0]; exact h.1, fun hn => ?_, fun ht => ?_⟩
  · obtain ⟨a, b, c⟩ := h.2.1 hn
    exact ⟨c4.trans a, c5.trans b, fun k hk => (d8 k hk).trans (c k hk)⟩
  · obtain ⟨⟨r1, r2, r3, r4, r5⟩, r6, r7, r8⟩ := h.2.2 ht
    obtain ⟨-, v2, v3⟩ := V.n ht
    have b2 := v2.2
    have b3 := v3.2
    exact ⟨⟨c1.trans r1, c2.trans r2, c3.trans r3, c4.trans r4, c5.trans r5⟩, fun k hk => (d6 k (by omega)).trans (r6 k hk), fun k hk => (d7 k (by omega)).trans (r7 k hk), fun k hk => (d8 k hk).trans (r8 k hk)⟩
theorem l_X7_copyFrom {B B' : Nat} (T : SSt sh P B) (T' : SSt sh P B') (hd : B + 37 < B' ∨ B' + 37 < B) (V : Inv τ) (R : RepS I B' τ) : ∀ (m k : Nat), k + m = np τ → ∀ H, (∀ r, r < B ∨ B + 16 < r → H r = I r) → H B 0 = nI (np τ) → (∀ p, p < k → Pg H (B + 2 + 5 * p) τ p) → am_R mX7_copyFrom (po_v (fun sh' I' P' => (∀ r, r < B ∨ B + 37 < r → I' r = I r) ∧ RepS I' B τ ∧ sh = sh' ∧ P = P')) 3 72 0 0 10 [some (.ref B), some (.ref B'), some (.int (nI k))] [] sh H P := by
  have b1 : np τ ≤ 3 := V.1.np.2
  obtain ⟨⟨a0, a1, a2⟩, a3, ⟨a4, a5⟩, ⟨a6, a7⟩, ⟨a8, a9⟩, ⟨a10, a11⟩, a12, a13⟩ := id T
  obtain ⟨⟨c0, c1, c2⟩, c3, ⟨c4, c5⟩, ⟨c6, c7⟩, ⟨c8, c9⟩, ⟨c10, c11⟩, c12, c13⟩ := id T'
  intro m
  induction m with
  | zero =>
    intro k hk H hF h0 hP
    have e : k = np τ := by omega
    subst e
    have s17 := a4.1
    have s19 := a6.1.1
    have s30 := a8.1
    have s34 := a10.1
    have s36 := a12.1
    refine r_iload_n dX7_copyFrom_10 rfl ?_
    refine r_aload_n dX7_copyFrom_11 rfl ?_
    refine r_getI dX7_copyFrom_12 g_X7_47 (by assumption) rfl ?_
    rw [h0]
    refine r_icmp_geN 39 dX7_copyFrom_15 (by decide) (by omega) (by omega) (fun h15 => ?_) (fun h15 => ?_)
    · refine r_aload_n dX7_copyFrom_39 rfl ?_
      refine r_getP dX7_copyFrom_40 g_X7_18 (by assumption) rfl (by assumption) ?_
      refine r_aload_n dX7_copyFrom_43 rfl ?_
      refine r_getP dX7_copyFrom_44 g_X7_18 (by assumption) rfl (by assumption) ?_
      refine r_callV1 (fr' := 1) (lo' := 30) (mc' := 0) (ms' := 0) dX7_copyFrom_47 mm_X5_copyFrom mv_X5_copyFrom l_X7_62 (by assumption) mc_X5_copyFrom (by decide) ⟨by decide, by decide⟩ (Nat.zero_le _) (Nat.zero_le _) (Nat.le_of_ble_eq_true rfl) (c_X5_copyFrom a4 c4 (by omega) (by omega) (by omega)) (am_kv ?_)
      rintro _ J1 _ ⟨e1, rfl, rfl⟩
      have f1 : ∀ r, r < B + 17 ∨ B + 18 < r → J1 r = H r := fun r hr => by rw [e1, va_up_ne _ _ (by omega), va_up_ne _ _ (by omega)]
      refine r_aload_n dX7_copyFrom_50 rfl ?_
      refine r_getP dX7_copyFrom_51 g_X7_25 (by assumption) rfl (by assumption) ?_
      refine r_aload_n dX7_copyFrom_54 rfl ?_
      refine r_getP dX7_copyFrom_55 g_X7_25 (by assumption) rfl (by assumption) ?_
      refine r_callV1 (fr' := 2) (lo' := 51) (mc' := 0) (ms' := 0) dX7_copyFrom_58 mm_X2_copyFrom mv_X2_copyFrom l_X7_65 (by assumption) mc_X2_copyFrom (by decide) ⟨by decide, by decide⟩ (Nat.zero_le _) (Nat.zero_le _) (Nat.le_of_ble_eq_true rfl) (c_X2_copyFrom a6 c6 (by omega) (by rw [f1 _ (by omega), hF _ (by omega)]; exact R.2.2.1.1)) (am_kv ?_)
      rintro _ J2 _ ⟨e2, rfl, rfl⟩
      have f2 := e2.1
      refine r_aload_n dX7_copyFrom_61 rfl ?_
      refine r_getP dX7_copyFrom_62 g_X7_32 (by assumption) rfl (by assumption) ?_
      refine r_aload_n dX7_copyFrom_65 rfl ?_
      refine r_getP dX7_copyFrom_66 g_X7_32 (by assumption) rfl (by assumption) ?_
      refine r_callV1 (fr' := 1) (lo' := 30) (mc' := 0) (ms' := 0) dX7_copyFrom_69 mm_X6_copyFrom mv_X6_copyFrom l_X7_68 (by assumption) mc_X6_copyFrom (by decide) ⟨by decide, by decide⟩ (Nat.zero_le _) (Nat.zero_le _) (Nat.le_of_ble_eq_true rfl) (c_X6_copyFrom a8 c8 (by omega) (by rw [f2 _ (by omega), f1 _ (by omega), hF _ (by omega)]; exact R.2.2.2.1.1)) (am_kv ?_)
      rintro _ J3 _ ⟨e3, rfl, rfl⟩
      have f3 := e3.1
      refine r_aload_n dX7_copyFrom_72 rfl ?_
      refine r_aload_n dX7_copyFrom_73 rfl ?_
      refine r_getI dX7_copyFrom_74 g_X7_71 (by assumption) rfl ?_
      rw [f3 _ (by omega), f2 _ (by omega), f1 _ (by omega), hF _ (by omega)]
      refine r_putI dX7_copyFrom_77 f_X7_71 (by assumption) rfl R.2.2.2.2.1.1.nar R.2.2.2.2.1.1.fit ?_
      refine r_aload_n dX7_copyFrom_80 rfl ?_
      refine r_getP dX7_copyFrom_81 g_X7_36 (by assumption) rfl (by assumption) ?_
      refine r_aload_n dX7_copyFrom_84 rfl ?_
      refine r_getP dX7_copyFrom_85 g_X7_36 (by assumption) rfl (by assumption) ?_
      refine r_callV1 (fr' := 1) (lo' := 30) (mc' := 0) (ms' := 0) dX7_copyFrom_88 mm_X5_copyFrom mv_X5_copyFrom l_X7_62 (by assumption) mc_X5_copyFrom (by decide) ⟨by decide, by decide⟩ (Nat.zero_le _) (Nat.zero_le _) (Nat.le_of_ble_eq_true rfl) (c_X5_copyFrom a10 c10 (by omega) (by omega) (by omega)) (am_kv ?_)
      rintro _ J5 _ ⟨e5, rfl, rfl⟩
      have f5 : ∀ r, r < B + 34 ∨ B + 35 < r → J5 r = (va_up J3 B (upd (J3 B) 5 (I B' 5))) r := fun r hr => by rw [e5, va_up_ne _ _ (by omega), va_up_ne _ _ (by omega)]
      have f4 : ∀ r, r ≠ B → (va_up J3 B (upd (J3 B) 5 (I B' 5))) r = J3 r := fun r hr => va_up_ne _ _ hr
      refine r_aload_n dX7_copyFrom_91 rfl ?_
      refine r_getP dX7_copyFrom_92 g_X7_42 (by assumption) rfl (by assumption) ?_
      refine r_aload_n dX7_copyFrom_95 rfl ?_
      refine r_getP dX7_copyFrom_96 g_X7_42 (by assumption) rfl (by assumption) ?_
      refine r_callV1 (fr' := 1) (lo' := 30) (mc' := 0) (ms' := 0) dX7_copyFrom_99 mm_X8_copyFrom mv_X8_copyFrom l_X7_75 (by assumption) mc_X8_copyFrom (by decide) ⟨by decide, by decide⟩ (Nat.zero_le _) (Nat.zero_le _) (Nat.le_of_ble_eq_true rfl) (c_X8_copyFrom a12 c12 (by omega)) (am_kv ?_)
      rintro _ J6 _ ⟨e6, rfl, rfl⟩
      have f6 := e6.1
      refine r_return dX7_copyFrom_102 rfl ?_
      refine ⟨rfl, fun r hr => ?_, ⟨⟨?_, fun p hp => ?_⟩, ?_, ?_, ?_, ⟨?_, ?_⟩, ?_⟩, rfl, rfl⟩
      · rw [f6 r (by omega), f5 r (by omega), f4 r (by omega), f3 r (by omega), f2 r (by omega), f1 r (by omega), hF r (by omega)]
      · rw [f6 B (by omega), f5 B (by omega), va_up_self, pk_un (by decide), f3 B (by omega), f2 B (by omega), f1 B (by omega)]; exact h0
      · exact (hP p hp).congr (by rw [f6 _ (by omega), f5 _ (by omega), f4 _ (by omega), f3 _ (by omega), f2 _ (by omega), f1 _ (by omega)]) (fun r h1 h2 => by rw [f6 _ (by omega), f5 _ (by omega), f4 _ (by omega), f3 _ (by omega), f2 _ (by omega), f1 _ (by omega)]) (fun _ _ => ⟨rfl, rfl, rfl⟩)
      · have g : RwR J1 (B + 17) (nj τ) (fun j => eR (τ 7) (5 * j)) := rpJ_cp R.2.1 (by rw [hF _ (by omega)]) (hF _ (by omega)) e1
        exact RwR_fr g (by rw [f6 _ (by omega), f5 _ (by omega), f4 _ (by omega), f3 _ (by omega), f2 _ (by omega)]) (by rw [f6 _ (by omega), f5 _ (by omega), f4 _ (by omega), f3 _ (by omega), f2 _ (by omega)])
      · have g : rpK J2 B τ := rpK_cp V.2.2.1 R.2.2.1 (fun r h1 h2 => by rw [f1 _ (by omega), hF _ (by omega)]) e2
        exact rpK_fr g (fun r h1 h2 => by rw [f6 _ (by omega), f5 _ (by omega), f4 _ (by omega), f3 _ (by omega)])
      · have g : rpR J3 B τ := rpR_cp V.2.2.2.1 R.2.2.2.1 (fun r h1 h2 => by rw [f2 _ (by omega), f1 _ (by omega), hF _ (by omega)]) e3
        exact rpR_fr g (fun r h1 h2 => by rw [f6 _ (by omega), f5 _ (by omega), f4 _ (by omega)])
      · rw [f6 B (by omega), f5 B (by omega), va_up_self, pk_us]; exact R.2.2.2.2.1.1
      · have g : RwR J5 (B + 34) (nv (τ 24 0)) (fun j => eR (τ 25) (5 * j)) := rpJ_cp R.2.2.2.2.1.2 (by rw [f4 _ (by omega), f3 _ (by omega), f2 _ (by omega), f1 _ (by omega), hF _ (by omega)]) (by rw [f4 _ (by omega), f3 _ (by omega), f2 _ (by omega), f1 _ (by omega), hF _ (by omega)]) e5
        exact RwR_fr g (by rw [f6 _ (by omega)]) (by rw [f6 _ (by omega)])
      · have hT := R.2.2.2.2.2
        have b6 := V.2.2.2.2.2.1.2
        obtain ⟨-, q1, q2⟩ := e6
        have q1 : J6 (B + 36) 0 = I (B' + 36) 0 := by rw [q1, f5 _ (by omega), f4 _ (by omega), f3 _ (by omega), f2 _ (by omega), f1 _ (by omega), hF _ (by omega)]
        refine ⟨q1.trans hT.1, fun k hk => ?_⟩
        have q3 := q2 k (by omega)
        rw [f5 _ (by omega), f4 _ (by omega), f3 _ (by omega), f2 _ (by omega), f1 _ (by omega), hF _ (by omega)] at q3
        exact q3.trans (hT.2 k hk)
    · exact absurd h15 (by omega)
  | succ m ih =>
    intro k hk H hF h0 hP
    obtain ⟨pk1, Q⟩ := a3 k (by omega)
    obtain ⟨pk2, Q'⟩ := c3 k (by omega)
    have sq := Q.1
    have hsz : sz τ k ≤ 40 := (V.1.sz (by omega)).2
    refine r_iload_n dX7_copyFrom_10 rfl ?_
    refine r_aload_n dX7_copyFrom_11 rfl ?_
    refine r_getI dX7_copyFrom_12 g_X7_47 (by assumption) rfl ?_
    rw [h0]
    refine r_icmp_geN 39 dX7_copyFrom_15 (by decide) (by omega) (by omega) (fun h15 => ?_) (fun h15 => ?_)
    · exact absurd h15 (by omega)
    · refine r_aload_n dX7_copyFrom_18 rfl ?_
      refine r_getP dX7_copyFrom_19 g_X7_11 (by assumption) rfl (by assumption) ?_
      refine r_iload_n dX7_copyFrom_22 rfl ?_
      refine r_aaloadP k dX7_copyFrom_23 (by assumption) rfl (by first | decide | omega) (by decide) (by assumption) ?_
      refine r_aload_n dX7_copyFrom_24 rfl ?_
      refine r_getP dX7_copyFrom_25 g_X7_11 (by assumption) rfl (by assumption) ?_
      refine r_iload_n dX7_copyFrom_28 rfl ?_
      refine r_aaloadP k dX7_copyFrom_29 (by assumption) rfl (by first | decide | omega) (by decide) (by assumption) ?_
      refine r_callV1 (fr' := 1) (lo' := 30) (mc' := 0) (ms' := 0) dX7_copyFrom_30 mm_X3_copyFrom mv_X3_copyFrom l_X7_58 (by assumption) mc_X3_copyFrom (by decide) ⟨by decide, by decide⟩ (Nat.zero_le _) (Nat.zero_le _) (Nat.le_of_ble_eq_true rfl) (c_X3_copyFrom Q Q' (by omega)) (am_kv ?_)
      rintro _ H2 _ ⟨hc, rfl, rfl⟩
      have fc : ∀ r, r < B + 2 + 5 * k ∨ B + 2 + 5 * k + 4 < r → H2 r = H r := fun r h => hc.1 r (by omega) (by omega) (by omega) (by omega) (by omega)
      have hPs : Pg H (B' + 2 + 5 * k) τ k := (R.1.2 k (by omega)).congr (by rw [hF _ (by omega)]) (fun r h1 h2 => hF r (by omega)) (fun _ _ => ⟨rfl, rfl, rfl⟩)
      first | refine r_iincN dX7_copyFrom_33 rfl kc_1 ?_ | refine r_iinc dX7_copyFrom_33 rfl rfl ?_
      dsimp only [List.set]
      refine r_goto 10 dX7_copyFrom_36 (by decide) ?_
      refine ih (k + 1) (by omega) H2 (fun r hr => by rw [fc r (by omega), hF r hr]) (by rw [fc B (by omega)]; exact h0) (fun p hp => ?_)
      by_cases e : p = k
      · subst e; exact Pg_cp hPs hsz hc
      · exact (hP p (by omega)).congr (by rw [fc _ (by omega)]) (fun r h1 h2 => fc r (by omega)) (fun _ _ => ⟨rfl, rfl, rfl⟩)
theorem c_X7_copyFrom {B B' : Nat} (T : SSt sh P B) (T' : SSt sh P B') (hd : B + 37 < B' ∨ B' + 37 < B) (V : Inv τ) (R : RepS I B' τ) : am_R mX7_copyFrom (po_v (fun sh' I' P' => (∀ r, r < B ∨ B + 37 < r → I' r = I r) ∧ RepS I' B τ ∧ sh = sh' ∧ P = P')) 3 72 0 0 0 [some (.ref B), some (.ref B'), none] [] sh I P := by
  obtain ⟨⟨a0, a1, a2⟩, -⟩ := id T
  obtain ⟨⟨c0, c1, c2⟩, -⟩ := id T'
  have e0 := R.1.1
  refine r_aload_n dX7_copyFrom_0 rfl ?_
  refine r_aload_n dX7_copyFrom_1 rfl ?_
  refine r_getI dX7_copyFrom_2 g_X7_47 (by assumption) rfl ?_
  rw [e0]
  refine r_putI dX7_copyFrom_5 f_X7_47 (by assumption) rfl rfl rfl ?_
  refine r_iconst dX7_copyFrom_8 (v := nI 0) kc_0 ?_
  refine r_istore_n dX7_copyFrom_9 (Nat.le_of_ble_eq_true rfl) ?_
  dsimp only [List.set]
  exact l_X7_copyFrom T T' hd V R (np τ) 0 (Nat.zero_add _) _ (fun r hr => va_up_ne _ _ (by omega)) (by rw [va_up_self]; exact pk_us) (fun p hp => absurd hp (Nat.not_lt_zero p))
end K19
