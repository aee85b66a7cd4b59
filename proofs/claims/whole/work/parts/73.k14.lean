/-! the class: run -/
def leav (k : Nat) : Nat := match k with
  | 0 => 1 | 1 => 1 | 2 => 1 | 3 => 1 | 4 => 2 | 5 => 2 | 7 => 1 | 11 => 1
  | _ => 0
theorem tb_w {k : Nat} (hk : k < 16) : am_st 0 k = nI (wants k) ∧ wants k ≤ 2 := by
  refine c16 (Q := fun k => am_st 0 k = nI (wants k) ∧ wants k ≤ 2) ?_ ?_ ?_ ?_ ?_ ?_ ?_ ?_ ?_ ?_ ?_ ?_ ?_ ?_ ?_ ?_ k hk <;> decide
theorem tb_l {k : Nat} (hk : k < 16) : am_st 1 k = nI (leav k) ∧ leav k ≤ 2 := by
  refine c16 (Q := fun k => am_st 1 k = nI (leav k) ∧ leav k ≤ 2) ?_ ?_ ?_ ?_ ?_ ?_ ?_ ?_ ?_ ?_ ?_ ?_ ?_ ?_ ?_ ?_ k hk <;> decide
theorem tb_h {k n : Nat} (hk : k < 16) : wants k ≤ n → n ≤ 24 → (24 < n - wants k + leav k ↔ n = 24 ∧ (k = 0 ∨ k = 4 ∨ k = 7)) := by
  refine c16 (Q := fun k => wants k ≤ n → n ≤ 24 → (24 < n - wants k + leav k ↔ n = 24 ∧ (k = 0 ∨ k = 4 ∨ k = 7))) ?_ ?_ ?_ ?_ ?_ ?_ ?_ ?_ ?_ ?_ ?_ ?_ ?_ ?_ ?_ ?_ k hk
  · show 0 ≤ n → n ≤ 24 → (24 < n - 0 + 1 ↔ n = 24 ∧ _); omega
  · show 2 ≤ n → n ≤ 24 → (24 < n - 2 + 1 ↔ n = 24 ∧ _); omega
  · show 2 ≤ n → n ≤ 24 → (24 < n - 2 + 1 ↔ n = 24 ∧ _); omega
  · show 2 ≤ n → n ≤ 24 → (24 < n - 2 + 1 ↔ n = 24 ∧ _); omega
  · show 1 ≤ n → n ≤ 24 → (24 < n - 1 + 2 ↔ n = 24 ∧ _); omega
  · show 2 ≤ n → n ≤ 24 → (24 < n - 2 + 2 ↔ n = 24 ∧ _); omega
  · show 1 ≤ n → n ≤ 24 → (24 < n - 1 + 0 ↔ n = 24 ∧ _); omega
  · show 0 ≤ n → n ≤ 24 → (24 < n - 0 + 1 ↔ n = 24 ∧ _); omega
  · show 1 ≤ n → n ≤ 24 → (24 < n - 1 + 0 ↔ n = 24 ∧ _); omega
  · show 0 ≤ n → n ≤ 24 → (24 < n - 0 + 0 ↔ n = 24 ∧ _); omega
  · show 1 ≤ n → n ≤ 24 → (24 < n - 1 + 0 ↔ n = 24 ∧ _); omega
  · show 2 ≤ n → n ≤ 24 → (24 < n - 2 + 1 ↔ n = 24 ∧ _); omega
  · show 1 ≤ n → n ≤ 24 → (24 < n - 1 + 0 ↔ n = 24 ∧ _); omega
  · show 0 ≤ n → n ≤ 24 → (24 < n - 0 + 0 ↔ n = 24 ∧ _); omega
  · show 0 ≤ n → n ≤ 24 → (24 < n - 0 + 0 ↔ n = 24 ∧ _); omega
  · show 0 ≤ n → n ≤ 24 → (24 < n - 0 + 0 ↔ n = 24 ∧ _); omega
/-- a run of the program at q, over I -/
def rrR (I : AIn) (q : Nat) (c : RC) (H : AIn) : Prop := (∀ r, r ≠ 130 → r ≠ 131 → r ≠ 132 → r ≠ 133 → r ≠ q + 3 → H r = I r) ∧ (H 130 0 = nI 1 ∧ H 130 1 = nI c.2.1 ∧ H 130 2 = nI c.2.2.1 ∧ H 130 3 = nI c.1) ∧ mcR c.2.2.2.1 H ∧ ∀ t, t < 40 → H (q + 3) t = c.2.2.2.2 t
/-- the program at q has these orders -/
def pgK (I : AIn) (q n : Nat) (kd : Nat → Nat) (ag : Nat → Int32) : Prop := (I q 0 = nI n ∧ n ≤ 40) ∧ ∀ t, t < n → (I (q + 1) t = nI (kd t) ∧ kd t < 16) ∧ I (q + 2) t = ag t ∧ aOk (kd t) (ag t)
section K14
variable {sh : ASh} {I σ : AIn} {P : APt}
def toR (I : AIn) (q : Nat) (kd : Nat → Nat) (ag : Nat → Int32) (c : RC) (v : Int32) (H : AIn) : Prop :=
  (c.2.2.2.1.1 < wants (kd c.1) ∧ v = nI 1 ∧ rrR I q c H) ∨ (¬ c.2.2.2.1.1 < wants (kd c.1) ∧ high (kd c.1) c.2.2.2.1 ∧ v = nI 2 ∧ rrR I q c H) ∨ (¬ c.2.2.2.1.1 < wants (kd c.1) ∧ ¬ high (kd c.1) c.2.2.2.1 ∧ kd c.1 = 13 ∧ v = nI 0 ∧ rrR I q (c.1, c.2.1 + 1, c.2.2.1, c.2.2.2.1, upd c.2.2.2.2 c.1 (c.2.2.2.2 c.1 + nI 1)) H) ∨ (¬ c.2.2.2.1.1 < wants (kd c.1) ∧ ¬ high (kd c.1) c.2.2.2.1 ∧ kd c.1 ≠ 13 ∧ v = -1 ∧ rrR I q ((dos (kd c.1) (ag c.1) c.1 c.2.2.2.1).1, c.2.1 + 1, c.2.2.1, (dos (kd c.1) (ag c.1) c.1 c.2.2.2.1).2, upd c.2.2.2.2 c.1 (c.2.2.2.2 c.1 + nI 1)) H)
theorem c_X6_tryOrder (S : St_c sh P) {q n : Nat} (Q : SPg sh P q) (hq : 100 < q ∧ q + 4 < 130) {kd : Nat → Nat} {ag : Nat → Int32} (hK : pgK I q n kd ag) {H : AIn} {c : RC} (h : rrR I q c H) (hc : c.1 < n) (hp : c.2.2.2.1.1 ≤ 24) (ho : c.2.2.2.1.2.1 ≤ 40) : am_R mX6_tryOrder (po_i (fun v sh' I' P' => toR I q kd ag c v I' ∧ sh = sh' ∧ P = P')) 3 67 0 0 0 [some (.ref 130), some (.ref q), none] [] sh H P := by
  obtain ⟨s0, s1, s2, s3, s4, p1, p2, p3, p4⟩ := id Q
  obtain ⟨⟨k1, k2⟩, k3, k4⟩ := hK.2 c.1 hc
  have hn4 := hK.1.2
  obtain ⟨f0, ⟨f1, f2, f3, f4⟩, f5, f6⟩ := id h
  have ek : H (q + 1) c.1 = nI (kd c.1) := by rw [f0 (q + 1) (by omega) (by omega) (by omega) (by omega) (by omega)]; exact k1
  have ea : H (q + 2) c.1 = ag c.1 := by rw [f0 (q + 2) (by omega) (by omega) (by omega) (by omega) (by omega)]; exact k3
  have et : H (q + 3) c.1 = c.2.2.2.2 c.1 := f6 c.1 (by omega)
  obtain ⟨w1, w2⟩ := tb_w k2
  obtain ⟨l1, l2⟩ := tb_l k2
  have ep := f5.1.1
  have eo := f5.1.2
  refine r_aload_n dX6_tryOrder_0 rfl ?_
  refine r_getP dX6_tryOrder_1 g_X6_70 (by first | assumption | exact S.1 _ _ rfl) rfl (by first | assumption | exact S.2 _ _ _ rfl) ?_
  refine r_aload_n dX6_tryOrder_4 rfl ?_
  refine r_getI dX6_tryOrder_5 g_X6_31 (by first | assumption | exact S.1 _ _ rfl) rfl ?_
  rw [f4]
  refine r_iaload c.1 dX6_tryOrder_8 (by first | assumption | exact S.1 _ _ rfl) rfl (by first | decide | omega) (by decide) ?_
  rw [ek]
  refine r_istore_n dX6_tryOrder_9 (Nat.le_of_ble_eq_true rfl) ?_
  dsimp only [List.set]
  refine r_aload_n dX6_tryOrder_10 rfl ?_
  refine r_getI dX6_tryOrder_11 g_X6_55 (by first | assumption | exact S.1 _ _ rfl) rfl ?_
  rw [ep]
  refine r_tab 0 _ (by decide) dX6_tryOrder_14 dX6_tryOrder_17 dX6_tryOrder_18 fs_X6_73 rfl rfl (by first | decide | omega) ?_
  rw [w1]
  refine r_icmp_geN 24 dX6_tryOrder_19 (by decide) (by omega) (by omega) (fun h19 => ?_) (fun h19 => ?_)
  · refine r_aload_n dX6_tryOrder_24 rfl ?_
    refine r_getI dX6_tryOrder_25 g_X6_55 (by first | assumption | exact S.1 _ _ rfl) rfl ?_
    rw [ep]
    refine r_tab 0 _ (by decide) dX6_tryOrder_28 dX6_tryOrder_31 dX6_tryOrder_32 fs_X6_73 rfl rfl (by first | decide | omega) ?_
    rw [w1]
    first | refine r_isubN dX6_tryOrder_33 (by omega) ?_ | refine r_isub dX6_tryOrder_33 ?_
    refine r_tab 1 _ (by decide) dX6_tryOrder_34 dX6_tryOrder_37 dX6_tryOrder_38 fs_X6_78 rfl rfl (by first | decide | omega) ?_
    rw [l1]
    first | refine r_iaddN dX6_tryOrder_39 ?_ | refine r_iadd dX6_tryOrder_39 ?_
    refine r_bipush dX6_tryOrder_40 (v := nI 24) (by decide) ?_
    refine r_icmp_gtN 60 dX6_tryOrder_42 (by decide) (by omega) (by omega) (fun h42 => ?_) (fun h42 => ?_)
    · have hh : high (kd c.1) c.2.2.2.1 := Or.inl ((tb_h k2 h19 hp).mp h42)
      refine r_iconst dX6_tryOrder_60 (v := nI 2) kc_2 ?_
      refine r_ireturn dX6_tryOrder_61 .int rfl rfl ?_
      exact ⟨_, rfl, Or.inr (Or.inl ⟨by omega, hh, rfl, h⟩), rfl, rfl⟩
    · have hn : ¬ (c.2.2.2.1.1 = 24 ∧ (kd c.1 = 0 ∨ kd c.1 = 4 ∨ kd c.1 = 7)) := fun g => h42 ((tb_h k2 h19 hp).mpr g)
      refine r_iload_n dX6_tryOrder_45 rfl ?_
      refine r_bipush dX6_tryOrder_46 (v := nI 12) (by decide) ?_
      refine r_icmp_neN 62 dX6_tryOrder_48 (by decide) (by omega) (by omega) (fun h48 => ?_) (fun h48 => ?_)
      · have hh : ¬ high (kd c.1) c.2.2.2.1 := fun g => by
          rcases g with g | g
          · exact hn g
          · exact h48 g.2
        refine r_aload_n dX6_tryOrder_62 rfl ?_
        refine r_dup dX6_tryOrder_63 ?_
        refine r_getI dX6_tryOrder_64 g_X6_52 (by first | assumption | exact S.1 _ _ rfl) rfl ?_
        rw [f2]
        refine r_iconst dX6_tryOrder_67 (v := nI 1) kc_1 ?_
        first | refine r_iaddN dX6_tryOrder_68 ?_ | refine r_iadd dX6_tryOrder_68 ?_
        refine r_putI dX6_tryOrder_69 f_X6_52 (by first | assumption | exact S.1 _ _ rfl) rfl rfl rfl ?_
        refine r_aload_n dX6_tryOrder_72 rfl ?_
        refine r_getP dX6_tryOrder_73 g_X6_81 (by first | assumption | exact S.1 _ _ rfl) rfl (by first | assumption | exact S.2 _ _ _ rfl) ?_
        refine r_aload_n dX6_tryOrder_76 rfl ?_
        refine r_getI dX6_tryOrder_77 g_X6_31 (by first | assumption | exact S.1 _ _ rfl) rfl ?_
        rw [va_up_self, pk_un (by decide), f4]
        refine r_dup2 dX6_tryOrder_80 ?_
        refine r_iaload c.1 dX6_tryOrder_81 (by first | assumption | exact S.1 _ _ rfl) rfl (by first | decide | omega) (by decide) ?_
        rw [va_up_ne _ _ (by omega), et]
        refine r_iconst dX6_tryOrder_82 (v := nI 1) kc_1 ?_
        refine r_iadd dX6_tryOrder_83 ?_
        refine r_iastore c.1 dX6_tryOrder_84 (by first | assumption | exact S.1 _ _ rfl) rfl (by first | decide | omega) (by decide) ?_
        rw [va_up_ne (k := 130) (j := q + 3) _ _ (by omega)]
        have g0 : ∀ r, r ≠ 130 → r ≠ q + 3 → (va_up (va_up H 130 (upd (H 130) 1 (nI (c.2.1 + 1)))) (q + 3) (upd (H (q + 3)) c.1 (c.2.2.2.2 c.1 + nI 1))) r = H r := fun r a b => by rw [va_up_ne _ _ b, va_up_ne _ _ a]
        have g1 : (va_up (va_up H 130 (upd (H 130) 1 (nI (c.2.1 + 1)))) (q + 3) (upd (H (q + 3)) c.1 (c.2.2.2.2 c.1 + nI 1))) 130 = upd (H 130) 1 (nI (c.2.1 + 1)) := by rw [va_up_ne _ _ (by omega), va_up_self]
        have gm : mcR c.2.2.2.1 (va_up (va_up H 130 (upd (H 130) 1 (nI (c.2.1 + 1)))) (q + 3) (upd (H (q + 3)) c.1 (c.2.2.2.2 c.1 + nI 1))) := ⟨⟨by rw [g1, pk_un (by decide)]; exact ep, by rw [g1, pk_un (by decide)]; exact eo⟩, fun k hk => by rw [g0 131 (by decide) (by omega)]; exact f5.2.1 k hk, fun k hk => by rw [g0 132 (by decide) (by omega)]; exact f5.2.2.1 k hk, fun k hk => by rw [g0 133 (by decide) (by omega)]; exact f5.2.2.2 k hk⟩
        have gt : ∀ t, t < 40 → (va_up (va_up H 130 (upd (H 130) 1 (nI (c.2.1 + 1)))) (q + 3) (upd (H (q + 3)) c.1 (c.2.2.2.2 c.1 + nI 1))) (q + 3) t = upd c.2.2.2.2 c.1 (c.2.2.2.2 c.1 + nI 1) t := fun t ht => by
          rw [va_up_self]
          by_cases e : t = c.1
          · rw [e, pk_us, pk_us]
          · rw [pk_un e, pk_un e]; exact f6 t ht
        refine r_iload_n dX6_tryOrder_85 rfl ?_
        refine r_bipush dX6_tryOrder_86 (v := nI 13) (by decide) ?_
        refine r_icmp_neN 93 dX6_tryOrder_88 (by decide) (by omega) (by omega) (fun h88 => ?_) (fun h88 => ?_)
        · refine r_aload_n dX6_tryOrder_93 rfl ?_
          refine r_iload_n dX6_tryOrder_94 rfl ?_
          refine r_aload_n dX6_tryOrder_95 rfl ?_
          refine r_getP dX6_tryOrder_96 g_X6_84 (by first | assumption | exact S.1 _ _ rfl) rfl (by first | assumption | exact S.2 _ _ _ rfl) ?_
          refine r_aload_n dX6_tryOrder_99 rfl ?_
          refine r_getI dX6_tryOrder_100 g_X6_31 (by first | assumption | exact S.1 _ _ rfl) rfl ?_
          rw [g1, pk_un (by decide), f4]
          refine r_iaload c.1 dX6_tryOrder_103 (by first | assumption | exact S.1 _ _ rfl) rfl (by first | decide | omega) (by decide) ?_
          rw [g0 (q + 2) (by omega) (by omega), ea]
          refine r_callV2 (fr' := 2) (lo' := 44) (mc' := 0) (ms' := 0) dX6_tryOrder_104 mm_X6_carryOut mv_X6_carryOut l_X6_87 (by first | assumption | exact S.1 _ _ rfl) mc_X6_carryOut (by decide) ⟨by decide, by decide⟩ (Nat.zero_le _) (Nat.zero_le _) (Nat.le_of_ble_eq_true rfl) (c_X6_carryOut S gm hp ho k2 k4 (by omega) hh (by rw [g1, pk_un (by decide)]; exact f4) (by omega)) (am_kv ?_)
          rintro _ H3 _ ⟨c0, c1, c2, c3, rfl, rfl⟩
          refine r_iconst dX6_tryOrder_107 (v := (-1)) kc_m1 ?_
          refine r_ireturn dX6_tryOrder_108 .int rfl rfl ?_
          refine ⟨_, rfl, Or.inr (Or.inr (Or.inr ⟨by omega, hh, h88, rfl, fun r a b cc d e => ?_, ⟨?_, ?_, ?_, c2⟩, c3, fun t ht => ?_⟩)), rfl, rfl⟩
          · rw [c0 r a b cc d, g0 r a e]; exact f0 r a b cc d e
          · rw [c1 0 (by decide) (by decide) (by decide), g1, pk_un (by decide)]; exact f1
          · rw [c1 1 (by decide) (by decide) (by decide), g1]; exact pk_us
          · rw [c1 2 (by decide) (by decide) (by decide), g1, pk_un (by decide)]; exact f3
          · rw [c0 (q + 3) (by omega) (by omega) (by omega) (by omega)]; exact gt t ht
        · refine r_iconst dX6_tryOrder_91 (v := nI 0) kc_0 ?_
          refine r_ireturn dX6_tryOrder_92 .int rfl rfl ?_
          refine ⟨_, rfl, Or.inr (Or.inr (Or.inl ⟨by omega, hh, h88, rfl, fun r a b cc d e => ?_, ⟨?_, ?_, ?_, ?_⟩, gm, gt⟩)), rfl, rfl⟩
          · rw [g0 r a e]; exact f0 r a b cc d e
          · rw [g1, pk_un (by decide)]; exact f1
          · rw [g1]; exact pk_us
          · rw [g1, pk_un (by decide)]; exact f3
          · rw [g1, pk_un (by decide)]; exact f4
      · refine r_aload_n dX6_tryOrder_51 rfl ?_
        refine r_getI dX6_tryOrder_52 g_X6_58 (by first | assumption | exact S.1 _ _ rfl) rfl ?_
        rw [eo]
        refine r_bipush dX6_tryOrder_55 (v := nI 40) (by decide) ?_
        refine r_icmp_ltN 62 dX6_tryOrder_57 (by decide) (by omega) (by omega) (fun h57 => ?_) (fun h57 => ?_)
        · have hh : ¬ high (kd c.1) c.2.2.2.1 := fun g => by
            rcases g with g | g
            · exact hn g
            · have := g.1; omega
          refine r_aload_n dX6_tryOrder_62 rfl ?_
          refine r_dup dX6_tryOrder_63 ?_
          refine r_getI dX6_tryOrder_64 g_X6_52 (by first | assumption | exact S.1 _ _ rfl) rfl ?_
          rw [f2]
          refine r_iconst dX6_tryOrder_67 (v := nI 1) kc_1 ?_
          first | refine r_iaddN dX6_tryOrder_68 ?_ | refine r_iadd dX6_tryOrder_68 ?_
          refine r_putI dX6_tryOrder_69 f_X6_52 (by first | assumption | exact S.1 _ _ rfl) rfl rfl rfl ?_
          refine r_aload_n dX6_tryOrder_72 rfl ?_
          refine r_getP dX6_tryOrder_73 g_X6_81 (by first | assumption | exact S.1 _ _ rfl) rfl (by first | assumption | exact S.2 _ _ _ rfl) ?_
          refine r_aload_n dX6_tryOrder_76 rfl ?_
          refine r_getI dX6_tryOrder_77 g_X6_31 (by first | assumption | exact S.1 _ _ rfl) rfl ?_
          rw [va_up_self, pk_un (by decide), f4]
          refine r_dup2 dX6_tryOrder_80 ?_
          refine r_iaload c.1 dX6_tryOrder_81 (by first | assumption | exact S.1 _ _ rfl) rfl (by first | decide | omega) (by decide) ?_
          rw [va_up_ne _ _ (by omega), et]
          refine r_iconst dX6_tryOrder_82 (v := nI 1) kc_1 ?_
          refine r_iadd dX6_tryOrder_83 ?_
          refine r_iastore c.1 dX6_tryOrder_84 (by first | assumption | exact S.1 _ _ rfl) rfl (by first | decide | omega) (by decide) ?_
          rw [va_up_ne (k := 130) (j := q + 3) _ _ (by omega)]
          have g0 : ∀ r, r ≠ 130 → r ≠ q + 3 → (va_up (va_up H 130 (upd (H 130) 1 (nI (c.2.1 + 1)))) (q + 3) (upd (H (q + 3)) c.1 (c.2.2.2.2 c.1 + nI 1))) r = H r := fun r a b => by rw [va_up_ne _ _ b, va_up_ne _ _ a]
          have g1 : (va_up (va_up H 130 (upd (H 130) 1 (nI (c.2.1 + 1)))) (q + 3) (upd (H (q + 3)) c.1 (c.2.2.2.2 c.1 + nI 1))) 130 = upd (H 130) 1 (nI (c.2.1 + 1)) := by rw [va_up_ne _ _ (by omega), va_up_self]
          have gm : mcR c.2.2.2.1 (va_up (va_up H 130 (upd (H 130) 1 (nI (c.2.1 + 1)))) (q + 3) (upd (H (q + 3)) c.1 (c.2.2.2.2 c.1 + nI 1))) := ⟨⟨by rw [g1, pk_un (by decide)]; exact ep, by rw [g1, pk_un (by decide)]; exact eo⟩, fun k hk => by rw [g0 131 (by decide) (by omega)]; exact f5.2.1 k hk, fun k hk => by rw [g0 132 (by decide) (by omega)]; exact f5.2.2.1 k hk, fun k hk => by rw [g0 133 (by decide) (by omega)]; exact f5.2.2.2 k hk⟩
          have gt : ∀ t, t < 40 → (va_up (va_up H 130 (upd (H 130) 1 (nI (c.2.1 + 1)))) (q + 3) (upd (H (q + 3)) c.1 (c.2.2.2.2 c.1 + nI 1))) (q + 3) t = upd c.2.2.2.2 c.1 (c.2.2.2.2 c.1 + nI 1) t := fun t ht => by
            rw [va_up_self]
            by_cases e : t = c.1
            · rw [e, pk_us, pk_us]
            · rw [pk_un e, pk_un e]; exact f6 t ht
          refine r_iload_n dX6_tryOrder_85 rfl ?_
          refine r_bipush dX6_tryOrder_86 (v := nI 13) (by decide) ?_
          refine r_icmp_neN 93 dX6_tryOrder_88 (by decide) (by omega) (by omega) (fun h88 => ?_) (fun h88 => ?_)
          · refine r_aload_n dX6_tryOrder_93 rfl ?_
            refine r_iload_n dX6_tryOrder_94 rfl ?_
            refine r_aload_n dX6_tryOrder_95 rfl ?_
            refine r_getP dX6_tryOrder_96 g_X6_84 (by first | assumption | exact S.1 _ _ rfl) rfl (by first | assumption | exact S.2 _ _ _ rfl) ?_
            refine r_aload_n dX6_tryOrder_99 rfl ?_
            refine r_getI dX6_tryOrder_100 g_X6_31 (by first | assumption | exact S.1 _ _ rfl) rfl ?_
            rw [g1, pk_un (by decide), f4]
            refine r_iaload c.1 dX6_tryOrder_103 (by first | assumption | exact S.1 _ _ rfl) rfl (by first | decide | omega) (by decide) ?_
            rw [g0 (q + 2) (by omega) (by omega), ea]
            refine r_callV2 (fr' := 2) (lo' := 44) (mc' := 0) (ms' := 0) dX6_tryOrder_104 mm_X6_carryOut mv_X6_carryOut l_X6_87 (by first | assumption | exact S.1 _ _ rfl) mc_X6_carryOut (by decide) ⟨by decide, by decide⟩ (Nat.zero_le _) (Nat.zero_le _) (Nat.le_of_ble_eq_true rfl) (c_X6_carryOut S gm hp ho k2 k4 (by omega) hh (by rw [g1, pk_un (by decide)]; exact f4) (by omega)) (am_kv ?_)
            rintro _ H3 _ ⟨c0, c1, c2, c3, rfl, rfl⟩
            refine r_iconst dX6_tryOrder_107 (v := (-1)) kc_m1 ?_
            refine r_ireturn dX6_tryOrder_108 .int rfl rfl ?_
            refine ⟨_, rfl, Or.inr (Or.inr (Or.inr ⟨by omega, hh, h88, rfl, fun r a b cc d e => ?_, ⟨?_, ?_, ?_, c2⟩, c3, fun t ht => ?_⟩)), rfl, rfl⟩
            · rw [c0 r a b cc d, g0 r a e]; exact f0 r a b cc d e
            · rw [c1 0 (by decide) (by decide) (by decide), g1, pk_un (by decide)]; exact f1
            · rw [c1 1 (by decide) (by decide) (by decide), g1]; exact pk_us
            · rw [c1 2 (by decide) (by decide) (by decide), g1, pk_un (by decide)]; exact f3
            · rw [c0 (q + 3) (by omega) (by omega) (by omega) (by omega)]; exact gt t ht
          · refine r_iconst dX6_tryOrder_91 (v := nI 0) kc_0 ?_
            refine r_ireturn dX6_tryOrder_92 .int rfl rfl ?_
            refine ⟨_, rfl, Or.inr (Or.inr (Or.inl ⟨by omega, hh, h88, rfl, fun r a b cc d e => ?_, ⟨?_, ?_, ?_, ?_⟩, gm, gt⟩)), rfl, rfl⟩
            · rw [g0 r a e]; exact f0 r a b cc d e
            · rw [g1, pk_un (by decide)]; exact f1
            · rw [g1]; exact pk_us
            · rw [g1, pk_un (by decide)]; exact f3
            · rw [g1, pk_un (by decide)]; exact f4
        · have hh : high (kd c.1) c.2.2.2.1 := Or.inr ⟨by omega, h48⟩
          refine r_iconst dX6_tryOrder_60 (v := nI 2) kc_2 ?_
          refine r_ireturn dX6_tryOrder_61 .int rfl rfl ?_
          exact ⟨_, rfl, Or.inr (Or.inl ⟨by omega, hh, rfl, h⟩), rfl, rfl⟩
  · refine r_iconst dX6_tryOrder_22 (v := nI 1) kc_1 ?_
    refine r_ireturn dX6_tryOrder_23 .int rfl rfl ?_
    exact ⟨_, rfl, Or.inl ⟨by omega, rfl, h⟩, rfl, rfl⟩
theorem c_X2_beginsAt (S : St_c sh P) {t : Nat} (ht : t < 40) : am_R mX2_beginsAt (po_i (fun v sh' I' P' => bo v (I 129 t ≠ -1) ∧ sh = sh' ∧ I = I' ∧ P = P')) 0 0 0 0 0 [some (.ref 119), some (.int (nI t))] [] sh I P := by
  refine r_aload_n dX2_beginsAt_0 rfl ?_
  refine r_getP dX2_beginsAt_1 g_X2_31 (by first | assumption | exact S.1 _ _ rfl) rfl (by first | assumption | exact S.2 _ _ _ rfl) ?_
  refine r_iload_n dX2_beginsAt_4 rfl ?_
  refine r_iaload t dX2_beginsAt_5 (by first | assumption | exact S.1 _ _ rfl) rfl (by first | decide | omega) (by decide) ?_
  refine r_iconst dX2_beginsAt_6 (v := (-1)) kc_m1 ?_
  refine r_icmp_eq 14 dX2_beginsAt_7 (by decide) (fun h7 => ?_) (fun h7 => ?_)
  · refine r_iconst dX2_beginsAt_14 (v := nI 0) kc_0 ?_
    refine r_ireturn dX2_beginsAt_15 .boolean rfl (by decide) ?_
    first | exact ⟨_, rfl, bo_1 h7, rfl, rfl, rfl⟩ | exact ⟨_, rfl, bo_0 (fun h => h h7), rfl, rfl, rfl⟩
  · refine r_iconst dX2_beginsAt_10 (v := nI 1) kc_1 ?_
    refine r_goto 15 dX2_beginsAt_11 (by decide) ?_
    refine r_ireturn dX2_beginsAt_15 .boolean rfl (by decide) ?_
    first | exact ⟨_, rfl, bo_1 h7, rfl, rfl, rfl⟩ | exact ⟨_, rfl, bo_0 (fun h => h h7), rfl, rfl, rfl⟩
theorem c_X6_endAhead (S : St_c sh P) {q n : Nat} (Q : SPg sh P q) (hn : I q 0 = nI n) (hn4 : n ≤ 40) {t d most : Nat} (ht : I 130 3 = nI t) (ht4 : t ≤ 40) (hd : I 130 1 = nI d) (hd2 : d ≤ 20000) (hm : most ≤ 20000) : am_R mX6_endAhead (po_i (fun v sh' I' P' => v = (if n ≤ t then nI 0 else if most ≤ d then nI 3 else -1) ∧ sh = sh' ∧ I = I' ∧ P = P')) 1 21 0 0 0 [some (.ref 130), some (.ref q), some (.int (nI most))] [] sh I P := by
  have sq := Q.1
  refine r_aload_n dX6_endAhead_0 rfl ?_
  refine r_aload_n dX6_endAhead_1 rfl ?_
  refine r_getI dX6_endAhead_2 g_X6_31 (by first | assumption | exact S.1 _ _ rfl) rfl ?_
  rw [ht]
  refine r_callV1 (fr' := 0) (lo' := 0) (mc' := 0) (ms' := 0) dX6_endAhead_5 mm_X3_has mv_X3_has l_X6_67 (by first | assumption | exact S.1 _ _ rfl) mc_X3_has (by decide) ⟨by decide, by decide⟩ (Nat.zero_le _) (Nat.zero_le _) (Nat.le_of_ble_eq_true rfl) (c_X3_has Q hn hn4 _) (am_ki ?_)
  rintro v5 _ _ _ ⟨hb5, rfl, rfl, rfl⟩
  refine r_if_ne 13 dX6_endAhead_8 (by decide) (fun h8 => ?_) (fun h8 => ?_)
  · replace h8 := hb5.t h8
    obtain ⟨j, hj, e⟩ := h8
    have e9 := (nI_eq (by omega) (by omega)).mp e
    rw [if_neg (by omega)]
    refine r_aload_n dX6_endAhead_13 rfl ?_
    refine r_getI dX6_endAhead_14 g_X6_52 (by first | assumption | exact S.1 _ _ rfl) rfl ?_
    rw [hd]
    refine r_iload_n dX6_endAhead_17 rfl ?_
    refine r_icmp_ltN 25 dX6_endAhead_18 (by decide) (by omega) (by omega) (fun h18 => ?_) (fun h18 => ?_)
    · rw [if_neg (by omega)]
      refine r_iconst dX6_endAhead_25 (v := (-1)) kc_m1 ?_
      refine r_ireturn dX6_endAhead_26 .int rfl rfl ?_
      exact ⟨_, rfl, rfl, rfl, rfl, rfl⟩
    · rw [if_pos (by omega)]
      refine r_iconst dX6_endAhead_21 (v := nI 3) kc_3 ?_
      refine r_goto 26 dX6_endAhead_22 (by decide) ?_
      refine r_ireturn dX6_endAhead_26 .int rfl rfl ?_
      exact ⟨_, rfl, rfl, rfl, rfl, rfl⟩
  · replace h8 := hb5.f h8
    have h9 : n ≤ t := Nat.not_lt.mp (fun g => h8 (inR_nI g))
    rw [if_pos h9]
    refine r_iconst dX6_endAhead_11 (v := nI 0) kc_0 ?_
    refine r_ireturn dX6_endAhead_12 .int rfl rfl ?_
    exact ⟨_, rfl, rfl, rfl, rfl, rfl⟩
theorem c_X6_clear (S : St_c sh P) : am_R mX6_clear (po_v (fun sh' I' P' => (∀ r, r ≠ 130 → r ≠ 133 → I' r = I r) ∧ (I' 130 0 = nI 1 ∧ I' 130 1 = nI 0 ∧ I' 130 2 = nI 0 ∧ I' 130 3 = nI 0 ∧ I' 130 4 = nI 0 ∧ I' 130 6 = nI 0) ∧ (∀ k, k < 8 → I' 133 k = nI 0) ∧ sh = sh' ∧ P = P')) 1 23 0 0 0 [some (.ref 130)] [] sh I P := by
  refine r_aload_n dX6_clear_0 rfl ?_
  refine r_iconst dX6_clear_1 (v := nI 1) kc_1 ?_
  refine r_putI dX6_clear_2 f_X6_48 (by first | assumption | exact S.1 _ _ rfl) rfl rfl rfl ?_
  refine r_aload_n dX6_clear_5 rfl ?_
  refine r_iconst dX6_clear_6 (v := nI 0) kc_0 ?_
  refine r_putI dX6_clear_7 f_X6_52 (by first | assumption | exact S.1 _ _ rfl) rfl rfl rfl ?_
  refine r_aload_n dX6_clear_10 rfl ?_
  refine r_iconst dX6_clear_11 (v := nI 0) kc_0 ?_
  refine r_putI dX6_clear_12 f_X6_41 (by first | assumption | exact S.1 _ _ rfl) rfl rfl rfl ?_
  refine r_aload_n dX6_clear_15 rfl ?_
  refine r_iconst dX6_clear_16 (v := nI 0) kc_0 ?_
  refine r_putI dX6_clear_17 f_X6_31 (by first | assumption | exact S.1 _ _ rfl) rfl rfl rfl ?_
  refine r_aload_n dX6_clear_20 rfl ?_
  refine r_iconst dX6_clear_21 (v := nI 0) kc_0 ?_
  refine r_putI dX6_clear_22 f_X6_55 (by first | assumption | exact S.1 _ _ rfl) rfl rfl rfl ?_
  refine r_aload_n dX6_clear_25 rfl ?_
  refine r_iconst dX6_clear_26 (v := nI 0) kc_0 ?_
  refine r_putI dX6_clear_27 f_X6_58 (by first | assumption | exact S.1 _ _ rfl) rfl rfl rfl ?_
  refine r_aload_n dX6_clear_30 rfl ?_
  refine r_getP dX6_clear_31 g_X6_16 (by first | assumption | exact S.1 _ _ rfl) rfl (by first | assumption | exact S.2 _ _ _ rfl) ?_
  refine r_iconst dX6_clear_34 (v := nI 0) kc_0 ?_
  refine r_callS2 (fr' := 0) (lo' := 0) (mc' := 0) (ms' := 0) dX6_clear_35 mm_J7_fill_53178 ms_J7_fill_53178 l_X6_61 (by decide) ⟨by decide, by decide⟩ (Nat.zero_le _) (Nat.zero_le _) (Nat.le_of_ble_eq_true rfl) (c_J7_fill (S.1 133 _ rfl) (by decide) _) (am_kv ?_)
  rintro _ _ _ ⟨rfl, rfl, rfl⟩
  refine r_return dX6_clear_38 rfl ?_
  simp only [va_up_self, bx_uu]
  refine ⟨rfl, fun r a b => ?_, ?_, fun k hk => ?_, rfl, rfl⟩
  · rw [va_up_ne _ _ b, va_up_ne _ _ a]
  · rw [va_up_ne _ _ (by decide), va_up_self]
    exact ⟨rfl, rfl, rfl, rfl, rfl, rfl⟩
  · rw [va_up_self, if_pos hk]
def foP (sh : ASh) (P : APt) (I : AIn) (q : Nat) (r : Nat × RC) : APo := po_i (fun v sh' I' P' => v = nI r.1 ∧ rrR I q r.2 I' ∧ sh = sh' ∧ P = P')
theorem l_X6_out {q : Nat} {x2 : Option Value} {most d e : Nat} {c : RC} {H : AIn} (he : e ≤ 3) (hm : most ≤ 20000) (hd : d ≤ most) (h : rrR I q c H) : am_R mX6_follow (foP sh P I q (e, c)) 4 89 0 0 72 [some (.ref 130), some (.ref q), x2, some (.int (nI most)), some (.int (nI e)), some (.int (nI d))] [] sh H P := by
  first | refine r_iincN dX6_follow_72 rfl kc_1 ?_ | refine r_iinc dX6_follow_72 rfl rfl ?_
  dsimp only [List.set]
  refine r_goto 14 dX6_follow_75 (by decide) ?_
  refine r_iload dX6_follow_14 rfl ?_
  refine r_iload_n dX6_follow_16 rfl ?_
  refine r_icmp_gtN 78 dX6_follow_17 (by decide) (by omega) (by omega) (fun h17 => ?_) (fun h17 => ?_)
  · refine r_iload dX6_follow_78 rfl ?_
    refine r_ireturn dX6_follow_80 .int rfl rfl ?_
    exact ⟨_, rfl, rfl, h, rfl, rfl⟩
  · refine r_iload dX6_follow_20 rfl ?_
    refine r_iconst dX6_follow_22 (v := (-1)) kc_m1 ?_
    refine r_icmp_ne 78 dX6_follow_23 (by decide) (fun h23 => ?_) (fun h23 => ?_)
    · refine r_iload dX6_follow_78 rfl ?_
      refine r_ireturn dX6_follow_80 .int rfl rfl ?_
      exact ⟨_, rfl, rfl, h, rfl, rfl⟩
    · exact absurd h23 (fun e9 => nI_pos (n := e) (by omega) (by rw [e9]; decide))
theorem rn_1 {n : Nat} {kd : Nat → Nat} {ag : Nat → Int32} {bg : Nat → Prop} {m : Nat} {c : RC} (h : n ≤ c.1) : rn n kd ag bg m c = (0, c) := by
  cases m with
  | zero => show ((if n ≤ c.1 then 0 else 3), c) = _; rw [if_pos h]
  | succ m => exact if_pos h
theorem l_X6_followU (S : St_c sh P) {q n : Nat} (Q : SPg sh P q) (hq : 100 < q ∧ q + 4 < 130) {kd : Nat → Nat} {ag : Nat → Int32} (hK : pgK I q n kd ag) {most : Nat} (hm : most ≤ 20000) : ∀ (m : Nat) (c : RC) (H : AIn), c.2.1 + m = most → rrR I q c H → c.1 ≤ 40 → c.2.2.2.1.1 ≤ 24 → c.2.2.2.1.2.1 ≤ 40 → c.2.2.1 ≤ c.2.1 → am_R mX6_follow (foP sh P I q (rn n kd ag (fun _ => True) m c)) 4 89 0 0 14 [some (.ref 130), some (.ref q), some .null, some (.int (nI most)), some (.int (-1)), some (.int (nI c.2.1))] [] sh H P := by
  have sq := Q.1
  have hn4 := hK.1.2
  intro m
  induction m with
  | zero =>
    intro c H hd h hc hp ho hb
    obtain ⟨f0, ⟨f1, f2, f3, f4⟩, f5, f6⟩ := id h
    have en : H q 0 = nI n := by rw [f0 q (by omega) (by omega) (by omega) (by omega) (by omega)]; exact hK.1.1
    have est : rn n kd ag (fun _ => True) 0 c = (if n ≤ c.1 then 0 else 3, c) := rfl
    rw [est]
    refine r_iload dX6_follow_14 rfl ?_
    refine r_iload_n dX6_follow_16 rfl ?_
    refine r_icmp_gtN 78 dX6_follow_17 (by decide) (by omega) (by omega) (fun h17 => ?_) (fun h17 => ?_)
    · exact absurd h17 (by omega)
    · refine r_iload dX6_follow_20 rfl ?_
      refine r_iconst dX6_follow_22 (v := (-1)) kc_m1 ?_
      refine r_icmp_ne 78 dX6_follow_23 (by decide) (fun h23 => ?_) (fun h23 => ?_)
      · exact absurd rfl h23
      · refine r_aload_n dX6_follow_26 rfl ?_
        refine r_aload_n dX6_follow_27 rfl ?_
        refine r_iload_n dX6_follow_28 rfl ?_
        refine r_callV2 (fr' := 1) (lo' := 21) (mc' := 0) (ms' := 0) dX6_follow_29 mm_X6_endAhead mv_X6_endAhead l_X6_27 (by first | assumption | exact S.1 _ _ rfl) mc_X6_endAhead (by decide) ⟨by decide, by decide⟩ (Nat.zero_le _) (Nat.zero_le _) (Nat.le_of_ble_eq_true rfl) (c_X6_endAhead S Q en hn4 f4 hc f2 (by omega) hm) (am_ki ?_)
        rintro v29 _ _ _ ⟨rfl, rfl, rfl, rfl⟩
        refine r_istore dX6_follow_32 (Nat.le_of_ble_eq_true rfl) ?_
        dsimp only [List.set]
        by_cases hle : n ≤ c.1
        · rw [if_pos hle, if_pos hle]
          refine r_iload dX6_follow_34 rfl ?_
          refine r_iconst dX6_follow_36 (v := (-1)) kc_m1 ?_
          refine r_icmp_ne 72 dX6_follow_37 (by decide) (fun h37 => ?_) (fun h37 => ?_)
          · exact l_X6_out (by decide) hm (by omega) h
          · exact absurd h37 (by decide)
        · rw [if_neg hle, if_neg hle, if_pos (by omega)]
          refine r_iload dX6_follow_34 rfl ?_
          refine r_iconst dX6_follow_36 (v := (-1)) kc_m1 ?_
          refine r_icmp_ne 72 dX6_follow_37 (by decide) (fun h37 => ?_) (fun h37 => ?_)
          · exact l_X6_out (by decide) hm (by omega) h
          · exact absurd h37 (by decide)
  | succ m ih =>
    intro c H hd h hc hp ho hb
    obtain ⟨f0, ⟨f1, f2, f3, f4⟩, f5, f6⟩ := id h
    have en : H q 0 = nI n := by rw [f0 q (by omega) (by omega) (by omega) (by omega) (by omega)]; exact hK.1.1
    by_cases hle : n ≤ c.1
    · rw [rn_1 hle]
      refine r_iload dX6_follow_14 rfl ?_
      refine r_iload_n dX6_follow_16 rfl ?_
      refine r_icmp_gtN 78 dX6_follow_17 (by decide) (by omega) (by omega) (fun h17 => ?_) (fun h17 => ?_)
      · exact absurd h17 (by omega)
      · refine r_iload dX6_follow_20 rfl ?_
        refine r_iconst dX6_follow_22 (v := (-1)) kc_m1 ?_
        refine r_icmp_ne 78 dX6_follow_23 (by decide) (fun h23 => ?_) (fun h23 => ?_)
        · exact absurd rfl h23
        · refine r_aload_n dX6_follow_26 rfl ?_
          refine r_aload_n dX6_follow_27 rfl ?_
          refine r_iload_n dX6_follow_28 rfl ?_
          refine r_callV2 (fr' := 1) (lo' := 21) (mc' := 0) (ms' := 0) dX6_follow_29 mm_X6_endAhead mv_X6_endAhead l_X6_27 (by first | assumption | exact S.1 _ _ rfl) mc_X6_endAhead (by decide) ⟨by decide, by decide⟩ (Nat.zero_le _) (Nat.zero_le _) (Nat.le_of_ble_eq_true rfl) (c_X6_endAhead S Q en hn4 f4 hc f2 (by omega) hm) (am_ki ?_)
          rintro v29 _ _ _ ⟨rfl, rfl, rfl, rfl⟩
          rw [if_pos hle]
          refine r_istore dX6_follow_32 (Nat.le_of_ble_eq_true rfl) ?_
          dsimp only [List.set]
          refine r_iload dX6_follow_34 rfl ?_
          refine r_iconst dX6_follow_36 (v := (-1)) kc_m1 ?_
          refine r_icmp_ne 72 dX6_follow_37 (by decide) (fun h37 => ?_) (fun h37 => ?_)
          · exact l_X6_out (by decide) hm (by omega) h
          · exact absurd h37 (by decide)
    · have st : ∀ H1 b1, b1 = cif ((fun _ => True) c.1) 1 0 → rrR I q (c.1, c.2.1, c.2.2.1 + b1, c.2.2.2.1, c.2.2.2.2) H1 → am_R mX6_follow (foP sh P I q (rn n kd ag (fun _ => True) (m + 1) c)) 4 89 0 0 65 [some (.ref 130), some (.ref q), some .null, some (.int (nI most)), some (.int (-1)), some (.int (nI c.2.1))] [] sh H1 P := by
        intro H1 b1 eb h1
        have hb1 : b1 ≤ 1 := by
          rw [eb]
          by_cases g : (fun _ => True) c.1
          · rw [cif_t g]; exact Nat.le_refl _
          · rw [cif_f g]; exact Nat.zero_le _
        have hdb := dos_b (k := kd c.1) (a := ag c.1) (t := c.1) (s := c.2.2.2.1) (hK.2 c.1 (by omega)).1.2 (by omega) (hK.2 c.1 (by omega)).2.2
        have est : rn n kd ag (fun _ => True) (m + 1) c = if n ≤ c.1 then (0, c) else cif (c.2.2.2.1.1 < wants (kd c.1)) (1, (c.1, c.2.1, c.2.2.1 + b1, c.2.2.2.1, c.2.2.2.2)) (cif (high (kd c.1) c.2.2.2.1) (2, (c.1, c.2.1, c.2.2.1 + b1, c.2.2.2.1, c.2.2.2.2)) (if kd c.1 = 13 then (0, (c.1, c.2.1 + 1, c.2.2.1 + b1, c.2.2.2.1, upd c.2.2.2.2 c.1 (c.2.2.2.2 c.1 + nI 1))) else rn n kd ag (fun _ => True) m ((dos (kd c.1) (ag c.1) c.1 c.2.2.2.1).1, c.2.1 + 1, c.2.2.1 + b1, (dos (kd c.1) (ag c.1) c.1 c.2.2.2.1).2, upd c.2.2.2.2 c.1 (c.2.2.2.2 c.1 + nI 1)))) := by rw [eb]; rfl
        rw [est, if_neg hle]
        refine r_aload_n dX6_follow_65 rfl ?_
        refine r_aload_n dX6_follow_66 rfl ?_
        refine r_callV1 (fr' := 3) (lo' := 67) (mc' := 0) (ms' := 0) dX6_follow_67 mm_X6_tryOrder mv_X6_tryOrder l_X6_44 (by first | assumption | exact S.1 _ _ rfl) mc_X6_tryOrder (by decide) ⟨by decide, by decide⟩ (Nat.zero_le _) (Nat.zero_le _) (Nat.le_of_ble_eq_true rfl) (c_X6_tryOrder S Q hq hK h1 (show c.1 < n by omega) hp ho) (am_ki ?_)
        rintro v67 _ H2 _ ⟨hT, rfl, rfl⟩
        refine r_istore dX6_follow_70 (Nat.le_of_ble_eq_true rfl) ?_
        dsimp only [List.set]
        rcases hT with ⟨a1, rfl, a3⟩ | ⟨a1, a2, rfl, a3⟩ | ⟨a1, a2, a4, rfl, a3⟩ | ⟨a1, a2, a4, rfl, a3⟩
        · rw [cif_t a1]
          exact l_X6_out (by decide) hm (by omega) a3
        · rw [cif_f a1, cif_t a2]
          exact l_X6_out (by decide) hm (by omega) a3
        · rw [cif_f a1, cif_f a2, if_pos a4]
          exact l_X6_out (by decide) hm (by omega) a3
        · rw [cif_f a1, cif_f a2, if_neg a4]
          obtain ⟨d1, d2, d3⟩ := hdb (Nat.not_lt.mp a1) a2 hp ho
          refine r_iincN dX6_follow_72 rfl kc_1 ?_
          dsimp only [List.set]
          refine r_goto 14 dX6_follow_75 (by decide) ?_
          exact ih _ H2 (show c.2.1 + 1 + m = most by omega) a3 d1 d2 d3 (show c.2.2.1 + b1 ≤ c.2.1 + 1 by omega)
      refine r_iload dX6_follow_14 rfl ?_
      refine r_iload_n dX6_follow_16 rfl ?_
      refine r_icmp_gtN 78 dX6_follow_17 (by decide) (by omega) (by omega) (fun h17 => ?_) (fun h17 => ?_)
      · exact absurd h17 (by omega)
      · refine r_iload dX6_follow_20 rfl ?_
        refine r_iconst dX6_follow_22 (v := (-1)) kc_m1 ?_
        refine r_icmp_ne 78 dX6_follow_23 (by decide) (fun h23 => ?_) (fun h23 => ?_)
        · exact absurd rfl h23
        · refine r_aload_n dX6_follow_26 rfl ?_
          refine r_aload_n dX6_follow_27 rfl ?_
          refine r_iload_n dX6_follow_28 rfl ?_
          refine r_callV2 (fr' := 1) (lo' := 21) (mc' := 0) (ms' := 0) dX6_follow_29 mm_X6_endAhead mv_X6_endAhead l_X6_27 (by first | assumption | exact S.1 _ _ rfl) mc_X6_endAhead (by decide) ⟨by decide, by decide⟩ (Nat.zero_le _) (Nat.zero_le _) (Nat.le_of_ble_eq_true rfl) (c_X6_endAhead S Q en hn4 f4 hc f2 (by omega) hm) (am_ki ?_)
          rintro v29 _ _ _ ⟨rfl, rfl, rfl, rfl⟩
          rw [if_neg hle, if_neg (by omega)]
          refine r_istore dX6_follow_32 (Nat.le_of_ble_eq_true rfl) ?_
          dsimp only [List.set]
          refine r_iload dX6_follow_34 rfl ?_
          refine r_iconst dX6_follow_36 (v := (-1)) kc_m1 ?_
          refine r_icmp_ne 72 dX6_follow_37 (by decide) (fun h37 => ?_) (fun h37 => ?_)
          · exact absurd rfl h37
          · refine r_aload_nN dX6_follow_40 rfl ?_
            refine r_ifnullN 55 dX6_follow_41 (by decide) ?_
            refine r_aload_n dX6_follow_55 rfl ?_
            refine r_dup dX6_follow_56 ?_
            refine r_getI dX6_follow_57 g_X6_41 (by first | assumption | exact S.1 _ _ rfl) rfl ?_
            rw [f3]
            refine r_iconst dX6_follow_60 (v := nI 1) kc_1 ?_
            first | refine r_iaddN dX6_follow_61 ?_ | refine r_iadd dX6_follow_61 ?_
            refine r_putI dX6_follow_62 f_X6_41 (by first | assumption | exact S.1 _ _ rfl) rfl rfl rfl ?_
            exact st _ 1 (by rw [cif_t trivial]) ⟨fun r a b cc d e => by rw [va_up_ne _ _ a]; exact f0 r a b cc d e, ⟨by rw [va_up_self, pk_un (by decide)]; exact f1, by rw [va_up_self, pk_un (by decide)]; exact f2, by rw [va_up_self]; exact pk_us, by rw [va_up_self, pk_un (by decide)]; exact f4⟩, ⟨⟨by rw [va_up_self, pk_un (by decide)]; exact f5.1.1, by rw [va_up_self, pk_un (by decide)]; exact f5.1.2⟩, fun k hk => by rw [va_up_ne _ _ (by decide)]; exact f5.2.1 k hk, fun k hk => by rw [va_up_ne _ _ (by decide)]; exact f5.2.2.1 k hk, fun k hk => by rw [va_up_ne _ _ (by decide)]; exact f5.2.2.2 k hk⟩, fun t ht => by rw [va_up_ne _ _ (by omega)]; exact f6 t ht⟩
theorem c_X6_followU (S : St_c sh P) {q n : Nat} (Q : SPg sh P q) (hq : 100 < q ∧ q + 4 < 130) {kd : Nat → Nat} {ag : Nat → Int32} (hK : pgK I q n kd ag) {most : Nat} (hm : most ≤ 20000) {s : MS} (hs : s.1 = 0 ∧ s.2.1 = 0 ∧ ∀ k, k < 8 → s.2.2.2.2 k = nI 0) : am_R mX6_follow (foP sh P I q (rn n kd ag (fun _ => True) most (0, 0, 0, s, fun _ => nI 0))) 4 89 0 0 0 [some (.ref 130), some (.ref q), some .null, some (.int (nI most)), none, none] [] sh I P := by
  have sq := Q.1
  refine r_aload_n dX6_follow_0 rfl ?_
  refine r_callV0 (fr' := 1) (lo' := 23) (mc' := 0) (ms' := 0) dX6_follow_1 mm_X6_clear mv_X6_clear l_X6_19 (by first | assumption | exact S.1 _ _ rfl) mc_X6_clear (by decide) ⟨by decide, by decide⟩ (Nat.zero_le _) (Nat.zero_le _) (Nat.le_of_ble_eq_true rfl) (c_X6_clear S) (am_kv ?_)
  rintro _ H1 _ ⟨a0, a1, a2, rfl, rfl⟩
  refine r_aload_n dX6_follow_4 rfl ?_
  refine r_callV0 (fr' := 1) (lo' := 23) (mc' := 0) (ms' := 0) dX6_follow_5 mm_X3_forgetRun mv_X3_forgetRun l_X6_22 (by first | assumption | exact S.1 _ _ rfl) mc_X3_forgetRun (by decide) ⟨by decide, by decide⟩ (Nat.zero_le _) (Nat.zero_le _) (Nat.le_of_ble_eq_true rfl) (c_X3_forgetRun Q) (am_kv ?_)
  rintro _ H2 _ ⟨b0, b1, rfl, rfl⟩
  refine r_iconst dX6_follow_8 (v := (-1)) kc_m1 ?_
  refine r_istore dX6_follow_9 (Nat.le_of_ble_eq_true rfl) ?_
  dsimp only [List.set]
  refine r_iconst dX6_follow_11 (v := nI 0) kc_0 ?_
  refine r_istore dX6_follow_12 (Nat.le_of_ble_eq_true rfl) ?_
  dsimp only [List.set]
  have e30 : H2 130 = H1 130 := b0 130 (by omega)
  refine l_X6_followU S Q hq hK hm most (0, 0, 0, s, fun _ => nI 0) H2 (Nat.zero_add _) ⟨fun r a b c d e => ?_, ⟨?_, ?_, ?_, ?_⟩, ⟨⟨?_, ?_⟩, fun k hk => ?_, fun k hk => ?_, fun k hk => ?_⟩, b1⟩ (Nat.zero_le _) ?_ ?_ (Nat.le_refl _)
  · rw [b0 r e, a0 r a d]
  · rw [e30]; exact a1.1
  · rw [e30]; exact a1.2.1
  · rw [e30]; exact a1.2.2.1
  · rw [e30]; exact a1.2.2.2.1
  · rw [e30, a1.2.2.2.2.1]; exact congrArg nI hs.1.symm
  · rw [e30, a1.2.2.2.2.2]; exact congrArg nI hs.2.1.symm
  · have hk : k < s.1 := hk
    rw [hs.1] at hk; exact absurd hk (Nat.not_lt_zero k)
  · have hk : k < s.2.1 := hk
    rw [hs.2.1] at hk; exact absurd hk (Nat.not_lt_zero k)
  · rw [b0 133 (by omega), a2 k hk]; exact (hs.2.2 k hk).symm
  · show s.1 ≤ 24; omega
  · show s.2.1 ≤ 40; omega
theorem l_X6_followP (S : St_c sh P) {q n : Nat} (Q : SPg sh P q) (hq : 100 < q ∧ q + 4 < 130) {kd : Nat → Nat} {ag : Nat → Int32} (hK : pgK I q n kd ag) {bg : Nat → Prop} (hbg : ∀ t, t < n → (I 129 t ≠ -1 ↔ bg t)) {most : Nat} (hm : most ≤ 20000) : ∀ (m : Nat) (c : RC) (H : AIn), c.2.1 + m = most → rrR I q c H → c.1 ≤ 40 → c.2.2.2.1.1 ≤ 24 → c.2.2.2.1.2.1 ≤ 40 → c.2.2.1 ≤ c.2.1 → am_R mX6_follow (foP sh P I q (rn n kd ag bg m c)) 4 89 0 0 14 [some (.ref 130), some (.ref q), some (.ref 119), some (.int (nI most)), some (.int (-1)), some (.int (nI c.2.1))] [] sh H P := by
  have sq := Q.1
  have hn4 := hK.1.2
  intro m
  induction m with
  | zero =>
    intro c H hd h hc hp ho hb
    obtain ⟨f0, ⟨f1, f2, f3, f4⟩, f5, f6⟩ := id h
    have en : H q 0 = nI n := by rw [f0 q (by omega) (by omega) (by omega) (by omega) (by omega)]; exact hK.1.1
    have est : rn n kd ag bg 0 c = (if n ≤ c.1 then 0 else 3, c) := rfl
    rw [est]
    refine r_iload dX6_follow_14 rfl ?_
    refine r_iload_n dX6_follow_16 rfl ?_
    refine r_icmp_gtN 78 dX6_follow_17 (by decide) (by omega) (by omega) (fun h17 => ?_) (fun h17 => ?_)
    · exact absurd h17 (by omega)
    · refine r_iload dX6_follow_20 rfl ?_
      refine r_iconst dX6_follow_22 (v := (-1)) kc_m1 ?_
      refine r_icmp_ne 78 dX6_follow_23 (by decide) (fun h23 => ?_) (fun h23 => ?_)
      · exact absurd rfl h23
      · refine r_aload_n dX6_follow_26 rfl ?_
        refine r_aload_n dX6_follow_27 rfl ?_
        refine r_iload_n dX6_follow_28 rfl ?_
        refine r_callV2 (fr' := 1) (lo' := 21) (mc' := 0) (ms' := 0) dX6_follow_29 mm_X6_endAhead mv_X6_endAhead l_X6_27 (by first | assumption | exact S.1 _ _ rfl) mc_X6_endAhead (by decide) ⟨by decide, by decide⟩ (Nat.zero_le _) (Nat.zero_le _) (Nat.le_of_ble_eq_true rfl) (c_X6_endAhead S Q en hn4 f4 hc f2 (by omega) hm) (am_ki ?_)
        rintro v29 _ _ _ ⟨rfl, rfl, rfl, rfl⟩
        refine r_istore dX6_follow_32 (Nat.le_of_ble_eq_true rfl) ?_
        dsimp only [List.set]
        by_cases hle : n ≤ c.1
        · rw [if_pos hle, if_pos hle]
          refine r_iload dX6_follow_34 rfl ?_
          refine r_iconst dX6_follow_36 (v := (-1)) kc_m1 ?_
          refine r_icmp_ne 72 dX6_follow_37 (by decide) (fun h37 => ?_) (fun h37 => ?_)
          · exact l_X6_out (by decide) hm (by omega) h
          · exact absurd h37 (by decide)
        · rw [if_neg hle, if_neg hle, if_pos (by omega)]
          refine r_iload dX6_follow_34 rfl ?_
          refine r_iconst dX6_follow_36 (v := (-1)) kc_m1 ?_
          refine r_icmp_ne 72 dX6_follow_37 (by decide) (fun h37 => ?_) (fun h37 => ?_)
          · exact l_X6_out (by decide) hm (by omega) h
          · exact absurd h37 (by decide)
  | succ m ih =>
    intro c H hd h hc hp ho hb
    obtain ⟨f0, ⟨f1, f2, f3, f4⟩, f5, f6⟩ := id h
    have en : H q 0 = nI n := by rw [f0 q (by omega) (by omega) (by omega) (by omega) (by omega)]; exact hK.1.1
    by_cases hle : n ≤ c.1
    · rw [rn_1 hle]
      refine r_iload dX6_follow_14 rfl ?_
      refine r_iload_n dX6_follow_16 rfl ?_
      refine r_icmp_gtN 78 dX6_follow_17 (by decide) (by omega) (by omega) (fun h17 => ?_) (fun h17 => ?_)
      · exact absurd h17 (by omega)
      · refine r_iload dX6_follow_20 rfl ?_
        refine r_iconst dX6_follow_22 (v := (-1)) kc_m1 ?_
        refine r_icmp_ne 78 dX6_follow_23 (by decide) (fun h23 => ?_) (fun h23 => ?_)
        · exact absurd rfl h23
        · refine r_aload_n dX6_follow_26 rfl ?_
          refine r_aload_n dX6_follow_27 rfl ?_
          refine r_iload_n dX6_follow_28 rfl ?_
          refine r_callV2 (fr' := 1) (lo' := 21) (mc' := 0) (ms' := 0) dX6_follow_29 mm_X6_endAhead mv_X6_endAhead l_X6_27 (by first | assumption | exact S.1 _ _ rfl) mc_X6_endAhead (by decide) ⟨by decide, by decide⟩ (Nat.zero_le _) (Nat.zero_le _) (Nat.le_of_ble_eq_true rfl) (c_X6_endAhead S Q en hn4 f4 hc f2 (by omega) hm) (am_ki ?_)
          rintro v29 _ _ _ ⟨rfl, rfl, rfl, rfl⟩
          rw [if_pos hle]
          refine r_istore dX6_follow_32 (Nat.le_of_ble_eq_true rfl) ?_
          dsimp only [List.set]
          refine r_iload dX6_follow_34 rfl ?_
          refine r_iconst dX6_follow_36 (v := (-1)) kc_m1 ?_
          refine r_icmp_ne 72 dX6_follow_37 (by decide) (fun h37 => ?_) (fun h37 => ?_)
          · exact l_X6_out (by decide) hm (by omega) h
          · exact absurd h37 (by decide)
    · have st : ∀ H1 b1, b1 = cif (bg c.1) 1 0 → rrR I q (c.1, c.2.1, c.2.2.1 + b1, c.2.2.2.1, c.2.2.2.2) H1 → am_R mX6_follow (foP sh P I q (rn n kd ag bg (m + 1) c)) 4 89 0 0 65 [some (.ref 130), some (.ref q), some (.ref 119), some (.int (nI most)), some (.int (-1)), some (.int (nI c.2.1))] [] sh H1 P := by
        intro H1 b1 eb h1
        have hb1 : b1 ≤ 1 := by
          rw [eb]
          by_cases g : bg c.1
          · rw [cif_t g]; exact Nat.le_refl _
          · rw [cif_f g]; exact Nat.zero_le _
        have hdb := dos_b (k := kd c.1) (a := ag c.1) (t := c.1) (s := c.2.2.2.1) (hK.2 c.1 (by omega)).1.2 (by omega) (hK.2 c.1 (by omega)).2.2
        have est : rn n kd ag bg (m + 1) c = if n ≤ c.1 then (0, c) else cif (c.2.2.2.1.1 < wants (kd c.1)) (1, (c.1, c.2.1, c.2.2.1 + b1, c.2.2.2.1, c.2.2.2.2)) (cif (high (kd c.1) c.2.2.2.1) (2, (c.1, c.2.1, c.2.2.1 + b1, c.2.2.2.1, c.2.2.2.2)) (if kd c.1 = 13 then (0, (c.1, c.2.1 + 1, c.2.2.1 + b1, c.2.2.2.1, upd c.2.2.2.2 c.1 (c.2.2.2.2 c.1 + nI 1))) else rn n kd ag bg m ((dos (kd c.1) (ag c.1) c.1 c.2.2.2.1).1, c.2.1 + 1, c.2.2.1 + b1, (dos (kd c.1) (ag c.1) c.1 c.2.2.2.1).2, upd c.2.2.2.2 c.1 (c.2.2.2.2 c.1 + nI 1)))) := by rw [eb]; rfl
        rw [est, if_neg hle]
        refine r_aload_n dX6_follow_65 rfl ?_
        refine r_aload_n dX6_follow_66 rfl ?_
        refine r_callV1 (fr' := 3) (lo' := 67) (mc' := 0) (ms' := 0) dX6_follow_67 mm_X6_tryOrder mv_X6_tryOrder l_X6_44 (by first | assumption | exact S.1 _ _ rfl) mc_X6_tryOrder (by decide) ⟨by decide, by decide⟩ (Nat.zero_le _) (Nat.zero_le _) (Nat.le_of_ble_eq_true rfl) (c_X6_tryOrder S Q hq hK h1 (show c.1 < n by omega) hp ho) (am_ki ?_)
        rintro v67 _ H2 _ ⟨hT, rfl, rfl⟩
        refine r_istore dX6_follow_70 (Nat.le_of_ble_eq_true rfl) ?_
        dsimp only [List.set]
        rcases hT with ⟨a1, rfl, a3⟩ | ⟨a1, a2, rfl, a3⟩ | ⟨a1, a2, a4, rfl, a3⟩ | ⟨a1, a2, a4, rfl, a3⟩
        · rw [cif_t a1]
          exact l_X6_out (by decide) hm (by omega) a3
        · rw [cif_f a1, cif_t a2]
          exact l_X6_out (by decide) hm (by omega) a3
        · rw [cif_f a1, cif_f a2, if_pos a4]
          exact l_X6_out (by decide) hm (by omega) a3
        · rw [cif_f a1, cif_f a2, if_neg a4]
          obtain ⟨d1, d2, d3⟩ := hdb (Nat.not_lt.mp a1) a2 hp ho
          refine r_iincN dX6_follow_72 rfl kc_1 ?_
          dsimp only [List.set]
          refine r_goto 14 dX6_follow_75 (by decide) ?_
          exact ih _ H2 (show c.2.1 + 1 + m = most by omega) a3 d1 d2 d3 (show c.2.2.1 + b1 ≤ c.2.1 + 1 by omega)
      refine r_iload dX6_follow_14 rfl ?_
      refine r_iload_n dX6_follow_16 rfl ?_
      refine r_icmp_gtN 78 dX6_follow_17 (by decide) (by omega) (by omega) (fun h17 => ?_) (fun h17 => ?_)
      · exact absurd h17 (by omega)
      · refine r_iload dX6_follow_20 rfl ?_
        refine r_iconst dX6_follow_22 (v := (-1)) kc_m1 ?_
        refine r_icmp_ne 78 dX6_follow_23 (by decide) (fun h23 => ?_) (fun h23 => ?_)
        · exact absurd rfl h23
        · refine r_aload_n dX6_follow_26 rfl ?_
          refine r_aload_n dX6_follow_27 rfl ?_
          refine r_iload_n dX6_follow_28 rfl ?_
          refine r_callV2 (fr' := 1) (lo' := 21) (mc' := 0) (ms' := 0) dX6_follow_29 mm_X6_endAhead mv_X6_endAhead l_X6_27 (by first | assumption | exact S.1 _ _ rfl) mc_X6_endAhead (by decide) ⟨by decide, by decide⟩ (Nat.zero_le _) (Nat.zero_le _) (Nat.le_of_ble_eq_true rfl) (c_X6_endAhead S Q en hn4 f4 hc f2 (by omega) hm) (am_ki ?_)
          rintro v29 _ _ _ ⟨rfl, rfl, rfl, rfl⟩
          rw [if_neg hle, if_neg (by omega)]
          refine r_istore dX6_follow_32 (Nat.le_of_ble_eq_true rfl) ?_
          dsimp only [List.set]
          refine r_iload dX6_follow_34 rfl ?_
          refine r_iconst dX6_follow_36 (v := (-1)) kc_m1 ?_
          refine r_icmp_ne 72 dX6_follow_37 (by decide) (fun h37 => ?_) (fun h37 => ?_)
          · exact absurd rfl h37
          · refine r_aload_n dX6_follow_40 rfl ?_
            refine r_ifnull dX6_follow_41 ?_
            refine r_aload_n dX6_follow_44 rfl ?_
            refine r_aload_n dX6_follow_45 rfl ?_
            refine r_getI dX6_follow_46 g_X6_31 (by first | assumption | exact S.1 _ _ rfl) rfl ?_
            rw [f4]
            refine r_callV1 (fr' := 0) (lo' := 0) (mc' := 0) (ms' := 0) dX6_follow_49 mm_X2_beginsAt mv_X2_beginsAt l_X6_35 (by first | assumption | exact S.1 _ _ rfl) mc_X2_beginsAt (by decide) ⟨by decide, by decide⟩ (Nat.zero_le _) (Nat.zero_le _) (Nat.le_of_ble_eq_true rfl) (c_X2_beginsAt S (show c.1 < 40 by omega)) (am_ki ?_)
            rintro v49 _ _ _ ⟨hb49, rfl, rfl, rfl⟩
            refine r_if_eq 65 dX6_follow_52 (by decide) (fun h52 => ?_) (fun h52 => ?_)
            · replace h52 := hb49.f h52
              rw [f0 129 (by omega) (by omega) (by omega) (by omega) (by omega)] at h52
              have hbt : ¬ bg c.1 := fun g => h52 ((hbg c.1 (by omega)).mpr g)
              have hbz : (0 : Nat) = cif (bg c.1) 1 0 := by rw [cif_f hbt]
              first
                | exact st _ 0 hbz h
                | exact st _ 1 (by rw [cif_t hbt]) ⟨fun r a b cc d e => by rw [va_up_ne _ _ a]; exact f0 r a b cc d e, ⟨by rw [va_up_self, pk_un (by decide)]; exact f1, by rw [va_up_self, pk_un (by decide)]; exact f2, by rw [va_up_self]; exact pk_us, by rw [va_up_self, pk_un (by decide)]; exact f4⟩, ⟨⟨by rw [va_up_self, pk_un (by decide)]; exact f5.1.1, by rw [va_up_self, pk_un (by decide)]; exact f5.1.2⟩, fun k hk => by rw [va_up_ne _ _ (by decide)]; exact f5.2.1 k hk, fun k hk => by rw [va_up_ne _ _ (by decide)]; exact f5.2.2.1 k hk, fun k hk => by rw [va_up_ne _ _ (by decide)]; exact f5.2.2.2 k hk⟩, fun t ht => by rw [va_up_ne _ _ (by omega)]; exact f6 t ht⟩
            · replace h52 := hb49.t h52
              rw [f0 129 (by omega) (by omega) (by omega) (by omega) (by omega)] at h52
              have hbt : bg c.1 := (hbg c.1 (by omega)).mp h52
              refine r_aload_n dX6_follow_55 rfl ?_
              refine r_dup dX6_follow_56 ?_
              refine r_getI dX6_follow_57 g_X6_41 (by first | assumption | exact S.1 _ _ rfl) rfl ?_
              rw [f3]
              refine r_iconst dX6_follow_60 (v := nI 1) kc_1 ?_
              first | refine r_iaddN dX6_follow_61 ?_ | refine r_iadd dX6_follow_61 ?_
              refine r_putI dX6_follow_62 f_X6_41 (by first | assumption | exact S.1 _ _ rfl) rfl rfl rfl ?_
              first
                | exact st _ 0 hbz h
                | exact st _ 1 (by rw [cif_t hbt]) ⟨fun r a b cc d e => by rw [va_up_ne _ _ a]; exact f0 r a b cc d e, ⟨by rw [va_up_self, pk_un (by decide)]; exact f1, by rw [va_up_self, pk_un (by decide)]; exact f2, by rw [va_up_self]; exact pk_us, by rw [va_up_self, pk_un (by decide)]; exact f4⟩, ⟨⟨by rw [va_up_self, pk_un (by decide)]; exact f5.1.1, by rw [va_up_self, pk_un (by decide)]; exact f5.1.2⟩, fun k hk => by rw [va_up_ne _ _ (by decide)]; exact f5.2.1 k hk, fun k hk => by rw [va_up_ne _ _ (by decide)]; exact f5.2.2.1 k hk, fun k hk => by rw [va_up_ne _ _ (by decide)]; exact f5.2.2.2 k hk⟩, fun t ht => by rw [va_up_ne _ _ (by omega)]; exact f6 t ht⟩
theorem c_X6_followP (S : St_c sh P) {q n : Nat} (Q : SPg sh P q) (hq : 100 < q ∧ q + 4 < 130) {kd : Nat → Nat} {ag : Nat → Int32} (hK : pgK I q n kd ag) {bg : Nat → Prop} (hbg : ∀ t, t < n → (I 129 t ≠ -1 ↔ bg t)) {most : Nat} (hm : most ≤ 20000) {s : MS} (hs : s.1 = 0 ∧ s.2.1 = 0 ∧ ∀ k, k < 8 → s.2.2.2.2 k = nI 0) : am_R mX6_follow (foP sh P I q (rn n kd ag bg most (0, 0, 0, s, fun _ => nI 0))) 4 89 0 0 0 [some (.ref 130), some (.ref q), some (.ref 119), some (.int (nI most)), none, none] [] sh I P := by
  have sq := Q.1
  refine r_aload_n dX6_follow_0 rfl ?_
  refine r_callV0 (fr' := 1) (lo' := 23) (mc' := 0) (ms' := 0) dX6_follow_1 mm_X6_clear mv_X6_clear l_X6_19 (by first | assumption | exact S.1 _ _ rfl) mc_X6_clear (by decide) ⟨by decide, by decide⟩ (Nat.zero_le _) (Nat.zero_le _) (Nat.le_of_ble_eq_true rfl) (c_X6_clear S) (am_kv ?_)
  rintro _ H1 _ ⟨a0, a1, a2, rfl, rfl⟩
  refine r_aload_n dX6_follow_4 rfl ?_
  refine r_callV0 (fr' := 1) (lo' := 23) (mc' := 0) (ms' := 0) dX6_follow_5 mm_X3_forgetRun mv_X3_forgetRun l_X6_22 (by first | assumption | exact S.1 _ _ rfl) mc_X3_forgetRun (by decide) ⟨by decide, by decide⟩ (Nat.zero_le _) (Nat.zero_le _) (Nat.le_of_ble_eq_true rfl) (c_X3_forgetRun Q) (am_kv ?_)
  rintro _ H2 _ ⟨b0, b1, rfl, rfl⟩
  refine r_iconst dX6_follow_8 (v := (-1)) kc_m1 ?_
  refine r_istore dX6_follow_9 (Nat.le_of_ble_eq_true rfl) ?_
  dsimp only [List.set]
  refine r_iconst dX6_follow_11 (v := nI 0) kc_0 ?_
  refine r_istore dX6_follow_12 (Nat.le_of_ble_eq_true rfl) ?_
  dsimp only [List.set]
  have e30 : H2 130 = H1 130 := b0 130 (by omega)
  refine l_X6_followP S Q hq hK hbg hm most (0, 0, 0, s, fun _ => nI 0) H2 (Nat.zero_add _) ⟨fun r a b c d e => ?_, ⟨?_, ?_, ?_, ?_⟩, ⟨⟨?_, ?_⟩, fun k hk => ?_, fun k hk => ?_, fun k hk => ?_⟩, b1⟩ (Nat.zero_le _) ?_ ?_ (Nat.le_refl _)
  · rw [b0 r e, a0 r a d]
  · rw [e30]; exact a1.1
  · rw [e30]; exact a1.2.1
  · rw [e30]; exact a1.2.2.1
  · rw [e30]; exact a1.2.2.2.1
  · rw [e30, a1.2.2.2.2.1]; exact congrArg nI hs.1.symm
  · rw [e30, a1.2.2.2.2.2]; exact congrArg nI hs.2.1.symm
  · have hk : k < s.1 := hk
    rw [hs.1] at hk; exact absurd hk (Nat.not_lt_zero k)
  · have hk : k < s.2.1 := hk
    rw [hs.2.1] at hk; exact absurd hk (Nat.not_lt_zero k)
  · rw [b0 133 (by omega), a2 k hk]; exact (hs.2.2 k hk).symm
  · show s.1 ≤ 24; omega
  · show s.2.1 ≤ 40; omega
end K14
