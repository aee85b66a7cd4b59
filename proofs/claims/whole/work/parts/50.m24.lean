/-! the reference: tryNow -/
section M24
variable {sh : ASh} {I : AIn} {P : APt}
def tnP (sh : ASh) (P : APt) (I : AIn) (m a b c bc : Nat) : APo := po_v (fun sh' I' P' => (∀ r, r ≠ 0 → r ≠ 29 → r ≠ 30 → r ≠ 31 → r ≠ 41 → I' r = I r) ∧ (∀ j, j ≠ 28 → j ≠ 39 → j ≠ 40 → I' 0 j = I 0 j) ∧ (c < bc → I' 0 39 = nI c ∧ I' 0 40 = nI m ∧ I' 41 0 = nI a ∧ (m = 2 → I' 41 1 = nI b)) ∧ (¬ c < bc → I' 0 39 = nI bc ∧ I' 0 40 = I 0 40 ∧ I' 41 = I 41) ∧ sh = sh' ∧ P = P')
theorem rOk_1 {F : Nat → Int32} {v : Nat} (h : rwA F 0 v) (hv : wOk v) : rOk F 1 := ⟨by decide, fun r hr => by
  have e : r = 0 := by omega
  subst e
  exact h.ok hv⟩
theorem rOk_2 {F : Nat → Int32} {v w : Nat} (h : rwA F 0 v) (hv : wOk v) (h2 : rwA F 1 w) (hw : wOk w) : rOk F 2 := ⟨by decide, fun r hr => by
  have e : r = 0 ∨ r = 1 := by omega
  rcases e with rfl | rfl
  · exact h.ok hv
  · exact h2.ok hw⟩
theorem rwA_eq {F G : Nat → Int32} {r v : Nat} (h : rwA F r v) (g : rwA G r v) (hv : wOk v) : F (5 * r) = G (5 * r) ∧ ∀ k, k < nv (F (5 * r)) → F (5 * r + 1 + k) = G (5 * r + 1 + k) := by
  have h4 := hv.ln
  refine ⟨by rw [h.1, g.1], fun k hk => ?_⟩
  rw [h.1, nv_nI (by omega)] at hk
  rw [h.2 k hk, g.2 k hk]
theorem cs_1 {σ : AIn} {way : Int32} {F : Nat → Int32} {v : Nat} (h : rwA F 0 v) (hv : wOk v) : cs σ way F 1 = cs σ way (rwF v) 1 :=
  cs_congr (rOk_1 h hv) (fun r hr => by
    have e : r = 0 := by omega
    subst e
    exact (rwA_eq h (rwA_F v) hv).1) (fun r hr => by
    have e : r = 0 := by omega
    subst e
    exact (rwA_eq h (rwA_F v) hv).2)
theorem cs_2 {σ : AIn} {way : Int32} {F : Nat → Int32} {v w : Nat} (h : rwA F 0 v) (hv : wOk v) (h2 : rwA F 1 w) (hw : wOk w) : cs σ way F 2 = cs σ way (rw2 v w) 2 :=
  cs_congr (rOk_2 h hv h2 hw) (fun r hr => by
    have e : r = 0 ∨ r = 1 := by omega
    rcases e with rfl | rfl
    · exact (rwA_eq h (rwA_20 v w hv.ln.2) hv).1
    · exact (rwA_eq h2 (rwA_21 v w) hw).1) (fun r hr => by
    have e : r = 0 ∨ r = 1 := by omega
    rcases e with rfl | rfl
    · exact (rwA_eq h (rwA_20 v w hv.ln.2) hv).2
    · exact (rwA_eq h2 (rwA_21 v w) hw).2)
theorem rs0_29 (I : AIn) (f g : Nat → Int32) : rs (va_up (va_up I 0 f) 29 g) = rs I := by rw [rs_no rfl, rs_no rfl]
theorem c_X11_tryNow1 (S : St_m sh P) (V : iP (rs I)) {n : Nat} {f : Nat → Nat} {way : Int32} {a bc : Nat} (hf : fnd I n f) (hn : n ≤ 360) (ha : a < n) (hwa : wOk (f a)) (h42 : I 42 0 = nI a) (h39 : I 0 39 = nI bc) (hbc : bc < 2147483648) : am_R mX11_tryNow (tnP sh P I 1 a 0 (cs (rs I) way (rwF (f a)) 1) bc) 3 75 0 0 0 [some (.ref 0), some (.int (nI 1)), some (.int way), none, none] [] sh I P := by
  have ea : I 36 a = nI (f a) := hf.2.1 a ha
  have ba := hwa.lt
  obtain ⟨ra, rb⟩ := tr_rw (a := 0) hwa (I 29)
  have hR := rOk_1 ra hwa
  have hc := cs_1 (σ := rs I) (way := way) ra hwa
  have hcl := cs_le V (way := way) hR
  rw [hc] at hcl
  generalize hC : cs (rs I) way (rwF (f a)) 1 = C at hcl
  rw [hC] at hc
  refine r_aload_n dX11_tryNow_0 rfl ?_
  refine r_iload_n dX11_tryNow_1 rfl ?_
  refine r_putI dX11_tryNow_2 f_X11_170 (S.1 _ _ rfl) rfl rfl rfl ?_
  refine r_iconst dX11_tryNow_5 (v := nI 0) kc_0 ?_
  refine r_istore_n dX11_tryNow_6 (Nat.le_of_ble_eq_true rfl) ?_
  dsimp only [List.set]
  refine r_iload_n dX11_tryNow_7 rfl ?_
  refine r_iload_n dX11_tryNow_8 rfl ?_
  refine r_icmp_geN 34 dX11_tryNow_9 (by decide) (by omega) (by omega) (fun h9 => ?_) (fun h9 => ?_)
  · exact absurd h9 (by omega)
  · refine r_aload_n dX11_tryNow_12 rfl ?_
    refine r_iload_n dX11_tryNow_13 rfl ?_
    refine r_aload_n dX11_tryNow_14 rfl ?_
    refine r_getP dX11_tryNow_15 g_X11_113 (S.1 _ _ rfl) rfl (S.2 _ _ _ rfl) ?_
    refine r_aload_n dX11_tryNow_18 rfl ?_
    refine r_getP dX11_tryNow_19 g_X11_122 (S.1 _ _ rfl) rfl (S.2 _ _ _ rfl) ?_
    refine r_iload_n dX11_tryNow_22 rfl ?_
    refine r_iaload 0 dX11_tryNow_23 (S.1 _ _ rfl) rfl (by first | decide | omega) (by decide) ?_
    try simp (decide := true) only [va_up_ne, va_up_self]
    rw [h42]
    refine r_iaload _ dX11_tryNow_24 (S.1 _ _ rfl) rfl (by first | decide | omega) (by decide) ?_
    try simp (decide := true) only [va_up_ne, va_up_self]
    rw [ea]
    refine r_callV2 (fr' := 0) (lo' := 0) (mc' := 0) (ms' := 0) dX11_tryNow_25 mm_X11_tryRow mv_X11_tryRow l_X11_217 (S.1 _ _ rfl) mc_X11_tryRow (by decide) ⟨by decide, by decide⟩ (Nat.zero_le _) (Nat.zero_le _) (Nat.le_of_ble_eq_true rfl) (c_X11_tryRow S (by decide) (by omega)) (am_kv ?_)
    rintro _ _ _ ⟨rfl, rfl, rfl⟩
    first | refine r_iincN dX11_tryNow_28 rfl kc_1 ?_ | refine r_iinc dX11_tryNow_28 rfl rfl ?_
    dsimp only [List.set]
    refine r_goto 7 dX11_tryNow_31 (by decide) ?_
    rw [show va_up I 0 (upd (I 0) 28 (nI 1)) 29 = I 29 from rfl]
    refine r_iload_n dX11_tryNow_7 rfl ?_
    refine r_iload_n dX11_tryNow_8 rfl ?_
    refine r_icmp_geN 34 dX11_tryNow_9 (by decide) (by omega) (by omega) (fun h9 => ?_) (fun h9 => ?_)
    · refine r_aload_n dX11_tryNow_34 rfl ?_
      refine r_iload_n dX11_tryNow_35 rfl ?_
      have e28 : ∀ g, va_up (va_up I 0 (upd (I 0) 28 (nI 1))) 29 g 0 28 = nI 1 := fun g => by rw [va_up_ne _ _ (by decide), va_up_self]; exact pk_us
      have e29 := rs0_29 I (upd (I 0) 28 (nI 1)) (upd (trR 0 (f a) (I 29)).2.2 (5 * 0) (nI (trR 0 (f a) (I 29)).1))
      refine r_callV1 (fr' := 2) (lo' := 52) (mc' := 0) (ms' := 0) dX11_tryNow_36 mm_X11_costOf mv_X11_costOf l_X11_208 (S.1 _ _ rfl) mc_X11_costOf (by decide) ⟨by decide, by decide⟩ (Nat.zero_le _) (Nat.zero_le _) (Nat.le_of_ble_eq_true rfl) (c_X11_costOf S (by rw [e29]; exact V) rfl (e28 _) hR) (am_ki ?_)
      rintro v _ J _ ⟨hv, hJ, rfl, rfl⟩
      rw [e29] at hv
      replace hv := hv.trans (congrArg nI hc)
      subst hv
      have J0 : J 0 = upd (I 0) 28 (nI 1) := hJ 0 (by decide) (by decide)
      have J39 : J 0 39 = nI bc := by rw [J0, pk_un (by decide)]; exact h39
      have J41 : J 41 = I 41 := hJ 41 (by decide) (by decide)
      have J42 : J 42 0 = nI a := by rw [hJ 42 (by decide) (by decide)]; exact h42
      refine r_istore_n dX11_tryNow_39 (Nat.le_of_ble_eq_true rfl) ?_
      dsimp only [List.set]
      refine r_iload_n dX11_tryNow_40 rfl ?_
      refine r_aload_n dX11_tryNow_41 rfl ?_
      refine r_getI dX11_tryNow_42 g_X11_220 (S.1 _ _ rfl) rfl ?_
      rw [J39]
      refine r_icmp_geN 87 dX11_tryNow_45 (by decide) (by omega) (by omega) (fun h45 => ?_) (fun h45 => ?_)
      · refine r_return dX11_tryNow_87 rfl ?_
        exact ⟨rfl, fun r a0 a1 a2 a3 a4 => by rw [hJ r a2 a3, va_up_ne _ _ a1, va_up_ne _ _ a0], fun j b1 b2 b3 => by rw [J0, pk_un b1], fun h => absurd h (by omega), fun _ => ⟨J39, by rw [J0]; rfl, J41⟩, rfl, rfl⟩
      · refine r_aload_n dX11_tryNow_48 rfl ?_
        refine r_iload_n dX11_tryNow_49 rfl ?_
        refine r_putI dX11_tryNow_50 f_X11_220 (S.1 _ _ rfl) rfl rfl rfl ?_
        refine r_aload_n dX11_tryNow_53 rfl ?_
        refine r_iload_n dX11_tryNow_54 rfl ?_
        refine r_putI dX11_tryNow_55 f_X11_223 (S.1 _ _ rfl) rfl rfl rfl ?_
        refine r_iconst dX11_tryNow_58 (v := nI 0) kc_0 ?_
        refine r_istore dX11_tryNow_59 (Nat.le_of_ble_eq_true rfl) ?_
        dsimp only [List.set]
        refine r_iload dX11_tryNow_61 rfl ?_
        refine r_iload_n dX11_tryNow_63 rfl ?_
        refine r_icmp_geN 87 dX11_tryNow_64 (by decide) (by omega) (by omega) (fun h64 => ?_) (fun h64 => ?_)
        · exact absurd h64 (by omega)
        · refine r_aload_n dX11_tryNow_67 rfl ?_
          refine r_getP dX11_tryNow_68 g_X11_119 (S.1 _ _ rfl) rfl (S.2 _ _ _ rfl) ?_
          refine r_iload dX11_tryNow_71 rfl ?_
          refine r_aload_n dX11_tryNow_73 rfl ?_
          refine r_getP dX11_tryNow_74 g_X11_122 (S.1 _ _ rfl) rfl (S.2 _ _ _ rfl) ?_
          refine r_iload dX11_tryNow_77 rfl ?_
          refine r_iaload 0 dX11_tryNow_79 (S.1 _ _ rfl) rfl (by first | decide | omega) (by decide) ?_
          try simp (decide := true) only [va_up_ne, va_up_self]
          rw [J42]
          refine r_iastore 0 dX11_tryNow_80 (S.1 _ _ rfl) rfl (by first | decide | omega) (by decide) ?_
          first | refine r_iincN dX11_tryNow_81 rfl kc_1 ?_ | refine r_iinc dX11_tryNow_81 rfl rfl ?_
          dsimp only [List.set]
          refine r_goto 61 dX11_tryNow_84 (by decide) ?_
          refine r_iload dX11_tryNow_61 rfl ?_
          refine r_iload_n dX11_tryNow_63 rfl ?_
          refine r_icmp_geN 87 dX11_tryNow_64 (by decide) (by omega) (by omega) (fun h64 => ?_) (fun h64 => ?_)
          · refine r_return dX11_tryNow_87 rfl ?_
            have h45x : C < bc := by omega
            refine ⟨rfl, fun r a0 a1 a2 a3 a4 => ?_, fun j b1 b2 b3 => ?_, fun _ => ⟨?_, ?_, ?_, ?_⟩, fun h => absurd h45x h, rfl, rfl⟩
            · rw [va_up_ne _ _ a4, va_up_ne _ _ a0, va_up_ne _ _ a0, hJ r a2 a3, va_up_ne _ _ a1, va_up_ne _ _ a0]
            · simp (decide := true) only [va_up_ne, va_up_self]
              rw [pk_un b3, pk_un b2, J0, pk_un b1]
            · simp (decide := true) only [va_up_ne, va_up_self]
              rw [pk_un (by decide)]; exact pk_us
            · simp (decide := true) only [va_up_ne, va_up_self]
              exact pk_us
            · simp (decide := true) only [va_up_ne, va_up_self]
              exact pk_us
            · intro h; exact absurd h (by decide)
          · exact absurd h64 (by omega)
    · exact absurd h9 (by omega)
theorem c_X11_tryNow2 (S : St_m sh P) (V : iP (rs I)) {n : Nat} {f : Nat → Nat} {way : Int32} {a b bc : Nat} (hf : fnd I n f) (hn : n ≤ 360) (ha : a < n) (hwa : wOk (f a)) (h42 : I 42 0 = nI a) (hb : b < n) (hwb : wOk (f b)) (h421 : I 42 1 = nI b) (h39 : I 0 39 = nI bc) (hbc : bc < 2147483648) : am_R mX11_tryNow (tnP sh P I 2 a b (cs (rs I) way (rw2 (f a) (f b)) 2) bc) 3 75 0 0 0 [some (.ref 0), some (.int (nI 2)), some (.int way), none, none] [] sh I P := by
  have ea : I 36 a = nI (f a) := hf.2.1 a ha
  have ba := hwa.lt
  obtain ⟨ra, rb⟩ := tr_rw (a := 0) hwa (I 29)
  have eb : I 36 b = nI (f b) := hf.2.1 b hb
  have bb := hwb.lt
  obtain ⟨rc, rd⟩ := tr_rw (a := 1) hwb (upd (trR 0 (f a) (I 29)).2.2 (5 * 0) (nI (trR 0 (f a) (I 29)).1))
  have re : rwA (upd (trR 1 (f b) (upd (trR 0 (f a) (I 29)).2.2 (5 * 0) (nI (trR 0 (f a) (I 29)).1))).2.2 (5 * 1) (nI (trR 1 (f b) (upd (trR 0 (f a) (I 29)).2.2 (5 * 0) (nI (trR 0 (f a) (I 29)).1))).1)) 0 (f a) := ⟨by rw [rd _ (by omega)]; exact ra.1, fun k hk => by have := hwa.ln; rw [rd _ (by omega)]; exact ra.2 k hk⟩
  have hR := rOk_2 re hwa rc hwb
  have hc := cs_2 (σ := rs I) (way := way) re hwa rc hwb
  have hcl := cs_le V (way := way) hR
  rw [hc] at hcl
  generalize hC : cs (rs I) way (rw2 (f a) (f b)) 2 = C at hcl
  rw [hC] at hc
  refine r_aload_n dX11_tryNow_0 rfl ?_
  refine r_iload_n dX11_tryNow_1 rfl ?_
  refine r_putI dX11_tryNow_2 f_X11_170 (S.1 _ _ rfl) rfl rfl rfl ?_
  refine r_iconst dX11_tryNow_5 (v := nI 0) kc_0 ?_
  refine r_istore_n dX11_tryNow_6 (Nat.le_of_ble_eq_true rfl) ?_
  dsimp only [List.set]
  refine r_iload_n dX11_tryNow_7 rfl ?_
  refine r_iload_n dX11_tryNow_8 rfl ?_
  refine r_icmp_geN 34 dX11_tryNow_9 (by decide) (by omega) (by omega) (fun h9 => ?_) (fun h9 => ?_)
  · exact absurd h9 (by omega)
  · refine r_aload_n dX11_tryNow_12 rfl ?_
    refine r_iload_n dX11_tryNow_13 rfl ?_
    refine r_aload_n dX11_tryNow_14 rfl ?_
    refine r_getP dX11_tryNow_15 g_X11_113 (S.1 _ _ rfl) rfl (S.2 _ _ _ rfl) ?_
    refine r_aload_n dX11_tryNow_18 rfl ?_
    refine r_getP dX11_tryNow_19 g_X11_122 (S.1 _ _ rfl) rfl (S.2 _ _ _ rfl) ?_
    refine r_iload_n dX11_tryNow_22 rfl ?_
    refine r_iaload 0 dX11_tryNow_23 (S.1 _ _ rfl) rfl (by first | decide | omega) (by decide) ?_
    try simp (decide := true) only [va_up_ne, va_up_self]
    rw [h42]
    refine r_iaload _ dX11_tryNow_24 (S.1 _ _ rfl) rfl (by first | decide | omega) (by decide) ?_
    try simp (decide := true) only [va_up_ne, va_up_self]
    rw [ea]
    refine r_callV2 (fr' := 0) (lo' := 0) (mc' := 0) (ms' := 0) dX11_tryNow_25 mm_X11_tryRow mv_X11_tryRow l_X11_217 (S.1 _ _ rfl) mc_X11_tryRow (by decide) ⟨by decide, by decide⟩ (Nat.zero_le _) (Nat.zero_le _) (Nat.le_of_ble_eq_true rfl) (c_X11_tryRow S (by decide) (by omega)) (am_kv ?_)
    rintro _ _ _ ⟨rfl, rfl, rfl⟩
    first | refine r_iincN dX11_tryNow_28 rfl kc_1 ?_ | refine r_iinc dX11_tryNow_28 rfl rfl ?_
    dsimp only [List.set]
    refine r_goto 7 dX11_tryNow_31 (by decide) ?_
    rw [show va_up I 0 (upd (I 0) 28 (nI 2)) 29 = I 29 from rfl]
    refine r_iload_n dX11_tryNow_7 rfl ?_
    refine r_iload_n dX11_tryNow_8 rfl ?_
    refine r_icmp_geN 34 dX11_tryNow_9 (by decide) (by omega) (by omega) (fun h9 => ?_) (fun h9 => ?_)
    · exact absurd h9 (by omega)
    · refine r_aload_n dX11_tryNow_12 rfl ?_
      refine r_iload_n dX11_tryNow_13 rfl ?_
      refine r_aload_n dX11_tryNow_14 rfl ?_
      refine r_getP dX11_tryNow_15 g_X11_113 (S.1 _ _ rfl) rfl (S.2 _ _ _ rfl) ?_
      refine r_aload_n dX11_tryNow_18 rfl ?_
      refine r_getP dX11_tryNow_19 g_X11_122 (S.1 _ _ rfl) rfl (S.2 _ _ _ rfl) ?_
      refine r_iload_n dX11_tryNow_22 rfl ?_
      refine r_iaload 1 dX11_tryNow_23 (S.1 _ _ rfl) rfl (by first | decide | omega) (by decide) ?_
      try simp (decide := true) only [va_up_ne, va_up_self]
      rw [h421]
      refine r_iaload _ dX11_tryNow_24 (S.1 _ _ rfl) rfl (by first | decide | omega) (by decide) ?_
      try simp (decide := true) only [va_up_ne, va_up_self]
      rw [eb]
      refine r_callV2 (fr' := 0) (lo' := 0) (mc' := 0) (ms' := 0) dX11_tryNow_25 mm_X11_tryRow mv_X11_tryRow l_X11_217 (S.1 _ _ rfl) mc_X11_tryRow (by decide) ⟨by decide, by decide⟩ (Nat.zero_le _) (Nat.zero_le _) (Nat.le_of_ble_eq_true rfl) (c_X11_tryRow S (by decide) (by omega)) (am_kv ?_)
      rintro _ _ _ ⟨rfl, rfl, rfl⟩
      first | refine r_iincN dX11_tryNow_28 rfl kc_1 ?_ | refine r_iinc dX11_tryNow_28 rfl rfl ?_
      dsimp only [List.set]
      refine r_goto 7 dX11_tryNow_31 (by decide) ?_
      rw [va_up_self, bx_uu]
      refine r_iload_n dX11_tryNow_7 rfl ?_
      refine r_iload_n dX11_tryNow_8 rfl ?_
      refine r_icmp_geN 34 dX11_tryNow_9 (by decide) (by omega) (by omega) (fun h9 => ?_) (fun h9 => ?_)
      · refine r_aload_n dX11_tryNow_34 rfl ?_
        refine r_iload_n dX11_tryNow_35 rfl ?_
        have e28 : ∀ g, va_up (va_up I 0 (upd (I 0) 28 (nI 2))) 29 g 0 28 = nI 2 := fun g => by rw [va_up_ne _ _ (by decide), va_up_self]; exact pk_us
        have e29 := rs0_29 I (upd (I 0) 28 (nI 2)) (upd (trR 1 (f b) (upd (trR 0 (f a) (I 29)).2.2 (5 * 0) (nI (trR 0 (f a) (I 29)).1))).2.2 (5 * 1) (nI (trR 1 (f b) (upd (trR 0 (f a) (I 29)).2.2 (5 * 0) (nI (trR 0 (f a) (I 29)).1))).1))
        refine r_callV1 (fr' := 2) (lo' := 52) (mc' := 0) (ms' := 0) dX11_tryNow_36 mm_X11_costOf mv_X11_costOf l_X11_208 (S.1 _ _ rfl) mc_X11_costOf (by decide) ⟨by decide, by decide⟩ (Nat.zero_le _) (Nat.zero_le _) (Nat.le_of_ble_eq_true rfl) (c_X11_costOf S (by rw [e29]; exact V) rfl (e28 _) hR) (am_ki ?_)
        rintro v _ J _ ⟨hv, hJ, rfl, rfl⟩
        rw [e29] at hv
        replace hv := hv.trans (congrArg nI hc)
        subst hv
        have J0 : J 0 = upd (I 0) 28 (nI 2) := hJ 0 (by decide) (by decide)
        have J39 : J 0 39 = nI bc := by rw [J0, pk_un (by decide)]; exact h39
        have J41 : J 41 = I 41 := hJ 41 (by decide) (by decide)
        have J42 : J 42 0 = nI a := by rw [hJ 42 (by decide) (by decide)]; exact h42
        have J421 : J 42 1 = nI b := by rw [hJ 42 (by decide) (by decide)]; exact h421
        refine r_istore_n dX11_tryNow_39 (Nat.le_of_ble_eq_true rfl) ?_
        dsimp only [List.set]
        refine r_iload_n dX11_tryNow_40 rfl ?_
        refine r_aload_n dX11_tryNow_41 rfl ?_
        refine r_getI dX11_tryNow_42 g_X11_220 (S.1 _ _ rfl) rfl ?_
        rw [J39]
        refine r_icmp_geN 87 dX11_tryNow_45 (by decide) (by omega) (by omega) (fun h45 => ?_) (fun h45 => ?_)
        · refine r_return dX11_tryNow_87 rfl ?_
          exact ⟨rfl, fun r a0 a1 a2 a3 a4 => by rw [hJ r a2 a3, va_up_ne _ _ a1, va_up_ne _ _ a0], fun j b1 b2 b3 => by rw [J0, pk_un b1], fun h => absurd h (by omega), fun _ => ⟨J39, by rw [J0]; rfl, J41⟩, rfl, rfl⟩
        · refine r_aload_n dX11_tryNow_48 rfl ?_
          refine r_iload_n dX11_tryNow_49 rfl ?_
          refine r_putI dX11_tryNow_50 f_X11_220 (S.1 _ _ rfl) rfl rfl rfl ?_
          refine r_aload_n dX11_tryNow_53 rfl ?_
          refine r_iload_n dX11_tryNow_54 rfl ?_
          refine r_putI dX11_tryNow_55 f_X11_223 (S.1 _ _ rfl) rfl rfl rfl ?_
          refine r_iconst dX11_tryNow_58 (v := nI 0) kc_0 ?_
          refine r_istore dX11_tryNow_59 (Nat.le_of_ble_eq_true rfl) ?_
          dsimp only [List.set]
          refine r_iload dX11_tryNow_61 rfl ?_
          refine r_iload_n dX11_tryNow_63 rfl ?_
          refine r_icmp_geN 87 dX11_tryNow_64 (by decide) (by omega) (by omega) (fun h64 => ?_) (fun h64 => ?_)
          · exact absurd h64 (by omega)
          · refine r_aload_n dX11_tryNow_67 rfl ?_
            refine r_getP dX11_tryNow_68 g_X11_119 (S.1 _ _ rfl) rfl (S.2 _ _ _ rfl) ?_
            refine r_iload dX11_tryNow_71 rfl ?_
            refine r_aload_n dX11_tryNow_73 rfl ?_
            refine r_getP dX11_tryNow_74 g_X11_122 (S.1 _ _ rfl) rfl (S.2 _ _ _ rfl) ?_
            refine r_iload dX11_tryNow_77 rfl ?_
            refine r_iaload 0 dX11_tryNow_79 (S.1 _ _ rfl) rfl (by first | decide | omega) (by decide) ?_
            try simp (decide := true) only [va_up_ne, va_up_self]
            rw [J42]
            refine r_iastore 0 dX11_tryNow_80 (S.1 _ _ rfl) rfl (by first | decide | omega) (by decide) ?_
            first | refine r_iincN dX11_tryNow_81 rfl kc_1 ?_ | refine r_iinc dX11_tryNow_81 rfl rfl ?_
            dsimp only [List.set]
            refine r_goto 61 dX11_tryNow_84 (by decide) ?_
            refine r_iload dX11_tryNow_61 rfl ?_
            refine r_iload_n dX11_tryNow_63 rfl ?_
            refine r_icmp_geN 87 dX11_tryNow_64 (by decide) (by omega) (by omega) (fun h64 => ?_) (fun h64 => ?_)
            · exact absurd h64 (by omega)
            · refine r_aload_n dX11_tryNow_67 rfl ?_
              refine r_getP dX11_tryNow_68 g_X11_119 (S.1 _ _ rfl) rfl (S.2 _ _ _ rfl) ?_
              refine r_iload dX11_tryNow_71 rfl ?_
              refine r_aload_n dX11_tryNow_73 rfl ?_
              refine r_getP dX11_tryNow_74 g_X11_122 (S.1 _ _ rfl) rfl (S.2 _ _ _ rfl) ?_
              refine r_iload dX11_tryNow_77 rfl ?_
              refine r_iaload 1 dX11_tryNow_79 (S.1 _ _ rfl) rfl (by first | decide | omega) (by decide) ?_
              try simp (decide := true) only [va_up_ne, va_up_self]
              rw [J421]
              refine r_iastore 1 dX11_tryNow_80 (S.1 _ _ rfl) rfl (by first | decide | omega) (by decide) ?_
              rw [va_up_self, bx_uu]
              first | refine r_iincN dX11_tryNow_81 rfl kc_1 ?_ | refine r_iinc dX11_tryNow_81 rfl rfl ?_
              dsimp only [List.set]
              refine r_goto 61 dX11_tryNow_84 (by decide) ?_
              refine r_iload dX11_tryNow_61 rfl ?_
              refine r_iload_n dX11_tryNow_63 rfl ?_
              refine r_icmp_geN 87 dX11_tryNow_64 (by decide) (by omega) (by omega) (fun h64 => ?_) (fun h64 => ?_)
              · refine r_return dX11_tryNow_87 rfl ?_
                have h45x : C < bc := by omega
                refine ⟨rfl, fun r a0 a1 a2 a3 a4 => ?_, fun j b1 b2 b3 => ?_, fun _ => ⟨?_, ?_, ?_, ?_⟩, fun h => absurd h45x h, rfl, rfl⟩
                · rw [va_up_ne _ _ a4, va_up_ne _ _ a0, va_up_ne _ _ a0, hJ r a2 a3, va_up_ne _ _ a1, va_up_ne _ _ a0]
                · simp (decide := true) only [va_up_ne, va_up_self]
                  rw [pk_un b3, pk_un b2, J0, pk_un b1]
                · simp (decide := true) only [va_up_ne, va_up_self]
                  rw [pk_un (by decide)]; exact pk_us
                · simp (decide := true) only [va_up_ne, va_up_self]
                  exact pk_us
                · simp (decide := true) only [va_up_ne, va_up_self]
                  rw [pk_un (by decide)]; exact pk_us
                · intro _
                  simp (decide := true) only [va_up_ne, va_up_self]
                  exact pk_us
              · exact absurd h64 (by omega)
      · exact absurd h9 (by omega)
end M24
