/-! the reference: tryRow -/
section M22
variable {sh : ASh} {I : AIn} {P : APt}
/-- one digit of a row's number: how many kinds so far, what is left, the row -/
def trS (a u : Nat) (s : Nat × Nat × (Nat → Int32)) : Nat × Nat × (Nat → Int32) := if 0 < s.2.1 / u then (s.1 + 1, s.2.1 % u, upd s.2.2 (5 * a + (s.1 + 1)) (nI (s.2.1 / u - 1))) else (s.1, s.2.1 % u, s.2.2)
def trR (a v : Nat) (G : Nat → Int32) : Nat × Nat × (Nat → Int32) := trS a 1 (trS a 17 (trS a 289 (trS a 4913 (0, v, G))))
theorem trS_n (a u : Nat) (s : Nat × Nat × (Nat → Int32)) : (trS a u s).1 ≤ s.1 + 1 ∧ (trS a u s).2.1 ≤ s.2.1 := by
  unfold trS
  split
  · exact ⟨Nat.le_refl _, Nat.mod_le _ _⟩
  · exact ⟨Nat.le_succ _, Nat.mod_le _ _⟩
theorem l_X11_trS (S : St_m sh P) {post : APo} {a v u : Nat} {s : Nat × Nat × (Nat → Int32)} (hu : 0 < u) (hu2 : u ≤ 4913) (hl : s.2.1 < 100000) (ha : a < 6) (hn : s.1 < 4) (K : ∀ x6, am_R mX11_tryRow post 0 0 0 0 10 [some (.ref 0), some (.int (nI a)), some (.int (nI v)), some (.int (nI (trS a u s).1)), some (.int (nI (trS a u s).2.1)), some (.int (nI (u / 17))), x6] [] sh (va_up I 29 (trS a u s).2.2) P) (x6 : Option Value) : am_R mX11_tryRow post 0 0 0 0 10 [some (.ref 0), some (.int (nI a)), some (.int (nI v)), some (.int (nI s.1)), some (.int (nI s.2.1)), some (.int (nI u)), x6] [] sh (va_up I 29 s.2.2) P := by
  have hne : ¬ nI u = 0 := nI_ne0 hu (by omega)
  have hd : s.2.1 / u ≤ s.2.1 := Nat.div_le_self _ _
  refine r_iload dX11_tryRow_10 rfl ?_
  refine r_if_leN 61 dX11_tryRow_12 (by decide) (by omega) (fun h12 => ?_) (fun h12 => ?_)
  · exact absurd h12 (by omega)
  · refine r_iload dX11_tryRow_15 rfl ?_
    refine r_iload dX11_tryRow_17 rfl ?_
    refine r_idiv dX11_tryRow_19 hne ?_
    rw [pk_div (by omega) hu (by omega)]
    refine r_istore dX11_tryRow_20 (Nat.le_of_ble_eq_true rfl) ?_
    dsimp only [List.set]
    refine r_iload dX11_tryRow_22 rfl ?_
    refine r_iload dX11_tryRow_24 rfl ?_
    refine r_irem dX11_tryRow_26 hne ?_
    rw [pk_rem (by omega) hu (by omega)]
    refine r_istore dX11_tryRow_27 (Nat.le_of_ble_eq_true rfl) ?_
    dsimp only [List.set]
    refine r_iload dX11_tryRow_29 rfl ?_
    refine r_if_leN 51 dX11_tryRow_31 (by decide) (by omega) (fun h31 => ?_) (fun h31 => ?_)
    · have et : trS a u s = (s.1, s.2.1 % u, s.2.2) := if_neg (by omega)
      rw [et] at K
      refine r_iload dX11_tryRow_51 rfl ?_
      refine r_bipush dX11_tryRow_53 (v := nI 17) (by decide) ?_
      refine r_idiv dX11_tryRow_55 (by decide) ?_
      rw [pk_div (by omega) (by decide) (by decide)]
      refine r_istore dX11_tryRow_56 (Nat.le_of_ble_eq_true rfl) ?_
      dsimp only [List.set]
      refine r_goto 10 dX11_tryRow_58 (by decide) ?_
      exact K _
    · have et : trS a u s = (s.1 + 1, s.2.1 % u, upd s.2.2 (5 * a + (s.1 + 1)) (nI (s.2.1 / u - 1))) := if_pos (by omega)
      rw [et] at K
      first | refine r_iincN dX11_tryRow_34 rfl kc_1 ?_ | refine r_iinc dX11_tryRow_34 rfl rfl ?_
      dsimp only [List.set]
      refine r_aload_n dX11_tryRow_37 rfl ?_
      refine r_getP dX11_tryRow_38 g_X11_91 (S.1 _ _ rfl) rfl (S.2 _ _ _ rfl) ?_
      refine r_iconst dX11_tryRow_41 (v := nI 5) kc_5 ?_
      refine r_iload_n dX11_tryRow_42 rfl ?_
      first | refine r_imulN dX11_tryRow_43 ?_ | refine r_imul dX11_tryRow_43 ?_
      refine r_iload_n dX11_tryRow_44 rfl ?_
      first | refine r_iaddN dX11_tryRow_45 ?_ | refine r_iadd dX11_tryRow_45 ?_
      refine r_iload dX11_tryRow_46 rfl ?_
      refine r_iconst dX11_tryRow_48 (v := nI 1) kc_1 ?_
      first | refine r_isubN dX11_tryRow_49 (by omega) ?_ | refine r_isub dX11_tryRow_49 ?_
      refine r_iastore (5 * a + (s.1 + 1)) dX11_tryRow_50 (S.1 _ _ rfl) rfl (by first | decide | omega) (by decide) ?_
      rw [va_up_self, bx_uu]
      refine r_iload dX11_tryRow_51 rfl ?_
      refine r_bipush dX11_tryRow_53 (v := nI 17) (by decide) ?_
      refine r_idiv dX11_tryRow_55 (by decide) ?_
      rw [pk_div (by omega) (by decide) (by decide)]
      refine r_istore dX11_tryRow_56 (Nat.le_of_ble_eq_true rfl) ?_
      dsimp only [List.set]
      refine r_goto 10 dX11_tryRow_58 (by decide) ?_
      exact K _
theorem c_X11_tryRow (S : St_m sh P) {a v : Nat} (ha : a < 6) (hv : v < 100000) : am_R mX11_tryRow (po_v (fun sh' I' P' => I' = va_up I 29 (upd (trR a v (I 29)).2.2 (5 * a) (nI (trR a v (I 29)).1)) ∧ sh = sh' ∧ P = P')) 0 0 0 0 0 [some (.ref 0), some (.int (nI a)), some (.int (nI v)), none, none, none, none] [] sh I P := by
  have g1 := trS_n a 4913 (0, v, I 29)
  have g2 := trS_n a 289 (trS a 4913 (0, v, I 29))
  have g3 := trS_n a 17 (trS a 289 (trS a 4913 (0, v, I 29)))
  have g1a : (trS a 4913 (0, v, I 29)).1 ≤ 0 + 1 := g1.1
  have g1b : (trS a 4913 (0, v, I 29)).2.1 ≤ v := g1.2
  refine r_iconst dX11_tryRow_0 (v := nI 0) kc_0 ?_
  refine r_istore_n dX11_tryRow_1 (Nat.le_of_ble_eq_true rfl) ?_
  dsimp only [List.set]
  refine r_iload_n dX11_tryRow_2 rfl ?_
  refine r_istore dX11_tryRow_3 (Nat.le_of_ble_eq_true rfl) ?_
  dsimp only [List.set]
  refine r_sipush dX11_tryRow_5 (v := nI 4913) (by decide) ?_
  refine r_istore dX11_tryRow_8 (Nat.le_of_ble_eq_true rfl) ?_
  dsimp only [List.set]
  have e : I = va_up I 29 (I 29) := up_id 29 (I 29) rfl
  have h9 := l_X11_trS (I := I) (sh := sh) (P := P) (v := v) (s := (0, v, I 29)) (u := 4913) (post := po_v (fun sh' I' P' => I' = va_up I 29 (upd (trR a v (I 29)).2.2 (5 * a) (nI (trR a v (I 29)).1)) ∧ sh = sh' ∧ P = P')) S (by decide) (by decide) hv ha (by show 0 < 4; decide) (l_X11_trS (u := 289) S (by decide) (by decide) (by omega) ha (by omega) (l_X11_trS (u := 17) S (by decide) (by decide) (by omega) ha (by omega) (l_X11_trS (u := 1) S (by decide) (by decide) (by omega) ha (by omega) (fun y6 => ?_)))) none
  · rw [← e] at h9
    exact h9
  · show am_R mX11_tryRow _ 0 0 0 0 10 [some (.ref 0), some (.int (nI a)), some (.int (nI v)), some (.int (nI (trR a v (I 29)).1)), some (.int (nI (trR a v (I 29)).2.1)), some (.int (nI 0)), y6] [] sh (va_up I 29 (trR a v (I 29)).2.2) P
    refine r_iload dX11_tryRow_10 rfl ?_
    refine r_if_leN 61 dX11_tryRow_12 (by decide) (by omega) (fun h12 => ?_) (fun h12 => ?_)
    · refine r_aload_n dX11_tryRow_61 rfl ?_
      refine r_getP dX11_tryRow_62 g_X11_91 (S.1 _ _ rfl) rfl (S.2 _ _ _ rfl) ?_
      refine r_iconst dX11_tryRow_65 (v := nI 5) kc_5 ?_
      refine r_iload_n dX11_tryRow_66 rfl ?_
      first | refine r_imulN dX11_tryRow_67 ?_ | refine r_imul dX11_tryRow_67 ?_
      refine r_iload_n dX11_tryRow_68 rfl ?_
      refine r_iastore _ dX11_tryRow_69 (S.1 _ _ rfl) rfl (by first | decide | omega) (by decide) ?_
      rw [va_up_self, bx_uu]
      refine r_return dX11_tryRow_70 rfl ?_
      exact ⟨rfl, rfl, rfl, rfl⟩
    · exact absurd h12 (by omega)
end M22
