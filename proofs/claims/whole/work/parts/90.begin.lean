theorem sh_c_ge {k : Nat} {q : Nat × Nat} (h : sh_c k = some q) : 60 ≤ k := by
  unfold sh_c at h
  split at h <;> first | decide | cases h
theorem pt_c_ge {k f z : Nat} (h : pt_c k f = some z) : 60 ≤ k := by
  unfold pt_c at h
  split at h <;> first | decide | cases h
/-! the law: both objects are made, and stand alike -/
def s00 : AIn := fun r => if r = 11 ∨ r = 15 ∨ r = 24 then upd (fun _ => 0) 0 (-1) else fun _ => 0
theorem rs_ini (I : AIn) : rs (ini I) = s00 := by
  funext r
  unfold rs ini s00
  by_cases hm : mrow r = true
  · rw [if_pos hm]
    have : 1 ≤ r ∧ r < 48 := by
      simp [mrow] at hm
      omega
    rw [if_neg (by omega), if_pos this.2]
  · rw [if_neg hm]
    rw [if_neg]
    rintro (rfl | rfl | rfl) <;> exact hm rfl
theorem s00_z {r : Nat} (j : Nat) (h : r ≠ 11 ∧ r ≠ 15 ∧ r ≠ 24) : s00 r j = 0 := by
  unfold s00
  rw [if_neg (by omega)]
theorem isN_z (m : Nat) : isN 0 m := by
  have z : nv 0 = 0 := by decide
  exact ⟨by decide, by omega⟩
theorem s00_inv : Inv s00 := by
  have z : nv 0 = 0 := by decide
  refine ⟨⟨isN_z _, fun p _ => isN_z _, fun p k _ hk => ?_, fun j _ => isN_z _⟩, ⟨isN_z _, fun j hj => ?_, fun i j hi _ _ => ?_⟩, Or.inl rfl, Or.inl rfl, Or.inl rfl, isN_z _, fun k hk => ?_⟩
  · have : sz s00 p = 0 := z
    omega
  · have : nj s00 = 0 := z
    omega
  · have : nj s00 = 0 := z
    omega
  · have : nv (s00 26 0) = 0 := z
    omega
theorem s00_rep {I : AIn} (h : ∀ k, 100 ≤ k → k ≤ 137 → I k = fun _ => 0) : RepS I 100 s00 := by
  have z : nv 0 = 0 := by decide
  have g : ∀ k j, 100 ≤ k → k ≤ 137 → I k j = nI 0 := fun k j a b => by rw [h k a b]; rfl
  refine ⟨⟨g _ _ (by omega) (by omega), fun p hp => ?_⟩, ⟨g _ _ (by omega) (by omega), Nat.zero_le _, fun j hj => ?_⟩, ⟨Or.inr ⟨fun n => n rfl, g _ _ (by omega) (by omega)⟩, fun n => absurd rfl n⟩, ⟨Or.inr ⟨fun n => n rfl, g _ _ (by omega) (by omega)⟩, fun _ => ⟨g _ _ (by omega) (by omega), g _ _ (by omega) (by omega), fun k _ => g _ _ (by omega) (by omega)⟩, fun n => absurd rfl n⟩, ⟨Or.inr ⟨fun n => n rfl, g _ _ (by omega) (by omega)⟩, g _ _ (by omega) (by omega), Nat.zero_le _, fun j hj => ?_⟩, g _ _ (by omega) (by omega), fun k hk => ?_⟩
  · have : np s00 = 0 := z
    omega
  · have : nj s00 = 0 := z
    omega
  · have : nv (s00 24 0) = 0 := by decide
    omega
  · have : nv (s00 26 0) = 0 := z
    omega
section BEGIN
variable {nm : String} {bb : LB}
theorem lw_begin (hn : bb.2.1 ≤ 3072) : am_RL bb (mL nm) pL 7 181 19553 613947 0 [none, none, none, none] [] (fun _ => (0, 0)) (fun _ _ => 0) (fun _ _ => none) := by
  refine L_new 60 dL_law_0 k_L_7 rfl (by omega) (by omega) ?_
  refine L_dup dL_law_3 ?_
  refine L_callI0 (fr' := 4) (lo' := 81) (mc' := 54) (ms' := 4923) dL_law_4 mm_X10_init rfl mi_X10_init rfl l_L_9 (by decide) ⟨by decide, by decide⟩ (by omega) (by omega) (Nat.le_of_ble_eq_true rfl) (c_X10_init (va_up_self _ _ _) (fun k h1 h2 => by rw [va_up_ne _ _ (by omega)])) (L_kv ?_)
  rintro sh1 I1 P1 ⟨S1, F1, N1, Z1⟩
  refine L_astore_n dL_law_7 (by decide) (by decide) ?_
  dsimp only [List.set]
  have u1 : ∀ k, k < 60 ∨ 137 < k → sh1 k = (0, 0) := fun k hk => by rw [(F1 k hk).1, va_up_ne _ _ (by omega)]
  refine L_new 0 dL_law_8 k_L_10 (by rw [u1 0 (by omega)]) (by omega) (by omega) ?_
  refine L_dup dL_law_11 ?_
  refine L_callI0 (fr' := 1) (lo' := 20) (mc' := 41) (ms' := 4812) dL_law_12 mm_X11_init rfl mi_X11_init rfl l_L_12 (by decide) ⟨by decide, by decide⟩ (by omega) (by omega) (Nat.le_of_ble_eq_true rfl) (c_X11_init (va_up_self _ _ _) (fun k h1 h2 => by rw [va_up_ne _ _ (by omega), u1 k (by omega)])) (L_kv ?_)
  rintro sh2 I2 P2 ⟨S2, F2, R2, H2⟩
  refine L_astore_n dL_law_15 (by decide) (by decide) ?_
  dsimp only [List.set]
  refine L_iconst dL_law_16 (v := nI 0) kc_0 ?_
  refine L_istore_n dL_law_17 (by decide) (by decide) ?_
  dsimp only [List.set]
  have e2 : rs I2 = s00 := by rw [R2, rs_ini]
  have g2 : ∀ k, 60 ≤ k → sh2 k = sh1 k ∧ P2 k = P1 k := fun k hk => by
    obtain ⟨a, b⟩ := F2 k (by omega)
    rw [va_up_ne _ _ (by omega)] at a b
    exact ⟨a, b⟩
  refine L_weak (lw_loop hn 512 0 sh2 I2 P2 (by omega) (by omega) ⟨S2, ⟨fun c q g => ?_, fun c f z g => ?_⟩, by rw [e2]; exact s00_inv, ?_, fun k hk => Or.inl ⟨⟨?_, fun c h1 h2 => ?_⟩, by rw [e2]; rfl⟩⟩) (by omega) (by omega)
  · rw [(g2 c (by have := sh_c_ge g; omega)).1]
    exact S1.1 c q g
  · rw [(g2 c (by have := pt_c_ge g; omega)).2]
    exact S1.2 c f z g
  · rw [e2]
    refine s00_rep (fun k h1 h2 => ?_)
    rw [H2 k (by omega), va_up_ne _ _ (by omega)]
    exact Z1 k h1 h2
  · rw [(g2 61 (by omega)).2]
    exact N1 k
  · rw [(g2 c (by omega)).1, u1 c (by omega)]
end BEGIN
