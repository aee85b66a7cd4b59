/-! the reference: join -/
section M6
variable {sh : ASh} {I : AIn} {P : APt}
theorem in15 {x : Int32} : (nI 0 ≤ x ∧ x ≤ nI 15) ↔ inR x 16 := by
  rw [in_iff (by decide)]
  constructor
  · rintro ⟨j, hj, rfl⟩
    exact ⟨j, by omega, rfl⟩
  · rintro ⟨j, hj, rfl⟩
    exact ⟨j, by omega, rfl⟩
theorem l_X11_joinI (S : St_m sh P) {post : APo} {n a b c d : Int32} {F : Nat → Int32} {j NJ : Nat} (hj : j < 6) (hN : NJ < 6)
    (K : ∀ v x10, ((v = nI 1 ∧ jEq F (5 * j) (5 * NJ)) ∨ (v = nI 0 ∧ ¬ jEq F (5 * j) (5 * NJ))) → am_R mX11_join post 1 22 0 0 270 [some (.ref 0), some (.int n), some (.int a), some (.int b), some (.int c), some (.int d), some (.int (nI 1)), some (.int (nI (5 * NJ))), some (.int (nI j)), some (.int v), x10] [] sh (va_up I 7 F) P) :
    ∀ (m k : Nat), k + m = 5 → ∀ v, ((v = nI 1 ∧ ∀ i, i < k → F (5 * j + i) = F (5 * NJ + i)) ∨ (v = nI 0 ∧ ¬ ∀ i, i < k → F (5 * j + i) = F (5 * NJ + i))) → am_R mX11_join post 1 22 0 0 221 [some (.ref 0), some (.int n), some (.int a), some (.int b), some (.int c), some (.int d), some (.int (nI 1)), some (.int (nI (5 * NJ))), some (.int (nI j)), some (.int v), some (.int (nI k))] [] sh (va_up I 7 F) P := by
  intro m
  induction m with
  | zero =>
    intro k hk v hv
    have e : k = 5 := by omega
    subst e
    refine r_iload dX11_join_221 rfl ?_
    refine r_iconst dX11_join_223 (v := nI 5) kc_5 ?_
    refine r_icmp_geN 270 dX11_join_224 (by decide) (by omega) (by omega) (fun h224 => ?_) (fun h224 => ?_)
    · exact K v _ hv
    · exact absurd h224 (by omega)
  | succ m ih =>
    intro k hk v hv
    refine r_iload dX11_join_221 rfl ?_
    refine r_iconst dX11_join_223 (v := nI 5) kc_5 ?_
    refine r_icmp_geN 270 dX11_join_224 (by decide) (by omega) (by omega) (fun h224 => ?_) (fun h224 => ?_)
    · exact absurd h224 (by omega)
    · refine r_iload dX11_join_227 rfl ?_
      refine r_if_eq 261 dX11_join_229 (by decide) (fun h229 => ?_) (fun h229 => ?_)
      · refine r_iconst dX11_join_261 (v := nI 0) kc_0 ?_
        refine r_istore dX11_join_262 (Nat.le_of_ble_eq_true rfl) ?_
        dsimp only [List.set]
        first | refine r_iincN dX11_join_264 rfl kc_1 ?_ | refine r_iinc dX11_join_264 rfl rfl ?_
        dsimp only [List.set]
        refine r_goto 221 dX11_join_267 (by decide) ?_
        refine ih (k + 1) (by omega) _ ?_
        first
          | (refine Or.inr ⟨rfl, fun h => ?_⟩; rcases hv with ⟨q1, q2⟩ | ⟨q1, q2⟩; · rw [q1] at h229; exact absurd h229 (by decide)
             · exact q2 (fun i hi => h i (by omega)))
          | (refine Or.inr ⟨rfl, fun h => ?_⟩; exact h254 (h k (by omega)))
          | (refine Or.inl ⟨rfl, fun i hi => ?_⟩; rcases Nat.lt_or_ge i k with g | g
             · rcases hv with ⟨q1, q2⟩ | ⟨q1, q2⟩
               · exact q2 i g
               · exact absurd q1 h229
             · have e : i = k := by omega
               subst e; exact h254)
      · refine r_aload_n dX11_join_232 rfl ?_
        refine r_getP dX11_join_233 g_X11_28 (S.1 _ _ rfl) rfl (S.2 _ _ _ rfl) ?_
        refine r_iconst dX11_join_236 (v := nI 5) kc_5 ?_
        refine r_iload dX11_join_237 rfl ?_
        first | refine r_imulN dX11_join_239 ?_ | refine r_imul dX11_join_239 ?_
        refine r_iload dX11_join_240 rfl ?_
        first | refine r_iaddN dX11_join_242 ?_ | refine r_iadd dX11_join_242 ?_
        refine r_iaload (5 * j + k) dX11_join_243 (S.1 _ _ rfl) rfl (by first | decide | omega) (by decide) ?_
        simp (decide := true) only [va_up_ne, va_up_self]
        refine r_aload_n dX11_join_244 rfl ?_
        refine r_getP dX11_join_245 g_X11_28 (S.1 _ _ rfl) rfl (S.2 _ _ _ rfl) ?_
        refine r_iload dX11_join_248 rfl ?_
        refine r_iload dX11_join_250 rfl ?_
        first | refine r_iaddN dX11_join_252 ?_ | refine r_iadd dX11_join_252 ?_
        refine r_iaload (5 * NJ + k) dX11_join_253 (S.1 _ _ rfl) rfl (by first | decide | omega) (by decide) ?_
        simp (decide := true) only [va_up_ne, va_up_self]
        refine r_icmp_ne 261 dX11_join_254 (by decide) (fun h254 => ?_) (fun h254 => ?_)
        · refine r_iconst dX11_join_261 (v := nI 0) kc_0 ?_
          refine r_istore dX11_join_262 (Nat.le_of_ble_eq_true rfl) ?_
          dsimp only [List.set]
          first | refine r_iincN dX11_join_264 rfl kc_1 ?_ | refine r_iinc dX11_join_264 rfl rfl ?_
          dsimp only [List.set]
          refine r_goto 221 dX11_join_267 (by decide) ?_
          refine ih (k + 1) (by omega) _ ?_
          first
            | (refine Or.inr ⟨rfl, fun h => ?_⟩; rcases hv with ⟨q1, q2⟩ | ⟨q1, q2⟩; · rw [q1] at h229; exact absurd h229 (by decide)
               · exact q2 (fun i hi => h i (by omega)))
            | (refine Or.inr ⟨rfl, fun h => ?_⟩; exact h254 (h k (by omega)))
            | (refine Or.inl ⟨rfl, fun i hi => ?_⟩; rcases Nat.lt_or_ge i k with g | g
               · rcases hv with ⟨q1, q2⟩ | ⟨q1, q2⟩
                 · exact q2 i g
                 · exact absurd q1 h229
               · have e : i = k := by omega
                 subst e; exact h254)
        · refine r_iconst dX11_join_257 (v := nI 1) kc_1 ?_
          refine r_goto 262 dX11_join_258 (by decide) ?_
          refine r_istore dX11_join_262 (Nat.le_of_ble_eq_true rfl) ?_
          dsimp only [List.set]
          first | refine r_iincN dX11_join_264 rfl kc_1 ?_ | refine r_iinc dX11_join_264 rfl rfl ?_
          dsimp only [List.set]
          refine r_goto 221 dX11_join_267 (by decide) ?_
          refine ih (k + 1) (by omega) _ ?_
          first
            | (refine Or.inr ⟨rfl, fun h => ?_⟩; rcases hv with ⟨q1, q2⟩ | ⟨q1, q2⟩; · rw [q1] at h229; exact absurd h229 (by decide)
               · exact q2 (fun i hi => h i (by omega)))
            | (refine Or.inr ⟨rfl, fun h => ?_⟩; exact h254 (h k (by omega)))
            | (refine Or.inl ⟨rfl, fun i hi => ?_⟩; rcases Nat.lt_or_ge i k with g | g
               · rcases hv with ⟨q1, q2⟩ | ⟨q1, q2⟩
                 · exact q2 i g
                 · exact absurd q1 h229
               · have e : i = k := by omega
                 subst e; exact h254)
theorem l_X11_join (S : St_m sh P) {n a b c d : Int32} {NJ : Nat} (e6 : I 6 0 = nI NJ) (b6 : NJ < 6) (hNJ : nj (rs I) = NJ) (hcan : j_can (rs I) n a b c d) {F : Nat → Int32} (hF : j_row (rs I) n a b c d = F) : ∀ (m j : Nat), j + m = NJ → (∀ i, i < j → ¬ jEq F (5 * i) (5 * NJ)) → ∀ x9 x10, am_R mX11_join (mpo sh P I (j_res (rs I) n a b c d) (j_op (rs I) n a b c d)) 1 22 0 0 204 [some (.ref 0), some (.int n), some (.int a), some (.int b), some (.int c), some (.int d), some (.int (nI 1)), some (.int (nI (5 * NJ))), some (.int (nI j)), x9, x10] [] sh (va_up I 7 F) P := by
  intro m
  induction m with
  | zero =>
    intro j hj hno x9 x10
    have hd : ¬ j_dup (rs I) n a b c d := by
      rintro ⟨i, h1, h2⟩
      rw [hF, hNJ] at h2
      exact hno i (by omega) h2
    refine r_iload dX11_join_204 rfl ?_
    refine r_aload_n dX11_join_206 rfl ?_
    refine r_getP dX11_join_207 g_X11_25 (S.1 _ _ rfl) rfl (S.2 _ _ _ rfl) ?_
    refine r_iconst dX11_join_210 (v := nI 0) kc_0 ?_
    refine r_iaload _ dX11_join_211 (S.1 _ _ rfl) rfl (by first | decide | omega) (by decide) ?_
    simp (decide := true) only [va_up_ne, va_up_self]
    rw [e6]
    refine r_icmp_geN 283 dX11_join_212 (by decide) (by omega) (by omega) (fun h212 => ?_) (fun h212 => ?_)
    · refine r_aload_n dX11_join_283 rfl ?_
      refine r_getP dX11_join_284 g_X11_25 (S.1 _ _ rfl) rfl (S.2 _ _ _ rfl) ?_
      refine r_iconst dX11_join_287 (v := nI 0) kc_0 ?_
      refine r_dup2 dX11_join_288 ?_
      refine r_iaload _ dX11_join_289 (S.1 _ _ rfl) rfl (by first | decide | omega) (by decide) ?_
      simp (decide := true) only [va_up_ne, va_up_self]
      rw [e6]
      refine r_iconst dX11_join_290 (v := nI 1) kc_1 ?_
      first | refine r_iaddN dX11_join_291 ?_ | refine r_iadd dX11_join_291 ?_
      refine r_iastore _ dX11_join_292 (S.1 _ _ rfl) rfl (by first | decide | omega) (by decide) ?_
      refine r_aload_n dX11_join_293 rfl ?_
      refine r_getP dX11_join_294 g_X11_25 (S.1 _ _ rfl) rfl (S.2 _ _ _ rfl) ?_
      refine r_iconst dX11_join_297 (v := nI 0) kc_0 ?_
      refine r_iaload _ dX11_join_298 (S.1 _ _ rfl) rfl (by first | decide | omega) (by decide) ?_
      simp (decide := true) only [va_up_ne, va_up_self]
      rw [pk_us]
      refine r_iconst dX11_join_299 (v := nI 1) kc_1 ?_
      first | refine r_isubN dX11_join_300 (by omega) ?_ | refine r_isub dX11_join_300 ?_
      refine r_ireturn dX11_join_301 .int rfl rfl ?_
      refine ⟨_, rfl, ?_, ?_, hi_up (hi_up (hi_rf _) (by decide)) (by decide), rfl, rfl⟩
      · rw [j_res, cif_t ⟨hcan, hd⟩, hNJ]
        rfl
      · rw [j_op, cif_t hcan, cif_f hd, hNJ, hF, rs_up rfl, rs_up rfl]
        rfl
    · exact absurd h212 (by omega)
  | succ m ih =>
    intro j hj hno x9 x10
    refine r_iload dX11_join_204 rfl ?_
    refine r_aload_n dX11_join_206 rfl ?_
    refine r_getP dX11_join_207 g_X11_25 (S.1 _ _ rfl) rfl (S.2 _ _ _ rfl) ?_
    refine r_iconst dX11_join_210 (v := nI 0) kc_0 ?_
    refine r_iaload _ dX11_join_211 (S.1 _ _ rfl) rfl (by first | decide | omega) (by decide) ?_
    simp (decide := true) only [va_up_ne, va_up_self]
    rw [e6]
    refine r_icmp_geN 283 dX11_join_212 (by decide) (by omega) (by omega) (fun h212 => ?_) (fun h212 => ?_)
    · exact absurd h212 (by omega)
    · refine r_iconst dX11_join_215 (v := nI 1) kc_1 ?_
      refine r_istore dX11_join_216 (Nat.le_of_ble_eq_true rfl) ?_
      dsimp only [List.set]
      refine r_iconst dX11_join_218 (v := nI 0) kc_0 ?_
      refine r_istore dX11_join_219 (Nat.le_of_ble_eq_true rfl) ?_
      dsimp only [List.set]
      refine l_X11_joinI S (by omega) b6 (fun v y10 hv => ?_) 5 0 rfl _ (Or.inl ⟨rfl, fun i hi => absurd hi (Nat.not_lt_zero i)⟩)
      refine r_iload dX11_join_270 rfl ?_
      refine r_if_eq 277 dX11_join_272 (by decide) (fun h272 => ?_) (fun h272 => ?_)
      · first | refine r_iincN dX11_join_277 rfl kc_1 ?_ | refine r_iinc dX11_join_277 rfl rfl ?_
        dsimp only [List.set]
        refine r_goto 204 dX11_join_280 (by decide) ?_
        refine ih (j + 1) (by omega) (fun i hi => ?_) _ _
        rcases Nat.lt_or_ge i j with g | g
        · exact hno i g
        · have e : i = j := by omega
          subst e
          rcases hv with ⟨q1, q2⟩ | ⟨q1, q2⟩
          · rw [q1] at h272; exact absurd h272 (by decide)
          · exact q2
      · refine r_iconst dX11_join_275 (v := (-1)) kc_m1 ?_
        refine r_ireturn dX11_join_276 .int rfl rfl ?_
        have hd : j_dup (rs I) n a b c d := by
          refine ⟨j, by omega, ?_⟩
          rw [hF, hNJ]
          rcases hv with ⟨q1, q2⟩ | ⟨q1, q2⟩
          · exact q2
          · exact absurd q1 h272
        refine ⟨_, rfl, ?_, ?_, hi_up (hi_rf _) (by decide), rfl, rfl⟩
        · rw [j_res, cif_f (fun h => h.2 hd)]
        · rw [j_op, cif_t hcan, cif_t hd, hF, rs_up rfl]
theorem l_X11_joinN (S : St_m sh P) {n a b c d : Int32} (hc : ¬ j_can (rs I) n a b c d) : am_R mX11_join (mpo sh P I (j_res (rs I) n a b c d) (j_op (rs I) n a b c d)) 1 22 0 0 70 [some (.ref 0), some (.int n), some (.int a), some (.int b), some (.int c), some (.int d), none, none, none, none, none] [] sh I P := by
  refine r_iconst dX11_join_70 (v := nI 0) kc_0 ?_
  refine r_istore dX11_join_71 (Nat.le_of_ble_eq_true rfl) ?_
  dsimp only [List.set]
  refine r_iload dX11_join_73 rfl ?_
  refine r_if_eqN 121 dX11_join_75 (by decide) (by omega) (fun h75 => ?_) (fun h75 => ?_)
  · refine r_iconst dX11_join_121 (v := (-1)) kc_m1 ?_
    refine r_ireturn dX11_join_122 .int rfl rfl ?_
    refine ⟨_, rfl, ?_, ?_, hi_rf _, rfl, rfl⟩
    · rw [j_res, cif_f (fun h => hc h.1)]
    · rw [j_op, cif_f hc]
  · exact absurd rfl h75
theorem l_X11_join2 (S : St_m sh P) (V : Inv (rs I)) (a b c d : Int32) : am_R mX11_join (mpo sh P I (j_res (rs I) (nI 2) a b c d) (j_op (rs I) (nI 2) a b c d)) 1 22 0 0 14 [some (.ref 0), some (.int (nI 2)), some (.int a), some (.int b), some (.int c), some (.int d), none, none, none, none, none] [] sh I P := by
  have e6 : isN (I 6 0) 6 := V.2.1.1
  have b6 := e6.2
  have n2 : nv (nI 2) = 2 := by decide
  refine r_iload_n dX11_join_14 rfl ?_
  refine r_iconst dX11_join_15 (v := nI 0) kc_0 ?_
  refine r_bipush dX11_join_16 (v := nI 15) (by decide) ?_
  refine r_callS3 (fr' := 0) (lo' := 0) (mc' := 0) (ms' := 0) dX11_join_18 mm_X11_in ms_X11_in l_X11_142 (by decide) ⟨by decide, by decide⟩ (Nat.zero_le _) (Nat.zero_le _) (Nat.le_of_ble_eq_true rfl) (c_X11_in _ _ _) (am_ki ?_)
  rintro v18 _ _ _ ⟨hb18, rfl, rfl, rfl⟩
  refine r_if_eq 70 dX11_join_21 (by decide) (fun h21 => ?_) (fun h21 => ?_)
  · replace h21 := hb18.f h21
    have hc : ¬ j_can (rs I) (nI 2) a b c d := fun h => h21 (in15.mpr h.2.1)
    exact l_X11_joinN S hc
  · replace h21 := hb18.t h21
    obtain ⟨A, hA, rfl⟩ := in15.mp h21
    have nA : nv (nI A) = A := nv_nI (by omega)
    refine r_iload_n dX11_join_24 rfl ?_
    refine r_iconst dX11_join_25 (v := nI 0) kc_0 ?_
    refine r_bipush dX11_join_26 (v := nI 15) (by decide) ?_
    refine r_callS3 (fr' := 0) (lo' := 0) (mc' := 0) (ms' := 0) dX11_join_28 mm_X11_in ms_X11_in l_X11_142 (by decide) ⟨by decide, by decide⟩ (Nat.zero_le _) (Nat.zero_le _) (Nat.le_of_ble_eq_true rfl) (c_X11_in _ _ _) (am_ki ?_)
    rintro v28 _ _ _ ⟨hb28, rfl, rfl, rfl⟩
    refine r_if_eq 70 dX11_join_31 (by decide) (fun h31 => ?_) (fun h31 => ?_)
    · replace h31 := hb28.f h31
      have hc : ¬ j_can (rs I) (nI 2) (nI A) b c d := fun h => h31 (in15.mpr h.2.2.1)
      exact l_X11_joinN S hc
    · replace h31 := hb28.t h31
      obtain ⟨B, hB, rfl⟩ := in15.mp h31
      have nB : nv (nI B) = B := nv_nI (by omega)
      refine r_iload_n dX11_join_34 rfl ?_
      refine r_iconst dX11_join_35 (v := nI 3) kc_3 ?_
      refine r_icmp_ltN 50 dX11_join_36 (by decide) (by omega) (by omega) (fun h36 => ?_) (fun h36 => ?_)
      · refine r_iload_n dX11_join_50 rfl ?_
        refine r_iconst dX11_join_51 (v := nI 4) kc_4 ?_
        refine r_icmp_ltN 66 dX11_join_52 (by decide) (by omega) (by omega) (fun h52 => ?_) (fun h52 => ?_)
        · refine r_iconst dX11_join_66 (v := nI 1) kc_1 ?_
          refine r_goto 71 dX11_join_67 (by decide) ?_
          refine r_istore dX11_join_71 (Nat.le_of_ble_eq_true rfl) ?_
          dsimp only [List.set]
          refine r_iload dX11_join_73 rfl ?_
          refine r_if_eqN 121 dX11_join_75 (by decide) (by omega) (fun h75 => ?_) (fun h75 => ?_)
          · exact absurd h75 (by decide)
          · refine r_aload_n dX11_join_78 rfl ?_
            refine r_getP dX11_join_79 g_X11_25 (S.1 _ _ rfl) rfl (S.2 _ _ _ rfl) ?_
            refine r_iconst dX11_join_82 (v := nI 0) kc_0 ?_
            refine r_iaload _ dX11_join_83 (S.1 _ _ rfl) rfl (by first | decide | omega) (by decide) ?_
            rw [e6.1]
            refine r_bipush dX11_join_84 (v := nI 6) (by decide) ?_
            refine r_icmp_eqN 121 dX11_join_86 (by decide) (by omega) (by omega) (fun h86 => ?_) (fun h86 => ?_)
            · have hc : ¬ j_can (rs I) (nI 2) (nI A) (nI B) c d := fun h => by have h9 : nv (I 6 0) < 6 := h.2.2.2.2.2.1; omega
              refine r_iconst dX11_join_121 (v := (-1)) kc_m1 ?_
              refine r_ireturn dX11_join_122 .int rfl rfl ?_
              refine ⟨_, rfl, ?_, ?_, hi_rf _, rfl, rfl⟩
              · rw [j_res, cif_f (fun h => hc h.1)]
              · rw [j_op, cif_f hc]
            · refine r_iload_n dX11_join_89 rfl ?_
              refine r_callS1 (fr' := 0) (lo' := 0) (mc' := 0) (ms' := 0) dX11_join_90 mm_X11_isLast ms_X11_isLast l_X11_164 (by decide) ⟨by decide, by decide⟩ (Nat.zero_le _) (Nat.zero_le _) (Nat.le_of_ble_eq_true rfl) (c_X11_isLast (by omega)) (am_ki ?_)
              rintro v90 _ _ _ ⟨hb90, rfl, rfl, rfl⟩
              refine r_if_ne 121 dX11_join_93 (by decide) (fun h93 => ?_) (fun h93 => ?_)
              · replace h93 := hb90.t h93
                have hc : ¬ j_can (rs I) (nI 2) (nI A) (nI B) c d := fun h => by have h9 := h.2.2.2.2.2.2.1; rw [nA] at h9; exact h9 h93
                refine r_iconst dX11_join_121 (v := (-1)) kc_m1 ?_
                refine r_ireturn dX11_join_122 .int rfl rfl ?_
                refine ⟨_, rfl, ?_, ?_, hi_rf _, rfl, rfl⟩
                · rw [j_res, cif_f (fun h => hc h.1)]
                · rw [j_op, cif_f hc]
              · replace h93 := hb90.f h93
                refine r_iload_n dX11_join_96 rfl ?_
                refine r_iconst dX11_join_97 (v := nI 2) kc_2 ?_
                refine r_icmp_leN 108 dX11_join_98 (by decide) (by omega) (by omega) (fun h98 => ?_) (fun h98 => ?_)
                · refine r_iload_n dX11_join_108 rfl ?_
                  refine r_iconst dX11_join_109 (v := nI 3) kc_3 ?_
                  refine r_icmp_leN 123 dX11_join_110 (by decide) (by omega) (by omega) (fun h110 => ?_) (fun h110 => ?_)
                  · refine r_iconst dX11_join_123 (v := nI 5) kc_5 ?_
                    refine r_aload_n dX11_join_124 rfl ?_
                    refine r_getP dX11_join_125 g_X11_25 (S.1 _ _ rfl) rfl (S.2 _ _ _ rfl) ?_
                    refine r_iconst dX11_join_128 (v := nI 0) kc_0 ?_
                    refine r_iaload _ dX11_join_129 (S.1 _ _ rfl) rfl (by first | decide | omega) (by decide) ?_
                    rw [e6.1]
                    first | refine r_imulN dX11_join_130 ?_ | refine r_imul dX11_join_130 ?_
                    refine r_istore dX11_join_131 (Nat.le_of_ble_eq_true rfl) ?_
                    dsimp only [List.set]
                    refine r_aload_n dX11_join_133 rfl ?_
                    refine r_getP dX11_join_134 g_X11_28 (S.1 _ _ rfl) rfl (S.2 _ _ _ rfl) ?_
                    refine r_iload dX11_join_137 rfl ?_
                    refine r_iload_n dX11_join_139 rfl ?_
                    refine r_iastore _ dX11_join_140 (S.1 _ _ rfl) rfl (by first | decide | omega) (by decide) ?_
                    refine r_aload_n dX11_join_141 rfl ?_
                    refine r_getP dX11_join_142 g_X11_28 (S.1 _ _ rfl) rfl (S.2 _ _ _ rfl) ?_
                    refine r_iload dX11_join_145 rfl ?_
                    refine r_iconst dX11_join_147 (v := nI 1) kc_1 ?_
                    first | refine r_iaddN dX11_join_148 ?_ | refine r_iadd dX11_join_148 ?_
                    refine r_iload_n dX11_join_149 rfl ?_
                    refine r_iastore _ dX11_join_150 (S.1 _ _ rfl) rfl (by first | decide | omega) (by decide) ?_
                    refine r_aload_n dX11_join_151 rfl ?_
                    refine r_getP dX11_join_152 g_X11_28 (S.1 _ _ rfl) rfl (S.2 _ _ _ rfl) ?_
                    refine r_iload dX11_join_155 rfl ?_
                    refine r_iconst dX11_join_157 (v := nI 2) kc_2 ?_
                    first | refine r_iaddN dX11_join_158 ?_ | refine r_iadd dX11_join_158 ?_
                    refine r_iload_n dX11_join_159 rfl ?_
                    refine r_iastore _ dX11_join_160 (S.1 _ _ rfl) rfl (by first | decide | omega) (by decide) ?_
                    refine r_aload_n dX11_join_161 rfl ?_
                    refine r_getP dX11_join_162 g_X11_28 (S.1 _ _ rfl) rfl (S.2 _ _ _ rfl) ?_
                    refine r_iload dX11_join_165 rfl ?_
                    refine r_iconst dX11_join_167 (v := nI 3) kc_3 ?_
                    first | refine r_iaddN dX11_join_168 ?_ | refine r_iadd dX11_join_168 ?_
                    refine r_iload_n dX11_join_169 rfl ?_
                    refine r_iconst dX11_join_170 (v := nI 2) kc_2 ?_
                    refine r_icmp_leN 179 dX11_join_171 (by decide) (by omega) (by omega) (fun h171 => ?_) (fun h171 => ?_)
                    · refine r_iconst dX11_join_179 (v := nI 0) kc_0 ?_
                      refine r_iastore _ dX11_join_180 (S.1 _ _ rfl) rfl (by first | decide | omega) (by decide) ?_
                      refine r_aload_n dX11_join_181 rfl ?_
                      refine r_getP dX11_join_182 g_X11_28 (S.1 _ _ rfl) rfl (S.2 _ _ _ rfl) ?_
                      refine r_iload dX11_join_185 rfl ?_
                      refine r_iconst dX11_join_187 (v := nI 4) kc_4 ?_
                      first | refine r_iaddN dX11_join_188 ?_ | refine r_iadd dX11_join_188 ?_
                      refine r_iload_n dX11_join_189 rfl ?_
                      refine r_iconst dX11_join_190 (v := nI 3) kc_3 ?_
                      refine r_icmp_leN 199 dX11_join_191 (by decide) (by omega) (by omega) (fun h191 => ?_) (fun h191 => ?_)
                      · refine r_iconst dX11_join_199 (v := nI 0) kc_0 ?_
                        refine r_iastore _ dX11_join_200 (S.1 _ _ rfl) rfl (by first | decide | omega) (by decide) ?_
                        refine r_iconst dX11_join_201 (v := nI 0) kc_0 ?_
                        refine r_istore dX11_join_202 (Nat.le_of_ble_eq_true rfl) ?_
                        dsimp only [List.set]
                        have hcan : j_can (rs I) (nI 2) (nI A) (nI B) c d := ⟨⟨by decide, inR_nI (by decide)⟩, inR_nI hA, inR_nI hB, fun h => absurd h (by decide), fun h => absurd h (by decide), by show nv (I 6 0) < 6; omega, by rw [nA]; exact h93, fun h => absurd h (by decide), fun h => absurd h (by decide)⟩
                        simp only [va_up_self, bx_uu]
                        exact l_X11_join S e6.1 (by omega) rfl hcan (by rw [j_row]; rfl) (nv (I 6 0)) 0 (Nat.zero_add _) (fun i hi => absurd hi (Nat.not_lt_zero i)) _ _
                      · exact absurd h191 (by omega)
                    · exact absurd h171 (by omega)
                  · exact absurd h110 (by omega)
                · exact absurd h98 (by omega)
        · exact absurd h52 (by omega)
      · exact absurd h36 (by omega)
theorem l_X11_join3 (S : St_m sh P) (V : Inv (rs I)) (a b c d : Int32) : am_R mX11_join (mpo sh P I (j_res (rs I) (nI 3) a b c d) (j_op (rs I) (nI 3) a b c d)) 1 22 0 0 14 [some (.ref 0), some (.int (nI 3)), some (.int a), some (.int b), some (.int c), some (.int d), none, none, none, none, none] [] sh I P := by
  have e6 : isN (I 6 0) 6 := V.2.1.1
  have b6 := e6.2
  have n2 : nv (nI 3) = 3 := by decide
  refine r_iload_n dX11_join_14 rfl ?_
  refine r_iconst dX11_join_15 (v := nI 0) kc_0 ?_
  refine r_bipush dX11_join_16 (v := nI 15) (by decide) ?_
  refine r_callS3 (fr' := 0) (lo' := 0) (mc' := 0) (ms' := 0) dX11_join_18 mm_X11_in ms_X11_in l_X11_142 (by decide) ⟨by decide, by decide⟩ (Nat.zero_le _) (Nat.zero_le _) (Nat.le_of_ble_eq_true rfl) (c_X11_in _ _ _) (am_ki ?_)
  rintro v18 _ _ _ ⟨hb18, rfl, rfl, rfl⟩
  refine r_if_eq 70 dX11_join_21 (by decide) (fun h21 => ?_) (fun h21 => ?_)
  · replace h21 := hb18.f h21
    have hc : ¬ j_can (rs I) (nI 3) a b c d := fun h => h21 (in15.mpr h.2.1)
    exact l_X11_joinN S hc
  · replace h21 := hb18.t h21
    obtain ⟨A, hA, rfl⟩ := in15.mp h21
    have nA : nv (nI A) = A := nv_nI (by omega)
    refine r_iload_n dX11_join_24 rfl ?_
    refine r_iconst dX11_join_25 (v := nI 0) kc_0 ?_
    refine r_bipush dX11_join_26 (v := nI 15) (by decide) ?_
    refine r_callS3 (fr' := 0) (lo' := 0) (mc' := 0) (ms' := 0) dX11_join_28 mm_X11_in ms_X11_in l_X11_142 (by decide) ⟨by decide, by decide⟩ (Nat.zero_le _) (Nat.zero_le _) (Nat.le_of_ble_eq_true rfl) (c_X11_in _ _ _) (am_ki ?_)
    rintro v28 _ _ _ ⟨hb28, rfl, rfl, rfl⟩
    refine r_if_eq 70 dX11_join_31 (by decide) (fun h31 => ?_) (fun h31 => ?_)
    · replace h31 := hb28.f h31
      have hc : ¬ j_can (rs I) (nI 3) (nI A) b c d := fun h => h31 (in15.mpr h.2.2.1)
      exact l_X11_joinN S hc
    · replace h31 := hb28.t h31
      obtain ⟨B, hB, rfl⟩ := in15.mp h31
      have nB : nv (nI B) = B := nv_nI (by omega)
      refine r_iload_n dX11_join_34 rfl ?_
      refine r_iconst dX11_join_35 (v := nI 3) kc_3 ?_
      refine r_icmp_ltN 50 dX11_join_36 (by decide) (by omega) (by omega) (fun h36 => ?_) (fun h36 => ?_)
      · exact absurd h36 (by omega)
      · refine r_iload dX11_join_39 rfl ?_
        refine r_iconst dX11_join_41 (v := nI 0) kc_0 ?_
        refine r_bipush dX11_join_42 (v := nI 15) (by decide) ?_
        refine r_callS3 (fr' := 0) (lo' := 0) (mc' := 0) (ms' := 0) dX11_join_44 mm_X11_in ms_X11_in l_X11_142 (by decide) ⟨by decide, by decide⟩ (Nat.zero_le _) (Nat.zero_le _) (Nat.le_of_ble_eq_true rfl) (c_X11_in _ _ _) (am_ki ?_)
        rintro v44 _ _ _ ⟨hb44, rfl, rfl, rfl⟩
        refine r_if_eq 70 dX11_join_47 (by decide) (fun h47 => ?_) (fun h47 => ?_)
        · replace h47 := hb44.f h47
          have hc : ¬ j_can (rs I) (nI 3) (nI A) (nI B) c d := fun h => h47 (in15.mpr (h.2.2.2.1 (by decide)))
          exact l_X11_joinN S hc
        · replace h47 := hb44.t h47
          obtain ⟨C, hC, rfl⟩ := in15.mp h47
          have nC : nv (nI C) = C := nv_nI (by omega)
          refine r_iload_n dX11_join_50 rfl ?_
          refine r_iconst dX11_join_51 (v := nI 4) kc_4 ?_
          refine r_icmp_ltN 66 dX11_join_52 (by decide) (by omega) (by omega) (fun h52 => ?_) (fun h52 => ?_)
          · refine r_iconst dX11_join_66 (v := nI 1) kc_1 ?_
            refine r_goto 71 dX11_join_67 (by decide) ?_
            refine r_istore dX11_join_71 (Nat.le_of_ble_eq_true rfl) ?_
            dsimp only [List.set]
            refine r_iload dX11_join_73 rfl ?_
            refine r_if_eqN 121 dX11_join_75 (by decide) (by omega) (fun h75 => ?_) (fun h75 => ?_)
            · exact absurd h75 (by decide)
            · refine r_aload_n dX11_join_78 rfl ?_
              refine r_getP dX11_join_79 g_X11_25 (S.1 _ _ rfl) rfl (S.2 _ _ _ rfl) ?_
              refine r_iconst dX11_join_82 (v := nI 0) kc_0 ?_
              refine r_iaload _ dX11_join_83 (S.1 _ _ rfl) rfl (by first | decide | omega) (by decide) ?_
              rw [e6.1]
              refine r_bipush dX11_join_84 (v := nI 6) (by decide) ?_
              refine r_icmp_eqN 121 dX11_join_86 (by decide) (by omega) (by omega) (fun h86 => ?_) (fun h86 => ?_)
              · have hc : ¬ j_can (rs I) (nI 3) (nI A) (nI B) (nI C) d := fun h => by have h9 : nv (I 6 0) < 6 := h.2.2.2.2.2.1; omega
                refine r_iconst dX11_join_121 (v := (-1)) kc_m1 ?_
                refine r_ireturn dX11_join_122 .int rfl rfl ?_
                refine ⟨_, rfl, ?_, ?_, hi_rf _, rfl, rfl⟩
                · rw [j_res, cif_f (fun h => hc h.1)]
                · rw [j_op, cif_f hc]
              · refine r_iload_n dX11_join_89 rfl ?_
                refine r_callS1 (fr' := 0) (lo' := 0) (mc' := 0) (ms' := 0) dX11_join_90 mm_X11_isLast ms_X11_isLast l_X11_164 (by decide) ⟨by decide, by decide⟩ (Nat.zero_le _) (Nat.zero_le _) (Nat.le_of_ble_eq_true rfl) (c_X11_isLast (by omega)) (am_ki ?_)
                rintro v90 _ _ _ ⟨hb90, rfl, rfl, rfl⟩
                refine r_if_ne 121 dX11_join_93 (by decide) (fun h93 => ?_) (fun h93 => ?_)
                · replace h93 := hb90.t h93
                  have hc : ¬ j_can (rs I) (nI 3) (nI A) (nI B) (nI C) d := fun h => by have h9 := h.2.2.2.2.2.2.1; rw [nA] at h9; exact h9 h93
                  refine r_iconst dX11_join_121 (v := (-1)) kc_m1 ?_
                  refine r_ireturn dX11_join_122 .int rfl rfl ?_
                  refine ⟨_, rfl, ?_, ?_, hi_rf _, rfl, rfl⟩
                  · rw [j_res, cif_f (fun h => hc h.1)]
                  · rw [j_op, cif_f hc]
                · replace h93 := hb90.f h93
                  refine r_iload_n dX11_join_96 rfl ?_
                  refine r_iconst dX11_join_97 (v := nI 2) kc_2 ?_
                  refine r_icmp_leN 108 dX11_join_98 (by decide) (by omega) (by omega) (fun h98 => ?_) (fun h98 => ?_)
                  · exact absurd h98 (by omega)
                  · refine r_iload_n dX11_join_101 rfl ?_
                    refine r_callS1 (fr' := 0) (lo' := 0) (mc' := 0) (ms' := 0) dX11_join_102 mm_X11_isLast ms_X11_isLast l_X11_164 (by decide) ⟨by decide, by decide⟩ (Nat.zero_le _) (Nat.zero_le _) (Nat.le_of_ble_eq_true rfl) (c_X11_isLast (by omega)) (am_ki ?_)
                    rintro v102 _ _ _ ⟨hb102, rfl, rfl, rfl⟩
                    refine r_if_ne 121 dX11_join_105 (by decide) (fun h105 => ?_) (fun h105 => ?_)
                    · replace h105 := hb102.t h105
                      have hc : ¬ j_can (rs I) (nI 3) (nI A) (nI B) (nI C) d := fun h => by have h9 := h.2.2.2.2.2.2.2.1 (by decide); rw [nB] at h9; exact h9 h105
                      refine r_iconst dX11_join_121 (v := (-1)) kc_m1 ?_
                      refine r_ireturn dX11_join_122 .int rfl rfl ?_
                      refine ⟨_, rfl, ?_, ?_, hi_rf _, rfl, rfl⟩
                      · rw [j_res, cif_f (fun h => hc h.1)]
                      · rw [j_op, cif_f hc]
                    · replace h105 := hb102.f h105
                      refine r_iload_n dX11_join_108 rfl ?_
                      refine r_iconst dX11_join_109 (v := nI 3) kc_3 ?_
                      refine r_icmp_leN 123 dX11_join_110 (by decide) (by omega) (by omega) (fun h110 => ?_) (fun h110 => ?_)
                      · refine r_iconst dX11_join_123 (v := nI 5) kc_5 ?_
                        refine r_aload_n dX11_join_124 rfl ?_
                        refine r_getP dX11_join_125 g_X11_25 (S.1 _ _ rfl) rfl (S.2 _ _ _ rfl) ?_
                        refine r_iconst dX11_join_128 (v := nI 0) kc_0 ?_
                        refine r_iaload _ dX11_join_129 (S.1 _ _ rfl) rfl (by first | decide | omega) (by decide) ?_
                        rw [e6.1]
                        first | refine r_imulN dX11_join_130 ?_ | refine r_imul dX11_join_130 ?_
                        refine r_istore dX11_join_131 (Nat.le_of_ble_eq_true rfl) ?_
                        dsimp only [List.set]
                        refine r_aload_n dX11_join_133 rfl ?_
                        refine r_getP dX11_join_134 g_X11_28 (S.1 _ _ rfl) rfl (S.2 _ _ _ rfl) ?_
                        refine r_iload dX11_join_137 rfl ?_
                        refine r_iload_n dX11_join_139 rfl ?_
                        refine r_iastore _ dX11_join_140 (S.1 _ _ rfl) rfl (by first | decide | omega) (by decide) ?_
                        refine r_aload_n dX11_join_141 rfl ?_
                        refine r_getP dX11_join_142 g_X11_28 (S.1 _ _ rfl) rfl (S.2 _ _ _ rfl) ?_
                        refine r_iload dX11_join_145 rfl ?_
                        refine r_iconst dX11_join_147 (v := nI 1) kc_1 ?_
                        first | refine r_iaddN dX11_join_148 ?_ | refine r_iadd dX11_join_148 ?_
                        refine r_iload_n dX11_join_149 rfl ?_
                        refine r_iastore _ dX11_join_150 (S.1 _ _ rfl) rfl (by first | decide | omega) (by decide) ?_
                        refine r_aload_n dX11_join_151 rfl ?_
                        refine r_getP dX11_join_152 g_X11_28 (S.1 _ _ rfl) rfl (S.2 _ _ _ rfl) ?_
                        refine r_iload dX11_join_155 rfl ?_
                        refine r_iconst dX11_join_157 (v := nI 2) kc_2 ?_
                        first | refine r_iaddN dX11_join_158 ?_ | refine r_iadd dX11_join_158 ?_
                        refine r_iload_n dX11_join_159 rfl ?_
                        refine r_iastore _ dX11_join_160 (S.1 _ _ rfl) rfl (by first | decide | omega) (by decide) ?_
                        refine r_aload_n dX11_join_161 rfl ?_
                        refine r_getP dX11_join_162 g_X11_28 (S.1 _ _ rfl) rfl (S.2 _ _ _ rfl) ?_
                        refine r_iload dX11_join_165 rfl ?_
                        refine r_iconst dX11_join_167 (v := nI 3) kc_3 ?_
                        first | refine r_iaddN dX11_join_168 ?_ | refine r_iadd dX11_join_168 ?_
                        refine r_iload_n dX11_join_169 rfl ?_
                        refine r_iconst dX11_join_170 (v := nI 2) kc_2 ?_
                        refine r_icmp_leN 179 dX11_join_171 (by decide) (by omega) (by omega) (fun h171 => ?_) (fun h171 => ?_)
                        · exact absurd h171 (by omega)
                        · refine r_iload dX11_join_174 rfl ?_
                          refine r_goto 180 dX11_join_176 (by decide) ?_
                          refine r_iastore _ dX11_join_180 (S.1 _ _ rfl) rfl (by first | decide | omega) (by decide) ?_
                          refine r_aload_n dX11_join_181 rfl ?_
                          refine r_getP dX11_join_182 g_X11_28 (S.1 _ _ rfl) rfl (S.2 _ _ _ rfl) ?_
                          refine r_iload dX11_join_185 rfl ?_
                          refine r_iconst dX11_join_187 (v := nI 4) kc_4 ?_
                          first | refine r_iaddN dX11_join_188 ?_ | refine r_iadd dX11_join_188 ?_
                          refine r_iload_n dX11_join_189 rfl ?_
                          refine r_iconst dX11_join_190 (v := nI 3) kc_3 ?_
                          refine r_icmp_leN 199 dX11_join_191 (by decide) (by omega) (by omega) (fun h191 => ?_) (fun h191 => ?_)
                          · refine r_iconst dX11_join_199 (v := nI 0) kc_0 ?_
                            refine r_iastore _ dX11_join_200 (S.1 _ _ rfl) rfl (by first | decide | omega) (by decide) ?_
                            refine r_iconst dX11_join_201 (v := nI 0) kc_0 ?_
                            refine r_istore dX11_join_202 (Nat.le_of_ble_eq_true rfl) ?_
                            dsimp only [List.set]
                            have hcan : j_can (rs I) (nI 3) (nI A) (nI B) (nI C) d := ⟨⟨by decide, inR_nI (by decide)⟩, inR_nI hA, inR_nI hB, fun _ => inR_nI hC, fun h => absurd h (by decide), by show nv (I 6 0) < 6; omega, by rw [nA]; exact h93, fun _ => by rw [nB]; exact h105, fun h => absurd h (by decide)⟩
                            simp only [va_up_self, bx_uu]
                            exact l_X11_join S e6.1 (by omega) rfl hcan (by rw [j_row]; rfl) (nv (I 6 0)) 0 (Nat.zero_add _) (fun i hi => absurd hi (Nat.not_lt_zero i)) _ _
                          · exact absurd h191 (by omega)
                      · exact absurd h110 (by omega)
          · exact absurd h52 (by omega)
theorem l_X11_join4 (S : St_m sh P) (V : Inv (rs I)) (a b c d : Int32) : am_R mX11_join (mpo sh P I (j_res (rs I) (nI 4) a b c d) (j_op (rs I) (nI 4) a b c d)) 1 22 0 0 14 [some (.ref 0), some (.int (nI 4)), some (.int a), some (.int b), some (.int c), some (.int d), none, none, none, none, none] [] sh I P := by
  have e6 : isN (I 6 0) 6 := V.2.1.1
  have b6 := e6.2
  have n2 : nv (nI 4) = 4 := by decide
  refine r_iload_n dX11_join_14 rfl ?_
  refine r_iconst dX11_join_15 (v := nI 0) kc_0 ?_
  refine r_bipush dX11_join_16 (v := nI 15) (by decide) ?_
  refine r_callS3 (fr' := 0) (lo' := 0) (mc' := 0) (ms' := 0) dX11_join_18 mm_X11_in ms_X11_in l_X11_142 (by decide) ⟨by decide, by decide⟩ (Nat.zero_le _) (Nat.zero_le _) (Nat.le_of_ble_eq_true rfl) (c_X11_in _ _ _) (am_ki ?_)
  rintro v18 _ _ _ ⟨hb18, rfl, rfl, rfl⟩
  refine r_if_eq 70 dX11_join_21 (by decide) (fun h21 => ?_) (fun h21 => ?_)
  · replace h21 := hb18.f h21
    have hc : ¬ j_can (rs I) (nI 4) a b c d := fun h => h21 (in15.mpr h.2.1)
    exact l_X11_joinN S hc
  · replace h21 := hb18.t h21
    obtain ⟨A, hA, rfl⟩ := in15.mp h21
    have nA : nv (nI A) = A := nv_nI (by omega)
    refine r_iload_n dX11_join_24 rfl ?_
    refine r_iconst dX11_join_25 (v := nI 0) kc_0 ?_
    refine r_bipush dX11_join_26 (v := nI 15) (by decide) ?_
    refine r_callS3 (fr' := 0) (lo' := 0) (mc' := 0) (ms' := 0) dX11_join_28 mm_X11_in ms_X11_in l_X11_142 (by decide) ⟨by decide, by decide⟩ (Nat.zero_le _) (Nat.zero_le _) (Nat.le_of_ble_eq_true rfl) (c_X11_in _ _ _) (am_ki ?_)
    rintro v28 _ _ _ ⟨hb28, rfl, rfl, rfl⟩
    refine r_if_eq 70 dX11_join_31 (by decide) (fun h31 => ?_) (fun h31 => ?_)
    · replace h31 := hb28.f h31
      have hc : ¬ j_can (rs I) (nI 4) (nI A) b c d := fun h => h31 (in15.mpr h.2.2.1)
      exact l_X11_joinN S hc
    · replace h31 := hb28.t h31
      obtain ⟨B, hB, rfl⟩ := in15.mp h31
      have nB : nv (nI B) = B := nv_nI (by omega)
      refine r_iload_n dX11_join_34 rfl ?_
      refine r_iconst dX11_join_35 (v := nI 3) kc_3 ?_
      refine r_icmp_ltN 50 dX11_join_36 (by decide) (by omega) (by omega) (fun h36 => ?_) (fun h36 => ?_)
      · exact absurd h36 (by omega)
      · refine r_iload dX11_join_39 rfl ?_
        refine r_iconst dX11_join_41 (v := nI 0) kc_0 ?_
        refine r_bipush dX11_join_42 (v := nI 15) (by decide) ?_
        refine r_callS3 (fr' := 0) (lo' := 0) (mc' := 0) (ms' := 0) dX11_join_44 mm_X11_in ms_X11_in l_X11_142 (by decide) ⟨by decide, by decide⟩ (Nat.zero_le _) (Nat.zero_le _) (Nat.le_of_ble_eq_true rfl) (c_X11_in _ _ _) (am_ki ?_)
        rintro v44 _ _ _ ⟨hb44, rfl, rfl, rfl⟩
        refine r_if_eq 70 dX11_join_47 (by decide) (fun h47 => ?_) (fun h47 => ?_)
        · replace h47 := hb44.f h47
          have hc : ¬ j_can (rs I) (nI 4) (nI A) (nI B) c d := fun h => h47 (in15.mpr (h.2.2.2.1 (by decide)))
          exact l_X11_joinN S hc
        · replace h47 := hb44.t h47
          obtain ⟨C, hC, rfl⟩ := in15.mp h47
          have nC : nv (nI C) = C := nv_nI (by omega)
          refine r_iload_n dX11_join_50 rfl ?_
          refine r_iconst dX11_join_51 (v := nI 4) kc_4 ?_
          refine r_icmp_ltN 66 dX11_join_52 (by decide) (by omega) (by omega) (fun h52 => ?_) (fun h52 => ?_)
          · exact absurd h52 (by omega)
          · refine r_iload dX11_join_55 rfl ?_
            refine r_iconst dX11_join_57 (v := nI 0) kc_0 ?_
            refine r_bipush dX11_join_58 (v := nI 15) (by decide) ?_
            refine r_callS3 (fr' := 0) (lo' := 0) (mc' := 0) (ms' := 0) dX11_join_60 mm_X11_in ms_X11_in l_X11_142 (by decide) ⟨by decide, by decide⟩ (Nat.zero_le _) (Nat.zero_le _) (Nat.le_of_ble_eq_true rfl) (c_X11_in _ _ _) (am_ki ?_)
            rintro v60 _ _ _ ⟨hb60, rfl, rfl, rfl⟩
            refine r_if_eq 70 dX11_join_63 (by decide) (fun h63 => ?_) (fun h63 => ?_)
            · replace h63 := hb60.f h63
              have hc : ¬ j_can (rs I) (nI 4) (nI A) (nI B) (nI C) d := fun h => h63 (in15.mpr (h.2.2.2.2.1 (by decide)))
              exact l_X11_joinN S hc
            · replace h63 := hb60.t h63
              obtain ⟨D, hD, rfl⟩ := in15.mp h63
              have nD : nv (nI D) = D := nv_nI (by omega)
              refine r_iconst dX11_join_66 (v := nI 1) kc_1 ?_
              refine r_goto 71 dX11_join_67 (by decide) ?_
              refine r_istore dX11_join_71 (Nat.le_of_ble_eq_true rfl) ?_
              dsimp only [List.set]
              refine r_iload dX11_join_73 rfl ?_
              refine r_if_eqN 121 dX11_join_75 (by decide) (by omega) (fun h75 => ?_) (fun h75 => ?_)
              · exact absurd h75 (by decide)
              · refine r_aload_n dX11_join_78 rfl ?_
                refine r_getP dX11_join_79 g_X11_25 (S.1 _ _ rfl) rfl (S.2 _ _ _ rfl) ?_
                refine r_iconst dX11_join_82 (v := nI 0) kc_0 ?_
                refine r_iaload _ dX11_join_83 (S.1 _ _ rfl) rfl (by first | decide | omega) (by decide) ?_
                rw [e6.1]
                refine r_bipush dX11_join_84 (v := nI 6) (by decide) ?_
                refine r_icmp_eqN 121 dX11_join_86 (by decide) (by omega) (by omega) (fun h86 => ?_) (fun h86 => ?_)
                · have hc : ¬ j_can (rs I) (nI 4) (nI A) (nI B) (nI C) (nI D) := fun h => by have h9 : nv (I 6 0) < 6 := h.2.2.2.2.2.1; omega
                  refine r_iconst dX11_join_121 (v := (-1)) kc_m1 ?_
                  refine r_ireturn dX11_join_122 .int rfl rfl ?_
                  refine ⟨_, rfl, ?_, ?_, hi_rf _, rfl, rfl⟩
                  · rw [j_res, cif_f (fun h => hc h.1)]
                  · rw [j_op, cif_f hc]
                · refine r_iload_n dX11_join_89 rfl ?_
                  refine r_callS1 (fr' := 0) (lo' := 0) (mc' := 0) (ms' := 0) dX11_join_90 mm_X11_isLast ms_X11_isLast l_X11_164 (by decide) ⟨by decide, by decide⟩ (Nat.zero_le _) (Nat.zero_le _) (Nat.le_of_ble_eq_true rfl) (c_X11_isLast (by omega)) (am_ki ?_)
                  rintro v90 _ _ _ ⟨hb90, rfl, rfl, rfl⟩
                  refine r_if_ne 121 dX11_join_93 (by decide) (fun h93 => ?_) (fun h93 => ?_)
                  · replace h93 := hb90.t h93
                    have hc : ¬ j_can (rs I) (nI 4) (nI A) (nI B) (nI C) (nI D) := fun h => by have h9 := h.2.2.2.2.2.2.1; rw [nA] at h9; exact h9 h93
                    refine r_iconst dX11_join_121 (v := (-1)) kc_m1 ?_
                    refine r_ireturn dX11_join_122 .int rfl rfl ?_
                    refine ⟨_, rfl, ?_, ?_, hi_rf _, rfl, rfl⟩
                    · rw [j_res, cif_f (fun h => hc h.1)]
                    · rw [j_op, cif_f hc]
                  · replace h93 := hb90.f h93
                    refine r_iload_n dX11_join_96 rfl ?_
                    refine r_iconst dX11_join_97 (v := nI 2) kc_2 ?_
                    refine r_icmp_leN 108 dX11_join_98 (by decide) (by omega) (by omega) (fun h98 => ?_) (fun h98 => ?_)
                    · exact absurd h98 (by omega)
                    · refine r_iload_n dX11_join_101 rfl ?_
                      refine r_callS1 (fr' := 0) (lo' := 0) (mc' := 0) (ms' := 0) dX11_join_102 mm_X11_isLast ms_X11_isLast l_X11_164 (by decide) ⟨by decide, by decide⟩ (Nat.zero_le _) (Nat.zero_le _) (Nat.le_of_ble_eq_true rfl) (c_X11_isLast (by omega)) (am_ki ?_)
                      rintro v102 _ _ _ ⟨hb102, rfl, rfl, rfl⟩
                      refine r_if_ne 121 dX11_join_105 (by decide) (fun h105 => ?_) (fun h105 => ?_)
                      · replace h105 := hb102.t h105
                        have hc : ¬ j_can (rs I) (nI 4) (nI A) (nI B) (nI C) (nI D) := fun h => by have h9 := h.2.2.2.2.2.2.2.1 (by decide); rw [nB] at h9; exact h9 h105
                        refine r_iconst dX11_join_121 (v := (-1)) kc_m1 ?_
                        refine r_ireturn dX11_join_122 .int rfl rfl ?_
                        refine ⟨_, rfl, ?_, ?_, hi_rf _, rfl, rfl⟩
                        · rw [j_res, cif_f (fun h => hc h.1)]
                        · rw [j_op, cif_f hc]
                      · replace h105 := hb102.f h105
                        refine r_iload_n dX11_join_108 rfl ?_
                        refine r_iconst dX11_join_109 (v := nI 3) kc_3 ?_
                        refine r_icmp_leN 123 dX11_join_110 (by decide) (by omega) (by omega) (fun h110 => ?_) (fun h110 => ?_)
                        · exact absurd h110 (by omega)
                        · refine r_iload dX11_join_113 rfl ?_
                          refine r_callS1 (fr' := 0) (lo' := 0) (mc' := 0) (ms' := 0) dX11_join_115 mm_X11_isLast ms_X11_isLast l_X11_164 (by decide) ⟨by decide, by decide⟩ (Nat.zero_le _) (Nat.zero_le _) (Nat.le_of_ble_eq_true rfl) (c_X11_isLast (by omega)) (am_ki ?_)
                          rintro v115 _ _ _ ⟨hb115, rfl, rfl, rfl⟩
                          refine r_if_eq 123 dX11_join_118 (by decide) (fun h118 => ?_) (fun h118 => ?_)
                          · replace h118 := hb115.f h118
                            refine r_iconst dX11_join_123 (v := nI 5) kc_5 ?_
                            refine r_aload_n dX11_join_124 rfl ?_
                            refine r_getP dX11_join_125 g_X11_25 (S.1 _ _ rfl) rfl (S.2 _ _ _ rfl) ?_
                            refine r_iconst dX11_join_128 (v := nI 0) kc_0 ?_
                            refine r_iaload _ dX11_join_129 (S.1 _ _ rfl) rfl (by first | decide | omega) (by decide) ?_
                            rw [e6.1]
                            first | refine r_imulN dX11_join_130 ?_ | refine r_imul dX11_join_130 ?_
                            refine r_istore dX11_join_131 (Nat.le_of_ble_eq_true rfl) ?_
                            dsimp only [List.set]
                            refine r_aload_n dX11_join_133 rfl ?_
                            refine r_getP dX11_join_134 g_X11_28 (S.1 _ _ rfl) rfl (S.2 _ _ _ rfl) ?_
                            refine r_iload dX11_join_137 rfl ?_
                            refine r_iload_n dX11_join_139 rfl ?_
                            refine r_iastore _ dX11_join_140 (S.1 _ _ rfl) rfl (by first | decide | omega) (by decide) ?_
                            refine r_aload_n dX11_join_141 rfl ?_
                            refine r_getP dX11_join_142 g_X11_28 (S.1 _ _ rfl) rfl (S.2 _ _ _ rfl) ?_
                            refine r_iload dX11_join_145 rfl ?_
                            refine r_iconst dX11_join_147 (v := nI 1) kc_1 ?_
                            first | refine r_iaddN dX11_join_148 ?_ | refine r_iadd dX11_join_148 ?_
                            refine r_iload_n dX11_join_149 rfl ?_
                            refine r_iastore _ dX11_join_150 (S.1 _ _ rfl) rfl (by first | decide | omega) (by decide) ?_
                            refine r_aload_n dX11_join_151 rfl ?_
                            refine r_getP dX11_join_152 g_X11_28 (S.1 _ _ rfl) rfl (S.2 _ _ _ rfl) ?_
                            refine r_iload dX11_join_155 rfl ?_
                            refine r_iconst dX11_join_157 (v := nI 2) kc_2 ?_
                            first | refine r_iaddN dX11_join_158 ?_ | refine r_iadd dX11_join_158 ?_
                            refine r_iload_n dX11_join_159 rfl ?_
                            refine r_iastore _ dX11_join_160 (S.1 _ _ rfl) rfl (by first | decide | omega) (by decide) ?_
                            refine r_aload_n dX11_join_161 rfl ?_
                            refine r_getP dX11_join_162 g_X11_28 (S.1 _ _ rfl) rfl (S.2 _ _ _ rfl) ?_
                            refine r_iload dX11_join_165 rfl ?_
                            refine r_iconst dX11_join_167 (v := nI 3) kc_3 ?_
                            first | refine r_iaddN dX11_join_168 ?_ | refine r_iadd dX11_join_168 ?_
                            refine r_iload_n dX11_join_169 rfl ?_
                            refine r_iconst dX11_join_170 (v := nI 2) kc_2 ?_
                            refine r_icmp_leN 179 dX11_join_171 (by decide) (by omega) (by omega) (fun h171 => ?_) (fun h171 => ?_)
                            · exact absurd h171 (by omega)
                            · refine r_iload dX11_join_174 rfl ?_
                              refine r_goto 180 dX11_join_176 (by decide) ?_
                              refine r_iastore _ dX11_join_180 (S.1 _ _ rfl) rfl (by first | decide | omega) (by decide) ?_
                              refine r_aload_n dX11_join_181 rfl ?_
                              refine r_getP dX11_join_182 g_X11_28 (S.1 _ _ rfl) rfl (S.2 _ _ _ rfl) ?_
                              refine r_iload dX11_join_185 rfl ?_
                              refine r_iconst dX11_join_187 (v := nI 4) kc_4 ?_
                              first | refine r_iaddN dX11_join_188 ?_ | refine r_iadd dX11_join_188 ?_
                              refine r_iload_n dX11_join_189 rfl ?_
                              refine r_iconst dX11_join_190 (v := nI 3) kc_3 ?_
                              refine r_icmp_leN 199 dX11_join_191 (by decide) (by omega) (by omega) (fun h191 => ?_) (fun h191 => ?_)
                              · exact absurd h191 (by omega)
                              · refine r_iload dX11_join_194 rfl ?_
                                refine r_goto 200 dX11_join_196 (by decide) ?_
                                refine r_iastore _ dX11_join_200 (S.1 _ _ rfl) rfl (by first | decide | omega) (by decide) ?_
                                refine r_iconst dX11_join_201 (v := nI 0) kc_0 ?_
                                refine r_istore dX11_join_202 (Nat.le_of_ble_eq_true rfl) ?_
                                dsimp only [List.set]
                                have hcan : j_can (rs I) (nI 4) (nI A) (nI B) (nI C) (nI D) := ⟨⟨by decide, inR_nI (by decide)⟩, inR_nI hA, inR_nI hB, fun _ => inR_nI hC, fun _ => inR_nI hD, by show nv (I 6 0) < 6; omega, by rw [nA]; exact h93, fun _ => by rw [nB]; exact h105, fun _ => by rw [nC]; exact h118⟩
                                simp only [va_up_self, bx_uu]
                                exact l_X11_join S e6.1 (by omega) rfl hcan (by rw [j_row]; rfl) (nv (I 6 0)) 0 (Nat.zero_add _) (fun i hi => absurd hi (Nat.not_lt_zero i)) _ _
                          · replace h118 := hb115.t h118
                            have hc : ¬ j_can (rs I) (nI 4) (nI A) (nI B) (nI C) (nI D) := fun h => by have h9 := h.2.2.2.2.2.2.2.2 (by decide); rw [nC] at h9; exact h9 h118
                            refine r_iconst dX11_join_121 (v := (-1)) kc_m1 ?_
                            refine r_ireturn dX11_join_122 .int rfl rfl ?_
                            refine ⟨_, rfl, ?_, ?_, hi_rf _, rfl, rfl⟩
                            · rw [j_res, cif_f (fun h => hc h.1)]
                            · rw [j_op, cif_f hc]
theorem b_X11_join (S : St_m sh P) (V : Inv (rs I))  (x y z u w : Int32): am_R mX11_join (mpo sh P I (j_res (rs I) x y z u w) (j_op (rs I) x y z u w)) 1 22 0 0 5 [some (.ref 0), some (.int x), some (.int y), some (.int z), some (.int u), some (.int w), none, none, none, none, none] [] sh I P := by
  refine r_iload_n dX11_join_5 rfl ?_
  refine r_iconst dX11_join_6 (v := nI 2) kc_2 ?_
  refine r_iconst dX11_join_7 (v := nI 4) kc_4 ?_
  refine r_callS3 (fr' := 0) (lo' := 0) (mc' := 0) (ms' := 0) dX11_join_8 mm_X11_in ms_X11_in l_X11_142 (by decide) ⟨by decide, by decide⟩ (Nat.zero_le _) (Nat.zero_le _) (Nat.le_of_ble_eq_true rfl) (c_X11_in _ _ _) (am_ki ?_)
  rintro v8 _ _ _ ⟨hb8, rfl, rfl, rfl⟩
  refine r_if_eq 70 dX11_join_11 (by decide) (fun h11 => ?_) (fun h11 => ?_)
  · replace h11 := hb8.f h11
    have hc : ¬ j_can (rs I) x y z u w := fun h => h11 ((in_ab (by decide) (by decide)).mpr (by obtain ⟨⟨h1, q, hq, rfl⟩, -⟩ := h; rw [nv_nI (by omega)] at h1; exact ⟨q, h1, by omega, rfl⟩))
    exact l_X11_joinN S hc
  · replace h11 := hb8.t h11
    obtain ⟨q, hq1, hq2, rfl⟩ := (in_ab (by decide) (by decide)).mp h11
    rcases (show q = 2 ∨ q = 3 ∨ q = 4 by omega) with rfl | rfl | rfl
    · exact l_X11_join2 S V y z u w
    · exact l_X11_join3 S V y z u w
    exact l_X11_join4 S V y z u w
theorem c_X11_join (S : St_m sh P) (V : Inv (rs I))  (x y z u w : Int32): am_R mX11_join (mpo sh P I (j_res (rs I) x y z u w) (j_op (rs I) x y z u w)) 1 22 0 0 0 [some (.ref 0), some (.int x), some (.int y), some (.int z), some (.int u), some (.int w), none, none, none, none, none] [] sh I P := by
  refine r_aload_n dX11_join_0 rfl ?_
  refine r_iconst dX11_join_1 (v := nI 0) kc_0 ?_
  refine r_putI dX11_join_2 f_X11_134 (S.1 _ _ rfl) rfl rfl rfl ?_
  have e : rs (va_up I 0 (upd (I 0) 0 (nI 0))) = rs I := rs_no rfl
  have h := b_X11_join (I := va_up I 0 (upd (I 0) 0 (nI 0))) S (by rw [e]; exact V) x y z u w
  rw [e] at h
  exact mpo_z h
end M6
