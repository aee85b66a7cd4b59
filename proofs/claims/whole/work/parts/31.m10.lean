/-! the reference: pack, the whole -/
noncomputable def pkF (kd ag : Nat → Int32) (u : PKT) (t : Nat) : Nat → PKT
  | 0 => u
  | i + 1 => pkA kd ag (pkF kd ag u t i) (t + i)
theorem pkF_b (kd ag : Nat → Int32) (u : PKT) (t : Nat) : ∀ i, (pkF kd ag u t i).1 = u.1 ∧ (pkF kd ag u t i).2.1 ≤ u.2.1 + i ∧ (pkF kd ag u t i).2.2.1 = u.2.2.1
  | 0 => ⟨rfl, Nat.le_refl _, rfl⟩
  | i + 1 => by
    have ih := pkF_b kd ag u t i
    have h := pkA_b kd ag (pkF kd ag u t i) (t + i)
    exact ⟨h.1.trans ih.1, by have := h.2.1; show (pkA _ _ _ _).2.1 ≤ _; omega, h.2.2.1.trans ih.2.2⟩
/-- from one begin to the next -/
theorem pkS_F {C : Nat → Nat × Int32} {kd ag : Nat → Int32} {s0 : PKT} {t : Nat} (hn : (pkS C kd ag s0 t).2.2.1 = t) (hl : 1 ≤ (C t).1) : ∀ i, i + 1 ≤ (C t).1 → pkS C kd ag s0 (t + (i + 1)) = pkF kd ag (pkN (pkS C kd ag s0 t) t (C t).1 (C t).2) t (i + 1)
  | 0, _ => by
    show pkA kd ag (pkM C (pkS C kd ag s0 t) t) t = pkA kd ag (pkN (pkS C kd ag s0 t) t (C t).1 (C t).2) (t + 0)
    rw [pkM, if_pos hn]
    rfl
  | i + 1, h => by
    have ih := pkS_F hn hl i (by omega)
    have e : (pkS C kd ag s0 (t + (i + 1))).2.2.1 = t + (C t).1 := by
      rw [ih, (pkF_b kd ag _ t (i + 1)).2.2]
      rfl
    show pkA kd ag (pkM C (pkS C kd ag s0 (t + (i + 1))) (t + (i + 1))) (t + (i + 1)) = pkA kd ag (pkF kd ag _ t (i + 1)) (t + (i + 1))
    rw [pkM, if_neg (by rw [e]; omega), ih]
theorem pkS_nx {C : Nat → Nat × Int32} {kd ag : Nat → Int32} {s0 : PKT} {t : Nat} (hn : (pkS C kd ag s0 t).2.2.1 = t) (hl : 1 ≤ (C t).1) : (pkS C kd ag s0 (t + (C t).1)).2.2.1 = t + (C t).1 := by
  obtain ⟨i, hi⟩ : ∃ i, (C t).1 = i + 1 := ⟨(C t).1 - 1, by omega⟩
  have h := pkS_F hn hl i (by omega)
  rw [hi, h, (pkF_b kd ag _ t (i + 1)).2.2, ← hi]
  rfl
theorem pkC_congr {sd sd' : Nat → Nat → Prop} {ln ln' : Nat → Nat} {T T' : Nat → Nat} {q : Nat} {k0 : Int32} : ∀ {m : Nat}, (∀ r, r < m → (sd q r ↔ sd' q r)) → (∀ r, r < m → ln r = ln' r) → (∀ r, r < m → sd q r → T (q + ln r) = T' (q + ln r)) → T q = T' q → pkC T sd ln q k0 m = pkC T' sd' ln' q k0 m
  | 0, _, _, _, _ => rfl
  | m + 1, h1, h2, h3, h4 => by
    have ih := pkC_congr (k0 := k0) (m := m) (fun r hr => h1 r (by omega)) (fun r hr => h2 r (by omega)) (fun r hr => h3 r (by omega)) h4
    unfold pkC
    rw [ih, h2 m (by omega), h4]
    have e : ((pkC T' sd' ln' q k0 m).1 < ln' m ∧ sd q m ∧ 1 + T (q + ln' m) = T' q) ↔ ((pkC T' sd' ln' q k0 m).1 < ln' m ∧ sd' q m ∧ 1 + T' (q + ln' m) = T' q) := by
      constructor
      · rintro ⟨a, b, c⟩
        have h5 := h3 m (by omega) b
        rw [h2 m (by omega)] at h5
        exact ⟨a, (h1 m (by omega)).mp b, by rw [← h5]; exact c⟩
      · rintro ⟨a, b, c⟩
        have b' := (h1 m (by omega)).mpr b
        have h5 := h3 m (by omega) b'
        rw [h2 m (by omega)] at h5
        exact ⟨a, b', by rw [h5]; exact c⟩
    by_cases g : (pkC T' sd' ln' q k0 m).1 < ln' m ∧ sd q m ∧ 1 + T (q + ln' m) = T' q
    · rw [cif_t g, cif_t (e.mp g)]
    · rw [cif_f g, cif_f (fun z => g (e.mpr z))]
theorem pkR_rs1 {K H : AIn} {s : PKT} (h : pkR K s H) : rs H = pk1 (rs K) s := by
  obtain ⟨h1, h2, h3, h4, h5⟩ := h
  funext r
  by_cases a : r = 11
  · subst a; rw [rs_at rfl, h2]; rfl
  · by_cases b : r = 12
    · subst b; rw [rs_at rfl, h3]; rfl
    · by_cases c : r = 13
      · subst c; rw [rs_at rfl, h4]; rfl
      · by_cases d : r = 14
        · subst d; rw [rs_at rfl, h5]; rfl
        · rw [pk1, va_up_ne _ _ d, va_up_ne _ _ c, va_up_ne _ _ b, va_up_ne _ _ a]
          unfold rs
          rw [h1 r a b c d]
section M10
variable {sh : ASh} {I : AIn} {P : APt}
theorem l_X11_packA (S : St_m sh P) {post : APo} {K : AIn} {q n m t len : Nat} {F : Nat → Int32} {T : Nat → Nat} {u : PKT} {num : Int32} {z : Option Value} (hK : pkK K q n m F T) (htl : t + len ≤ n) (hu : u.2.1 + len < 300)
    (G : ∀ H x7, pkR K (pkF (fun j => rs K 3 (40 * q + j)) (fun j => rs K 4 (40 * q + j)) u t len) H → am_R mX11_pack post 2 52 0 0 296 [some (.ref 0), some (.int (nI q)), some (.int (nI n)), some (.int (nI t)), some (.int (nI len)), some (.int num), z, x7] [] sh H P) : ∀ (k i : Nat), i + k = len → ∀ H, pkR K (pkF (fun j => rs K 3 (40 * q + j)) (fun j => rs K 4 (40 * q + j)) u t i) H → am_R mX11_pack post 2 52 0 0 257 [some (.ref 0), some (.int (nI q)), some (.int (nI n)), some (.int (nI t)), some (.int (nI len)), some (.int num), z, some (.int (nI (t + i)))] [] sh H P := by
  obtain ⟨V, hq, hn, hfl, hT, h910⟩ := hK
  have b2 : n ≤ 40 := by rw [← hn]; exact (V.sz hq).2
  intro k
  induction k with
  | zero =>
    intro i hi H hH
    have e : i = len := by omega
    subst e
    refine r_iload dX11_pack_257 rfl ?_
    refine r_iload_n dX11_pack_259 rfl ?_
    refine r_iload dX11_pack_260 rfl ?_
    first | refine r_iaddN dX11_pack_262 ?_ | refine r_iadd dX11_pack_262 ?_
    refine r_icmp_geN 296 dX11_pack_263 (by decide) (by omega) (by omega) (fun h263 => ?_) (fun h263 => ?_)
    · exact G H _ hH
    · exact absurd h263 (by omega)
  | succ k ih =>
    intro i hi H hH
    have hb := (pkF_b (fun j => rs K 3 (40 * q + j)) (fun j => rs K 4 (40 * q + j)) u t i).2.1
    have hst : pkF (fun j => rs K 3 (40 * q + j)) (fun j => rs K 4 (40 * q + j)) u t (i + 1) = cif (hasA (nv (rs K 3 (40 * q + (t + i))))) (pkB (pkF (fun j => rs K 3 (40 * q + j)) (fun j => rs K 4 (40 * q + j)) u t i) (rs K 4 (40 * q + (t + i)))) (pkF (fun j => rs K 3 (40 * q + j)) (fun j => rs K 4 (40 * q + j)) u t i) := rfl
    have ih2 := ih (i + 1) (by omega)
    generalize pkF (fun j => rs K 3 (40 * q + j)) (fun j => rs K 4 (40 * q + j)) u t i = s at hH hb hst
    have e9 : H 9 (t + i) = rs K 3 (40 * q + (t + i)) := by rw [hH.1 9 (by decide) (by decide) (by decide) (by decide)]; exact (h910 (t + i) (by omega)).1
    have e10 : H 10 (t + i) = rs K 4 (40 * q + (t + i)) := by rw [hH.1 10 (by decide) (by decide) (by decide) (by decide)]; exact (h910 (t + i) (by omega)).2
    have e13 : H 13 0 = nI s.2.1 := by rw [hH.2.2.2.1]; rfl
    have hkd := (V.2.2.1 q (t + i) hq (by rw [hn]; omega)).1
    have ek := hkd.1
    have bk2 := hkd.2
    generalize hD : nv (rs K 3 (40 * q + (t + i))) = D at ek bk2 hst
    rw [ek] at e9
    refine r_iload dX11_pack_257 rfl ?_
    refine r_iload_n dX11_pack_259 rfl ?_
    refine r_iload dX11_pack_260 rfl ?_
    first | refine r_iaddN dX11_pack_262 ?_ | refine r_iadd dX11_pack_262 ?_
    refine r_icmp_geN 296 dX11_pack_263 (by decide) (by omega) (by omega) (fun h263 => ?_) (fun h263 => ?_)
    · exact absurd h263 (by omega)
    · refine r_aload_n dX11_pack_266 rfl ?_
      refine r_getP dX11_pack_267 g_X11_34 (S.1 _ _ rfl) rfl (S.2 _ _ _ rfl) ?_
      refine r_iload dX11_pack_270 rfl ?_
      refine r_iaload _ dX11_pack_272 (S.1 _ _ rfl) rfl (by first | decide | omega) (by decide) ?_
      rw [e9]
      refine r_callS1 (fr' := 0) (lo' := 0) (mc' := 0) (ms' := 0) dX11_pack_273 mm_X11_hasArgument ms_X11_hasArgument l_X11_158 (by decide) ⟨by decide, by decide⟩ (Nat.zero_le _) (Nat.zero_le _) (Nat.le_of_ble_eq_true rfl) (c_X11_hasArgument (by omega)) (am_ki ?_)
      rintro v273 _ _ _ ⟨hb273, rfl, rfl, rfl⟩
      refine r_if_eq 290 dX11_pack_276 (by decide) (fun h276 => ?_) (fun h276 => ?_)
      · replace h276 := hb273.f h276
        first | refine r_iincN dX11_pack_290 rfl kc_1 ?_ | refine r_iinc dX11_pack_290 rfl rfl ?_
        dsimp only [List.set]
        refine r_goto 257 dX11_pack_293 (by decide) ?_
        rw [hst] at ih2
        first
          | (rw [cif_t h276] at ih2; exact ih2 _ (hH.b _))
          | (rw [cif_f h276] at ih2; exact ih2 _ hH)
      · replace h276 := hb273.t h276
        refine r_aload_n dX11_pack_279 rfl ?_
        refine r_aload_n dX11_pack_280 rfl ?_
        refine r_getP dX11_pack_281 g_X11_37 (S.1 _ _ rfl) rfl (S.2 _ _ _ rfl) ?_
        refine r_iload dX11_pack_284 rfl ?_
        refine r_iaload _ dX11_pack_286 (S.1 _ _ rfl) rfl (by first | decide | omega) (by decide) ?_
        rw [e10]
        refine r_callV1 (fr' := 0) (lo' := 0) (mc' := 0) (ms' := 0) dX11_pack_287 mm_X11_putByte mv_X11_putByte l_X11_183 (S.1 _ _ rfl) mc_X11_putByte (by decide) ⟨by decide, by decide⟩ (Nat.zero_le _) (Nat.zero_le _) (Nat.le_of_ble_eq_true rfl) (c_X11_putByte S e13 (by omega)) (am_kv ?_)
        rintro _ _ _ ⟨rfl, rfl, rfl⟩
        first | refine r_iincN dX11_pack_290 rfl kc_1 ?_ | refine r_iinc dX11_pack_290 rfl rfl ?_
        dsimp only [List.set]
        refine r_goto 257 dX11_pack_293 (by decide) ?_
        rw [hst] at ih2
        first
          | (rw [cif_t h276] at ih2; exact ih2 _ (hH.b _))
          | (rw [cif_f h276] at ih2; exact ih2 _ hH)
theorem l_X11_packL (S : St_m sh P) {J K : AIn} {q n m : Nat} {F : Nat → Int32} {T : Nat → Nat} {C : Nat → Nat × Int32} {s0 : PKT} {cx bx : Nat → Int32} (hs0 : s0 = (0, 0, 0, cx, bx)) (hK : pkK K q n m F T) (hC : ∀ t, t < n → C t = pkC T (sdp (rs K) F q) (rln F) t (rs K 3 (40 * q + t)) m) (hJ : hi K J) : ∀ (k t : Nat), t ≤ n → n ≤ t + k → (pkS C (fun j => rs K 3 (40 * q + j)) (fun j => rs K 4 (40 * q + j)) s0 t).2.2.1 = t → ∀ H, pkR K (pkS C (fun j => rs K 3 (40 * q + j)) (fun j => rs K 4 (40 * q + j)) s0 t) H → ∀ x4 x5 x6 x7, am_R mX11_pack (mpo sh P J (nI (pkS C (fun j => rs K 3 (40 * q + j)) (fun j => rs K 4 (40 * q + j)) s0 n).1) (pk1 (rs K) (pkS C (fun j => rs K 3 (40 * q + j)) (fun j => rs K 4 (40 * q + j)) s0 n))) 2 52 0 0 102 [some (.ref 0), some (.int (nI q)), some (.int (nI n)), some (.int (nI t)), x4, x5, x6, x7] [] sh H P := by
  have hK2 := hK
  obtain ⟨V, hq, hn, ⟨hF, h28, hO, hL⟩, hT, h910⟩ := hK
  have b2 : n ≤ 40 := by rw [← hn]; exact (V.sz hq).2
  intro k
  induction k with
  | zero =>
    intro t h1 h2 hnx H hH x4 x5 x6 x7
    have e : t = n := by omega
    subst e
    have e11 : H 11 0 = nI (pkS C (fun j => rs K 3 (40 * q + j)) (fun j => rs K 4 (40 * q + j)) s0 t).1 := by rw [hH.2.1]; rfl
    refine r_iload_n dX11_pack_102 rfl ?_
    refine r_iload_n dX11_pack_103 rfl ?_
    refine r_icmp_geN 304 dX11_pack_104 (by decide) (by omega) (by omega) (fun h104 => ?_) (fun h104 => ?_)
    · refine r_aload_n dX11_pack_304 rfl ?_
      refine r_getP dX11_pack_305 g_X11_40 (S.1 _ _ rfl) rfl (S.2 _ _ _ rfl) ?_
      refine r_iconst dX11_pack_308 (v := nI 0) kc_0 ?_
      refine r_iaload _ dX11_pack_309 (S.1 _ _ rfl) rfl (by first | decide | omega) (by decide) ?_
      rw [e11]
      refine r_ireturn dX11_pack_310 .int rfl rfl ?_
      exact ⟨_, rfl, rfl, pkR_rs1 hH, fun r hr => by rw [hH.1 r (by omega) (by omega) (by omega) (by omega)]; exact hJ r hr, rfl, rfl⟩
    · exact absurd h104 (by omega)
  | succ k ih =>
    intro t h1 h2 hnx H hH x4 x5 x6 x7
    rcases Nat.lt_or_ge t n with htn | htn
    · have hb : (pkS C (fun j => rs K 3 (40 * q + j)) (fun j => rs K 4 (40 * q + j)) s0 t).1 ≤ t ∧ (pkS C (fun j => rs K 3 (40 * q + j)) (fun j => rs K 4 (40 * q + j)) s0 t).2.1 ≤ 2 * t := by rw [hs0]; exact pkS_b C _ _ cx bx t
      have hcb := pkC_b (T := T) (k0 := rs K 3 (40 * q + t)) htn (m := m) (sd := sdp (rs K) F q) (ln := rln F) (fun i hi hsd => by rw [← hn]; exact (sdp_in hO t i (by rw [hn]; exact htn) (by omega) hsd).2)
      have e9 : H 9 t = rs K 3 (40 * q + t) := by rw [hH.1 9 (by decide) (by decide) (by decide) (by decide)]; exact (h910 t htn).1
      have hG : ∀ y6 y7, am_R mX11_pack (mpo sh P J (nI (pkS C (fun j => rs K 3 (40 * q + j)) (fun j => rs K 4 (40 * q + j)) s0 n).1) (pk1 (rs K) (pkS C (fun j => rs K 3 (40 * q + j)) (fun j => rs K 4 (40 * q + j)) s0 n))) 2 52 0 0 198 [some (.ref 0), some (.int (nI q)), some (.int (nI n)), some (.int (nI t)), some (.int (nI (pkC T (sdp (rs K) F q) (rln F) t (rs K 3 (40 * q + t)) m).1)), some (.int (pkC T (sdp (rs K) F q) (rln F) t (rs K 3 (40 * q + t)) m).2), y6, y7] [] sh H P := by
        intro y6 y7
        rw [← hC t htn] at hcb ⊢
        have hnx2 := pkS_nx hnx hcb.1
        have hFF := fun i hi => pkS_F hnx hcb.1 i hi
        have ih2 := ih (t + (C t).1) hcb.2 (by omega) hnx2
        have efin : pkS C (fun j => rs K 3 (40 * q + j)) (fun j => rs K 4 (40 * q + j)) s0 (t + (C t).1) = pkF (fun j => rs K 3 (40 * q + j)) (fun j => rs K 4 (40 * q + j)) (pkN (pkS C (fun j => rs K 3 (40 * q + j)) (fun j => rs K 4 (40 * q + j)) s0 t) t (C t).1 (C t).2) t (C t).1 := by
          obtain ⟨i, hi⟩ : ∃ i, (C t).1 = i + 1 := ⟨(C t).1 - 1, by omega⟩
          have h9 := hFF i (by omega)
          rw [hi] at h9 ⊢
          exact h9
        rw [efin] at ih2
        generalize hsx : pkS C (fun j => rs K 3 (40 * q + j)) (fun j => rs K 4 (40 * q + j)) s0 t = s at hH hb hnx ih2
        generalize hlen : (C t).1 = len at hcb ih2 ⊢
        generalize hnum : (C t).2 = num at ih2 ⊢
        have e11 : H 11 0 = nI s.1 := by rw [hH.2.1]; rfl
        have e13 : H 13 0 = nI s.2.1 := by rw [hH.2.2.2.1]; rfl
        refine r_iconst dX11_pack_198 (v := nI 3) kc_3 ?_
        refine r_aload_n dX11_pack_199 rfl ?_
        refine r_getP dX11_pack_200 g_X11_40 (S.1 _ _ rfl) rfl (S.2 _ _ _ rfl) ?_
        refine r_iconst dX11_pack_203 (v := nI 0) kc_0 ?_
        refine r_iaload _ dX11_pack_204 (S.1 _ _ rfl) rfl (by first | decide | omega) (by decide) ?_
        rw [e11]
        first | refine r_imulN dX11_pack_205 ?_ | refine r_imul dX11_pack_205 ?_
        refine r_istore dX11_pack_206 (Nat.le_of_ble_eq_true rfl) ?_
        dsimp only [List.set]
        refine r_aload_n dX11_pack_208 rfl ?_
        refine r_getP dX11_pack_209 g_X11_43 (S.1 _ _ rfl) rfl (S.2 _ _ _ rfl) ?_
        refine r_iload dX11_pack_212 rfl ?_
        refine r_iload dX11_pack_214 rfl ?_
        refine r_iastore _ dX11_pack_216 (S.1 _ _ rfl) rfl (by first | decide | omega) (by decide) ?_
        refine r_aload_n dX11_pack_217 rfl ?_
        refine r_getP dX11_pack_218 g_X11_43 (S.1 _ _ rfl) rfl (S.2 _ _ _ rfl) ?_
        refine r_iload dX11_pack_221 rfl ?_
        refine r_iconst dX11_pack_223 (v := nI 1) kc_1 ?_
        first | refine r_iaddN dX11_pack_224 ?_ | refine r_iadd dX11_pack_224 ?_
        refine r_iload_n dX11_pack_225 rfl ?_
        refine r_iastore _ dX11_pack_226 (S.1 _ _ rfl) rfl (by first | decide | omega) (by decide) ?_
        refine r_aload_n dX11_pack_227 rfl ?_
        refine r_getP dX11_pack_228 g_X11_43 (S.1 _ _ rfl) rfl (S.2 _ _ _ rfl) ?_
        refine r_iload dX11_pack_231 rfl ?_
        refine r_iconst dX11_pack_233 (v := nI 2) kc_2 ?_
        first | refine r_iaddN dX11_pack_234 ?_ | refine r_iadd dX11_pack_234 ?_
        refine r_iload dX11_pack_235 rfl ?_
        refine r_iastore _ dX11_pack_237 (S.1 _ _ rfl) rfl (by first | decide | omega) (by decide) ?_
        refine r_aload_n dX11_pack_238 rfl ?_
        refine r_getP dX11_pack_239 g_X11_40 (S.1 _ _ rfl) rfl (S.2 _ _ _ rfl) ?_
        refine r_iconst dX11_pack_242 (v := nI 0) kc_0 ?_
        refine r_dup2 dX11_pack_243 ?_
        refine r_iaload _ dX11_pack_244 (S.1 _ _ rfl) rfl (by first | decide | omega) (by decide) ?_
        simp (decide := true) only [va_up_ne, va_up_self]
        rw [e11]
        refine r_iconst dX11_pack_245 (v := nI 1) kc_1 ?_
        first | refine r_iaddN dX11_pack_246 ?_ | refine r_iadd dX11_pack_246 ?_
        refine r_iastore _ dX11_pack_247 (S.1 _ _ rfl) rfl (by first | decide | omega) (by decide) ?_
        simp (decide := true) only [va_up_ne, va_up_self, bx_uu]
        refine r_aload_n dX11_pack_248 rfl ?_
        refine r_iload dX11_pack_249 rfl ?_
        refine r_callV1 (fr' := 0) (lo' := 0) (mc' := 0) (ms' := 0) dX11_pack_251 mm_X11_putByte mv_X11_putByte l_X11_183 (S.1 _ _ rfl) mc_X11_putByte (by decide) ⟨by decide, by decide⟩ (Nat.zero_le _) (Nat.zero_le _) (Nat.le_of_ble_eq_true rfl) (c_X11_putByte S (b := s.2.1) (by simp (decide := true) only [va_up_ne]; exact e13) (by omega)) (am_kv ?_)
        rintro _ _ _ ⟨rfl, rfl, rfl⟩
        refine r_iload_n dX11_pack_254 rfl ?_
        refine r_istore dX11_pack_255 (Nat.le_of_ble_eq_true rfl) ?_
        dsimp only [List.set]
        have hR1 := (hH.n t len num).b num
        refine l_X11_packA (u := pkN s t len num) (F := F) (m := m) (T := T) S hK2 (by omega) (by show s.2.1 + 1 + len < 300; omega) (fun H2 y hH2 => ?_) len 0 (Nat.zero_add _) _ hR1
        refine r_iload_n dX11_pack_296 rfl ?_
        refine r_iload dX11_pack_297 rfl ?_
        first | refine r_iaddN dX11_pack_299 ?_ | refine r_iadd dX11_pack_299 ?_
        refine r_istore_n dX11_pack_300 (Nat.le_of_ble_eq_true rfl) ?_
        dsimp only [List.set]
        refine r_goto 102 dX11_pack_301 (by decide) ?_
        exact ih2 H2 hH2 _ _ _ _
      refine r_iload_n dX11_pack_102 rfl ?_
      refine r_iload_n dX11_pack_103 rfl ?_
      refine r_icmp_geN 304 dX11_pack_104 (by decide) (by omega) (by omega) (fun h104 => ?_) (fun h104 => ?_)
      · exact absurd h104 (by omega)
      · refine r_iconst dX11_pack_107 (v := nI 1) kc_1 ?_
        refine r_istore dX11_pack_108 (Nat.le_of_ble_eq_true rfl) ?_
        dsimp only [List.set]
        refine r_aload_n dX11_pack_110 rfl ?_
        refine r_getP dX11_pack_111 g_X11_34 (S.1 _ _ rfl) rfl (S.2 _ _ _ rfl) ?_
        refine r_iload_n dX11_pack_114 rfl ?_
        refine r_iaload _ dX11_pack_115 (S.1 _ _ rfl) rfl (by first | decide | omega) (by decide) ?_
        rw [e9]
        refine r_istore dX11_pack_116 (Nat.le_of_ble_eq_true rfl) ?_
        dsimp only [List.set]
        refine r_iconst dX11_pack_118 (v := nI 0) kc_0 ?_
        refine r_istore dX11_pack_119 (Nat.le_of_ble_eq_true rfl) ?_
        dsimp only [List.set]
        exact l_X11_packC S hK2 hH htn hG m 0 (Nat.zero_add _) _
    · have e : t = n := by omega
      subst e
      have e11 : H 11 0 = nI (pkS C (fun j => rs K 3 (40 * q + j)) (fun j => rs K 4 (40 * q + j)) s0 t).1 := by rw [hH.2.1]; rfl
      refine r_iload_n dX11_pack_102 rfl ?_
      refine r_iload_n dX11_pack_103 rfl ?_
      refine r_icmp_geN 304 dX11_pack_104 (by decide) (by omega) (by omega) (fun h104 => ?_) (fun h104 => ?_)
      · refine r_aload_n dX11_pack_304 rfl ?_
        refine r_getP dX11_pack_305 g_X11_40 (S.1 _ _ rfl) rfl (S.2 _ _ _ rfl) ?_
        refine r_iconst dX11_pack_308 (v := nI 0) kc_0 ?_
        refine r_iaload _ dX11_pack_309 (S.1 _ _ rfl) rfl (by first | decide | omega) (by decide) ?_
        rw [e11]
        refine r_ireturn dX11_pack_310 .int rfl rfl ?_
        exact ⟨_, rfl, rfl, pkR_rs1 hH, fun r hr => by rw [hH.1 r (by omega) (by omega) (by omega) (by omega)]; exact hJ r hr, rfl, rfl⟩
      · exact absurd h104 (by omega)
end M10
