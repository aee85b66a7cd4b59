/-! the reference: choose, the loops -/
section M26
variable {sh : ASh} {I : AIn} {P : APt}
def chI (I : AIn) (n : Nat) (f : Nat → Nat) (way : Int32) (s : CS) (H : AIn) : Prop := chF I H ∧ fnd H n f ∧ (∀ j, j < n → H 37 j = nI (gn (rs I) way (f j))) ∧ bR (pl (rs I) way) n f s H
theorem pl_le {σ : AIn} (V : iP σ) (way : Int32) : pl σ way ≤ 2400000 := cs_le V (rOk_0 _)
theorem gn_le {σ : AIn} (V : iP σ) (way : Int32) (v : Nat) : gn σ way v ≤ pl σ way := by
  by_cases h : win σ v
  · unfold gn; rw [cif_t h]; exact Nat.sub_le _ _
  · rw [gn_0 h]; exact Nat.zero_le _
theorem chI_42 {n : Nat} {f : Nat → Nat} {way : Int32} {s : CS} {H : AIn} {g : Nat → Int32} (h : chI I n f way s H) : chI I n f way s (va_up H 42 g) :=
  ⟨chF_up h.1 (by omega), h.2.1, h.2.2.1, h.2.2.2⟩
theorem chI_tn {n : Nat} {f : Nat → Nat} {way : Int32} {s : CS} {H H' : AIn} {m a b c v w : Nat} (h : chI I n f way s H) (ha : a < n) (hb : m = 2 → b < n) (hm : m = 1 ∨ m = 2) (hv : f a = v) (hw : m = 2 → f b = w) (hc : c ≤ pl (rs I) way)
    (h1 : ∀ r, r ≠ 0 → r ≠ 29 → r ≠ 30 → r ≠ 31 → r ≠ 41 → H' r = H r) (h2 : ∀ j, j ≠ 28 → j ≠ 39 → j ≠ 40 → H' 0 j = H 0 j) (h3 : c < pl (rs I) way - s.1 → H' 0 39 = nI c ∧ H' 0 40 = nI m ∧ H' 41 0 = nI a ∧ (m = 2 → H' 41 1 = nI b)) (h4 : ¬ c < pl (rs I) way - s.1 → H' 0 39 = nI (pl (rs I) way - s.1) ∧ H' 0 40 = H 0 40 ∧ H' 41 = H 41) :
    chI I n f way (if s.1 < pl (rs I) way - c then (pl (rs I) way - c, m, v, w) else s) H' := by
  obtain ⟨k1, k2, k3, k4⟩ := h
  have hs := k4.2.1
  refine ⟨fun r a0 a1 a2 a3 a4 a5 a6 a7 => ?_, ⟨by rw [h2 38 (by decide) (by decide) (by decide)]; exact k2.1, fun j hj => by rw [h1 36 (by decide) (by decide) (by decide) (by decide) (by decide)]; exact k2.2.1 j hj, k2.2.2⟩, fun j hj => by rw [h1 37 (by decide) (by decide) (by decide) (by decide) (by decide)]; exact k3 j hj, ?_⟩
  · rw [h1 r a0 a1 a2 a3 a6]
    exact k1 r a0 a1 a2 a3 a4 a5 a6 a7
  · by_cases hlt : c < pl (rs I) way - s.1
    · rw [if_pos (by omega)]
      obtain ⟨q1, q2, q3, q4⟩ := h3 hlt
      refine ⟨?_, ?_, q2, ?_, fun _ => ⟨a, ha, q3, hv⟩, fun h9 => ?_⟩
      · rw [q1]
        show _ = nI (pl (rs I) way - (pl (rs I) way - c))
        rw [show pl (rs I) way - (pl (rs I) way - c) = c by omega]
      · exact Nat.sub_le _ _
      · show m ≤ 2
        omega
      · have e : m = 2 := by
          have h9 : 2 ≤ m := h9
          omega
        exact ⟨b, hb e, q4 e, hw e⟩
    · rw [if_neg (by omega)]
      obtain ⟨q1, q2, q3⟩ := h4 hlt
      exact ⟨q1, k4.2.1, by rw [q2]; exact k4.2.2.1, k4.2.2.2.1, by rw [q3]; exact k4.2.2.2.2.1, by rw [q3]; exact k4.2.2.2.2.2⟩
theorem l_X11_ch3i (S : St_m sh P) (V : iP (rs I)) {x1 x2 way : Int32} {n : Nat} {f : Nat → Nat} (hn : n ≤ 360) (hW : ∀ j, j < n → wOk (f j)) {post : APo} {t : Nat} (ht : ∀ j, j < n → gn (rs I) way (f j) ≤ t) (ht2 : t ≤ 2400000) {s0 : CS} {a : Nat} (ha : a < n) (K : ∀ H x7, chI I n f way (fo (fun s j => sg2 (gn (rs I) way) (g2 (rs I) way) (f a) s (f j)) s0 n) H → am_R mX11_choose post 4 99 0 0 286 [some (.ref 0), some (.int x1), some (.int x2), some (.int way), some (.int (nI (pl (rs I) way))), some (.int (nI t)), some (.int (nI a)), x7] [] sh H P) : ∀ (m b : Nat), b + m = n → a < b → ∀ H, chI I n f way (fo (fun s j => sg2 (gn (rs I) way) (g2 (rs I) way) (f a) s (f j)) s0 b) H → am_R mX11_choose post 4 99 0 0 204 [some (.ref 0), some (.int x1), some (.int x2), some (.int way), some (.int (nI (pl (rs I) way))), some (.int (nI t)), some (.int (nI a)), some (.int (nI b))] [] sh H P := by
  have hpl := pl_le V way
  intro m
  induction m with
  | zero =>
    intro b hb hab H hC
    have e : b = n := by omega
    subst e
    refine r_iload dX11_choose_204 rfl ?_
    refine r_aload_n dX11_choose_206 rfl ?_
    refine r_getI dX11_choose_207 g_X11_211 (S.1 _ _ rfl) rfl ?_
    rw [hC.2.1.1]
    refine r_icmp_geN 286 dX11_choose_210 (by decide) (by omega) (by omega) (fun h210 => ?_) (fun h210 => ?_)
    · exact K _ _ hC
    · exact absurd h210 (by omega)
  | succ m ih =>
    intro b hb hab H hC
    have ga := hC.2.2.1 a ha
    have gb := hC.2.2.1 b (by omega)
    have la := gn_le V way (f a)
    have lb := gn_le V way (f b)
    have hB := hC.2.2.2.1
    have hB2 := hC.2.2.2.2.1
    have hfab := hC.2.1.2.2.1 a b hab (by omega)
    have hwa := hW a ha
    have hwb := hW b (by omega)
    have hcl := cs_pl (σ := rs I) (way := way) (rOk_2 (rwA_20 (f a) (f b) hwa.ln.2) hwa (rwA_21 (f a) (f b)) hwb)
    have st : ∀ H', chI I n f way (fo (fun s j => sg2 (gn (rs I) way) (g2 (rs I) way) (f a) s (f j)) s0 (b + 1)) H' → am_R mX11_choose post 4 99 0 0 204 [some (.ref 0), some (.int x1), some (.int x2), some (.int way), some (.int (nI (pl (rs I) way))), some (.int (nI t)), some (.int (nI a)), some (.int (nI (b + 1)))] [] sh H' P := fun H' h => ih (b + 1) (by omega) (by omega) H' h
    have estp : fo (fun s j => sg2 (gn (rs I) way) (g2 (rs I) way) (f a) s (f j)) s0 (b + 1) = sg2 (gn (rs I) way) (g2 (rs I) way) (f a) (fo (fun s j => sg2 (gn (rs I) way) (g2 (rs I) way) (f a) s (f j)) s0 b) (f b) := rfl
    have hst : n = b + (n - b) := by omega
    have hty := ht
    generalize hs : fo (fun s j => sg2 (gn (rs I) way) (g2 (rs I) way) (f a) s (f j)) s0 b = s at hC hB hB2 estp
    refine r_iload dX11_choose_204 rfl ?_
    refine r_aload_n dX11_choose_206 rfl ?_
    refine r_getI dX11_choose_207 g_X11_211 (S.1 _ _ rfl) rfl ?_
    rw [hC.2.1.1]
    refine r_icmp_geN 286 dX11_choose_210 (by decide) (by omega) (by omega) (fun h210 => ?_) (fun h210 => ?_)
    · exact absurd h210 (by omega)
    · refine r_aload_n dX11_choose_213 rfl ?_
      refine r_getP dX11_choose_214 g_X11_116 (S.1 _ _ rfl) rfl (S.2 _ _ _ rfl) ?_
      refine r_iload dX11_choose_217 rfl ?_
      refine r_iaload a dX11_choose_219 (S.1 _ _ rfl) rfl (by first | decide | omega) (by decide) ?_
      rw [ga]
      refine r_iload dX11_choose_220 rfl ?_
      first | refine r_iaddN dX11_choose_222 ?_ | refine r_iadd dX11_choose_222 ?_
      refine r_iload dX11_choose_223 rfl ?_
      refine r_aload_n dX11_choose_225 rfl ?_
      refine r_getI dX11_choose_226 g_X11_220 (S.1 _ _ rfl) rfl ?_
      rw [hB]
      first | refine r_isubN dX11_choose_229 (by omega) ?_ | refine r_isub dX11_choose_229 ?_
      refine r_icmp_leN 286 dX11_choose_230 (by decide) (by omega) (by omega) (fun h230 => ?_) (fun h230 => ?_)
      · have e2 : fo (fun s j => sg2 (gn (rs I) way) (g2 (rs I) way) (f a) s (f j)) s0 n = s := by
          rw [hst, fo_stay (n - b) (fun j h1 h2 => ?_), hs]
          rw [hs]
          have hj := ht j (by omega)
          unfold sg2
          exact if_neg (fun h9 => by omega)
        exact K _ _ (by rw [e2]; exact hC)
      · refine r_aload_n dX11_choose_233 rfl ?_
        refine r_getP dX11_choose_234 g_X11_116 (S.1 _ _ rfl) rfl (S.2 _ _ _ rfl) ?_
        refine r_iload dX11_choose_237 rfl ?_
        refine r_iaload a dX11_choose_239 (S.1 _ _ rfl) rfl (by first | decide | omega) (by decide) ?_
        rw [ga]
        refine r_aload_n dX11_choose_240 rfl ?_
        refine r_getP dX11_choose_241 g_X11_116 (S.1 _ _ rfl) rfl (S.2 _ _ _ rfl) ?_
        refine r_iload dX11_choose_244 rfl ?_
        refine r_iaload b dX11_choose_246 (S.1 _ _ rfl) rfl (by first | decide | omega) (by decide) ?_
        rw [gb]
        first | refine r_iaddN dX11_choose_247 ?_ | refine r_iadd dX11_choose_247 ?_
        refine r_iload dX11_choose_248 rfl ?_
        refine r_aload_n dX11_choose_250 rfl ?_
        refine r_getI dX11_choose_251 g_X11_220 (S.1 _ _ rfl) rfl ?_
        rw [hB]
        first | refine r_isubN dX11_choose_254 (by omega) ?_ | refine r_isub dX11_choose_254 ?_
        refine r_icmp_leN 280 dX11_choose_255 (by decide) (by omega) (by omega) (fun h255 => ?_) (fun h255 => ?_)
        · have e2 : fo (fun s j => sg2 (gn (rs I) way) (g2 (rs I) way) (f a) s (f j)) s0 (b + 1) = s := by
            rw [estp]
            unfold sg2
            exact if_neg (fun h9 => by omega)
          exact r_iincN dX11_choose_280 rfl kc_1 (r_goto 204 dX11_choose_283 (by decide) (st _ (by rw [e2]; exact hC)))
        · refine r_aload_n dX11_choose_258 rfl ?_
          refine r_getP dX11_choose_259 g_X11_122 (S.1 _ _ rfl) rfl (S.2 _ _ _ rfl) ?_
          refine r_iconst dX11_choose_262 (v := nI 0) kc_0 ?_
          refine r_iload dX11_choose_263 rfl ?_
          refine r_iastore 0 dX11_choose_265 (S.1 _ _ rfl) rfl (by first | decide | omega) (by decide) ?_
          refine r_aload_n dX11_choose_266 rfl ?_
          refine r_getP dX11_choose_267 g_X11_122 (S.1 _ _ rfl) rfl (S.2 _ _ _ rfl) ?_
          refine r_iconst dX11_choose_270 (v := nI 1) kc_1 ?_
          refine r_iload dX11_choose_271 rfl ?_
          refine r_iastore 1 dX11_choose_273 (S.1 _ _ rfl) rfl (by first | decide | omega) (by decide) ?_
          rw [va_up_self, bx_uu]
          refine r_aload_n dX11_choose_274 rfl ?_
          refine r_iconst dX11_choose_275 (v := nI 2) kc_2 ?_
          refine r_iload_n dX11_choose_276 rfl ?_
          have hD : chI I n f way s (va_up H 42 (upd (upd (H 42) 0 (nI a)) 1 (nI b))) := chI_42 hC
          have eR : rs (va_up H 42 (upd (upd (H 42) 0 (nI a)) 1 (nI b))) = rs I := chF_rs hD.1
          refine r_callV2 (fr' := 3) (lo' := 75) (mc' := 0) (ms' := 0) dX11_choose_277 mm_X11_tryNow mv_X11_tryNow l_X11_229 (S.1 _ _ rfl) mc_X11_tryNow (by decide) ⟨by decide, by decide⟩ (Nat.zero_le _) (Nat.zero_le _) (Nat.le_of_ble_eq_true rfl) (c_X11_tryNow2 (way := way) S (by rw [eR]; exact V) hD.2.1 hn ha hwa (by rw [va_up_self, pk_un (by decide)]; exact pk_us) (show b < n by omega) hwb (by rw [va_up_self]; exact pk_us) hD.2.2.2.1 (by omega)) (am_kv ?_)
          rintro _ H2 _ ⟨q1, q2, q3, q4, rfl, rfl⟩
          rw [eR] at q3 q4
          have hE := chI_tn hD ha (fun _ => show b < n by omega) (Or.inr rfl) rfl (fun _ => rfl) hcl q1 q2 q3 q4
          first | refine r_iincN dX11_choose_280 rfl kc_1 ?_ | refine r_iinc dX11_choose_280 rfl rfl ?_
          dsimp only [List.set]
          refine r_goto 204 dX11_choose_283 (by decide) ?_
          refine st _ ?_
          rw [estp]
          unfold sg2
          have e9 : g2 (rs I) way (f a) (f b) = pl (rs I) way - cs (rs I) way (rw2 (f a) (f b)) 2 := rfl
          by_cases h9 : s.1 < g2 (rs I) way (f a) (f b)
          · rw [if_pos ⟨hfab, by omega, h9⟩]
            rw [e9] at h9 ⊢
            rw [if_pos h9] at hE
            exact hE
          · rw [if_neg (fun h => h9 h.2.2)]
            rw [e9] at h9
            rw [if_neg h9] at hE
            exact hE
theorem l_X11_ch3 (S : St_m sh P) (V : iP (rs I)) {x1 x2 way : Int32} {n : Nat} {f : Nat → Nat} (hn : n ≤ 360) (hW : ∀ j, j < n → wOk (f j)) {post : APo} {t : Nat} (ht : ∀ j, j < n → gn (rs I) way (f j) ≤ t) (ht2 : t ≤ 2400000) (hx1 : x1 = nI 2) {s0 : CS} (K : ∀ H x6 x7, chI I n f way (fo (fun s i => fo (fun s j => sg2 (gn (rs I) way) (g2 (rs I) way) (f i) s (f j)) s n) s0 n) H → am_R mX11_choose post 4 99 0 0 292 [some (.ref 0), some (.int x1), some (.int x2), some (.int way), some (.int (nI (pl (rs I) way))), some (.int (nI t)), x6, x7] [] sh H P) : ∀ (m a : Nat), a + m = n → ∀ H x7, chI I n f way (fo (fun s i => fo (fun s j => sg2 (gn (rs I) way) (g2 (rs I) way) (f i) s (f j)) s n) s0 a) H → am_R mX11_choose post 4 99 0 0 184 [some (.ref 0), some (.int x1), some (.int x2), some (.int way), some (.int (nI (pl (rs I) way))), some (.int (nI t)), some (.int (nI a)), x7] [] sh H P := by
  subst hx1
  intro m
  induction m with
  | zero =>
    intro a ha H x7 hC
    have e : a = n := by omega
    subst e
    refine r_iload_n dX11_choose_184 rfl ?_
    refine r_iconst dX11_choose_185 (v := nI 1) kc_1 ?_
    refine r_icmp_leN 292 dX11_choose_186 (by decide) (by omega) (by omega) (fun h186 => ?_) (fun h186 => ?_)
    · exact absurd h186 (by omega)
    · refine r_iload dX11_choose_189 rfl ?_
      refine r_aload_n dX11_choose_191 rfl ?_
      refine r_getI dX11_choose_192 g_X11_211 (S.1 _ _ rfl) rfl ?_
      rw [hC.2.1.1]
      refine r_icmp_geN 292 dX11_choose_195 (by decide) (by omega) (by omega) (fun h195 => ?_) (fun h195 => ?_)
      · exact K _ _ _ hC
      · exact absurd h195 (by omega)
  | succ m ih =>
    intro a ha H x7 hC
    refine r_iload_n dX11_choose_184 rfl ?_
    refine r_iconst dX11_choose_185 (v := nI 1) kc_1 ?_
    refine r_icmp_leN 292 dX11_choose_186 (by decide) (by omega) (by omega) (fun h186 => ?_) (fun h186 => ?_)
    · exact absurd h186 (by omega)
    · refine r_iload dX11_choose_189 rfl ?_
      refine r_aload_n dX11_choose_191 rfl ?_
      refine r_getI dX11_choose_192 g_X11_211 (S.1 _ _ rfl) rfl ?_
      rw [hC.2.1.1]
      refine r_icmp_geN 292 dX11_choose_195 (by decide) (by omega) (by omega) (fun h195 => ?_) (fun h195 => ?_)
      · exact absurd h195 (by omega)
      · refine r_iload dX11_choose_198 rfl ?_
        refine r_iconst dX11_choose_200 (v := nI 1) kc_1 ?_
        first | refine r_iaddN dX11_choose_201 ?_ | refine r_iadd dX11_choose_201 ?_
        refine r_istore dX11_choose_202 (Nat.le_of_ble_eq_true rfl) ?_
        dsimp only [List.set]
        refine l_X11_ch3i S V hn hW ht ht2 (s0 := fo (fun s i => fo (fun s j => sg2 (gn (rs I) way) (g2 (rs I) way) (f i) s (f j)) s n) s0 a) (show a < n by omega) (fun H2 y7 h2 => ?_) (n - (a + 1)) (a + 1) (by omega) (Nat.lt_succ_self a) _ ?_
        · exact r_iincN dX11_choose_286 rfl kc_1 (r_goto 184 dX11_choose_289 (by decide) (ih (a + 1) (by omega) _ _ h2))
        · have e1 := fo_stay (f := (fun s j => sg2 (gn (rs I) way) (g2 (rs I) way) (f a) s (f j))) (s := fo (fun s i => fo (fun s j => sg2 (gn (rs I) way) (g2 (rs I) way) (f i) s (f j)) s n) s0 a) (b := 0) (a + 1) (fun j h1 h2 => by
            have h3 : f j ≤ f a := by
              rcases Nat.lt_or_ge j a with g | g
              · exact Nat.le_of_lt (hC.2.1.2.2.1 j a g (by omega))
              · have e : j = a := by omega
                subst e; exact Nat.le_refl _
            show sg2 _ _ (f a) _ (f j) = _
            unfold sg2
            exact if_neg (fun h9 => by omega))
          rw [Nat.zero_add] at e1
          rw [e1]
          exact hC
theorem l_X11_ch2 (S : St_m sh P) (V : iP (rs I)) {x1 x2 way : Int32} {n : Nat} {f : Nat → Nat} (hn : n ≤ 360) (hW : ∀ j, j < n → wOk (f j)) {post : APo} (hN : ∀ j, j < n → win (rs I) (f j)) (K : ∀ H t, (∀ j, j < n → gn (rs I) way (f j) ≤ t) → t ≤ 2400000 → chI I n f way (fo (fun s i => sg1 (gn (rs I) way) s (f i)) (0, 0, 0, 0) n) H → am_R mX11_choose post 4 99 0 0 181 [some (.ref 0), some (.int x1), some (.int x2), some (.int way), some (.int (nI (pl (rs I) way))), some (.int (nI t)), some (.int (nI n)), none] [] sh H P) : ∀ (m a : Nat), a + m = n → ∀ H t, (∀ j, j < a → gn (rs I) way (f j) ≤ t) → t ≤ 2400000 → chI I n f way (fo (fun s i => sg1 (gn (rs I) way) s (f i)) (0, 0, 0, 0) a) H → am_R mX11_choose post 4 99 0 0 109 [some (.ref 0), some (.int x1), some (.int x2), some (.int way), some (.int (nI (pl (rs I) way))), some (.int (nI t)), some (.int (nI a)), none] [] sh H P := by
  have hpl := pl_le V way
  intro m
  induction m with
  | zero =>
    intro a ha H t ht ht2 hC
    have e : a = n := by omega
    subst e
    refine r_iload dX11_choose_109 rfl ?_
    refine r_aload_n dX11_choose_111 rfl ?_
    refine r_getI dX11_choose_112 g_X11_211 (S.1 _ _ rfl) rfl ?_
    rw [hC.2.1.1]
    refine r_icmp_geN 181 dX11_choose_115 (by decide) (by omega) (by omega) (fun h115 => ?_) (fun h115 => ?_)
    · exact K _ _ ht ht2 hC
    · exact absurd h115 (by omega)
  | succ m ih =>
    intro a ha H t ht ht2 hC0
    have han : a < n := by omega
    have hC : chI I n f way (fo (fun s i => sg1 (gn (rs I) way) s (f i)) (0, 0, 0, 0) a) (va_up H 42 (upd (H 42) 0 (nI a))) := chI_42 hC0
    have ga0 := hC0.2.2.1 a han
    have ga := hC.2.2.1 a han
    have la := gn_le V way (f a)
    have hB := hC.2.2.2.1
    have hB2 := hC.2.2.2.2.1
    have hwa := hW a han
    have hcl := cs_pl (σ := rs I) (way := way) (rOk_1 (rwA_F (f a)) hwa)
    have eg : gn (rs I) way (f a) = pl (rs I) way - cs (rs I) way (rwF (f a)) 1 := cif_t (hN a han)
    have estp : fo (fun s i => sg1 (gn (rs I) way) s (f i)) (0, 0, 0, 0) (a + 1) = sg1 (gn (rs I) way) (fo (fun s i => sg1 (gn (rs I) way) s (f i)) (0, 0, 0, 0) a) (f a) := rfl
    have st0 : ∀ H' t', (∀ j, j < a + 1 → gn (rs I) way (f j) ≤ t') → t' ≤ 2400000 → chI I n f way (fo (fun s i => sg1 (gn (rs I) way) s (f i)) (0, 0, 0, 0) (a + 1)) H' → am_R mX11_choose post 4 99 0 0 109 [some (.ref 0), some (.int x1), some (.int x2), some (.int way), some (.int (nI (pl (rs I) way))), some (.int (nI t')), some (.int (nI (a + 1))), none] [] sh H' P := fun H' t' h1 h2 h3 => ih (a + 1) (by omega) H' t' h1 h2 h3
    rw [estp] at st0
    have hn38 := hC0.2.1.1
    generalize hs : fo (fun s i => sg1 (gn (rs I) way) s (f i)) (0, 0, 0, 0) a = s at hC hB hB2 st0
    have st : ∀ t', (∀ j, j < a + 1 → gn (rs I) way (f j) ≤ t') → t' ≤ 2400000 → am_R mX11_choose post 4 99 0 0 152 [some (.ref 0), some (.int x1), some (.int x2), some (.int way), some (.int (nI (pl (rs I) way))), some (.int (nI t')), some (.int (nI a)), none] [] sh (va_up H 42 (upd (H 42) 0 (nI a))) P := by
      intro t' ht' ht2'
      have eR : rs (va_up H 42 (upd (H 42) 0 (nI a))) = rs I := chF_rs hC.1
      refine r_aload_n dX11_choose_152 rfl ?_
      refine r_getP dX11_choose_153 g_X11_116 (S.1 _ _ rfl) rfl (S.2 _ _ _ rfl) ?_
      refine r_iload dX11_choose_156 rfl ?_
      refine r_iaload a dX11_choose_158 (S.1 _ _ rfl) rfl (by first | decide | omega) (by decide) ?_
      rw [ga]
      refine r_iload dX11_choose_159 rfl ?_
      refine r_aload_n dX11_choose_161 rfl ?_
      refine r_getI dX11_choose_162 g_X11_220 (S.1 _ _ rfl) rfl ?_
      rw [hB]
      first | refine r_isubN dX11_choose_165 (by omega) ?_ | refine r_isub dX11_choose_165 ?_
      refine r_icmp_leN 175 dX11_choose_166 (by decide) (by omega) (by omega) (fun h166 => ?_) (fun h166 => ?_)
      · have e2 : sg1 (gn (rs I) way) s (f a) = s := by
          unfold sg1
          exact if_neg (by omega)
        exact r_iincN dX11_choose_175 rfl kc_1 (r_goto 109 dX11_choose_178 (by decide) (st0 _ _ ht' ht2' (by rw [e2]; exact hC)))
      · refine r_aload_n dX11_choose_169 rfl ?_
        refine r_iconst dX11_choose_170 (v := nI 1) kc_1 ?_
        refine r_iload_n dX11_choose_171 rfl ?_
        refine r_callV2 (fr' := 3) (lo' := 75) (mc' := 0) (ms' := 0) dX11_choose_172 mm_X11_tryNow mv_X11_tryNow l_X11_229 (S.1 _ _ rfl) mc_X11_tryNow (by decide) ⟨by decide, by decide⟩ (Nat.zero_le _) (Nat.zero_le _) (Nat.le_of_ble_eq_true rfl) (c_X11_tryNow1 (way := way) S (by rw [eR]; exact V) hC.2.1 hn han hwa (by rw [va_up_self]; exact pk_us) hB (by omega)) (am_kv ?_)
        rintro _ H2 _ ⟨q1, q2, q3, q4, rfl, rfl⟩
        rw [eR] at q3 q4
        have hE := chI_tn (b := 0) (w := 0) hC han (fun h => absurd h (by decide)) (Or.inl rfl) rfl (fun h => absurd h (by decide)) hcl q1 q2 q3 q4
        first | refine r_iincN dX11_choose_175 rfl kc_1 ?_ | refine r_iinc dX11_choose_175 rfl rfl ?_
        dsimp only [List.set]
        refine r_goto 109 dX11_choose_178 (by decide) ?_
        refine st0 _ _ ht' ht2' ?_
        unfold sg1
        rw [eg]
        exact hE
    refine r_iload dX11_choose_109 rfl ?_
    refine r_aload_n dX11_choose_111 rfl ?_
    refine r_getI dX11_choose_112 g_X11_211 (S.1 _ _ rfl) rfl ?_
    rw [hn38]
    refine r_icmp_geN 181 dX11_choose_115 (by decide) (by omega) (by omega) (fun h115 => ?_) (fun h115 => ?_)
    · exact absurd h115 (by omega)
    · refine r_aload_n dX11_choose_118 rfl ?_
      refine r_getP dX11_choose_119 g_X11_122 (S.1 _ _ rfl) rfl (S.2 _ _ _ rfl) ?_
      refine r_iconst dX11_choose_122 (v := nI 0) kc_0 ?_
      refine r_iload dX11_choose_123 rfl ?_
      refine r_iastore 0 dX11_choose_125 (S.1 _ _ rfl) rfl (by first | decide | omega) (by decide) ?_
      refine r_aload_n dX11_choose_126 rfl ?_
      refine r_getP dX11_choose_127 g_X11_116 (S.1 _ _ rfl) rfl (S.2 _ _ _ rfl) ?_
      refine r_iload dX11_choose_130 rfl ?_
      refine r_iaload a dX11_choose_132 (S.1 _ _ rfl) rfl (by first | decide | omega) (by decide) ?_
      rw [ga]
      refine r_iload dX11_choose_133 rfl ?_
      refine r_icmp_leN 148 dX11_choose_135 (by decide) (by omega) (by omega) (fun h135 => ?_) (fun h135 => ?_)
      · have hmx : ∀ j, j < a + 1 → gn (rs I) way (f j) ≤ t := fun j hj => by
          rcases Nat.lt_or_ge j a with g | g
          · exact ht j g
          · have e : j = a := by omega
            subst e; exact h135
        refine r_iload dX11_choose_148 rfl ?_
        refine r_istore dX11_choose_150 (Nat.le_of_ble_eq_true rfl) ?_
        dsimp only [List.set]
        exact st _ hmx (by omega)
      · have hmx : ∀ j, j < a + 1 → gn (rs I) way (f j) ≤ gn (rs I) way (f a) := fun j hj => by
          rcases Nat.lt_or_ge j a with g | g
          · have := ht j g; omega
          · have e : j = a := by omega
            subst e; exact Nat.le_refl _
        refine r_aload_n dX11_choose_138 rfl ?_
        refine r_getP dX11_choose_139 g_X11_116 (S.1 _ _ rfl) rfl (S.2 _ _ _ rfl) ?_
        refine r_iload dX11_choose_142 rfl ?_
        refine r_iaload a dX11_choose_144 (S.1 _ _ rfl) rfl (by first | decide | omega) (by decide) ?_
        rw [ga]
        refine r_goto 150 dX11_choose_145 (by decide) ?_
        refine r_istore dX11_choose_150 (Nat.le_of_ble_eq_true rfl) ?_
        dsimp only [List.set]
        exact st _ hmx (by omega)
theorem l_X11_ch1 (S : St_m sh P) (V : iP (rs I)) {x1 x2 way : Int32} {n : Nat} {f : Nat → Nat} (hn : n ≤ 360) (hW : ∀ j, j < n → wOk (f j)) {post : APo} (hN : ∀ j, j < n → win (rs I) (f j)) (K : ∀ H, chF I H → fnd H n f → (∀ j, j < n → H 37 j = nI (gn (rs I) way (f j))) → H 0 39 = nI (pl (rs I) way) → H 0 40 = nI 0 → am_R mX11_choose post 4 99 0 0 103 [some (.ref 0), some (.int x1), some (.int x2), some (.int way), some (.int (nI (pl (rs I) way))), some (.int (nI n)), none, none] [] sh H P) : ∀ (m a : Nat), a + m = n → ∀ H, chF I H → fnd H n f → (∀ j, j < a → H 37 j = nI (gn (rs I) way (f j))) → H 0 39 = nI (pl (rs I) way) → H 0 40 = nI 0 → am_R mX11_choose post 4 99 0 0 56 [some (.ref 0), some (.int x1), some (.int x2), some (.int way), some (.int (nI (pl (rs I) way))), some (.int (nI a)), none, none] [] sh H P := by
  have hpl := pl_le V way
  intro m
  induction m with
  | zero =>
    intro a ha H h1 h2 h3 h4 h5
    have e : a = n := by omega
    subst e
    refine r_iload dX11_choose_56 rfl ?_
    refine r_aload_n dX11_choose_58 rfl ?_
    refine r_getI dX11_choose_59 g_X11_211 (S.1 _ _ rfl) rfl ?_
    rw [h2.1]
    refine r_icmp_geN 103 dX11_choose_62 (by decide) (by omega) (by omega) (fun h62 => ?_) (fun h62 => ?_)
    · exact K _ h1 h2 h3 h4 h5
    · exact absurd h62 (by omega)
  | succ m ih =>
    intro a ha H h1 h2 h3 h4 h5
    have han : a < n := by omega
    have hwa := hW a han
    have hlt := hwa.lt
    have ef := h2.2.1 a han
    obtain ⟨ra, rb⟩ := tr_rw (a := 0) hwa (H 29)
    have hR := rOk_1 ra hwa
    have hc := cs_1 (σ := rs I) (way := way) ra hwa
    have hcl := cs_pl (σ := rs I) (way := way) (rOk_1 (rwA_F (f a)) hwa)
    have eg : gn (rs I) way (f a) = pl (rs I) way - cs (rs I) way (rwF (f a)) 1 := cif_t (hN a han)
    have h0 := chF_rs h1
    have e29 := rs0_29 H (upd (H 0) 28 (nI 1)) (upd (trR 0 (f a) (H 29)).2.2 (5 * 0) (nI (trR 0 (f a) (H 29)).1))
    have e28 : ∀ g, va_up (va_up H 0 (upd (H 0) 28 (nI 1))) 29 g 0 28 = nI 1 := fun g => by rw [va_up_ne _ _ (by decide), va_up_self]; exact pk_us
    refine r_iload dX11_choose_56 rfl ?_
    refine r_aload_n dX11_choose_58 rfl ?_
    refine r_getI dX11_choose_59 g_X11_211 (S.1 _ _ rfl) rfl ?_
    rw [h2.1]
    refine r_icmp_geN 103 dX11_choose_62 (by decide) (by omega) (by omega) (fun h62 => ?_) (fun h62 => ?_)
    · exact absurd h62 (by omega)
    · refine r_aload_n dX11_choose_65 rfl ?_
      refine r_iconst dX11_choose_66 (v := nI 1) kc_1 ?_
      refine r_putI dX11_choose_67 f_X11_170 (S.1 _ _ rfl) rfl rfl rfl ?_
      refine r_aload_n dX11_choose_70 rfl ?_
      refine r_iconst dX11_choose_71 (v := nI 0) kc_0 ?_
      refine r_aload_n dX11_choose_72 rfl ?_
      refine r_getP dX11_choose_73 g_X11_113 (S.1 _ _ rfl) rfl (S.2 _ _ _ rfl) ?_
      refine r_iload dX11_choose_76 rfl ?_
      refine r_iaload a dX11_choose_78 (S.1 _ _ rfl) rfl (by first | decide | omega) (by decide) ?_
      rw [va_up_ne _ _ (by decide), ef]
      refine r_callV2 (fr' := 0) (lo' := 0) (mc' := 0) (ms' := 0) dX11_choose_79 mm_X11_tryRow mv_X11_tryRow l_X11_217 (S.1 _ _ rfl) mc_X11_tryRow (by decide) ⟨by decide, by decide⟩ (Nat.zero_le _) (Nat.zero_le _) (Nat.le_of_ble_eq_true rfl) (c_X11_tryRow S (by decide) (by omega)) (am_kv ?_)
      rintro _ _ _ ⟨rfl, rfl, rfl⟩
      rw [show va_up H 0 (upd (H 0) 28 (nI 1)) 29 = H 29 from rfl]
      refine r_aload_n dX11_choose_82 rfl ?_
      refine r_getP dX11_choose_83 g_X11_116 (S.1 _ _ rfl) rfl (S.2 _ _ _ rfl) ?_
      refine r_iload dX11_choose_86 rfl ?_
      refine r_iload dX11_choose_88 rfl ?_
      refine r_aload_n dX11_choose_90 rfl ?_
      refine r_iload_n dX11_choose_91 rfl ?_
      refine r_callV1 (fr' := 2) (lo' := 52) (mc' := 0) (ms' := 0) dX11_choose_92 mm_X11_costOf mv_X11_costOf l_X11_208 (S.1 _ _ rfl) mc_X11_costOf (by decide) ⟨by decide, by decide⟩ (Nat.zero_le _) (Nat.zero_le _) (Nat.le_of_ble_eq_true rfl) (c_X11_costOf S (by rw [e29, h0]; exact V) rfl (e28 _) hR) (am_ki ?_)
      rintro v _ J _ ⟨hv, hJ, rfl, rfl⟩
      rw [e29, h0] at hv
      replace hv := hv.trans (congrArg nI hc)
      subst hv
      refine r_isubN dX11_choose_95 hcl ?_
      rw [← eg]
      refine r_iastore a dX11_choose_96 (S.1 _ _ rfl) rfl (by first | decide | omega) (by decide) ?_
      first | refine r_iincN dX11_choose_97 rfl kc_1 ?_ | refine r_iinc dX11_choose_97 rfl rfl ?_
      dsimp only [List.set]
      refine r_goto 56 dX11_choose_100 (by decide) ?_
      have J0 : J 0 = upd (H 0) 28 (nI 1) := hJ 0 (by decide) (by decide)
      refine ih (a + 1) (by omega) _ (chF_up (fun t a0 a1 a2 a3 a4 a5 a6 a7 => ?_) (by omega)) ⟨?_, fun j hj => ?_, h2.2.2⟩ (fun j hj => ?_) ?_ ?_
      · rw [hJ t a2 a3, va_up_ne _ _ a1, va_up_ne _ _ a0]
        exact h1 t a0 a1 a2 a3 a4 a5 a6 a7
      · rw [va_up_ne _ _ (by decide), J0, pk_un (by decide)]; exact h2.1
      · rw [va_up_ne _ _ (by decide), hJ 36 (by decide) (by decide)]; exact h2.2.1 j hj
      · rw [va_up_self]
        by_cases e : j = a
        · subst e; exact pk_us
        · rw [pk_un e, hJ 37 (by decide) (by decide)]; exact h3 j (by omega)
      · rw [va_up_ne _ _ (by decide), J0, pk_un (by decide)]; exact h4
      · rw [va_up_ne _ _ (by decide), J0, pk_un (by decide)]; exact h5
theorem chS_at {n : Nat} {f : Nat → Nat} {H : AIn} (V : iP (rs I)) (way : Int32) {k : Nat} (hk : k < 2147483648) (hf : fnd H n f) (hW : ∀ u, (∃ j, j < n ∧ f j = u) ↔ win (rs I) u) : chS (rs I) (nI k) way = if k = 1 then fo (fun s i => sg1 (gn (rs I) way) s (f i)) (0, 0, 0, 0) n else fo (fun s i => fo (fun s j => sg2 (gn (rs I) way) (g2 (rs I) way) (f i) s (f j)) s n) (fo (fun s i => sg1 (gn (rs I) way) s (f i)) (0, 0, 0, 0) n) n := by
  unfold chS
  rw [nv_nI hk]
  refine sch_enum hf.2.2.1 (fun i hi => ?_) (fun u hu => gn_0 (fun h => ?_)) (fun u hu => gn_0 (fun h => ?_))
  · have h1 := (win_ok V ((hW (f i)).mp ⟨i, hi, rfl⟩)).lt
    omega
  · obtain ⟨j, hj, e⟩ := (hW u).mpr h
    exact hu j hj e
  · have h1 := (win_ok V h).lt
    omega
theorem l_X11_chW (S : St_m sh P) (V : iP (rs I)) {x2 way : Int32} {kk : Nat} (hk : kk = 1 ∨ kk = 2) {n : Nat} {f : Nat → Nat} (hn : n ≤ 360) (hU : ∀ u, (∃ j, j < n ∧ f j = u) ↔ win (rs I) u) (H : AIn) (h1 : chF I H) (h2 : fnd H n f) (h4 : H 0 39 = nI (pl (rs I) way)) (h5 : H 0 40 = nI 0) : am_R mX11_choose (mpo sh P I (nI (pl (rs I) way - (chS (rs I) (nI kk) way).1)) (ch_row (rs I) (chS (rs I) (nI kk) way))) 4 99 0 0 56 [some (.ref 0), some (.int (nI kk)), some (.int x2), some (.int way), some (.int (nI (pl (rs I) way))), some (.int (nI 0)), none, none] [] sh H P := by
  have hN : ∀ j, j < n → win (rs I) (f j) := fun j hj => (hU _).mp ⟨j, hj, rfl⟩
  have hW : ∀ j, j < n → wOk (f j) := fun j hj => win_ok V (hN j hj)
  have eS := chS_at V way (show kk < 2147483648 by omega) h2 hU
  refine l_X11_ch1 S V hn hW hN (fun H1 a1 a2 a3 a4 a5 => ?_) n 0 (Nat.zero_add _) H h1 h2 (fun j hj => absurd hj (Nat.not_lt_zero j)) h4 h5
  refine r_iconst dX11_choose_103 (v := nI 0) kc_0 ?_
  refine r_istore dX11_choose_104 (Nat.le_of_ble_eq_true rfl) ?_
  dsimp only [List.set]
  refine r_iconst dX11_choose_106 (v := nI 0) kc_0 ?_
  refine r_istore dX11_choose_107 (Nat.le_of_ble_eq_true rfl) ?_
  dsimp only [List.set]
  refine l_X11_ch2 S V hn hW hN (fun H2 t ht ht2 hC => ?_) n 0 (Nat.zero_add _) H1 0 (fun j hj => absurd hj (Nat.not_lt_zero j)) (by decide) ⟨a1, a2, a3, a4, Nat.zero_le _, a5, Nat.zero_le _, fun h => absurd h (show ¬ 1 ≤ 0 by decide), fun h => absurd h (show ¬ 2 ≤ 0 by decide)⟩
  refine r_iconst dX11_choose_181 (v := nI 0) kc_0 ?_
  refine r_istore dX11_choose_182 (Nat.le_of_ble_eq_true rfl) ?_
  dsimp only [List.set]
  rcases hk with rfl | rfl
  · rw [if_pos rfl] at eS
    rw [eS]
    refine r_iload_n dX11_choose_184 rfl ?_
    refine r_iconst dX11_choose_185 (v := nI 1) kc_1 ?_
    refine r_icmp_leN 292 dX11_choose_186 (by decide) (by omega) (by omega) (fun h186 => ?_) (fun h186 => ?_)
    · exact l_X11_ch4s S hn hW _ hC.1 hC.2.1 hC.2.2.2
    · exact absurd h186 (by omega)
  · rw [if_neg (by decide)] at eS
    rw [eS]
    exact l_X11_ch3 S V hn hW ht ht2 rfl (fun H3 x6 x7 h3 => l_X11_ch4s S hn hW _ h3.1 h3.2.1 h3.2.2.2) n 0 (Nat.zero_add _) _ _ hC
theorem ch_k {x : Int32} (h : nI 1 ≤ x ∧ x ≤ nI 2) : x = nI 1 ∨ x = nI 2 := by
  have h1 : (1 : Int) ≤ x.toInt := Int32.le_iff_toInt_le.mp h.1
  have h2 : x.toInt ≤ (2 : Int) := Int32.le_iff_toInt_le.mp h.2
  have h3 : x.toInt = 1 ∨ x.toInt = 2 := by omega
  rcases h3 with e | e
  · exact Or.inl (Int32.toInt_inj.mp e)
  · exact Or.inr (Int32.toInt_inj.mp e)
theorem l_X11_chG (S : St_m sh P) (V : iP (rs I)) {x y : Int32} (hk : x = nI 1 ∨ x = nI 2) : am_R mX11_choose (mpo sh P I (nI (pl (rs I) (if y = 0 then nI 0 else nI 1) - (chS (rs I) x (if y = 0 then nI 0 else nI 1)).1)) (ch_row (rs I) (chS (rs I) x (if y = 0 then nI 0 else nI 1)))) 4 99 0 0 16 [some (.ref 0), some (.int x), some (.int y), none, none, none, none, none] [] sh I P := by
  obtain ⟨kk, hkk, rfl⟩ : ∃ kk, (kk = 1 ∨ kk = 2) ∧ x = nI kk := by
    rcases hk with rfl | rfl
    · exact ⟨1, Or.inl rfl, rfl⟩
    · exact ⟨2, Or.inr rfl, rfl⟩
  have st : ∀ way, am_R mX11_choose (mpo sh P I (nI (pl (rs I) way - (chS (rs I) (nI kk) way).1)) (ch_row (rs I) (chS (rs I) (nI kk) way))) 4 99 0 0 26 [some (.ref 0), some (.int (nI kk)), some (.int y), some (.int way), none, none, none, none] [] sh I P := by
    intro way
    refine r_aload_n dX11_choose_26 rfl ?_
    refine r_callV0 (fr' := 1) (lo' := 23) (mc' := 0) (ms' := 0) dX11_choose_27 mm_X11_findRows mv_X11_findRows l_X11_226 (S.1 _ _ rfl) mc_X11_findRows (by decide) ⟨by decide, by decide⟩ (Nat.zero_le _) (Nat.zero_le _) (Nat.le_of_ble_eq_true rfl) (c_X11_findRows S V) (am_kv ?_)
    rintro _ H _ ⟨hF, hS, rfl, rfl⟩
    obtain ⟨n, f, hf, hU, hn⟩ := hS
    have eR : rs H = rs I := frF_rs hF
    have e28 : va_up H 0 (upd (H 0) 28 (nI 0)) 0 28 = nI 0 := by rw [va_up_self]; exact pk_us
    have e29 : rs (va_up H 0 (upd (H 0) 28 (nI 0))) = rs I := by rw [rs_no rfl]; exact eR
    refine r_aload_n dX11_choose_30 rfl ?_
    refine r_iconst dX11_choose_31 (v := nI 0) kc_0 ?_
    refine r_putI dX11_choose_32 f_X11_170 (S.1 _ _ rfl) rfl rfl rfl ?_
    refine r_aload_n dX11_choose_35 rfl ?_
    refine r_iload_n dX11_choose_36 rfl ?_
    refine r_callV1 (fr' := 2) (lo' := 52) (mc' := 0) (ms' := 0) dX11_choose_37 mm_X11_costOf mv_X11_costOf l_X11_208 (S.1 _ _ rfl) mc_X11_costOf (by decide) ⟨by decide, by decide⟩ (Nat.zero_le _) (Nat.zero_le _) (Nat.le_of_ble_eq_true rfl) (c_X11_costOf (way := way) S (by rw [e29]; exact V) rfl e28 (rOk_0 _)) (am_ki ?_)
    rintro v _ J _ ⟨hv, hJ, rfl, rfl⟩
    rw [e29] at hv
    replace hv := hv.trans (congrArg nI (cs_0 (σ := rs I) (way := way) _))
    subst hv
    have J0 : J 0 = upd (H 0) 28 (nI 0) := hJ 0 (by decide) (by decide)
    refine r_istore dX11_choose_40 (Nat.le_of_ble_eq_true rfl) ?_
    dsimp only [List.set]
    refine r_aload_n dX11_choose_42 rfl ?_
    refine r_iload dX11_choose_43 rfl ?_
    refine r_putI dX11_choose_45 f_X11_220 (S.1 _ _ rfl) rfl rfl rfl ?_
    refine r_aload_n dX11_choose_48 rfl ?_
    refine r_iconst dX11_choose_49 (v := nI 0) kc_0 ?_
    refine r_putI dX11_choose_50 f_X11_223 (S.1 _ _ rfl) rfl rfl rfl ?_
    refine r_iconst dX11_choose_53 (v := nI 0) kc_0 ?_
    refine r_istore dX11_choose_54 (Nat.le_of_ble_eq_true rfl) ?_
    dsimp only [List.set]
    refine l_X11_chW S V hkk hn hU _ ?_ ⟨?_, fun j hj => ?_, hf.2.2⟩ ?_ ?_
    · refine chF_up (chF_up (fun t a0 a1 a2 a3 a4 a5 a6 a7 => ?_) (Or.inl rfl)) (Or.inl rfl)
      rw [hJ t a2 a3, va_up_ne _ _ a0]
      exact hF.1 t a0 a2 a4
    · simp only [va_up_self]
      rw [pk_un (by decide), pk_un (by decide), J0, pk_un (by decide)]; exact hf.1
    · rw [va_up_ne _ _ (by decide), va_up_ne _ _ (by decide), hJ 36 (by decide) (by decide)]; exact hf.2.1 j hj
    · simp only [va_up_self]
      rw [pk_un (by decide)]; exact pk_us
    · simp only [va_up_self]
      exact pk_us
  refine r_iload_n dX11_choose_16 rfl ?_
  refine r_if_eq 24 dX11_choose_17 (by decide) (fun h17 => ?_) (fun h17 => ?_)
  · rw [if_pos h17]
    refine r_iconst dX11_choose_24 (v := nI 0) kc_0 ?_
    refine r_istore_n dX11_choose_25 (Nat.le_of_ble_eq_true rfl) ?_
    dsimp only [List.set]
    exact st _
  · rw [if_neg h17]
    refine r_iconst dX11_choose_20 (v := nI 1) kc_1 ?_
    refine r_goto 25 dX11_choose_21 (by decide) ?_
    refine r_istore_n dX11_choose_25 (Nat.le_of_ble_eq_true rfl) ?_
    dsimp only [List.set]
    exact st _
theorem b_X11_choose (S : St_m sh P) (V : Inv (rs I))  (x y : Int32): am_R mX11_choose (mpo sh P I (ch_ans (rs I) x y) (ch_op (rs I) x y)) 4 99 0 0 5 [some (.ref 0), some (.int x), some (.int y), none, none, none, none, none] [] sh I P := by
  have V1 := V.1
  refine r_iload_n dX11_choose_5 rfl ?_
  refine r_iconst dX11_choose_6 (v := nI 1) kc_1 ?_
  refine r_iconst dX11_choose_7 (v := nI 2) kc_2 ?_
  refine r_callS3 (fr' := 0) (lo' := 0) (mc' := 0) (ms' := 0) dX11_choose_8 mm_X11_in ms_X11_in l_X11_142 (by decide) ⟨by decide, by decide⟩ (Nat.zero_le _) (Nat.zero_le _) (Nat.le_of_ble_eq_true rfl) (c_X11_in _ _ _) (am_ki ?_)
  rintro v8 _ _ _ ⟨hb8, rfl, rfl, rfl⟩
  refine r_if_ne 16 dX11_choose_11 (by decide) (fun h11 => ?_) (fun h11 => ?_)
  · replace h11 := hb8.t h11
    have hk : x = nI 1 ∨ x = nI 2 := ch_k h11
    unfold ch_ans ch_op
    rw [cif_t hk, cif_t hk]
    exact l_X11_chG S V1 hk
  · replace h11 := hb8.f h11
    refine r_iconst dX11_choose_14 (v := (-1)) kc_m1 ?_
    refine r_ireturn dX11_choose_15 .int rfl rfl ?_
    refine ⟨_, rfl, ?_, ?_, hi_rf _, rfl, rfl⟩
    · unfold ch_ans; rw [cif_f (fun h => h11 ?_)]; rcases h with rfl | rfl; exact ⟨by decide, by decide⟩; exact ⟨by decide, by decide⟩
    · unfold ch_op; rw [cif_f (fun h => h11 ?_)]; rcases h with rfl | rfl; exact ⟨by decide, by decide⟩; exact ⟨by decide, by decide⟩
theorem c_X11_choose (S : St_m sh P) (V : Inv (rs I))  (x y : Int32): am_R mX11_choose (mpo sh P I (ch_ans (rs I) x y) (ch_op (rs I) x y)) 4 99 0 0 0 [some (.ref 0), some (.int x), some (.int y), none, none, none, none, none] [] sh I P := by
  refine r_aload_n dX11_choose_0 rfl ?_
  refine r_iconst dX11_choose_1 (v := nI 0) kc_0 ?_
  refine r_putI dX11_choose_2 f_X11_134 (S.1 _ _ rfl) rfl rfl rfl ?_
  have e : rs (va_up I 0 (upd (I 0) 0 (nI 0))) = rs I := rs_no rfl
  have h := b_X11_choose (I := va_up I 0 (upd (I 0) 0 (nI 0))) S (by rw [e]; exact V) x y
  rw [e] at h
  exact mpo_z h
end M26
