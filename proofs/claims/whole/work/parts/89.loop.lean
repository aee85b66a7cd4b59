/-! the law: what holds between two calls -/
def mL (nm : String) : MI := (⟨RL, nm, "([I)Z"⟩, cL_law, 4, some .boolean)
def pL : APo := fun r _ _ _ => r = some (nI 1)
def lwI (sh : ASh) (P : APt) (I : AIn) : Prop := St_m sh P ∧ St_c sh P ∧ Inv (rs I) ∧ RepS I 100 (rs I) ∧ ∀ k, k < 3 → imR sh P I (rs I) k
theorem rs_cF {I I1 : AIn} (h : cF I1 I) : rs I1 = rs I := by
  funext r
  unfold rs
  by_cases hm : mrow r = true
  · rw [if_pos hm, if_pos hm]
    have : r < 60 := by
      simp [mrow] at hm
      omega
    exact h r (Or.inl this)
  · rw [if_neg hm, if_neg hm]
theorem imR_fr {sh : ASh} {P : APt} {I I' σ : AIn} {k : Nat} (h : imR sh P I σ k) (hI : ∀ r, 138 ≤ r → I' r = I r) : imR sh P I' σ k := by
  rcases h with a | ⟨a, b, c, d⟩
  · exact Or.inl a
  · exact Or.inr ⟨a, b, RepS_fr d.1.np.2 c (fun r h1 h2 => hI r (by omega)), d⟩
theorem lw_step {sh : ASh} {P : APt} {I I1 I2 σ' : AIn} (h : lwI sh P I) (K : Inv σ' ∧ loc (rs I) σ') (R1 : RepS I1 100 σ') (c1 : cF I1 I) (h2 : rs I2 = σ') (h3 : hi I2 I1) : lwI sh P I2 := by
  obtain ⟨a, b, c, d, e⟩ := h
  refine ⟨a, b, by rw [h2]; exact K.1, by rw [h2]; exact RepS_fr K.1.1.np.2 R1 (fun r h1 h4 => h3 r (by omega)), fun k hk => ?_⟩
  rw [h2]
  exact imR_fr (imR_loc (e k hk) K.2) (fun r hr => by rw [h3 r (by omega), c1 r (by omega)])
theorem sh_c_lt {k : Nat} {q : Nat × Nat} (h : sh_c k = some q) : k < 200 := by
  unfold sh_c at h
  split at h <;> first | decide | cases h
theorem pt_c_lt {k f z : Nat} (h : pt_c k f = some z) : k < 200 ∧ k ≠ 61 := by
  unfold pt_c at h
  split at h <;> first | exact ⟨by decide, by decide⟩ | cases h
theorem sh_m_lt {k : Nat} {q : Nat × Nat} (h : sh_m k = some q) : k < 48 := by
  unfold sh_m at h
  split at h <;> first | decide | cases h
theorem pt_m_lt {k f z : Nat} (h : pt_m k f = some z) : k < 48 := by
  unfold pt_m at h
  split at h <;> first | decide | cases h
theorem lw_im {sh sh1 : ASh} {P P1 : APt} {I I1 I2 : AIn} {k : Nat} (hk : k < 3) (h : lwI sh P I) (hY : imY sh1 P1 k) (hR : RepS I1 (200 + 100 * k) (rs I)) (hF : ∀ c, c < 200 + 100 * k ∨ 237 + 100 * k < c → sh1 c = sh c ∧ I1 c = I c ∧ (c ≠ 61 → P1 c = P c)) (hP : ∀ j, j ≠ k → P1 61 j = P 61 j) (h2 : rs I2 = im_op (rs I) (nI k)) (h3 : hi I2 I1) : lwI sh1 P1 I2 := by
  obtain ⟨a, b, V, R, e⟩ := h
  obtain ⟨k1, k2, k3, k4, k5, k6⟩ := K_im V hk
  have b1 := V.1.np.2
  refine ⟨⟨fun c q g => ?_, fun c f z g => ?_⟩, ⟨fun c q g => ?_, fun c f z g => ?_⟩, by rw [h2]; exact k1, ?_, fun j hj => ?_⟩
  · have := sh_m_lt g
    rw [(hF c (by omega)).1]; exact a.1 c q g
  · have := pt_m_lt g
    rw [(hF c (by omega)).2.2 (by omega)]; exact a.2 c f z g
  · have := sh_c_lt g
    rw [(hF c (by omega)).1]; exact b.1 c q g
  · have := pt_c_lt g
    rw [(hF c (by omega)).2.2 this.2]; exact b.2 c f z g
  · rw [h2]
    exact RepS_B V k2 (RepS_fr b1 R (fun r h1 h4 => by rw [h3 r (by omega), (hF r (by omega)).2.1]))
  · rw [h2]
    by_cases ej : j = k
    · subst ej
      exact Or.inr ⟨hY, by rw [k5]; decide, RepS_B V k3 (RepS_fr b1 hR (fun r h1 h4 => h3 r (by omega))), Inv_B V k3⟩
    · rcases e j hj with ⟨⟨n1, n2⟩, n3⟩ | ⟨⟨y1, y2⟩, y3, y4, y5⟩
      · exact Or.inl ⟨⟨by rw [hP j ej]; exact n1, fun c h1 h4 => by rw [(hF c (by omega)).1]; exact n2 c h1 h4⟩, by rw [k6 j ej]; exact n3⟩
      · refine Or.inr ⟨⟨by rw [hP j ej]; exact y1, SSt_fr y2 (fun c h1 h4 => (hF c (by omega)).1) (fun c h1 h4 => (hF c (by omega)).2.2 (by omega))⟩, by rw [k6 j ej]; exact y3, RepS_B y5 (k4 j ej) (RepS_fr y5.1.np.2 y4 (fun r h1 h4 => by rw [h3 r (by omega), (hF r (by omega)).2.1])), Inv_B y5 (k4 j ej)⟩
section LOOP
variable {nm : String} {bb : LB} {sh : ASh} {I : AIn} {P : APt}
theorem imN_of {σ : AIn} {k : Nat} (h : imR sh P I σ k) : imN sh P k ∨ imY sh P k := by
  rcases h with ⟨a, -⟩ | ⟨a, -⟩
  · exact Or.inl a
  · exact Or.inr a
theorem rs_cF9 {I I1 : AIn} (h : ∀ r, r < 60 → I1 r = I r) : rs I1 = rs I := by
  funext r
  unfold rs
  by_cases hm : mrow r = true
  · rw [if_pos hm, if_pos hm]
    refine h r ?_
    simp [mrow] at hm
    omega
  · rw [if_neg hm, if_neg hm]
theorem lw_0 {i c0 s0 : Nat} (h : lwI sh P I) (hn : bb.2.1 < 2147483648) (hi : i + 6 ≤ bb.2.1) {c1 s1 : Nat} (hc9 : c1 ≤ c0) (hs9 : s1 ≤ s0) (K : ∀ sh' I' P', lwI sh' P' I' → am_RL bb (mL nm) pL 7 181 c1 s1 828 [none, some (.ref 60), some (.ref 0), some (.int (nI i))] [] sh' I' P') : am_RL bb (mL nm) pL 7 181 c0 s0 136 [none, some (.ref 60), some (.ref 0), some (.int (nI i))] [] sh I P := by
  refine L_aload_n dL_law_136 rfl ?_
  refine L_callV0 (fr' := 3) (lo' := 63) (mc' := 0) (ms' := 0) dL_law_137 mm_X10_program mv_X10_program l_L_13 (h.2.1.1 60 _ rfl) mc_X10_program (by decide) ⟨by decide, by decide⟩ (Nat.zero_le _) (Nat.zero_le _) (Nat.le_of_ble_eq_true rfl) (c_X10_program h.2.1 h.2.2.1 h.2.2.2.1) (L_ki ?_)
  rintro v1 _ I1 _ ⟨hv1, hR1, hc1, rfl, rfl⟩
  have e1 : rs I1 = rs I := rs_cF hc1
  refine L_aload_n dL_law_140 rfl ?_
  refine L_callV0 (fr' := 1) (lo' := 22) (mc' := 0) (ms' := 0) dL_law_141 mm_X11_program mv_X11_program l_L_17 (h.1.1 0 _ rfl) mc_X11_program (by decide) ⟨by decide, by decide⟩ (Nat.zero_le _) (Nat.zero_le _) (Nat.le_of_ble_eq_true rfl) (c_X11_program h.1 (by rw [e1]; exact h.2.2.1)) (L_ki ?_)
  rintro v2 _ I2 _ ⟨hv2, h2, h3, rfl, rfl⟩
  rw [e1] at hv2 h2
  refine L_icmp_eq 828 dL_law_144 (by decide) (fun _ => ?_) (fun g => absurd (hv1.trans hv2.symm) g)
  exact L_weak (K _ _ _ (lw_step h (K_p h.2.2.1) hR1 hc1 h2 h3)) (by omega) (by omega)
theorem lw_1 {i c0 s0 : Nat} (h : lwI sh P I) (hn : bb.2.1 < 2147483648) (hi : i + 6 ≤ bb.2.1) {c1 s1 : Nat} (hc9 : c1 ≤ c0) (hs9 : s1 ≤ s0) (K : ∀ sh' I' P', lwI sh' P' I' → am_RL bb (mL nm) pL 7 181 c1 s1 828 [none, some (.ref 60), some (.ref 0), some (.int (nI i))] [] sh' I' P') : am_RL bb (mL nm) pL 7 181 c0 s0 149 [none, some (.ref 60), some (.ref 0), some (.int (nI i))] [] sh I P := by
  refine L_aload_n dL_law_149 rfl ?_
  refine L_scr (j := 1) dL_law_150 dL_law_151 dL_law_152 dL_law_153 dL_law_154 rfl kc_1 (by omega) hn ?_
  refine L_scr (j := 2) dL_law_155 dL_law_156 dL_law_157 dL_law_158 dL_law_159 rfl kc_2 (by omega) hn ?_
  refine L_scr (j := 3) dL_law_160 dL_law_161 dL_law_162 dL_law_163 dL_law_164 rfl kc_3 (by omega) hn ?_
  refine L_callV3 (fr' := 2) (lo' := 43) (mc' := 0) (ms' := 0) dL_law_165 mm_X10_order mv_X10_order l_L_18 (h.2.1.1 60 _ rfl) mc_X10_order (by decide) ⟨by decide, by decide⟩ (Nat.zero_le _) (Nat.zero_le _) (Nat.le_of_ble_eq_true rfl) (c_X10_order h.2.1 h.2.2.1 h.2.2.2.1 _ _ _) (L_ki ?_)
  rintro v1 _ I1 _ ⟨hv1, hR1, hc1, rfl, rfl⟩
  have e1 : rs I1 = rs I := rs_cF hc1
  refine L_aload_n dL_law_168 rfl ?_
  refine L_scr (j := 1) dL_law_169 dL_law_170 dL_law_171 dL_law_172 dL_law_173 rfl kc_1 (by omega) hn ?_
  refine L_scr (j := 2) dL_law_174 dL_law_175 dL_law_176 dL_law_177 dL_law_178 rfl kc_2 (by omega) hn ?_
  refine L_scr (j := 3) dL_law_179 dL_law_180 dL_law_181 dL_law_182 dL_law_183 rfl kc_3 (by omega) hn ?_
  refine L_callV3 (fr' := 2) (lo' := 43) (mc' := 0) (ms' := 0) dL_law_184 mm_X11_order mv_X11_order l_L_22 (h.1.1 0 _ rfl) mc_X11_order (by decide) ⟨by decide, by decide⟩ (Nat.zero_le _) (Nat.zero_le _) (Nat.le_of_ble_eq_true rfl) (c_X11_order h.1 (by rw [e1]; exact h.2.2.1) _ _ _) (L_ki ?_)
  rintro v2 _ I2 _ ⟨hv2, h2, h3, rfl, rfl⟩
  rw [e1] at hv2 h2
  refine L_icmp_eq 828 dL_law_187 (by decide) (fun _ => ?_) (fun g => absurd (hv1.trans hv2.symm) g)
  exact L_weak (K _ _ _ (lw_step h (K_o h.2.2.1 _ _ _) hR1 hc1 h2 h3)) (by omega) (by omega)
theorem lw_2 {i c0 s0 : Nat} (h : lwI sh P I) (hn : bb.2.1 < 2147483648) (hi : i + 6 ≤ bb.2.1) {c1 s1 : Nat} (hc9 : c1 ≤ c0) (hs9 : s1 ≤ s0) (K : ∀ sh' I' P', lwI sh' P' I' → am_RL bb (mL nm) pL 7 181 c1 s1 828 [none, some (.ref 60), some (.ref 0), some (.int (nI i))] [] sh' I' P') : am_RL bb (mL nm) pL 7 181 c0 s0 192 [none, some (.ref 60), some (.ref 0), some (.int (nI i))] [] sh I P := by
  refine L_aload_n dL_law_192 rfl ?_
  refine L_scr (j := 1) dL_law_193 dL_law_194 dL_law_195 dL_law_196 dL_law_197 rfl kc_1 (by omega) hn ?_
  refine L_scr (j := 2) dL_law_198 dL_law_199 dL_law_200 dL_law_201 dL_law_202 rfl kc_2 (by omega) hn ?_
  refine L_scr (j := 3) dL_law_203 dL_law_204 dL_law_205 dL_law_206 dL_law_207 rfl kc_3 (by omega) hn ?_
  refine L_callV3 (fr' := 2) (lo' := 44) (mc' := 0) (ms' := 0) dL_law_208 mm_X10_change mv_X10_change l_L_23 (h.2.1.1 60 _ rfl) mc_X10_change (by decide) ⟨by decide, by decide⟩ (Nat.zero_le _) (Nat.zero_le _) (Nat.le_of_ble_eq_true rfl) (c_X10_change h.2.1 h.2.2.1 h.2.2.2.1 _ _ _) (L_ki ?_)
  rintro v1 _ I1 _ ⟨hv1, hR1, hc1, rfl, rfl⟩
  have e1 : rs I1 = rs I := rs_cF hc1
  refine L_aload_n dL_law_211 rfl ?_
  refine L_scr (j := 1) dL_law_212 dL_law_213 dL_law_214 dL_law_215 dL_law_216 rfl kc_1 (by omega) hn ?_
  refine L_scr (j := 2) dL_law_217 dL_law_218 dL_law_219 dL_law_220 dL_law_221 rfl kc_2 (by omega) hn ?_
  refine L_scr (j := 3) dL_law_222 dL_law_223 dL_law_224 dL_law_225 dL_law_226 rfl kc_3 (by omega) hn ?_
  refine L_callV3 (fr' := 2) (lo' := 43) (mc' := 0) (ms' := 0) dL_law_227 mm_X11_change mv_X11_change l_L_27 (h.1.1 0 _ rfl) mc_X11_change (by decide) ⟨by decide, by decide⟩ (Nat.zero_le _) (Nat.zero_le _) (Nat.le_of_ble_eq_true rfl) (c_X11_change h.1 (by rw [e1]; exact h.2.2.1) _ _ _) (L_ki ?_)
  rintro v2 _ I2 _ ⟨hv2, h2, h3, rfl, rfl⟩
  rw [e1] at hv2 h2
  refine L_icmp_eq 828 dL_law_230 (by decide) (fun _ => ?_) (fun g => absurd (hv1.trans hv2.symm) g)
  exact L_weak (K _ _ _ (lw_step h (K_c h.2.2.1 _ _ _) hR1 hc1 h2 h3)) (by omega) (by omega)
theorem lw_3 {i c0 s0 : Nat} (h : lwI sh P I) (hn : bb.2.1 < 2147483648) (hi : i + 6 ≤ bb.2.1) {c1 s1 : Nat} (hc9 : c1 ≤ c0) (hs9 : s1 ≤ s0) (K : ∀ sh' I' P', lwI sh' P' I' → am_RL bb (mL nm) pL 7 181 c1 s1 828 [none, some (.ref 60), some (.ref 0), some (.int (nI i))] [] sh' I' P') : am_RL bb (mL nm) pL 7 181 c0 s0 235 [none, some (.ref 60), some (.ref 0), some (.int (nI i))] [] sh I P := by
  refine L_aload_n dL_law_235 rfl ?_
  refine L_scr (j := 1) dL_law_236 dL_law_237 dL_law_238 dL_law_239 dL_law_240 rfl kc_1 (by omega) hn ?_
  refine L_scr (j := 2) dL_law_241 dL_law_242 dL_law_243 dL_law_244 dL_law_245 rfl kc_2 (by omega) hn ?_
  refine L_scr (j := 3) dL_law_246 dL_law_247 dL_law_248 dL_law_249 dL_law_250 rfl kc_3 (by omega) hn ?_
  refine L_callV3 (fr' := 2) (lo' := 43) (mc' := 0) (ms' := 0) dL_law_251 mm_X10_tell mv_X10_tell l_L_28 (h.2.1.1 60 _ rfl) mc_X10_tell (by decide) ⟨by decide, by decide⟩ (Nat.zero_le _) (Nat.zero_le _) (Nat.le_of_ble_eq_true rfl) (c_X10_tell h.2.1 h.2.2.1 h.2.2.2.1 _ _ _) (L_ki ?_)
  rintro v1 _ I1 _ ⟨hv1, hR1, hc1, rfl, rfl⟩
  have e1 : rs I1 = rs I := rs_cF hc1
  refine L_aload_n dL_law_254 rfl ?_
  refine L_scr (j := 1) dL_law_255 dL_law_256 dL_law_257 dL_law_258 dL_law_259 rfl kc_1 (by omega) hn ?_
  refine L_scr (j := 2) dL_law_260 dL_law_261 dL_law_262 dL_law_263 dL_law_264 rfl kc_2 (by omega) hn ?_
  refine L_scr (j := 3) dL_law_265 dL_law_266 dL_law_267 dL_law_268 dL_law_269 rfl kc_3 (by omega) hn ?_
  refine L_callV3 (fr' := 2) (lo' := 43) (mc' := 0) (ms' := 0) dL_law_270 mm_X11_tell mv_X11_tell l_L_31 (h.1.1 0 _ rfl) mc_X11_tell (by decide) ⟨by decide, by decide⟩ (Nat.zero_le _) (Nat.zero_le _) (Nat.le_of_ble_eq_true rfl) (c_X11_tell h.1 (by rw [e1]; exact h.2.2.1) _ _ _) (L_ki ?_)
  rintro v2 _ I2 _ ⟨hv2, h2, h3, rfl, rfl⟩
  rw [e1] at hv2 h2
  refine L_icmp_eq 828 dL_law_273 (by decide) (fun _ => ?_) (fun g => absurd (hv1.trans hv2.symm) g)
  exact L_weak (K _ _ _ (lw_step h (⟨h.2.2.1, loc_rf _⟩) hR1 hc1 h2 h3)) (by omega) (by omega)
theorem lw_4 {i c0 s0 : Nat} (h : lwI sh P I) (hn : bb.2.1 < 2147483648) (hi : i + 6 ≤ bb.2.1) {c1 s1 : Nat} (hc9 : c1 ≤ c0) (hs9 : s1 ≤ s0) (K : ∀ sh' I' P', lwI sh' P' I' → am_RL bb (mL nm) pL 7 181 c1 s1 828 [none, some (.ref 60), some (.ref 0), some (.int (nI i))] [] sh' I' P') : am_RL bb (mL nm) pL 7 181 c0 s0 278 [none, some (.ref 60), some (.ref 0), some (.int (nI i))] [] sh I P := by
  refine L_aload_n dL_law_278 rfl ?_
  refine L_scr (j := 1) dL_law_279 dL_law_280 dL_law_281 dL_law_282 dL_law_283 rfl kc_1 (by omega) hn ?_
  refine L_scr (j := 2) dL_law_284 dL_law_285 dL_law_286 dL_law_287 dL_law_288 rfl kc_2 (by omega) hn ?_
  refine L_scr (j := 3) dL_law_289 dL_law_290 dL_law_291 dL_law_292 dL_law_293 rfl kc_3 (by omega) hn ?_
  refine L_scr (j := 4) dL_law_294 dL_law_295 dL_law_296 dL_law_297 dL_law_298 rfl kc_4 (by omega) hn ?_
  refine L_scr (j := 5) dL_law_299 dL_law_300 dL_law_301 dL_law_302 dL_law_303 rfl kc_5 (by omega) hn ?_
  refine L_callV5 (fr' := 3) (lo' := 67) (mc' := 0) (ms' := 0) dL_law_304 mm_X10_join mv_X10_join l_L_32 (h.2.1.1 60 _ rfl) mc_X10_join (by decide) ⟨by decide, by decide⟩ (Nat.zero_le _) (Nat.zero_le _) (Nat.le_of_ble_eq_true rfl) (c_X10_join h.2.1 h.2.2.1 h.2.2.2.1 _ _ _ _ _) (L_ki ?_)
  rintro v1 _ I1 _ ⟨hv1, hR1, hc1, rfl, rfl⟩
  have e1 : rs I1 = rs I := rs_cF hc1
  refine L_aload_n dL_law_307 rfl ?_
  refine L_scr (j := 1) dL_law_308 dL_law_309 dL_law_310 dL_law_311 dL_law_312 rfl kc_1 (by omega) hn ?_
  refine L_scr (j := 2) dL_law_313 dL_law_314 dL_law_315 dL_law_316 dL_law_317 rfl kc_2 (by omega) hn ?_
  refine L_scr (j := 3) dL_law_318 dL_law_319 dL_law_320 dL_law_321 dL_law_322 rfl kc_3 (by omega) hn ?_
  refine L_scr (j := 4) dL_law_323 dL_law_324 dL_law_325 dL_law_326 dL_law_327 rfl kc_4 (by omega) hn ?_
  refine L_scr (j := 5) dL_law_328 dL_law_329 dL_law_330 dL_law_331 dL_law_332 rfl kc_5 (by omega) hn ?_
  refine L_callV5 (fr' := 1) (lo' := 22) (mc' := 0) (ms' := 0) dL_law_333 mm_X11_join mv_X11_join l_L_36 (h.1.1 0 _ rfl) mc_X11_join (by decide) ⟨by decide, by decide⟩ (Nat.zero_le _) (Nat.zero_le _) (Nat.le_of_ble_eq_true rfl) (c_X11_join h.1 (by rw [e1]; exact h.2.2.1) _ _ _ _ _) (L_ki ?_)
  rintro v2 _ I2 _ ⟨hv2, h2, h3, rfl, rfl⟩
  rw [e1] at hv2 h2
  refine L_icmp_eq 828 dL_law_336 (by decide) (fun _ => ?_) (fun g => absurd (hv1.trans hv2.symm) g)
  exact L_weak (K _ _ _ (lw_step h (K_j h.2.2.1 _ _ _ _ _) hR1 hc1 h2 h3)) (by omega) (by omega)
theorem lw_5 {i c0 s0 : Nat} (h : lwI sh P I) (hn : bb.2.1 < 2147483648) (hi : i + 6 ≤ bb.2.1) {c1 s1 : Nat} (hc9 : c1 ≤ c0) (hs9 : s1 ≤ s0) (K : ∀ sh' I' P', lwI sh' P' I' → am_RL bb (mL nm) pL 7 181 c1 s1 828 [none, some (.ref 60), some (.ref 0), some (.int (nI i))] [] sh' I' P') : am_RL bb (mL nm) pL 7 181 c0 s0 341 [none, some (.ref 60), some (.ref 0), some (.int (nI i))] [] sh I P := by
  refine L_aload_n dL_law_341 rfl ?_
  refine L_callV0 (fr' := 0) (lo' := 0) (mc' := 0) (ms' := 0) dL_law_342 mm_X10_part mv_X10_part l_L_37 (h.2.1.1 60 _ rfl) mc_X10_part (by decide) ⟨by decide, by decide⟩ (Nat.zero_le _) (Nat.zero_le _) (Nat.le_of_ble_eq_true rfl) (c_X10_part h.2.1 h.2.2.1 h.2.2.2.1) (L_kv ?_)
  rintro _ I1 _ ⟨hR1, hc1, rfl, rfl⟩
  have e1 : rs I1 = rs I := rs_cF hc1
  refine L_aload_n dL_law_345 rfl ?_
  refine L_callV0 (fr' := 0) (lo' := 0) (mc' := 0) (ms' := 0) dL_law_346 mm_X11_part mv_X11_part l_L_40 (h.1.1 0 _ rfl) mc_X11_part (by decide) ⟨by decide, by decide⟩ (Nat.zero_le _) (Nat.zero_le _) (Nat.le_of_ble_eq_true rfl) (c_X11_part h.1 (by rw [e1]; exact h.2.2.1)) (L_kv ?_)
  rintro _ I2 _ ⟨h2, h3, rfl, rfl⟩
  rw [e1] at h2
  refine L_goto 828 dL_law_349 (by decide) ?_
  exact L_weak (K _ _ _ (lw_step h (K_pt h.2.2.1) hR1 hc1 h2 h3)) (by omega) (by omega)
theorem lw_6 {i c0 s0 : Nat} (h : lwI sh P I) (hn : bb.2.1 < 2147483648) (hi : i + 6 ≤ bb.2.1) {c1 s1 : Nat} (hc9 : c1 ≤ c0) (hs9 : s1 ≤ s0) (K : ∀ sh' I' P', lwI sh' P' I' → am_RL bb (mL nm) pL 7 181 c1 s1 828 [none, some (.ref 60), some (.ref 0), some (.int (nI i))] [] sh' I' P') : am_RL bb (mL nm) pL 7 181 c0 s0 352 [none, some (.ref 60), some (.ref 0), some (.int (nI i))] [] sh I P := by
  refine L_aload_n dL_law_352 rfl ?_
  refine L_scr (j := 1) dL_law_353 dL_law_354 dL_law_355 dL_law_356 dL_law_357 rfl kc_1 (by omega) hn ?_
  refine L_scr (j := 2) dL_law_358 dL_law_359 dL_law_360 dL_law_361 dL_law_362 rfl kc_2 (by omega) hn ?_
  refine L_callV2 (fr' := 2) (lo' := 43) (mc' := 0) (ms' := 0) dL_law_363 mm_X10_joined mv_X10_joined l_L_41 (h.2.1.1 60 _ rfl) mc_X10_joined (by decide) ⟨by decide, by decide⟩ (Nat.zero_le _) (Nat.zero_le _) (Nat.le_of_ble_eq_true rfl) (c_X10_joined h.2.1 h.2.2.1 h.2.2.2.1 _ _) (L_ki ?_)
  rintro v1 _ I1 _ ⟨hv1, hR1, hc1, rfl, rfl⟩
  have e1 : rs I1 = rs I := rs_cF hc1
  refine L_aload_n dL_law_366 rfl ?_
  refine L_scr (j := 1) dL_law_367 dL_law_368 dL_law_369 dL_law_370 dL_law_371 rfl kc_1 (by omega) hn ?_
  refine L_scr (j := 2) dL_law_372 dL_law_373 dL_law_374 dL_law_375 dL_law_376 rfl kc_2 (by omega) hn ?_
  refine L_callV2 (fr' := 1) (lo' := 22) (mc' := 0) (ms' := 0) dL_law_377 mm_X11_joined mv_X11_joined l_L_45 (h.1.1 0 _ rfl) mc_X11_joined (by decide) ⟨by decide, by decide⟩ (Nat.zero_le _) (Nat.zero_le _) (Nat.le_of_ble_eq_true rfl) (c_X11_joined h.1 (by rw [e1]; exact h.2.2.1) _ _) (L_ki ?_)
  rintro v2 _ I2 _ ⟨hv2, h2, h3, rfl, rfl⟩
  rw [e1] at hv2 h2
  refine L_icmp_eq 828 dL_law_380 (by decide) (fun _ => ?_) (fun g => absurd (hv1.trans hv2.symm) g)
  exact L_weak (K _ _ _ (lw_step h (⟨h.2.2.1, loc_rf _⟩) hR1 hc1 h2 h3)) (by omega) (by omega)
theorem lw_7 {i c0 s0 : Nat} (h : lwI sh P I) (hn : bb.2.1 < 2147483648) (hi : i + 6 ≤ bb.2.1) {c1 s1 : Nat} (hc9 : c1 ≤ c0) (hs9 : s1 ≤ s0) (K : ∀ sh' I' P', lwI sh' P' I' → am_RL bb (mL nm) pL 7 181 c1 s1 828 [none, some (.ref 60), some (.ref 0), some (.int (nI i))] [] sh' I' P') : am_RL bb (mL nm) pL 7 181 c0 s0 385 [none, some (.ref 60), some (.ref 0), some (.int (nI i))] [] sh I P := by
  refine L_aload_n dL_law_385 rfl ?_
  refine L_scr (j := 1) dL_law_386 dL_law_387 dL_law_388 dL_law_389 dL_law_390 rfl kc_1 (by omega) hn ?_
  refine L_callV1 (fr' := 5) (lo' := 113) (mc' := 0) (ms' := 0) dL_law_391 mm_X10_pack mv_X10_pack l_L_46 (h.2.1.1 60 _ rfl) mc_X10_pack (by decide) ⟨by decide, by decide⟩ (Nat.zero_le _) (Nat.zero_le _) (Nat.le_of_ble_eq_true rfl) (c_X10_pack h.2.1 h.2.2.1 h.2.2.2.1 _) (L_ki ?_)
  rintro v1 _ I1 _ ⟨hv1, hR1, hc1, rfl, rfl⟩
  have e1 : rs I1 = rs I := rs_cF hc1
  refine L_aload_n dL_law_394 rfl ?_
  refine L_scr (j := 1) dL_law_395 dL_law_396 dL_law_397 dL_law_398 dL_law_399 rfl kc_1 (by omega) hn ?_
  refine L_callV1 (fr' := 2) (lo' := 52) (mc' := 0) (ms' := 0) dL_law_400 mm_X11_pack mv_X11_pack l_L_50 (h.1.1 0 _ rfl) mc_X11_pack (by decide) ⟨by decide, by decide⟩ (Nat.zero_le _) (Nat.zero_le _) (Nat.le_of_ble_eq_true rfl) (c_X11_pack h.1 (by rw [e1]; exact h.2.2.1) _) (L_ki ?_)
  rintro v2 _ I2 _ ⟨hv2, h2, h3, rfl, rfl⟩
  rw [e1] at hv2 h2
  refine L_icmp_eq 828 dL_law_403 (by decide) (fun _ => ?_) (fun g => absurd (hv1.trans hv2.symm) g)
  exact L_weak (K _ _ _ (lw_step h (K_pa h.2.2.1 _) hR1 hc1 h2 h3)) (by omega) (by omega)
theorem lw_8 {i c0 s0 : Nat} (h : lwI sh P I) (hn : bb.2.1 < 2147483648) (hi : i + 6 ≤ bb.2.1) {c1 s1 : Nat} (hc9 : c1 ≤ c0) (hs9 : s1 ≤ s0) (K : ∀ sh' I' P', lwI sh' P' I' → am_RL bb (mL nm) pL 7 181 c1 s1 828 [none, some (.ref 60), some (.ref 0), some (.int (nI i))] [] sh' I' P') : am_RL bb (mL nm) pL 7 181 c0 s0 408 [none, some (.ref 60), some (.ref 0), some (.int (nI i))] [] sh I P := by
  refine L_aload_n dL_law_408 rfl ?_
  refine L_scr (j := 1) dL_law_409 dL_law_410 dL_law_411 dL_law_412 dL_law_413 rfl kc_1 (by omega) hn ?_
  refine L_scr (j := 2) dL_law_414 dL_law_415 dL_law_416 dL_law_417 dL_law_418 rfl kc_2 (by omega) hn ?_
  refine L_callV2 (fr' := 1) (lo' := 21) (mc' := 0) (ms' := 0) dL_law_419 mm_X10_code mv_X10_code l_L_51 (h.2.1.1 60 _ rfl) mc_X10_code (by decide) ⟨by decide, by decide⟩ (Nat.zero_le _) (Nat.zero_le _) (Nat.le_of_ble_eq_true rfl) (c_X10_code h.2.1 h.2.2.1 h.2.2.2.1 _ _) (L_ki ?_)
  rintro v1 _ I1 _ ⟨hv1, hR1, hc1, rfl, rfl⟩
  have e1 : rs I1 = rs I := rs_cF hc1
  refine L_aload_n dL_law_422 rfl ?_
  refine L_scr (j := 1) dL_law_423 dL_law_424 dL_law_425 dL_law_426 dL_law_427 rfl kc_1 (by omega) hn ?_
  refine L_scr (j := 2) dL_law_428 dL_law_429 dL_law_430 dL_law_431 dL_law_432 rfl kc_2 (by omega) hn ?_
  refine L_callV2 (fr' := 1) (lo' := 22) (mc' := 0) (ms' := 0) dL_law_433 mm_X11_code mv_X11_code l_L_54 (h.1.1 0 _ rfl) mc_X11_code (by decide) ⟨by decide, by decide⟩ (Nat.zero_le _) (Nat.zero_le _) (Nat.le_of_ble_eq_true rfl) (c_X11_code h.1 (by rw [e1]; exact h.2.2.1) _ _) (L_ki ?_)
  rintro v2 _ I2 _ ⟨hv2, h2, h3, rfl, rfl⟩
  rw [e1] at hv2 h2
  refine L_icmp_eq 828 dL_law_436 (by decide) (fun _ => ?_) (fun g => absurd (hv1.trans hv2.symm) g)
  exact L_weak (K _ _ _ (lw_step h (⟨h.2.2.1, loc_rf _⟩) hR1 hc1 h2 h3)) (by omega) (by omega)
theorem lw_9 {i c0 s0 : Nat} (h : lwI sh P I) (hn : bb.2.1 < 2147483648) (hi : i + 6 ≤ bb.2.1) {c1 s1 : Nat} (hc9 : c1 ≤ c0) (hs9 : s1 ≤ s0) (K : ∀ sh' I' P', lwI sh' P' I' → am_RL bb (mL nm) pL 7 181 c1 s1 828 [none, some (.ref 60), some (.ref 0), some (.int (nI i))] [] sh' I' P') : am_RL bb (mL nm) pL 7 181 c0 s0 441 [none, some (.ref 60), some (.ref 0), some (.int (nI i))] [] sh I P := by
  refine L_aload_n dL_law_441 rfl ?_
  refine L_scr (j := 1) dL_law_442 dL_law_443 dL_law_444 dL_law_445 dL_law_446 rfl kc_1 (by omega) hn ?_
  refine L_callV1 (fr' := 1) (lo' := 21) (mc' := 0) (ms' := 0) dL_law_447 mm_X10_bytes mv_X10_bytes l_L_55 (h.2.1.1 60 _ rfl) mc_X10_bytes (by decide) ⟨by decide, by decide⟩ (Nat.zero_le _) (Nat.zero_le _) (Nat.le_of_ble_eq_true rfl) (c_X10_bytes h.2.1 h.2.2.1 h.2.2.2.1 _) (L_ki ?_)
  rintro v1 _ I1 _ ⟨hv1, hR1, hc1, rfl, rfl⟩
  have e1 : rs I1 = rs I := rs_cF hc1
  refine L_aload_n dL_law_450 rfl ?_
  refine L_scr (j := 1) dL_law_451 dL_law_452 dL_law_453 dL_law_454 dL_law_455 rfl kc_1 (by omega) hn ?_
  refine L_callV1 (fr' := 1) (lo' := 22) (mc' := 0) (ms' := 0) dL_law_456 mm_X11_bytes mv_X11_bytes l_L_58 (h.1.1 0 _ rfl) mc_X11_bytes (by decide) ⟨by decide, by decide⟩ (Nat.zero_le _) (Nat.zero_le _) (Nat.le_of_ble_eq_true rfl) (c_X11_bytes h.1 (by rw [e1]; exact h.2.2.1) _) (L_ki ?_)
  rintro v2 _ I2 _ ⟨hv2, h2, h3, rfl, rfl⟩
  rw [e1] at hv2 h2
  refine L_icmp_eq 828 dL_law_459 (by decide) (fun _ => ?_) (fun g => absurd (hv1.trans hv2.symm) g)
  exact L_weak (K _ _ _ (lw_step h (⟨h.2.2.1, loc_rf _⟩) hR1 hc1 h2 h3)) (by omega) (by omega)
theorem lw_10 {i c0 s0 : Nat} (h : lwI sh P I) (hn : bb.2.1 < 2147483648) (hi : i + 6 ≤ bb.2.1) {c1 s1 : Nat} (hc9 : c1 ≤ c0) (hs9 : s1 ≤ s0) (K : ∀ sh' I' P', lwI sh' P' I' → am_RL bb (mL nm) pL 7 181 c1 s1 828 [none, some (.ref 60), some (.ref 0), some (.int (nI i))] [] sh' I' P') : am_RL bb (mL nm) pL 7 181 c0 s0 464 [none, some (.ref 60), some (.ref 0), some (.int (nI i))] [] sh I P := by
  by_cases hz : bb.2.2 (i + 2) = 0
  · refine L_aload_n dL_law_464 rfl ?_
    refine L_scr (j := 1) dL_law_465 dL_law_466 dL_law_467 dL_law_468 dL_law_469 rfl kc_1 (by omega) hn ?_
    refine L_scr (j := 2) dL_law_470 dL_law_471 dL_law_472 dL_law_473 dL_law_474 rfl kc_2 (by omega) hn ?_
    refine L_if_eq 482 dL_law_475 (by decide) (fun _ => ?_) (fun g => absurd hz g)
    refine L_iconst dL_law_482 (v := nI 0) kc_0 ?_
    refine L_scr (j := 3) dL_law_483 dL_law_484 dL_law_485 dL_law_486 dL_law_487 rfl kc_3 (by omega) hn ?_
    refine L_callV3 (fr' := 5) (lo' := 114) (mc' := 0) (ms' := 0) dL_law_488 mm_X10_run mv_X10_run l_L_59 (h.2.1.1 60 _ rfl) mc_X10_run (by decide) ⟨by decide, by decide⟩ (Nat.zero_le _) (Nat.zero_le _) (Nat.le_of_ble_eq_true rfl) (c_X10_run h.2.1 h.2.2.1 h.2.2.2.1 _ _ _) (L_ki ?_)
    rintro v1 _ I1 _ ⟨hv1, hR1, hc1, rfl, rfl⟩
    have e1 : rs I1 = rs I := rs_cF hc1
    refine L_aload_n dL_law_491 rfl ?_
    refine L_scr (j := 1) dL_law_492 dL_law_493 dL_law_494 dL_law_495 dL_law_496 rfl kc_1 (by omega) hn ?_
    refine L_scr (j := 2) dL_law_497 dL_law_498 dL_law_499 dL_law_500 dL_law_501 rfl kc_2 (by omega) hn ?_
    refine L_if_eq 509 dL_law_502 (by decide) (fun _ => ?_) (fun g => absurd hz g)
    refine L_iconst dL_law_509 (v := nI 0) kc_0 ?_
    refine L_scr (j := 3) dL_law_510 dL_law_511 dL_law_512 dL_law_513 dL_law_514 rfl kc_3 (by omega) hn ?_
    refine L_callV3 (fr' := 3) (lo' := 72) (mc' := 0) (ms' := 0) dL_law_515 mm_X11_run mv_X11_run l_L_63 (h.1.1 0 _ rfl) mc_X11_run (by decide) ⟨by decide, by decide⟩ (Nat.zero_le _) (Nat.zero_le _) (Nat.le_of_ble_eq_true rfl) (c_X11_run h.1 (by rw [e1]; exact h.2.2.1) _ _ _) (L_ki ?_)
    rintro v2 _ I2 _ ⟨hv2, h2, h3, rfl, rfl⟩
    rw [e1] at hv2 h2
    refine L_icmp_eq 828 dL_law_518 (by decide) (fun _ => ?_) (fun g => absurd (hv1.trans hv2.symm) g)
    exact L_weak (K _ _ _ (lw_step h (K_ru h.2.2.1 _ _ _) hR1 hc1 h2 h3)) (by omega) (by omega)
  · refine L_aload_n dL_law_464 rfl ?_
    refine L_scr (j := 1) dL_law_465 dL_law_466 dL_law_467 dL_law_468 dL_law_469 rfl kc_1 (by omega) hn ?_
    refine L_scr (j := 2) dL_law_470 dL_law_471 dL_law_472 dL_law_473 dL_law_474 rfl kc_2 (by omega) hn ?_
    refine L_if_eq 482 dL_law_475 (by decide) (fun g => absurd g hz) (fun _ => ?_)
    refine L_iconst dL_law_478 (v := nI 1) kc_1 ?_
    refine L_goto 483 dL_law_479 (by decide) ?_
    refine L_scr (j := 3) dL_law_483 dL_law_484 dL_law_485 dL_law_486 dL_law_487 rfl kc_3 (by omega) hn ?_
    refine L_callV3 (fr' := 5) (lo' := 114) (mc' := 0) (ms' := 0) dL_law_488 mm_X10_run mv_X10_run l_L_59 (h.2.1.1 60 _ rfl) mc_X10_run (by decide) ⟨by decide, by decide⟩ (Nat.zero_le _) (Nat.zero_le _) (Nat.le_of_ble_eq_true rfl) (c_X10_run h.2.1 h.2.2.1 h.2.2.2.1 _ _ _) (L_ki ?_)
    rintro v1 _ I1 _ ⟨hv1, hR1, hc1, rfl, rfl⟩
    have e1 : rs I1 = rs I := rs_cF hc1
    refine L_aload_n dL_law_491 rfl ?_
    refine L_scr (j := 1) dL_law_492 dL_law_493 dL_law_494 dL_law_495 dL_law_496 rfl kc_1 (by omega) hn ?_
    refine L_scr (j := 2) dL_law_497 dL_law_498 dL_law_499 dL_law_500 dL_law_501 rfl kc_2 (by omega) hn ?_
    refine L_if_eq 509 dL_law_502 (by decide) (fun g => absurd g hz) (fun _ => ?_)
    refine L_iconst dL_law_505 (v := nI 1) kc_1 ?_
    refine L_goto 510 dL_law_506 (by decide) ?_
    refine L_scr (j := 3) dL_law_510 dL_law_511 dL_law_512 dL_law_513 dL_law_514 rfl kc_3 (by omega) hn ?_
    refine L_callV3 (fr' := 3) (lo' := 72) (mc' := 0) (ms' := 0) dL_law_515 mm_X11_run mv_X11_run l_L_63 (h.1.1 0 _ rfl) mc_X11_run (by decide) ⟨by decide, by decide⟩ (Nat.zero_le _) (Nat.zero_le _) (Nat.le_of_ble_eq_true rfl) (c_X11_run h.1 (by rw [e1]; exact h.2.2.1) _ _ _) (L_ki ?_)
    rintro v2 _ I2 _ ⟨hv2, h2, h3, rfl, rfl⟩
    rw [e1] at hv2 h2
    refine L_icmp_eq 828 dL_law_518 (by decide) (fun _ => ?_) (fun g => absurd (hv1.trans hv2.symm) g)
    exact L_weak (K _ _ _ (lw_step h (K_ru h.2.2.1 _ _ _) hR1 hc1 h2 h3)) (by omega) (by omega)
theorem lw_11 {i c0 s0 : Nat} (h : lwI sh P I) (hn : bb.2.1 < 2147483648) (hi : i + 6 ≤ bb.2.1) {c1 s1 : Nat} (hc9 : c1 ≤ c0) (hs9 : s1 ≤ s0) (K : ∀ sh' I' P', lwI sh' P' I' → am_RL bb (mL nm) pL 7 181 c1 s1 828 [none, some (.ref 60), some (.ref 0), some (.int (nI i))] [] sh' I' P') : am_RL bb (mL nm) pL 7 181 c0 s0 523 [none, some (.ref 60), some (.ref 0), some (.int (nI i))] [] sh I P := by
  refine L_aload_n dL_law_523 rfl ?_
  refine L_scr (j := 1) dL_law_524 dL_law_525 dL_law_526 dL_law_527 dL_law_528 rfl kc_1 (by omega) hn ?_
  refine L_callV1 (fr' := 0) (lo' := 0) (mc' := 0) (ms' := 0) dL_law_529 mm_X10_ran mv_X10_ran l_L_64 (h.2.1.1 60 _ rfl) mc_X10_ran (by decide) ⟨by decide, by decide⟩ (Nat.zero_le _) (Nat.zero_le _) (Nat.le_of_ble_eq_true rfl) (c_X10_ran h.2.1 h.2.2.1 h.2.2.2.1 _) (L_ki ?_)
  rintro v1 _ I1 _ ⟨hv1, hR1, hc1, rfl, rfl⟩
  have e1 : rs I1 = rs I := rs_cF hc1
  refine L_aload_n dL_law_532 rfl ?_
  refine L_scr (j := 1) dL_law_533 dL_law_534 dL_law_535 dL_law_536 dL_law_537 rfl kc_1 (by omega) hn ?_
  refine L_callV1 (fr' := 0) (lo' := 0) (mc' := 0) (ms' := 0) dL_law_538 mm_X11_ran mv_X11_ran l_L_67 (h.1.1 0 _ rfl) mc_X11_ran (by decide) ⟨by decide, by decide⟩ (Nat.zero_le _) (Nat.zero_le _) (Nat.le_of_ble_eq_true rfl) (c_X11_ran h.1 (by rw [e1]; exact h.2.2.1) _) (L_ki ?_)
  rintro v2 _ I2 _ ⟨hv2, h2, h3, rfl, rfl⟩
  rw [e1] at hv2 h2
  refine L_icmp_eq 828 dL_law_541 (by decide) (fun _ => ?_) (fun g => absurd (hv1.trans hv2.symm) g)
  exact L_weak (K _ _ _ (lw_step h (⟨h.2.2.1, loc_rf _⟩) hR1 hc1 h2 h3)) (by omega) (by omega)
theorem lw_12 {i c0 s0 : Nat} (h : lwI sh P I) (hn : bb.2.1 < 2147483648) (hi : i + 6 ≤ bb.2.1) {c1 s1 : Nat} (hc9 : c1 ≤ c0) (hs9 : s1 ≤ s0) (K : ∀ sh' I' P', lwI sh' P' I' → am_RL bb (mL nm) pL 7 181 c1 s1 828 [none, some (.ref 60), some (.ref 0), some (.int (nI i))] [] sh' I' P') : am_RL bb (mL nm) pL 7 181 c0 s0 546 [none, some (.ref 60), some (.ref 0), some (.int (nI i))] [] sh I P := by
  refine L_aload_n dL_law_546 rfl ?_
  refine L_scr (j := 1) dL_law_547 dL_law_548 dL_law_549 dL_law_550 dL_law_551 rfl kc_1 (by omega) hn ?_
  refine L_scr (j := 2) dL_law_552 dL_law_553 dL_law_554 dL_law_555 dL_law_556 rfl kc_2 (by omega) hn ?_
  refine L_callV2 (fr' := 1) (lo' := 22) (mc' := 0) (ms' := 0) dL_law_557 mm_X10_had mv_X10_had l_L_68 (h.2.1.1 60 _ rfl) mc_X10_had (by decide) ⟨by decide, by decide⟩ (Nat.zero_le _) (Nat.zero_le _) (Nat.le_of_ble_eq_true rfl) (c_X10_had h.2.1 h.2.2.1 h.2.2.2.1 _ _) (L_ki ?_)
  rintro v1 _ I1 _ ⟨hv1, hR1, hc1, rfl, rfl⟩
  have e1 : rs I1 = rs I := rs_cF hc1
  refine L_aload_n dL_law_560 rfl ?_
  refine L_scr (j := 1) dL_law_561 dL_law_562 dL_law_563 dL_law_564 dL_law_565 rfl kc_1 (by omega) hn ?_
  refine L_scr (j := 2) dL_law_566 dL_law_567 dL_law_568 dL_law_569 dL_law_570 rfl kc_2 (by omega) hn ?_
  refine L_callV2 (fr' := 1) (lo' := 22) (mc' := 0) (ms' := 0) dL_law_571 mm_X11_had mv_X11_had l_L_71 (h.1.1 0 _ rfl) mc_X11_had (by decide) ⟨by decide, by decide⟩ (Nat.zero_le _) (Nat.zero_le _) (Nat.le_of_ble_eq_true rfl) (c_X11_had h.1 (by rw [e1]; exact h.2.2.1) _ _) (L_ki ?_)
  rintro v2 _ I2 _ ⟨hv2, h2, h3, rfl, rfl⟩
  rw [e1] at hv2 h2
  refine L_icmp_eq 828 dL_law_574 (by decide) (fun _ => ?_) (fun g => absurd (hv1.trans hv2.symm) g)
  exact L_weak (K _ _ _ (lw_step h (⟨h.2.2.1, loc_rf _⟩) hR1 hc1 h2 h3)) (by omega) (by omega)
theorem lw_13 {i c0 s0 : Nat} (h : lwI sh P I) (hn : bb.2.1 < 2147483648) (hi : i + 6 ≤ bb.2.1) {c1 s1 : Nat} (hc9 : c1 ≤ c0) (hs9 : s1 ≤ s0) (K : ∀ sh' I' P', lwI sh' P' I' → am_RL bb (mL nm) pL 7 181 c1 s1 828 [none, some (.ref 60), some (.ref 0), some (.int (nI i))] [] sh' I' P') : am_RL bb (mL nm) pL 7 181 c0 s0 579 [none, some (.ref 60), some (.ref 0), some (.int (nI i))] [] sh I P := by
  by_cases hz : bb.2.2 (i + 1) = 0
  · refine L_aload_n dL_law_579 rfl ?_
    refine L_scr (j := 1) dL_law_580 dL_law_581 dL_law_582 dL_law_583 dL_law_584 rfl kc_1 (by omega) hn ?_
    refine L_if_eq 592 dL_law_585 (by decide) (fun _ => ?_) (fun g => absurd hz g)
    refine L_iconst dL_law_592 (v := nI 0) kc_0 ?_
    refine L_callV1 (fr' := 5) (lo' := 113) (mc' := 0) (ms' := 0) dL_law_593 mm_X10_cost mv_X10_cost l_L_72 (h.2.1.1 60 _ rfl) mc_X10_cost (by decide) ⟨by decide, by decide⟩ (Nat.zero_le _) (Nat.zero_le _) (Nat.le_of_ble_eq_true rfl) (c_X10_cost h.2.1 h.2.2.1 h.2.2.2.1 _) (L_ki ?_)
    rintro v1 _ I1 _ ⟨hv1, hR1, hc1, rfl, rfl⟩
    have e1 : rs I1 = rs I := rs_cF hc1
    refine L_aload_n dL_law_596 rfl ?_
    refine L_scr (j := 1) dL_law_597 dL_law_598 dL_law_599 dL_law_600 dL_law_601 rfl kc_1 (by omega) hn ?_
    refine L_if_eq 609 dL_law_602 (by decide) (fun _ => ?_) (fun g => absurd hz g)
    refine L_iconst dL_law_609 (v := nI 0) kc_0 ?_
    refine L_callV1 (fr' := 3) (lo' := 75) (mc' := 0) (ms' := 0) dL_law_610 mm_X11_cost mv_X11_cost l_L_76 (h.1.1 0 _ rfl) mc_X11_cost (by decide) ⟨by decide, by decide⟩ (Nat.zero_le _) (Nat.zero_le _) (Nat.le_of_ble_eq_true rfl) (c_X11_cost h.1 (by rw [e1]; exact h.2.2.1) _) (L_ki ?_)
    rintro v2 _ I2 _ ⟨hv2, h2, h3, rfl, rfl⟩
    rw [e1] at hv2 h2
    refine L_icmp_eq 828 dL_law_613 (by decide) (fun _ => ?_) (fun g => absurd (hv1.trans hv2.symm) g)
    exact L_weak (K _ _ _ (lw_step h (⟨h.2.2.1, loc_rf _⟩) hR1 hc1 h2 h3)) (by omega) (by omega)
  · refine L_aload_n dL_law_579 rfl ?_
    refine L_scr (j := 1) dL_law_580 dL_law_581 dL_law_582 dL_law_583 dL_law_584 rfl kc_1 (by omega) hn ?_
    refine L_if_eq 592 dL_law_585 (by decide) (fun g => absurd g hz) (fun _ => ?_)
    refine L_iconst dL_law_588 (v := nI 1) kc_1 ?_
    refine L_goto 593 dL_law_589 (by decide) ?_
    refine L_callV1 (fr' := 5) (lo' := 113) (mc' := 0) (ms' := 0) dL_law_593 mm_X10_cost mv_X10_cost l_L_72 (h.2.1.1 60 _ rfl) mc_X10_cost (by decide) ⟨by decide, by decide⟩ (Nat.zero_le _) (Nat.zero_le _) (Nat.le_of_ble_eq_true rfl) (c_X10_cost h.2.1 h.2.2.1 h.2.2.2.1 _) (L_ki ?_)
    rintro v1 _ I1 _ ⟨hv1, hR1, hc1, rfl, rfl⟩
    have e1 : rs I1 = rs I := rs_cF hc1
    refine L_aload_n dL_law_596 rfl ?_
    refine L_scr (j := 1) dL_law_597 dL_law_598 dL_law_599 dL_law_600 dL_law_601 rfl kc_1 (by omega) hn ?_
    refine L_if_eq 609 dL_law_602 (by decide) (fun g => absurd g hz) (fun _ => ?_)
    refine L_iconst dL_law_605 (v := nI 1) kc_1 ?_
    refine L_goto 610 dL_law_606 (by decide) ?_
    refine L_callV1 (fr' := 3) (lo' := 75) (mc' := 0) (ms' := 0) dL_law_610 mm_X11_cost mv_X11_cost l_L_76 (h.1.1 0 _ rfl) mc_X11_cost (by decide) ⟨by decide, by decide⟩ (Nat.zero_le _) (Nat.zero_le _) (Nat.le_of_ble_eq_true rfl) (c_X11_cost h.1 (by rw [e1]; exact h.2.2.1) _) (L_ki ?_)
    rintro v2 _ I2 _ ⟨hv2, h2, h3, rfl, rfl⟩
    rw [e1] at hv2 h2
    refine L_icmp_eq 828 dL_law_613 (by decide) (fun _ => ?_) (fun g => absurd (hv1.trans hv2.symm) g)
    exact L_weak (K _ _ _ (lw_step h (⟨h.2.2.1, loc_rf _⟩) hR1 hc1 h2 h3)) (by omega) (by omega)
theorem lw_14 {i c0 s0 : Nat} (h : lwI sh P I) (hn : bb.2.1 < 2147483648) (hi : i + 6 ≤ bb.2.1) {c1 s1 : Nat} (hc9 : c1 ≤ c0) (hs9 : s1 ≤ s0) (K : ∀ sh' I' P', lwI sh' P' I' → am_RL bb (mL nm) pL 7 181 c1 s1 828 [none, some (.ref 60), some (.ref 0), some (.int (nI i))] [] sh' I' P') : am_RL bb (mL nm) pL 7 181 c0 s0 618 [none, some (.ref 60), some (.ref 0), some (.int (nI i))] [] sh I P := by
  by_cases hz : bb.2.2 (i + 2) = 0
  · refine L_aload_n dL_law_618 rfl ?_
    refine L_scr (j := 1) dL_law_619 dL_law_620 dL_law_621 dL_law_622 dL_law_623 rfl kc_1 (by omega) hn ?_
    refine L_scr (j := 2) dL_law_624 dL_law_625 dL_law_626 dL_law_627 dL_law_628 rfl kc_2 (by omega) hn ?_
    refine L_if_eq 636 dL_law_629 (by decide) (fun _ => ?_) (fun g => absurd hz g)
    refine L_iconst dL_law_636 (v := nI 0) kc_0 ?_
    refine L_callV2 (fr' := 6) (lo' := 159) (mc' := 0) (ms' := 0) dL_law_637 mm_X10_choose mv_X10_choose l_L_77 (h.2.1.1 60 _ rfl) mc_X10_choose (by decide) ⟨by decide, by decide⟩ (Nat.zero_le _) (Nat.zero_le _) (Nat.le_of_ble_eq_true rfl) (c_X10_choose h.2.1 h.2.2.1 h.2.2.2.1 _ _) (L_ki ?_)
    rintro v1 _ I1 _ ⟨hv1, hR1, hc1, rfl, rfl⟩
    have e1 : rs I1 = rs I := rs_cF hc1
    refine L_aload_n dL_law_640 rfl ?_
    refine L_scr (j := 1) dL_law_641 dL_law_642 dL_law_643 dL_law_644 dL_law_645 rfl kc_1 (by omega) hn ?_
    refine L_scr (j := 2) dL_law_646 dL_law_647 dL_law_648 dL_law_649 dL_law_650 rfl kc_2 (by omega) hn ?_
    refine L_if_eq 658 dL_law_651 (by decide) (fun _ => ?_) (fun g => absurd hz g)
    refine L_iconst dL_law_658 (v := nI 0) kc_0 ?_
    refine L_callV2 (fr' := 4) (lo' := 99) (mc' := 0) (ms' := 0) dL_law_659 mm_X11_choose mv_X11_choose l_L_81 (h.1.1 0 _ rfl) mc_X11_choose (by decide) ⟨by decide, by decide⟩ (Nat.zero_le _) (Nat.zero_le _) (Nat.le_of_ble_eq_true rfl) (c_X11_choose h.1 (by rw [e1]; exact h.2.2.1) _ _) (L_ki ?_)
    rintro v2 _ I2 _ ⟨hv2, h2, h3, rfl, rfl⟩
    rw [e1] at hv2 h2
    refine L_icmp_eq 828 dL_law_662 (by decide) (fun _ => ?_) (fun g => absurd (hv1.trans hv2.symm) g)
    exact L_weak (K _ _ _ (lw_step h (K_ch h.2.2.1 _ _) hR1 hc1 h2 h3)) (by omega) (by omega)
  · refine L_aload_n dL_law_618 rfl ?_
    refine L_scr (j := 1) dL_law_619 dL_law_620 dL_law_621 dL_law_622 dL_law_623 rfl kc_1 (by omega) hn ?_
    refine L_scr (j := 2) dL_law_624 dL_law_625 dL_law_626 dL_law_627 dL_law_628 rfl kc_2 (by omega) hn ?_
    refine L_if_eq 636 dL_law_629 (by decide) (fun g => absurd g hz) (fun _ => ?_)
    refine L_iconst dL_law_632 (v := nI 1) kc_1 ?_
    refine L_goto 637 dL_law_633 (by decide) ?_
    refine L_callV2 (fr' := 6) (lo' := 159) (mc' := 0) (ms' := 0) dL_law_637 mm_X10_choose mv_X10_choose l_L_77 (h.2.1.1 60 _ rfl) mc_X10_choose (by decide) ⟨by decide, by decide⟩ (Nat.zero_le _) (Nat.zero_le _) (Nat.le_of_ble_eq_true rfl) (c_X10_choose h.2.1 h.2.2.1 h.2.2.2.1 _ _) (L_ki ?_)
    rintro v1 _ I1 _ ⟨hv1, hR1, hc1, rfl, rfl⟩
    have e1 : rs I1 = rs I := rs_cF hc1
    refine L_aload_n dL_law_640 rfl ?_
    refine L_scr (j := 1) dL_law_641 dL_law_642 dL_law_643 dL_law_644 dL_law_645 rfl kc_1 (by omega) hn ?_
    refine L_scr (j := 2) dL_law_646 dL_law_647 dL_law_648 dL_law_649 dL_law_650 rfl kc_2 (by omega) hn ?_
    refine L_if_eq 658 dL_law_651 (by decide) (fun g => absurd g hz) (fun _ => ?_)
    refine L_iconst dL_law_654 (v := nI 1) kc_1 ?_
    refine L_goto 659 dL_law_655 (by decide) ?_
    refine L_callV2 (fr' := 4) (lo' := 99) (mc' := 0) (ms' := 0) dL_law_659 mm_X11_choose mv_X11_choose l_L_81 (h.1.1 0 _ rfl) mc_X11_choose (by decide) ⟨by decide, by decide⟩ (Nat.zero_le _) (Nat.zero_le _) (Nat.le_of_ble_eq_true rfl) (c_X11_choose h.1 (by rw [e1]; exact h.2.2.1) _ _) (L_ki ?_)
    rintro v2 _ I2 _ ⟨hv2, h2, h3, rfl, rfl⟩
    rw [e1] at hv2 h2
    refine L_icmp_eq 828 dL_law_662 (by decide) (fun _ => ?_) (fun g => absurd (hv1.trans hv2.symm) g)
    exact L_weak (K _ _ _ (lw_step h (K_ch h.2.2.1 _ _) hR1 hc1 h2 h3)) (by omega) (by omega)
theorem lw_15 {i c0 s0 : Nat} (h : lwI sh P I) (hn : bb.2.1 < 2147483648) (hi : i + 6 ≤ bb.2.1) {c1 s1 : Nat} (hc9 : c1 ≤ c0) (hs9 : s1 ≤ s0) (K : ∀ sh' I' P', lwI sh' P' I' → am_RL bb (mL nm) pL 7 181 c1 s1 828 [none, some (.ref 60), some (.ref 0), some (.int (nI i))] [] sh' I' P') : am_RL bb (mL nm) pL 7 181 c0 s0 667 [none, some (.ref 60), some (.ref 0), some (.int (nI i))] [] sh I P := by
  refine L_aload_n dL_law_667 rfl ?_
  refine L_scr (j := 1) dL_law_668 dL_law_669 dL_law_670 dL_law_671 dL_law_672 rfl kc_1 (by omega) hn ?_
  refine L_scr (j := 2) dL_law_673 dL_law_674 dL_law_675 dL_law_676 dL_law_677 rfl kc_2 (by omega) hn ?_
  refine L_callV2 (fr' := 2) (lo' := 43) (mc' := 0) (ms' := 0) dL_law_678 mm_X10_chosen mv_X10_chosen l_L_82 (h.2.1.1 60 _ rfl) mc_X10_chosen (by decide) ⟨by decide, by decide⟩ (Nat.zero_le _) (Nat.zero_le _) (Nat.le_of_ble_eq_true rfl) (c_X10_chosen h.2.1 h.2.2.1 h.2.2.2.1 _ _) (L_ki ?_)
  rintro v1 _ I1 _ ⟨hv1, hR1, hc1, rfl, rfl⟩
  have e1 : rs I1 = rs I := rs_cF hc1
  refine L_aload_n dL_law_681 rfl ?_
  refine L_scr (j := 1) dL_law_682 dL_law_683 dL_law_684 dL_law_685 dL_law_686 rfl kc_1 (by omega) hn ?_
  refine L_scr (j := 2) dL_law_687 dL_law_688 dL_law_689 dL_law_690 dL_law_691 rfl kc_2 (by omega) hn ?_
  refine L_callV2 (fr' := 1) (lo' := 22) (mc' := 0) (ms' := 0) dL_law_692 mm_X11_chosen mv_X11_chosen l_L_85 (h.1.1 0 _ rfl) mc_X11_chosen (by decide) ⟨by decide, by decide⟩ (Nat.zero_le _) (Nat.zero_le _) (Nat.le_of_ble_eq_true rfl) (c_X11_chosen h.1 (by rw [e1]; exact h.2.2.1) _ _) (L_ki ?_)
  rintro v2 _ I2 _ ⟨hv2, h2, h3, rfl, rfl⟩
  rw [e1] at hv2 h2
  refine L_icmp_eq 828 dL_law_695 (by decide) (fun _ => ?_) (fun g => absurd (hv1.trans hv2.symm) g)
  exact L_weak (K _ _ _ (lw_step h (⟨h.2.2.1, loc_rf _⟩) hR1 hc1 h2 h3)) (by omega) (by omega)
theorem lw_16 {i c0 s0 : Nat} (h : lwI sh P I) (hn : bb.2.1 < 2147483648) (hi : i + 6 ≤ bb.2.1) {c1 s1 : Nat} (hc9 : c1 ≤ c0) (hs9 : s1 ≤ s0) (K : ∀ sh' I' P', lwI sh' P' I' → am_RL bb (mL nm) pL 7 181 c1 s1 828 [none, some (.ref 60), some (.ref 0), some (.int (nI i))] [] sh' I' P') : am_RL bb (mL nm) pL 7 181 c0 s0 700 [none, some (.ref 60), some (.ref 0), some (.int (nI i))] [] sh I P := by
  refine L_aload_n dL_law_700 rfl ?_
  refine L_callV0 (fr' := 2) (lo' := 51) (mc' := 0) (ms' := 0) dL_law_701 mm_X10_take mv_X10_take l_L_86 (h.2.1.1 60 _ rfl) mc_X10_take (by decide) ⟨by decide, by decide⟩ (Nat.zero_le _) (Nat.zero_le _) (Nat.le_of_ble_eq_true rfl) (c_X10_take h.2.1 h.2.2.1 h.2.2.2.1) (L_ki ?_)
  rintro v1 _ I1 _ ⟨hv1, hR1, hc1, rfl, rfl⟩
  have e1 : rs I1 = rs I := rs_cF hc1
  refine L_aload_n dL_law_704 rfl ?_
  refine L_callV0 (fr' := 0) (lo' := 0) (mc' := 0) (ms' := 0) dL_law_705 mm_X11_take mv_X11_take l_L_89 (h.1.1 0 _ rfl) mc_X11_take (by decide) ⟨by decide, by decide⟩ (Nat.zero_le _) (Nat.zero_le _) (Nat.le_of_ble_eq_true rfl) (c_X11_take h.1 (by rw [e1]; exact h.2.2.1)) (L_ki ?_)
  rintro v2 _ I2 _ ⟨hv2, h2, h3, rfl, rfl⟩
  rw [e1] at hv2 h2
  refine L_icmp_eq 828 dL_law_708 (by decide) (fun _ => ?_) (fun g => absurd (hv1.trans hv2.symm) g)
  exact L_weak (K _ _ _ (lw_step h (K_tk h.2.2.1) hR1 hc1 h2 h3)) (by omega) (by omega)
theorem lw_17 {i c0 s0 : Nat} (h : lwI sh P I) (hn : bb.2.1 < 2147483648) (hi : i + 6 ≤ bb.2.1) {c1 s1 : Nat} (hc9 : c1 ≤ c0) (hs9 : s1 ≤ s0) (K : ∀ sh' I' P', lwI sh' P' I' → am_RL bb (mL nm) pL 7 181 c1 s1 828 [none, some (.ref 60), some (.ref 0), some (.int (nI i))] [] sh' I' P') : am_RL bb (mL nm) pL 7 181 c0 s0 713 [none, some (.ref 60), some (.ref 0), some (.int (nI i))] [] sh I P := by
  refine L_aload_n dL_law_713 rfl ?_
  refine L_scr (j := 1) dL_law_714 dL_law_715 dL_law_716 dL_law_717 dL_law_718 rfl kc_1 (by omega) hn ?_
  refine L_scr (j := 2) dL_law_719 dL_law_720 dL_law_721 dL_law_722 dL_law_723 rfl kc_2 (by omega) hn ?_
  refine L_callV2 (fr' := 1) (lo' := 23) (mc' := 0) (ms' := 0) dL_law_724 mm_X10_feed mv_X10_feed l_L_90 (h.2.1.1 60 _ rfl) mc_X10_feed (by decide) ⟨by decide, by decide⟩ (Nat.zero_le _) (Nat.zero_le _) (Nat.le_of_ble_eq_true rfl) (c_X10_feed h.2.1 h.2.2.1 h.2.2.2.1 _ _) (L_ki ?_)
  rintro v1 _ I1 _ ⟨hv1, hR1, hc1, rfl, rfl⟩
  have e1 : rs I1 = rs I := rs_cF hc1
  refine L_aload_n dL_law_727 rfl ?_
  refine L_scr (j := 1) dL_law_728 dL_law_729 dL_law_730 dL_law_731 dL_law_732 rfl kc_1 (by omega) hn ?_
  refine L_scr (j := 2) dL_law_733 dL_law_734 dL_law_735 dL_law_736 dL_law_737 rfl kc_2 (by omega) hn ?_
  refine L_callV2 (fr' := 1) (lo' := 22) (mc' := 0) (ms' := 0) dL_law_738 mm_X11_feed mv_X11_feed l_L_93 (h.1.1 0 _ rfl) mc_X11_feed (by decide) ⟨by decide, by decide⟩ (Nat.zero_le _) (Nat.zero_le _) (Nat.le_of_ble_eq_true rfl) (c_X11_feed h.1 (by rw [e1]; exact h.2.2.1) _ _) (L_ki ?_)
  rintro v2 _ I2 _ ⟨hv2, h2, h3, rfl, rfl⟩
  rw [e1] at hv2 h2
  refine L_icmp_eq 828 dL_law_741 (by decide) (fun _ => ?_) (fun g => absurd (hv1.trans hv2.symm) g)
  exact L_weak (K _ _ _ (lw_step h (K_fe h.2.2.1 _ _) hR1 hc1 h2 h3)) (by omega) (by omega)
theorem lw_18 {i c0 s0 : Nat} (h : lwI sh P I) (hn : bb.2.1 < 2147483648) (hi : i + 6 ≤ bb.2.1) {c1 s1 : Nat} (hc9 : c1 ≤ c0) (hs9 : s1 ≤ s0) (K : ∀ sh' I' P', lwI sh' P' I' → am_RL bb (mL nm) pL 7 181 c1 s1 828 [none, some (.ref 60), some (.ref 0), some (.int (nI i))] [] sh' I' P') : am_RL bb (mL nm) pL 7 181 c0 s0 746 [none, some (.ref 60), some (.ref 0), some (.int (nI i))] [] sh I P := by
  refine L_aload_n dL_law_746 rfl ?_
  refine L_callV0 (fr' := 5) (lo' := 115) (mc' := 0) (ms' := 0) dL_law_747 mm_X10_read mv_X10_read l_L_94 (h.2.1.1 60 _ rfl) mc_X10_read (by decide) ⟨by decide, by decide⟩ (Nat.zero_le _) (Nat.zero_le _) (Nat.le_of_ble_eq_true rfl) (c_X10_read h.2.1 h.2.2.1 h.2.2.2.1) (L_ki ?_)
  rintro v1 _ I1 _ ⟨hv1, hR1, hc1, rfl, rfl⟩
  have e1 : rs I1 = rs I := rs_cF hc1
  refine L_aload_n dL_law_750 rfl ?_
  refine L_callV0 (fr' := 4) (lo' := 89) (mc' := 0) (ms' := 0) dL_law_751 mm_X11_read mv_X11_read l_L_97 (h.1.1 0 _ rfl) mc_X11_read (by decide) ⟨by decide, by decide⟩ (Nat.zero_le _) (Nat.zero_le _) (Nat.le_of_ble_eq_true rfl) (c_X11_read h.1 (by rw [e1]; exact h.2.2.1)) (L_ki ?_)
  rintro v2 _ I2 _ ⟨hv2, h2, h3, rfl, rfl⟩
  rw [e1] at hv2 h2
  refine L_icmp_eq 828 dL_law_754 (by decide) (fun _ => ?_) (fun g => absurd (hv1.trans hv2.symm) g)
  exact L_weak (K _ _ _ (lw_step h (K_rd h.2.2.1) hR1 hc1 h2 h3)) (by omega) (by omega)
theorem lw_19 {i c0 s0 : Nat} (h : lwI sh P I) (hn : bb.2.1 < 2147483648) (hi : i + 6 ≤ bb.2.1) {c1 s1 : Nat} (hc9 : c1 ≤ c0) (hs9 : s1 ≤ s0) (K : ∀ sh' I' P', lwI sh' P' I' → am_RL bb (mL nm) pL 7 181 c1 s1 828 [none, some (.ref 60), some (.ref 0), some (.int (nI i))] [] sh' I' P') : am_RL bb (mL nm) pL 7 181 c0 s0 759 [none, some (.ref 60), some (.ref 0), some (.int (nI i))] [] sh I P := by
  refine L_aload_n dL_law_759 rfl ?_
  refine L_scr (j := 1) dL_law_760 dL_law_761 dL_law_762 dL_law_763 dL_law_764 rfl kc_1 (by omega) hn ?_
  refine L_callV1 (fr' := 1) (lo' := 21) (mc' := 0) (ms' := 0) dL_law_765 mm_X10_count mv_X10_count l_L_98 (h.2.1.1 60 _ rfl) mc_X10_count (by decide) ⟨by decide, by decide⟩ (Nat.zero_le _) (Nat.zero_le _) (Nat.le_of_ble_eq_true rfl) (c_X10_count h.2.1 h.2.2.1 h.2.2.2.1 _) (L_ki ?_)
  rintro v1 _ I1 _ ⟨hv1, hR1, hc1, rfl, rfl⟩
  have e1 : rs I1 = rs I := rs_cF hc1
  refine L_aload_n dL_law_768 rfl ?_
  refine L_scr (j := 1) dL_law_769 dL_law_770 dL_law_771 dL_law_772 dL_law_773 rfl kc_1 (by omega) hn ?_
  refine L_callV1 (fr' := 1) (lo' := 22) (mc' := 0) (ms' := 0) dL_law_774 mm_X11_count mv_X11_count l_L_101 (h.1.1 0 _ rfl) mc_X11_count (by decide) ⟨by decide, by decide⟩ (Nat.zero_le _) (Nat.zero_le _) (Nat.le_of_ble_eq_true rfl) (c_X11_count h.1 (by rw [e1]; exact h.2.2.1) _) (L_ki ?_)
  rintro v2 _ I2 _ ⟨hv2, h2, h3, rfl, rfl⟩
  rw [e1] at hv2 h2
  refine L_icmp_eq 828 dL_law_777 (by decide) (fun _ => ?_) (fun g => absurd (hv1.trans hv2.symm) g)
  exact L_weak (K _ _ _ (lw_step h (⟨h.2.2.1, loc_rf _⟩) hR1 hc1 h2 h3)) (by omega) (by omega)
theorem lw_20 {i c0 s0 : Nat} (h : lwI sh P I) (hn : bb.2.1 < 2147483648) (hi : i + 6 ≤ bb.2.1) (hc : 38 ≤ c0) (hs : 1180 ≤ s0) {c1 s1 : Nat} (hc1 : c1 ≤ c0 - 38) (hs1 : s1 ≤ s0 - 1180) (K : ∀ sh' I' P', lwI sh' P' I' → am_RL bb (mL nm) pL 7 181 c1 s1 828 [none, some (.ref 60), some (.ref 0), some (.int (nI i))] [] sh' I' P') : am_RL bb (mL nm) pL 7 181 c0 s0 782 [none, some (.ref 60), some (.ref 0), some (.int (nI i))] [] sh I P := by
  refine L_aload_n dL_law_782 rfl ?_
  refine L_scr (j := 1) dL_law_783 dL_law_784 dL_law_785 dL_law_786 dL_law_787 rfl kc_1 (by omega) hn ?_
  refine L_callV1 (fr' := 4) (lo' := 94) (mc' := 38) (ms' := 1180) dL_law_788 mm_X10_image mv_X10_image l_L_102 (h.2.1.1 60 _ rfl) mc_X10_image (by decide) ⟨by decide, by decide⟩ hc hs (Nat.le_of_ble_eq_true rfl) (c_X10_image h.2.1 h.2.2.1 h.2.2.2.1 (fun k hk => imN_of (h.2.2.2.2 k hk)) _) (L_ki ?_)
  rintro v1 sh1 I1 P1 ⟨hv1, hno, hyes⟩
  have hx : (∃ k, k < 3 ∧ bb.2.2 (i + 1) = nI k) ∨ ¬ inR (bb.2.2 (i + 1)) 3 := by
    by_cases g : inR (bb.2.2 (i + 1)) 3
    · obtain ⟨k, hk, ek⟩ := g
      exact Or.inl ⟨k, hk, ek⟩
    · exact Or.inr g
  have e1 : rs I1 = rs I := by
    rcases hx with ⟨k, hk, ek⟩ | g
    · obtain ⟨-, -, y3, -⟩ := hyes k hk ek
      exact rs_cF9 (fun r hr => (y3 r (by omega)).2.1)
    · rw [(hno g).2.1]
  have hm1 : St_m sh1 P1 := by
    rcases hx with ⟨k, hk, ek⟩ | g
    · obtain ⟨-, -, y3, -⟩ := hyes k hk ek
      exact ⟨fun c q g => by have := sh_m_lt g; rw [(y3 c (by omega)).1]; exact h.1.1 c q g, fun c f z g => by have := pt_m_lt g; rw [(y3 c (by omega)).2.2 (by omega)]; exact h.1.2 c f z g⟩
    · rw [(hno g).1, (hno g).2.2]; exact h.1
  refine L_aload_n dL_law_791 rfl ?_
  refine L_scr (j := 1) dL_law_792 dL_law_793 dL_law_794 dL_law_795 dL_law_796 rfl kc_1 (by omega) hn ?_
  refine L_callV1 (fr' := 2) (lo' := 46) (mc' := 0) (ms' := 0) dL_law_797 mm_X11_image mv_X11_image l_L_106 (hm1.1 0 _ rfl) mc_X11_image (by decide) ⟨by decide, by decide⟩ (Nat.zero_le _) (Nat.zero_le _) (Nat.le_of_ble_eq_true rfl) (c_X11_image hm1 (by rw [e1]; exact h.2.2.1) _) (L_ki ?_)
  rintro v2 _ I2 _ ⟨hv2, h2, h3, rfl, rfl⟩
  rw [e1] at h2
  refine L_icmp_eq 828 dL_law_800 (by decide) (fun _ => ?_) (fun g => absurd (hv1.trans hv2.symm) g)
  refine L_weak (K _ _ _ ?_) (by omega) (by omega)
  rcases hx with ⟨k, hk, ek⟩ | g
  · obtain ⟨y1, y2, y3, y4⟩ := hyes k hk ek
    rw [ek] at h2
    exact lw_im hk h y1 y2 y3 y4 h2 h3
  · obtain ⟨rfl, rfl, rfl⟩ := hno g
    have e9 : im_op (rs I1) (bb.2.2 (i + 1)) = rs I1 := by unfold im_op; rw [cif_f g]
    rw [e9] at h2
    exact lw_step (σ' := rs I1) h ⟨h.2.2.1, loc_rf _⟩ h.2.2.2.1 (cF_rf _) h2 h3
theorem lw_21 {i c0 s0 : Nat} (h : lwI sh P I) (hn : bb.2.1 < 2147483648) (hi : i + 6 ≤ bb.2.1) {c1 s1 : Nat} (hc9 : c1 ≤ c0) (hs9 : s1 ≤ s0) (K : ∀ sh' I' P', lwI sh' P' I' → am_RL bb (mL nm) pL 7 181 c1 s1 828 [none, some (.ref 60), some (.ref 0), some (.int (nI i))] [] sh' I' P') : am_RL bb (mL nm) pL 7 181 c0 s0 805 [none, some (.ref 60), some (.ref 0), some (.int (nI i))] [] sh I P := by
  refine L_aload_n dL_law_805 rfl ?_
  refine L_scr (j := 1) dL_law_806 dL_law_807 dL_law_808 dL_law_809 dL_law_810 rfl kc_1 (by omega) hn ?_
  refine L_callV1 (fr' := 4) (lo' := 94) (mc' := 0) (ms' := 0) dL_law_811 mm_X10_again mv_X10_again l_L_107 (h.2.1.1 60 _ rfl) mc_X10_again (by decide) ⟨by decide, by decide⟩ (Nat.zero_le _) (Nat.zero_le _) (Nat.le_of_ble_eq_true rfl) (c_X10_again h.2.1 h.2.2.1 h.2.2.2.1 h.2.2.2.2 _) (L_ki ?_)
  rintro v1 _ I1 _ ⟨hv1, hR1, hc1, rfl, rfl⟩
  have e1 : rs I1 = rs I := rs_cF hc1
  refine L_aload_n dL_law_814 rfl ?_
  refine L_scr (j := 1) dL_law_815 dL_law_816 dL_law_817 dL_law_818 dL_law_819 rfl kc_1 (by omega) hn ?_
  refine L_callV1 (fr' := 2) (lo' := 46) (mc' := 0) (ms' := 0) dL_law_820 mm_X11_again mv_X11_again l_L_110 (h.1.1 0 _ rfl) mc_X11_again (by decide) ⟨by decide, by decide⟩ (Nat.zero_le _) (Nat.zero_le _) (Nat.le_of_ble_eq_true rfl) (c_X11_again h.1 (by rw [e1]; exact h.2.2.1) _) (L_ki ?_)
  rintro v2 _ I2 _ ⟨hv2, h2, h3, rfl, rfl⟩
  rw [e1] at hv2 h2
  refine L_icmp_eq 828 dL_law_823 (by decide) (fun _ => ?_) (fun g => absurd (hv1.trans hv2.symm) g)
  exact L_weak (K _ _ _ (lw_step h (K_ag h.2.2.1 h.2.2.2.2 _) hR1 hc1 h2 h3)) (by omega) (by omega)
theorem lw_out {c0 s0 : Nat} {lv : List (Option Value)} : am_RL bb (mL nm) pL 7 181 c0 s0 834 lv [] sh I P := by
  refine L_iconst dL_law_834 (v := nI 1) kc_1 ?_
  exact L_ireturn dL_law_835 .boolean rfl (by decide) rfl
theorem lw_loop (hn : bb.2.1 ≤ 3072) : ∀ (m i : Nat) (sh : ASh) (I : AIn) (P : APt), bb.2.1 < i + 6 * m + 6 → i ≤ 3078 → lwI sh P I → am_RL bb (mL nm) pL 7 181 (38 * m) (1180 * m) 18 [none, some (.ref 60), some (.ref 0), some (.int (nI i))] [] sh I P := by
  intro m
  induction m with
  | zero =>
    intro i sh I P hL hi3 h
    refine L_iload_n dL_law_18 rfl ?_
    refine L_slen dL_law_19 dL_law_20 ?_
    refine L_bipush dL_law_21 (v := nI 6) (by decide) ?_
    refine L_isub dL_law_23 ?_
    refine L_icmp_gt 834 dL_law_24 (by decide) (fun _ => lw_out) (fun g => ?_)
    have g1 : ¬ (nI bb.2.1 - nI 6).toInt < (nI i).toInt := fun q => g (Int32.lt_iff_toInt_lt.mpr q)
    rw [pk_sub_toInt (by omega) (by decide), nI_toInt (by omega)] at g1
    exact absurd g1 (by omega)
  | succ m ih =>
    intro i sh I P hL hi3 h
    refine L_iload_n dL_law_18 rfl ?_
    refine L_slen dL_law_19 dL_law_20 ?_
    refine L_bipush dL_law_21 (v := nI 6) (by decide) ?_
    refine L_isub dL_law_23 ?_
    refine L_icmp_gt 834 dL_law_24 (by decide) (fun _ => lw_out) (fun g => ?_)
    have g1 : ¬ (nI bb.2.1 - nI 6).toInt < (nI i).toInt := fun q => g (Int32.lt_iff_toInt_lt.mpr q)
    rw [pk_sub_toInt (by omega) (by decide), nI_toInt (by omega)] at g1
    have hi : i + 6 ≤ bb.2.1 := by omega
    have hn2 : bb.2.1 < 2147483648 := by omega
    refine L_scr0 dL_law_27 dL_law_28 dL_law_29 rfl (by omega) hn2 ?_
    refine L_bipush dL_law_30 (v := nI 31) (by decide) ?_
    refine L_iand dL_law_32 ?_
    obtain ⟨j, hj, ej⟩ := pk_andE (bb.2.2 i) (m := nI 31) 5 (by decide)
    rw [ej]
    have K : ∀ sh' I' P', lwI sh' P' I' → am_RL bb (mL nm) pL 7 181 (38 * m) (1180 * m) 828 [none, some (.ref 60), some (.ref 0), some (.int (nI i))] [] sh' I' P' := fun sh' I' P' h' => by
      refine L_iinc dL_law_828 (by decide) rfl (v := nI (i + 6)) (by rw [show Int32.ofInt 6 = nI 6 from rfl, nI_add]) ?_
      dsimp only [List.set]
      refine L_goto 18 dL_law_831 (by decide) ?_
      exact ih (i + 6) sh' I' P' (by omega) (by omega) h'
    rcases (show j = 0 ∨ j = 1 ∨ j = 2 ∨ j = 3 ∨ j = 4 ∨ j = 5 ∨ j = 6 ∨ j = 7 ∨ j = 8 ∨ j = 9 ∨ j = 10 ∨ j = 11 ∨ j = 12 ∨ j = 13 ∨ j = 14 ∨ j = 15 ∨ j = 16 ∨ j = 17 ∨ j = 18 ∨ j = 19 ∨ j = 20 ∨ j = 21 ∨ 22 ≤ j by omega) with rfl | rfl | rfl | rfl | rfl | rfl | rfl | rfl | rfl | rfl | rfl | rfl | rfl | rfl | rfl | rfl | rfl | rfl | rfl | rfl | rfl | rfl | hj2
    · refine L_tabIn (off := 103) 136 dL_law_33 (by decide) (by decide) (by decide) (by decide) ?_
      exact lw_0 h hn2 hi (c1 := 38 * m) (s1 := 1180 * m) (by omega) (by omega) K
    · refine L_tabIn (off := 116) 149 dL_law_33 (by decide) (by decide) (by decide) (by decide) ?_
      exact lw_1 h hn2 hi (c1 := 38 * m) (s1 := 1180 * m) (by omega) (by omega) K
    · refine L_tabIn (off := 159) 192 dL_law_33 (by decide) (by decide) (by decide) (by decide) ?_
      exact lw_2 h hn2 hi (c1 := 38 * m) (s1 := 1180 * m) (by omega) (by omega) K
    · refine L_tabIn (off := 202) 235 dL_law_33 (by decide) (by decide) (by decide) (by decide) ?_
      exact lw_3 h hn2 hi (c1 := 38 * m) (s1 := 1180 * m) (by omega) (by omega) K
    · refine L_tabIn (off := 245) 278 dL_law_33 (by decide) (by decide) (by decide) (by decide) ?_
      exact lw_4 h hn2 hi (c1 := 38 * m) (s1 := 1180 * m) (by omega) (by omega) K
    · refine L_tabIn (off := 308) 341 dL_law_33 (by decide) (by decide) (by decide) (by decide) ?_
      exact lw_5 h hn2 hi (c1 := 38 * m) (s1 := 1180 * m) (by omega) (by omega) K
    · refine L_tabIn (off := 319) 352 dL_law_33 (by decide) (by decide) (by decide) (by decide) ?_
      exact lw_6 h hn2 hi (c1 := 38 * m) (s1 := 1180 * m) (by omega) (by omega) K
    · refine L_tabIn (off := 352) 385 dL_law_33 (by decide) (by decide) (by decide) (by decide) ?_
      exact lw_7 h hn2 hi (c1 := 38 * m) (s1 := 1180 * m) (by omega) (by omega) K
    · refine L_tabIn (off := 375) 408 dL_law_33 (by decide) (by decide) (by decide) (by decide) ?_
      exact lw_8 h hn2 hi (c1 := 38 * m) (s1 := 1180 * m) (by omega) (by omega) K
    · refine L_tabIn (off := 408) 441 dL_law_33 (by decide) (by decide) (by decide) (by decide) ?_
      exact lw_9 h hn2 hi (c1 := 38 * m) (s1 := 1180 * m) (by omega) (by omega) K
    · refine L_tabIn (off := 431) 464 dL_law_33 (by decide) (by decide) (by decide) (by decide) ?_
      exact lw_10 h hn2 hi (c1 := 38 * m) (s1 := 1180 * m) (by omega) (by omega) K
    · refine L_tabIn (off := 490) 523 dL_law_33 (by decide) (by decide) (by decide) (by decide) ?_
      exact lw_11 h hn2 hi (c1 := 38 * m) (s1 := 1180 * m) (by omega) (by omega) K
    · refine L_tabIn (off := 513) 546 dL_law_33 (by decide) (by decide) (by decide) (by decide) ?_
      exact lw_12 h hn2 hi (c1 := 38 * m) (s1 := 1180 * m) (by omega) (by omega) K
    · refine L_tabIn (off := 546) 579 dL_law_33 (by decide) (by decide) (by decide) (by decide) ?_
      exact lw_13 h hn2 hi (c1 := 38 * m) (s1 := 1180 * m) (by omega) (by omega) K
    · refine L_tabIn (off := 585) 618 dL_law_33 (by decide) (by decide) (by decide) (by decide) ?_
      exact lw_14 h hn2 hi (c1 := 38 * m) (s1 := 1180 * m) (by omega) (by omega) K
    · refine L_tabIn (off := 634) 667 dL_law_33 (by decide) (by decide) (by decide) (by decide) ?_
      exact lw_15 h hn2 hi (c1 := 38 * m) (s1 := 1180 * m) (by omega) (by omega) K
    · refine L_tabIn (off := 667) 700 dL_law_33 (by decide) (by decide) (by decide) (by decide) ?_
      exact lw_16 h hn2 hi (c1 := 38 * m) (s1 := 1180 * m) (by omega) (by omega) K
    · refine L_tabIn (off := 680) 713 dL_law_33 (by decide) (by decide) (by decide) (by decide) ?_
      exact lw_17 h hn2 hi (c1 := 38 * m) (s1 := 1180 * m) (by omega) (by omega) K
    · refine L_tabIn (off := 713) 746 dL_law_33 (by decide) (by decide) (by decide) (by decide) ?_
      exact lw_18 h hn2 hi (c1 := 38 * m) (s1 := 1180 * m) (by omega) (by omega) K
    · refine L_tabIn (off := 726) 759 dL_law_33 (by decide) (by decide) (by decide) (by decide) ?_
      exact lw_19 h hn2 hi (c1 := 38 * m) (s1 := 1180 * m) (by omega) (by omega) K
    · refine L_tabIn (off := 749) 782 dL_law_33 (by decide) (by decide) (by decide) (by decide) ?_
      exact lw_20 h hn2 hi (by omega) (by omega) (c1 := 38 * m) (s1 := 1180 * m) (by omega) (by omega) K
    · refine L_tabIn (off := 772) 805 dL_law_33 (by decide) (by decide) (by decide) (by decide) ?_
      exact lw_21 h hn2 hi (c1 := 38 * m) (s1 := 1180 * m) (by omega) (by omega) K
    · refine L_tabOut 828 dL_law_33 (Or.inr (by rw [nI_toInt (by omega)]; omega)) (by decide) ?_
      exact L_weak (K _ _ _ h) (by omega) (by omega)
end LOOP
