/-! the reference is made -/
section M20
variable {sh : ASh} {I : AIn} {P : APt}
def ini (I : AIn) : AIn := fun r => if r = 0 then I 0 else if r < 48 then (if r = 11 ∨ r = 15 ∨ r = 24 then upd (fun _ => 0) 0 (-1) else fun _ => 0) else I r
set_option maxRecDepth 20000 in
theorem c_X11_init (hs0 : sh 0 = (1, 9)) (hU : ∀ k, 1 ≤ k → k < 48 → (sh k).1 = 0) : am_R mX11_init (po_v (fun sh' I' P' => St_m sh' P' ∧ (∀ k, 48 ≤ k → sh' k = sh k ∧ P' k = P k) ∧ rs I' = rs (ini I) ∧ hi I' I)) 1 20 41 4812 0 [some (.ref 0)] [] sh I P := by
  refine r_aload_n dX11_init_0 rfl ?_
  refine r_obj dX11_init_1 lo_X11_1 ⟨by decide, Nat.le_of_ble_eq_true rfl⟩ ?_
  refine r_aload_n dX11_init_4 rfl ?_
  refine r_iconst dX11_init_5 (v := nI 4) kc_4 ?_
  refine r_newarrI 1 4 dX11_init_6 w_arrI (hU 1 (by decide) (by decide)) rfl (by decide) (by decide) (by decide) ?_
  refine r_putP dX11_init_8 f_X11_7 (by first | exact hs0 | rfl) rfl rfl (fun _ => rfl) (fun _ => rfl) ?_
  refine r_aload_n dX11_init_11 rfl ?_
  refine r_bipush dX11_init_12 (v := nI 12) (by decide) ?_
  refine r_newarrI 2 12 dX11_init_14 w_arrI (hU 2 (by decide) (by decide)) rfl (by decide) (by decide) (by decide) ?_
  refine r_putP dX11_init_16 f_X11_13 (by first | exact hs0 | rfl) rfl rfl (fun _ => rfl) (fun _ => rfl) ?_
  refine r_aload_n dX11_init_19 rfl ?_
  refine r_sipush dX11_init_20 (v := nI 480) (by decide) ?_
  refine r_newarrI 3 480 dX11_init_23 w_arrI (hU 3 (by decide) (by decide)) rfl (by decide) (by decide) (by decide) ?_
  refine r_putP dX11_init_25 f_X11_16 (by first | exact hs0 | rfl) rfl rfl (fun _ => rfl) (fun _ => rfl) ?_
  refine r_aload_n dX11_init_28 rfl ?_
  refine r_sipush dX11_init_29 (v := nI 480) (by decide) ?_
  refine r_newarrI 4 480 dX11_init_32 w_arrI (hU 4 (by decide) (by decide)) rfl (by decide) (by decide) (by decide) ?_
  refine r_putP dX11_init_34 f_X11_19 (by first | exact hs0 | rfl) rfl rfl (fun _ => rfl) (fun _ => rfl) ?_
  refine r_aload_n dX11_init_37 rfl ?_
  refine r_sipush dX11_init_38 (v := nI 480) (by decide) ?_
  refine r_newarrI 5 480 dX11_init_41 w_arrI (hU 5 (by decide) (by decide)) rfl (by decide) (by decide) (by decide) ?_
  refine r_putP dX11_init_43 f_X11_22 (by first | exact hs0 | rfl) rfl rfl (fun _ => rfl) (fun _ => rfl) ?_
  refine r_aload_n dX11_init_46 rfl ?_
  refine r_iconst dX11_init_47 (v := nI 4) kc_4 ?_
  refine r_newarrI 6 4 dX11_init_48 w_arrI (hU 6 (by decide) (by decide)) rfl (by decide) (by decide) (by decide) ?_
  refine r_putP dX11_init_50 f_X11_25 (by first | exact hs0 | rfl) rfl rfl (fun _ => rfl) (fun _ => rfl) ?_
  refine r_aload_n dX11_init_53 rfl ?_
  refine r_bipush dX11_init_54 (v := nI 120) (by decide) ?_
  refine r_newarrI 7 120 dX11_init_56 w_arrI (hU 7 (by decide) (by decide)) rfl (by decide) (by decide) (by decide) ?_
  refine r_putP dX11_init_58 f_X11_28 (by first | exact hs0 | rfl) rfl rfl (fun _ => rfl) (fun _ => rfl) ?_
  refine r_aload_n dX11_init_61 rfl ?_
  refine r_iconst dX11_init_62 (v := nI 4) kc_4 ?_
  refine r_newarrI 8 4 dX11_init_63 w_arrI (hU 8 (by decide) (by decide)) rfl (by decide) (by decide) (by decide) ?_
  refine r_putP dX11_init_65 f_X11_31 (by first | exact hs0 | rfl) rfl rfl (fun _ => rfl) (fun _ => rfl) ?_
  refine r_aload_n dX11_init_68 rfl ?_
  refine r_sipush dX11_init_69 (v := nI 160) (by decide) ?_
  refine r_newarrI 9 160 dX11_init_72 w_arrI (hU 9 (by decide) (by decide)) rfl (by decide) (by decide) (by decide) ?_
  refine r_putP dX11_init_74 f_X11_34 (by first | exact hs0 | rfl) rfl rfl (fun _ => rfl) (fun _ => rfl) ?_
  refine r_aload_n dX11_init_77 rfl ?_
  refine r_sipush dX11_init_78 (v := nI 160) (by decide) ?_
  refine r_newarrI 10 160 dX11_init_81 w_arrI (hU 10 (by decide) (by decide)) rfl (by decide) (by decide) (by decide) ?_
  refine r_putP dX11_init_83 f_X11_37 (by first | exact hs0 | rfl) rfl rfl (fun _ => rfl) (fun _ => rfl) ?_
  refine r_aload_n dX11_init_86 rfl ?_
  refine r_iconst dX11_init_87 (v := nI 4) kc_4 ?_
  refine r_newarrI 11 4 dX11_init_88 w_arrI (hU 11 (by decide) (by decide)) rfl (by decide) (by decide) (by decide) ?_
  refine r_putP dX11_init_90 f_X11_40 (by first | exact hs0 | rfl) rfl rfl (fun _ => rfl) (fun _ => rfl) ?_
  refine r_aload_n dX11_init_93 rfl ?_
  refine r_sipush dX11_init_94 (v := nI 480) (by decide) ?_
  refine r_newarrI 12 480 dX11_init_97 w_arrI (hU 12 (by decide) (by decide)) rfl (by decide) (by decide) (by decide) ?_
  refine r_putP dX11_init_99 f_X11_43 (by first | exact hs0 | rfl) rfl rfl (fun _ => rfl) (fun _ => rfl) ?_
  refine r_aload_n dX11_init_102 rfl ?_
  refine r_iconst dX11_init_103 (v := nI 4) kc_4 ?_
  refine r_newarrI 13 4 dX11_init_104 w_arrI (hU 13 (by decide) (by decide)) rfl (by decide) (by decide) (by decide) ?_
  refine r_putP dX11_init_106 f_X11_46 (by first | exact hs0 | rfl) rfl rfl (fun _ => rfl) (fun _ => rfl) ?_
  refine r_aload_n dX11_init_109 rfl ?_
  refine r_sipush dX11_init_110 (v := nI 320) (by decide) ?_
  refine r_newarrI 14 320 dX11_init_113 w_arrI (hU 14 (by decide) (by decide)) rfl (by decide) (by decide) (by decide) ?_
  refine r_putP dX11_init_115 f_X11_49 (by first | exact hs0 | rfl) rfl rfl (fun _ => rfl) (fun _ => rfl) ?_
  refine r_aload_n dX11_init_118 rfl ?_
  refine r_iconst dX11_init_119 (v := nI 4) kc_4 ?_
  refine r_newarrI 15 4 dX11_init_120 w_arrI (hU 15 (by decide) (by decide)) rfl (by decide) (by decide) (by decide) ?_
  refine r_putP dX11_init_122 f_X11_52 (by first | exact hs0 | rfl) rfl rfl (fun _ => rfl) (fun _ => rfl) ?_
  refine r_aload_n dX11_init_125 rfl ?_
  refine r_iconst dX11_init_126 (v := nI 4) kc_4 ?_
  refine r_newarrI 16 4 dX11_init_127 w_arrI (hU 16 (by decide) (by decide)) rfl (by decide) (by decide) (by decide) ?_
  refine r_putP dX11_init_129 f_X11_55 (by first | exact hs0 | rfl) rfl rfl (fun _ => rfl) (fun _ => rfl) ?_
  refine r_aload_n dX11_init_132 rfl ?_
  refine r_iconst dX11_init_133 (v := nI 4) kc_4 ?_
  refine r_newarrI 17 4 dX11_init_134 w_arrI (hU 17 (by decide) (by decide)) rfl (by decide) (by decide) (by decide) ?_
  refine r_putP dX11_init_136 f_X11_58 (by first | exact hs0 | rfl) rfl rfl (fun _ => rfl) (fun _ => rfl) ?_
  refine r_aload_n dX11_init_139 rfl ?_
  refine r_iconst dX11_init_140 (v := nI 4) kc_4 ?_
  refine r_newarrI 18 4 dX11_init_141 w_arrI (hU 18 (by decide) (by decide)) rfl (by decide) (by decide) (by decide) ?_
  refine r_putP dX11_init_143 f_X11_61 (by first | exact hs0 | rfl) rfl rfl (fun _ => rfl) (fun _ => rfl) ?_
  refine r_aload_n dX11_init_146 rfl ?_
  refine r_iconst dX11_init_147 (v := nI 4) kc_4 ?_
  refine r_newarrI 19 4 dX11_init_148 w_arrI (hU 19 (by decide) (by decide)) rfl (by decide) (by decide) (by decide) ?_
  refine r_putP dX11_init_150 f_X11_64 (by first | exact hs0 | rfl) rfl rfl (fun _ => rfl) (fun _ => rfl) ?_
  refine r_aload_n dX11_init_153 rfl ?_
  refine r_bipush dX11_init_154 (v := nI 96) (by decide) ?_
  refine r_newarrI 20 96 dX11_init_156 w_arrI (hU 20 (by decide) (by decide)) rfl (by decide) (by decide) (by decide) ?_
  refine r_putP dX11_init_158 f_X11_67 (by first | exact hs0 | rfl) rfl rfl (fun _ => rfl) (fun _ => rfl) ?_
  refine r_aload_n dX11_init_161 rfl ?_
  refine r_iconst dX11_init_162 (v := nI 4) kc_4 ?_
  refine r_newarrI 21 4 dX11_init_163 w_arrI (hU 21 (by decide) (by decide)) rfl (by decide) (by decide) (by decide) ?_
  refine r_putP dX11_init_165 f_X11_70 (by first | exact hs0 | rfl) rfl rfl (fun _ => rfl) (fun _ => rfl) ?_
  refine r_aload_n dX11_init_168 rfl ?_
  refine r_sipush dX11_init_169 (v := nI 160) (by decide) ?_
  refine r_newarrI 22 160 dX11_init_172 w_arrI (hU 22 (by decide) (by decide)) rfl (by decide) (by decide) (by decide) ?_
  refine r_putP dX11_init_174 f_X11_73 (by first | exact hs0 | rfl) rfl rfl (fun _ => rfl) (fun _ => rfl) ?_
  refine r_aload_n dX11_init_177 rfl ?_
  refine r_bipush dX11_init_178 (v := nI 32) (by decide) ?_
  refine r_newarrI 23 32 dX11_init_180 w_arrI (hU 23 (by decide) (by decide)) rfl (by decide) (by decide) (by decide) ?_
  refine r_putP dX11_init_182 f_X11_76 (by first | exact hs0 | rfl) rfl rfl (fun _ => rfl) (fun _ => rfl) ?_
  refine r_aload_n dX11_init_185 rfl ?_
  refine r_iconst dX11_init_186 (v := nI 4) kc_4 ?_
  refine r_newarrI 24 4 dX11_init_187 w_arrI (hU 24 (by decide) (by decide)) rfl (by decide) (by decide) (by decide) ?_
  refine r_putP dX11_init_189 f_X11_79 (by first | exact hs0 | rfl) rfl rfl (fun _ => rfl) (fun _ => rfl) ?_
  refine r_aload_n dX11_init_192 rfl ?_
  refine r_bipush dX11_init_193 (v := nI 60) (by decide) ?_
  refine r_newarrI 25 60 dX11_init_195 w_arrI (hU 25 (by decide) (by decide)) rfl (by decide) (by decide) (by decide) ?_
  refine r_putP dX11_init_197 f_X11_82 (by first | exact hs0 | rfl) rfl rfl (fun _ => rfl) (fun _ => rfl) ?_
  refine r_aload_n dX11_init_200 rfl ?_
  refine r_iconst dX11_init_201 (v := nI 4) kc_4 ?_
  refine r_newarrI 26 4 dX11_init_202 w_arrI (hU 26 (by decide) (by decide)) rfl (by decide) (by decide) (by decide) ?_
  refine r_putP dX11_init_204 f_X11_85 (by first | exact hs0 | rfl) rfl rfl (fun _ => rfl) (fun _ => rfl) ?_
  refine r_aload_n dX11_init_207 rfl ?_
  refine r_sipush dX11_init_208 (v := nI 640) (by decide) ?_
  refine r_newarrI 27 640 dX11_init_211 w_arrI (hU 27 (by decide) (by decide)) rfl (by decide) (by decide) (by decide) ?_
  refine r_putP dX11_init_213 f_X11_88 (by first | exact hs0 | rfl) rfl rfl (fun _ => rfl) (fun _ => rfl) ?_
  refine r_aload_n dX11_init_216 rfl ?_
  refine r_bipush dX11_init_217 (v := nI 30) (by decide) ?_
  refine r_newarrI 29 30 dX11_init_219 w_arrI (hU 29 (by decide) (by decide)) rfl (by decide) (by decide) (by decide) ?_
  refine r_putP dX11_init_221 f_X11_91 (by first | exact hs0 | rfl) rfl rfl (fun _ => rfl) (fun _ => rfl) ?_
  refine r_aload_n dX11_init_224 rfl ?_
  refine r_bipush dX11_init_225 (v := nI 41) (by decide) ?_
  refine r_newarrZ 30 41 dX11_init_227 w_arrZ (hU 30 (by decide) (by decide)) rfl (by decide) (by decide) (by decide) ?_
  refine r_putP dX11_init_229 f_X11_94 (by first | exact hs0 | rfl) rfl rfl (fun _ => rfl) (fun _ => rfl) ?_
  refine r_aload_n dX11_init_232 rfl ?_
  refine r_bipush dX11_init_233 (v := nI 41) (by decide) ?_
  refine r_newarrI 31 41 dX11_init_235 w_arrI (hU 31 (by decide) (by decide)) rfl (by decide) (by decide) (by decide) ?_
  refine r_putP dX11_init_237 f_X11_98 (by first | exact hs0 | rfl) rfl rfl (fun _ => rfl) (fun _ => rfl) ?_
  refine r_aload_n dX11_init_240 rfl ?_
  refine r_bipush dX11_init_241 (v := nI 40) (by decide) ?_
  refine r_newarrI 32 40 dX11_init_243 w_arrI (hU 32 (by decide) (by decide)) rfl (by decide) (by decide) (by decide) ?_
  refine r_putP dX11_init_245 f_X11_101 (by first | exact hs0 | rfl) rfl rfl (fun _ => rfl) (fun _ => rfl) ?_
  refine r_aload_n dX11_init_248 rfl ?_
  refine r_bipush dX11_init_249 (v := nI 40) (by decide) ?_
  refine r_newarrI 33 40 dX11_init_251 w_arrI (hU 33 (by decide) (by decide)) rfl (by decide) (by decide) (by decide) ?_
  refine r_putP dX11_init_253 f_X11_104 (by first | exact hs0 | rfl) rfl rfl (fun _ => rfl) (fun _ => rfl) ?_
  refine r_aload_n dX11_init_256 rfl ?_
  refine r_bipush dX11_init_257 (v := nI 40) (by decide) ?_
  refine r_newarrI 34 40 dX11_init_259 w_arrI (hU 34 (by decide) (by decide)) rfl (by decide) (by decide) (by decide) ?_
  refine r_putP dX11_init_261 f_X11_107 (by first | exact hs0 | rfl) rfl rfl (fun _ => rfl) (fun _ => rfl) ?_
  refine r_aload_n dX11_init_264 rfl ?_
  refine r_bipush dX11_init_265 (v := nI 41) (by decide) ?_
  refine r_newarrZ 35 41 dX11_init_267 w_arrZ (hU 35 (by decide) (by decide)) rfl (by decide) (by decide) (by decide) ?_
  refine r_putP dX11_init_269 f_X11_110 (by first | exact hs0 | rfl) rfl rfl (fun _ => rfl) (fun _ => rfl) ?_
  refine r_aload_n dX11_init_272 rfl ?_
  refine r_sipush dX11_init_273 (v := nI 360) (by decide) ?_
  refine r_newarrI 36 360 dX11_init_276 w_arrI (hU 36 (by decide) (by decide)) rfl (by decide) (by decide) (by decide) ?_
  refine r_putP dX11_init_278 f_X11_113 (by first | exact hs0 | rfl) rfl rfl (fun _ => rfl) (fun _ => rfl) ?_
  refine r_aload_n dX11_init_281 rfl ?_
  refine r_sipush dX11_init_282 (v := nI 360) (by decide) ?_
  refine r_newarrI 37 360 dX11_init_285 w_arrI (hU 37 (by decide) (by decide)) rfl (by decide) (by decide) (by decide) ?_
  refine r_putP dX11_init_287 f_X11_116 (by first | exact hs0 | rfl) rfl rfl (fun _ => rfl) (fun _ => rfl) ?_
  refine r_aload_n dX11_init_290 rfl ?_
  refine r_iconst dX11_init_291 (v := nI 2) kc_2 ?_
  refine r_newarrI 41 2 dX11_init_292 w_arrI (hU 41 (by decide) (by decide)) rfl (by decide) (by decide) (by decide) ?_
  refine r_putP dX11_init_294 f_X11_119 (by first | exact hs0 | rfl) rfl rfl (fun _ => rfl) (fun _ => rfl) ?_
  refine r_aload_n dX11_init_297 rfl ?_
  refine r_iconst dX11_init_298 (v := nI 2) kc_2 ?_
  refine r_newarrI 42 2 dX11_init_299 w_arrI (hU 42 (by decide) (by decide)) rfl (by decide) (by decide) (by decide) ?_
  refine r_putP dX11_init_301 f_X11_122 (by first | exact hs0 | rfl) rfl rfl (fun _ => rfl) (fun _ => rfl) ?_
  refine r_aload_n dX11_init_304 rfl ?_
  refine r_bipush dX11_init_305 (v := nI 40) (by decide) ?_
  refine r_newarrI 43 40 dX11_init_307 w_arrI (hU 43 (by decide) (by decide)) rfl (by decide) (by decide) (by decide) ?_
  refine r_putP dX11_init_309 f_X11_125 (by first | exact hs0 | rfl) rfl rfl (fun _ => rfl) (fun _ => rfl) ?_
  refine r_aload_n dX11_init_312 rfl ?_
  refine r_bipush dX11_init_313 (v := nI 40) (by decide) ?_
  refine r_newarrI 44 40 dX11_init_315 w_arrI (hU 44 (by decide) (by decide)) rfl (by decide) (by decide) (by decide) ?_
  refine r_putP dX11_init_317 f_X11_128 (by first | exact hs0 | rfl) rfl rfl (fun _ => rfl) (fun _ => rfl) ?_
  refine r_aload_n dX11_init_320 rfl ?_
  refine r_iconst dX11_init_321 (v := nI 3) kc_3 ?_
  refine r_newarrZ 47 3 dX11_init_322 w_arrZ (hU 47 (by decide) (by decide)) rfl (by decide) (by decide) (by decide) ?_
  refine r_putP dX11_init_324 f_X11_131 (by first | exact hs0 | rfl) rfl rfl (fun _ => rfl) (fun _ => rfl) ?_
  refine r_aload_n dX11_init_327 rfl ?_
  refine r_getP dX11_init_328 g_X11_40 (by first | exact hs0 | rfl) rfl rfl ?_
  refine r_iconst dX11_init_331 (v := nI 0) kc_0 ?_
  refine r_iconst dX11_init_332 (v := (-1)) kc_m1 ?_
  refine r_iastore _ dX11_init_333 (by first | exact hs0 | rfl) rfl (by first | decide | omega) (by decide) ?_
  refine r_aload_n dX11_init_334 rfl ?_
  refine r_getP dX11_init_335 g_X11_52 (by first | exact hs0 | rfl) rfl rfl ?_
  refine r_iconst dX11_init_338 (v := nI 0) kc_0 ?_
  refine r_iconst dX11_init_339 (v := (-1)) kc_m1 ?_
  refine r_iastore _ dX11_init_340 (by first | exact hs0 | rfl) rfl (by first | decide | omega) (by decide) ?_
  refine r_aload_n dX11_init_341 rfl ?_
  refine r_getP dX11_init_342 g_X11_79 (by first | exact hs0 | rfl) rfl rfl ?_
  refine r_iconst dX11_init_345 (v := nI 0) kc_0 ?_
  refine r_iconst dX11_init_346 (v := (-1)) kc_m1 ?_
  refine r_iastore _ dX11_init_347 (by first | exact hs0 | rfl) rfl (by first | decide | omega) (by decide) ?_
  refine r_return dX11_init_348 rfl ?_
  refine ⟨rfl, ⟨?_, ?_⟩, ?_, ?_, ?_⟩
  · intro k q h
    unfold sh_m at h
    split at h <;> first | (cases h; exact hs0) | (cases h; rfl) | cases h
  · intro k f z h
    unfold pt_m at h
    split at h
    · split at h <;> first | (cases h; rfl) | cases h
    · cases h
  · intro k hk
    have h9 : ∀ j, j < 48 → k ≠ j := fun j hj e => by omega
    constructor
    · rw [va_up_ne _ _ (h9 47 (by decide)), va_up_ne _ _ (h9 44 (by decide)), va_up_ne _ _ (h9 43 (by decide)), va_up_ne _ _ (h9 42 (by decide)), va_up_ne _ _ (h9 41 (by decide)), va_up_ne _ _ (h9 37 (by decide)), va_up_ne _ _ (h9 36 (by decide)), va_up_ne _ _ (h9 35 (by decide)), va_up_ne _ _ (h9 34 (by decide)), va_up_ne _ _ (h9 33 (by decide)), va_up_ne _ _ (h9 32 (by decide)), va_up_ne _ _ (h9 31 (by decide)), va_up_ne _ _ (h9 30 (by decide)), va_up_ne _ _ (h9 29 (by decide)), va_up_ne _ _ (h9 27 (by decide)), va_up_ne _ _ (h9 26 (by decide)), va_up_ne _ _ (h9 25 (by decide)), va_up_ne _ _ (h9 24 (by decide)), va_up_ne _ _ (h9 23 (by decide)), va_up_ne _ _ (h9 22 (by decide)), va_up_ne _ _ (h9 21 (by decide)), va_up_ne _ _ (h9 20 (by decide)), va_up_ne _ _ (h9 19 (by decide)), va_up_ne _ _ (h9 18 (by decide)), va_up_ne _ _ (h9 17 (by decide)), va_up_ne _ _ (h9 16 (by decide)), va_up_ne _ _ (h9 15 (by decide)), va_up_ne _ _ (h9 14 (by decide)), va_up_ne _ _ (h9 13 (by decide)), va_up_ne _ _ (h9 12 (by decide)), va_up_ne _ _ (h9 11 (by decide)), va_up_ne _ _ (h9 10 (by decide)), va_up_ne _ _ (h9 9 (by decide)), va_up_ne _ _ (h9 8 (by decide)), va_up_ne _ _ (h9 7 (by decide)), va_up_ne _ _ (h9 6 (by decide)), va_up_ne _ _ (h9 5 (by decide)), va_up_ne _ _ (h9 4 (by decide)), va_up_ne _ _ (h9 3 (by decide)), va_up_ne _ _ (h9 2 (by decide)), va_up_ne _ _ (h9 1 (by decide))]
    · rw [va_up_ne _ _ (h9 0 (by decide)), va_up_ne _ _ (h9 47 (by decide)), va_up_ne _ _ (h9 0 (by decide)), va_up_ne _ _ (h9 44 (by decide)), va_up_ne _ _ (h9 0 (by decide)), va_up_ne _ _ (h9 43 (by decide)), va_up_ne _ _ (h9 0 (by decide)), va_up_ne _ _ (h9 42 (by decide)), va_up_ne _ _ (h9 0 (by decide)), va_up_ne _ _ (h9 41 (by decide)), va_up_ne _ _ (h9 0 (by decide)), va_up_ne _ _ (h9 37 (by decide)), va_up_ne _ _ (h9 0 (by decide)), va_up_ne _ _ (h9 36 (by decide)), va_up_ne _ _ (h9 0 (by decide)), va_up_ne _ _ (h9 35 (by decide)), va_up_ne _ _ (h9 0 (by decide)), va_up_ne _ _ (h9 34 (by decide)), va_up_ne _ _ (h9 0 (by decide)), va_up_ne _ _ (h9 33 (by decide)), va_up_ne _ _ (h9 0 (by decide)), va_up_ne _ _ (h9 32 (by decide)), va_up_ne _ _ (h9 0 (by decide)), va_up_ne _ _ (h9 31 (by decide)), va_up_ne _ _ (h9 0 (by decide)), va_up_ne _ _ (h9 30 (by decide)), va_up_ne _ _ (h9 0 (by decide)), va_up_ne _ _ (h9 29 (by decide)), va_up_ne _ _ (h9 0 (by decide)), va_up_ne _ _ (h9 27 (by decide)), va_up_ne _ _ (h9 0 (by decide)), va_up_ne _ _ (h9 26 (by decide)), va_up_ne _ _ (h9 0 (by decide)), va_up_ne _ _ (h9 25 (by decide)), va_up_ne _ _ (h9 0 (by decide)), va_up_ne _ _ (h9 24 (by decide)), va_up_ne _ _ (h9 0 (by decide)), va_up_ne _ _ (h9 23 (by decide)), va_up_ne _ _ (h9 0 (by decide)), va_up_ne _ _ (h9 22 (by decide)), va_up_ne _ _ (h9 0 (by decide)), va_up_ne _ _ (h9 21 (by decide)), va_up_ne _ _ (h9 0 (by decide)), va_up_ne _ _ (h9 20 (by decide)), va_up_ne _ _ (h9 0 (by decide)), va_up_ne _ _ (h9 19 (by decide)), va_up_ne _ _ (h9 0 (by decide)), va_up_ne _ _ (h9 18 (by decide)), va_up_ne _ _ (h9 0 (by decide)), va_up_ne _ _ (h9 17 (by decide)), va_up_ne _ _ (h9 0 (by decide)), va_up_ne _ _ (h9 16 (by decide)), va_up_ne _ _ (h9 0 (by decide)), va_up_ne _ _ (h9 15 (by decide)), va_up_ne _ _ (h9 0 (by decide)), va_up_ne _ _ (h9 14 (by decide)), va_up_ne _ _ (h9 0 (by decide)), va_up_ne _ _ (h9 13 (by decide)), va_up_ne _ _ (h9 0 (by decide)), va_up_ne _ _ (h9 12 (by decide)), va_up_ne _ _ (h9 0 (by decide)), va_up_ne _ _ (h9 11 (by decide)), va_up_ne _ _ (h9 0 (by decide)), va_up_ne _ _ (h9 10 (by decide)), va_up_ne _ _ (h9 0 (by decide)), va_up_ne _ _ (h9 9 (by decide)), va_up_ne _ _ (h9 0 (by decide)), va_up_ne _ _ (h9 8 (by decide)), va_up_ne _ _ (h9 0 (by decide)), va_up_ne _ _ (h9 7 (by decide)), va_up_ne _ _ (h9 0 (by decide)), va_up_ne _ _ (h9 6 (by decide)), va_up_ne _ _ (h9 0 (by decide)), va_up_ne _ _ (h9 5 (by decide)), va_up_ne _ _ (h9 0 (by decide)), va_up_ne _ _ (h9 4 (by decide)), va_up_ne _ _ (h9 0 (by decide)), va_up_ne _ _ (h9 3 (by decide)), va_up_ne _ _ (h9 0 (by decide)), va_up_ne _ _ (h9 2 (by decide)), va_up_ne _ _ (h9 0 (by decide)), va_up_ne _ _ (h9 1 (by decide))]
  · funext r
    by_cases h1 : mrow r = true
    · rw [rs_at h1, rs_at h1]
      have h2 : (1 ≤ r ∧ r ≤ 27) ∨ r = 47 := by
        simp [mrow] at h1
        exact h1
      rcases (show r = 1 ∨ r = 2 ∨ r = 3 ∨ r = 4 ∨ r = 5 ∨ r = 6 ∨ r = 7 ∨ r = 8 ∨ r = 9 ∨ r = 10 ∨ r = 11 ∨ r = 12 ∨ r = 13 ∨ r = 14 ∨ r = 15 ∨ r = 16 ∨ r = 17 ∨ r = 18 ∨ r = 19 ∨ r = 20 ∨ r = 21 ∨ r = 22 ∨ r = 23 ∨ r = 24 ∨ r = 25 ∨ r = 26 ∨ r = 27 ∨ r = 47 by omega) with rfl | rfl | rfl | rfl | rfl | rfl | rfl | rfl | rfl | rfl | rfl | rfl | rfl | rfl | rfl | rfl | rfl | rfl | rfl | rfl | rfl | rfl | rfl | rfl | rfl | rfl | rfl | rfl <;> rfl
    · unfold rs
      rw [if_neg h1, if_neg h1]
  · intro r hr
    have h9 : ∀ j, j < 48 → r ≠ j := fun j hj e => by omega
    rw [va_up_ne _ _ (h9 24 (by decide)), va_up_ne _ _ (h9 15 (by decide)), va_up_ne _ _ (h9 11 (by decide)), va_up_ne _ _ (h9 47 (by decide)), va_up_ne _ _ (h9 44 (by decide)), va_up_ne _ _ (h9 43 (by decide)), va_up_ne _ _ (h9 42 (by decide)), va_up_ne _ _ (h9 41 (by decide)), va_up_ne _ _ (h9 37 (by decide)), va_up_ne _ _ (h9 36 (by decide)), va_up_ne _ _ (h9 35 (by decide)), va_up_ne _ _ (h9 34 (by decide)), va_up_ne _ _ (h9 33 (by decide)), va_up_ne _ _ (h9 32 (by decide)), va_up_ne _ _ (h9 31 (by decide)), va_up_ne _ _ (h9 30 (by decide)), va_up_ne _ _ (h9 29 (by decide)), va_up_ne _ _ (h9 27 (by decide)), va_up_ne _ _ (h9 26 (by decide)), va_up_ne _ _ (h9 25 (by decide)), va_up_ne _ _ (h9 24 (by decide)), va_up_ne _ _ (h9 23 (by decide)), va_up_ne _ _ (h9 22 (by decide)), va_up_ne _ _ (h9 21 (by decide)), va_up_ne _ _ (h9 20 (by decide)), va_up_ne _ _ (h9 19 (by decide)), va_up_ne _ _ (h9 18 (by decide)), va_up_ne _ _ (h9 17 (by decide)), va_up_ne _ _ (h9 16 (by decide)), va_up_ne _ _ (h9 15 (by decide)), va_up_ne _ _ (h9 14 (by decide)), va_up_ne _ _ (h9 13 (by decide)), va_up_ne _ _ (h9 12 (by decide)), va_up_ne _ _ (h9 11 (by decide)), va_up_ne _ _ (h9 10 (by decide)), va_up_ne _ _ (h9 9 (by decide)), va_up_ne _ _ (h9 8 (by decide)), va_up_ne _ _ (h9 7 (by decide)), va_up_ne _ _ (h9 6 (by decide)), va_up_ne _ _ (h9 5 (by decide)), va_up_ne _ _ (h9 4 (by decide)), va_up_ne _ _ (h9 3 (by decide)), va_up_ne _ _ (h9 2 (by decide)), va_up_ne _ _ (h9 1 (by decide))]
end M20
