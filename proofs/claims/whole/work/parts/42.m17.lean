/-! the reference: readOrder -/
section M17
variable {sh : ASh} {I : AIn} {P : APt}
/-- the heap H holds what is read so far, over K -/
def rdR2 (K : AIn) (s : RD) (H : AIn) : Prop := (∀ r, r ≠ 0 → r ≠ 43 → r ≠ 44 → H r = K r) ∧ H 0 45 = nI s.2.length ∧ H 0 46 = nI s.1 ∧ ∀ k, k < s.2.length → H 43 k = nI (s.2.getD k (0, 0)).1 ∧ H 44 k = (s.2.getD k (0, 0)).2
theorem getD_snoc {l : List (Nat × Int32)} {x : Nat × Int32} {k : Nat} (hk : k < (l ++ [x]).length) : (l ++ [x]).getD k (0, 0) = if k = l.length then x else l.getD k (0, 0) := by
  rw [List.length_append, List.length_cons, List.length_nil] at hk
  by_cases h : k = l.length
  · subst h
    simp
  · rw [if_neg h, List.getD_eq_getElem?_getD, List.getD_eq_getElem?_getD, List.getElem?_append_left (by omega)]
theorem rdR2.put {K H : AIn} {s : RD} {k : Nat} {a : Int32} {nx : Nat} {f : Nat → Int32} (h : rdR2 K s H) (h45 : f 45 = nI (s.2.length + 1)) (h46 : f 46 = nI nx) : rdR2 K (nx, s.2 ++ [(k, a)]) (va_up (va_up (va_up H 43 (upd (H 43) s.2.length (nI k))) 44 (upd (H 44) s.2.length a)) 0 f) := by
  obtain ⟨h1, h2, h3, h4⟩ := h
  refine ⟨fun r a b c => ?_, ?_, ?_, fun i hi => ?_⟩
  · rw [va_up_ne _ _ a, va_up_ne _ _ c, va_up_ne _ _ b]; exact h1 r a b c
  · rw [va_up_self, h45, List.length_append]; rfl
  · rw [va_up_self, h46]
  · have hi2 : i < (s.2 ++ [(k, a)]).length := hi
    show va_up (va_up (va_up H 43 _) 44 _) 0 f 43 i = nI ((s.2 ++ [(k, a)]).getD i (0, 0)).1 ∧ va_up (va_up (va_up H 43 _) 44 _) 0 f 44 i = ((s.2 ++ [(k, a)]).getD i (0, 0)).2
    rw [getD_snoc hi2, va_up_ne _ _ (show 43 ≠ 0 by decide), va_up_ne _ _ (show 43 ≠ 44 by decide), va_up_self, va_up_ne _ _ (show 44 ≠ 0 by decide), va_up_self]
    rw [List.length_append, List.length_cons, List.length_nil] at hi2
    by_cases e : i = s.2.length
    · subst e
      rw [pk_us, pk_us, if_pos rfl]
      exact ⟨rfl, rfl⟩
    · rw [pk_un e, pk_un e, if_neg e]
      exact h4 i (by omega)
theorem c_X11_readOrder (S : St_m sh P) {K : AIn} {s : RD} {k T : Nat} (hk : k < 16) (h : rdR2 K s I) (hT : K 26 0 = nI T) (hT2 : T ≤ 160) (hn : s.1 ≤ T) (hl : s.2.length ≤ 40) : am_R mX11_readOrder (po_i (fun v sh' I' P' => bo v (∃ s', rdO T (K 27) k s = some s') ∧ (∀ s', rdO T (K 27) k s = some s' → rdR2 K s' I') ∧ (∀ r, r ≠ 0 → r ≠ 43 → r ≠ 44 → I' r = K r) ∧ sh = sh' ∧ P = P')) 2 43 0 0 0 [some (.ref 0), some (.int (nI k)), none] [] sh I P := by
  have e45 := h.2.1
  have e46 := h.2.2.1
  have e26 : I 26 0 = nI T := by rw [h.1 26 (by decide) (by decide) (by decide)]; exact hT
  have e27 : I 27 = K 27 := h.1 27 (by decide) (by decide) (by decide)
  refine r_aload_n dX11_readOrder_0 rfl ?_
  refine r_getI dX11_readOrder_1 g_X11_232 (S.1 _ _ rfl) rfl ?_
  rw [e45]
  refine r_bipush dX11_readOrder_4 (v := nI 40) (by decide) ?_
  refine r_icmp_neN 11 dX11_readOrder_6 (by decide) (by omega) (by omega) (fun h6 => ?_) (fun h6 => ?_)
  · refine r_iconst dX11_readOrder_11 (v := nI 0) kc_0 ?_
    refine r_istore_n dX11_readOrder_12 (Nat.le_of_ble_eq_true rfl) ?_
    dsimp only [List.set]
    refine r_iload_n dX11_readOrder_13 rfl ?_
    refine r_callS1 (fr' := 0) (lo' := 0) (mc' := 0) (ms' := 0) dX11_readOrder_14 mm_X11_hasArgument ms_X11_hasArgument l_X11_158 (by decide) ⟨by decide, by decide⟩ (Nat.zero_le _) (Nat.zero_le _) (Nat.le_of_ble_eq_true rfl) (c_X11_hasArgument hk) (am_ki ?_)
    rintro v14 _ _ _ ⟨hb14, rfl, rfl, rfl⟩
    refine r_if_eq 72 dX11_readOrder_17 (by decide) (fun h17 => ?_) (fun h17 => ?_)
    · replace h17 := hb14.f h17
      have hz : aOk k (nI 0) := by
        unfold hasA at h17
        rw [aOk, if_neg (by omega), if_neg (by omega), if_neg (by omega), nI_0]
      first
        | (have _ := hz
           refine r_iload_n dX11_readOrder_72 rfl ?_
           refine r_iload_n dX11_readOrder_73 rfl ?_
           refine r_callS2 (fr' := 1) (lo' := 22) (mc' := 0) (ms' := 0) dX11_readOrder_74 mm_X11_isArgument ms_X11_isArgument l_X11_154 (by decide) ⟨by decide, by decide⟩ (Nat.zero_le _) (Nat.zero_le _) (Nat.le_of_ble_eq_true rfl) (c_X11_isArgument hk _) (am_ki ?_)
           rintro v74 _ _ _ ⟨hb74, rfl, rfl, rfl⟩
           refine r_if_ne 82 dX11_readOrder_77 (by decide) (fun h77 => ?_) (fun h77 => ?_)
           · replace h77 := hb74.t h77
             refine r_aload_n dX11_readOrder_82 rfl ?_
             refine r_getP dX11_readOrder_83 g_X11_125 (S.1 _ _ rfl) rfl (S.2 _ _ _ rfl) ?_
             refine r_aload_n dX11_readOrder_86 rfl ?_
             refine r_getI dX11_readOrder_87 g_X11_232 (S.1 _ _ rfl) rfl ?_
             rw [e45]
             refine r_iload_n dX11_readOrder_90 rfl ?_
             refine r_iastore _ dX11_readOrder_91 (S.1 _ _ rfl) rfl (by first | decide | omega) (by decide) ?_
             refine r_aload_n dX11_readOrder_92 rfl ?_
             refine r_getP dX11_readOrder_93 g_X11_128 (S.1 _ _ rfl) rfl (S.2 _ _ _ rfl) ?_
             refine r_aload_n dX11_readOrder_96 rfl ?_
             refine r_getI dX11_readOrder_97 g_X11_232 (S.1 _ _ rfl) rfl ?_
             simp (decide := true) only [va_up_ne, va_up_self]
             rw [e45]
             refine r_iload_n dX11_readOrder_100 rfl ?_
             refine r_iastore _ dX11_readOrder_101 (S.1 _ _ rfl) rfl (by first | decide | omega) (by decide) ?_
             refine r_aload_n dX11_readOrder_102 rfl ?_
             refine r_dup dX11_readOrder_103 ?_
             refine r_getI dX11_readOrder_104 g_X11_232 (S.1 _ _ rfl) rfl ?_
             simp (decide := true) only [va_up_ne, va_up_self]
             rw [e45]
             refine r_iconst dX11_readOrder_107 (v := nI 1) kc_1 ?_
             first | refine r_iaddN dX11_readOrder_108 ?_ | refine r_iadd dX11_readOrder_108 ?_
             refine r_putI dX11_readOrder_109 f_X11_232 (S.1 _ _ rfl) rfl rfl rfl ?_
             refine r_iconst dX11_readOrder_112 (v := nI 1) kc_1 ?_
             refine r_ireturn dX11_readOrder_113 .boolean rfl rfl ?_
             have hyes : rdO T (K 27) k s = some (s.1, s.2 ++ [(k, nI 0)]) := by
               unfold rdO
               rw [cif_f (by omega), cif_f h17]
             refine ⟨_, rfl, bo_1 ⟨_, hyes⟩, fun s1 g => ?_, fun r a b c => ?_, rfl, rfl⟩
             · rw [hyes] at g
               cases g
               simp (decide := true) only [va_up_ne, va_up_self]
               exact h.put (by simp [upd]) (by simp [upd, e46])
             · rw [va_up_ne _ _ a, va_up_ne _ _ c, va_up_ne _ _ b]
               exact h.1 r a b c
           · replace h77 := hb74.f h77
             exact absurd hz h77
          )
        | (have _ := ev
           refine r_iload_n dX11_readOrder_72 rfl ?_
           refine r_iload_n dX11_readOrder_73 rfl ?_
           refine r_callS2 (fr' := 1) (lo' := 22) (mc' := 0) (ms' := 0) dX11_readOrder_74 mm_X11_isArgument ms_X11_isArgument l_X11_154 (by decide) ⟨by decide, by decide⟩ (Nat.zero_le _) (Nat.zero_le _) (Nat.le_of_ble_eq_true rfl) (c_X11_isArgument hk _) (am_ki ?_)
           rintro v74 _ _ _ ⟨hb74, rfl, rfl, rfl⟩
           refine r_if_ne 82 dX11_readOrder_77 (by decide) (fun h77 => ?_) (fun h77 => ?_)
           · replace h77 := hb74.t h77
             refine r_aload_n dX11_readOrder_82 rfl ?_
             refine r_getP dX11_readOrder_83 g_X11_125 (S.1 _ _ rfl) rfl (S.2 _ _ _ rfl) ?_
             refine r_aload_n dX11_readOrder_86 rfl ?_
             refine r_getI dX11_readOrder_87 g_X11_232 (S.1 _ _ rfl) rfl ?_
             simp (decide := true) only [va_up_ne, va_up_self]
             rw [pk_un (by decide), e45]
             refine r_iload_n dX11_readOrder_90 rfl ?_
             refine r_iastore _ dX11_readOrder_91 (S.1 _ _ rfl) rfl (by first | decide | omega) (by decide) ?_
             refine r_aload_n dX11_readOrder_92 rfl ?_
             refine r_getP dX11_readOrder_93 g_X11_128 (S.1 _ _ rfl) rfl (S.2 _ _ _ rfl) ?_
             refine r_aload_n dX11_readOrder_96 rfl ?_
             refine r_getI dX11_readOrder_97 g_X11_232 (S.1 _ _ rfl) rfl ?_
             simp (decide := true) only [va_up_ne, va_up_self]
             rw [pk_un (by decide), e45]
             refine r_iload_n dX11_readOrder_100 rfl ?_
             refine r_iastore _ dX11_readOrder_101 (S.1 _ _ rfl) rfl (by first | decide | omega) (by decide) ?_
             refine r_aload_n dX11_readOrder_102 rfl ?_
             refine r_dup dX11_readOrder_103 ?_
             refine r_getI dX11_readOrder_104 g_X11_232 (S.1 _ _ rfl) rfl ?_
             simp (decide := true) only [va_up_ne, va_up_self]
             rw [pk_un (by decide), e45]
             refine r_iconst dX11_readOrder_107 (v := nI 1) kc_1 ?_
             first | refine r_iaddN dX11_readOrder_108 ?_ | refine r_iadd dX11_readOrder_108 ?_
             refine r_putI dX11_readOrder_109 f_X11_232 (S.1 _ _ rfl) rfl rfl rfl ?_
             refine r_iconst dX11_readOrder_112 (v := nI 1) kc_1 ?_
             refine r_ireturn dX11_readOrder_113 .boolean rfl rfl ?_
             have hyes : rdO T (K 27) k s = some (s.1 + 1, s.2 ++ [(k, rdv k (K 27 s.1))]) := by
               unfold rdO
               rw [cif_f (by omega), cif_t h17, cif_f h30, cif_t h77]
             refine ⟨_, rfl, bo_1 ⟨_, hyes⟩, fun s1 g => ?_, fun r a b c => ?_, rfl, rfl⟩
             · rw [hyes] at g
               cases g
               simp (decide := true) only [va_up_ne, va_up_self]
               rw [up_sw (i := 0) (j := 43) (by decide), up_sw (i := 0) (j := 44) (by decide), bx_uu]
               exact h.put (by simp [upd]) (by simp [upd])
             · rw [va_up_ne _ _ a, va_up_ne _ _ c, va_up_ne _ _ b, va_up_ne _ _ a]
               exact h.1 r a b c
           · replace h77 := hb74.f h77
             refine r_iconst dX11_readOrder_80 (v := nI 0) kc_0 ?_
             refine r_ireturn dX11_readOrder_81 .boolean rfl rfl ?_
             have hno : rdO T (K 27) k s = none := by
               unfold rdO
               rw [cif_f (by omega), cif_t h17, cif_f h30, cif_f h77]
             exact ⟨_, rfl, bo_0 (fun ⟨s1, g⟩ => by rw [hno] at g; cases g), (fun s1 g => by rw [hno] at g; cases g), (fun r a b c => by rw [va_up_ne _ _ a]; exact h.1 r a b c), rfl, rfl⟩
          )
    · replace h17 := hb14.t h17
      refine r_aload_n dX11_readOrder_20 rfl ?_
      refine r_getI dX11_readOrder_21 g_X11_235 (S.1 _ _ rfl) rfl ?_
      rw [e46]
      refine r_aload_n dX11_readOrder_24 rfl ?_
      refine r_getP dX11_readOrder_25 g_X11_85 (S.1 _ _ rfl) rfl (S.2 _ _ _ rfl) ?_
      refine r_iconst dX11_readOrder_28 (v := nI 0) kc_0 ?_
      refine r_iaload _ dX11_readOrder_29 (S.1 _ _ rfl) rfl (by first | decide | omega) (by decide) ?_
      rw [e26]
      refine r_icmp_neN 35 dX11_readOrder_30 (by decide) (by omega) (by omega) (fun h30 => ?_) (fun h30 => ?_)
      · refine r_iload_n dX11_readOrder_35 rfl ?_
        refine r_if_neN 52 dX11_readOrder_36 (by decide) (by omega) (fun h36 => ?_) (fun h36 => ?_)
        · have ev : rdv k (K 27 s.1) = K 27 s.1 := if_neg h36
          refine r_aload_n dX11_readOrder_52 rfl ?_
          refine r_getP dX11_readOrder_53 g_X11_88 (S.1 _ _ rfl) rfl (S.2 _ _ _ rfl) ?_
          refine r_aload_n dX11_readOrder_56 rfl ?_
          refine r_getI dX11_readOrder_57 g_X11_235 (S.1 _ _ rfl) rfl ?_
          rw [e46]
          refine r_iaload _ dX11_readOrder_60 (S.1 _ _ rfl) rfl (by first | decide | omega) (by decide) ?_
          rw [e27]
          rw [← ev]
          refine r_istore_n dX11_readOrder_61 (Nat.le_of_ble_eq_true rfl) ?_
          dsimp only [List.set]
          refine r_aload_n dX11_readOrder_62 rfl ?_
          refine r_dup dX11_readOrder_63 ?_
          refine r_getI dX11_readOrder_64 g_X11_235 (S.1 _ _ rfl) rfl ?_
          rw [e46]
          refine r_iconst dX11_readOrder_67 (v := nI 1) kc_1 ?_
          first | refine r_iaddN dX11_readOrder_68 ?_ | refine r_iadd dX11_readOrder_68 ?_
          refine r_putI dX11_readOrder_69 f_X11_235 (S.1 _ _ rfl) rfl rfl rfl ?_
          first
            | (have _ := hz
               refine r_iload_n dX11_readOrder_72 rfl ?_
               refine r_iload_n dX11_readOrder_73 rfl ?_
               refine r_callS2 (fr' := 1) (lo' := 22) (mc' := 0) (ms' := 0) dX11_readOrder_74 mm_X11_isArgument ms_X11_isArgument l_X11_154 (by decide) ⟨by decide, by decide⟩ (Nat.zero_le _) (Nat.zero_le _) (Nat.le_of_ble_eq_true rfl) (c_X11_isArgument hk _) (am_ki ?_)
               rintro v74 _ _ _ ⟨hb74, rfl, rfl, rfl⟩
               refine r_if_ne 82 dX11_readOrder_77 (by decide) (fun h77 => ?_) (fun h77 => ?_)
               · replace h77 := hb74.t h77
                 refine r_aload_n dX11_readOrder_82 rfl ?_
                 refine r_getP dX11_readOrder_83 g_X11_125 (S.1 _ _ rfl) rfl (S.2 _ _ _ rfl) ?_
                 refine r_aload_n dX11_readOrder_86 rfl ?_
                 refine r_getI dX11_readOrder_87 g_X11_232 (S.1 _ _ rfl) rfl ?_
                 rw [e45]
                 refine r_iload_n dX11_readOrder_90 rfl ?_
                 refine r_iastore _ dX11_readOrder_91 (S.1 _ _ rfl) rfl (by first | decide | omega) (by decide) ?_
                 refine r_aload_n dX11_readOrder_92 rfl ?_
                 refine r_getP dX11_readOrder_93 g_X11_128 (S.1 _ _ rfl) rfl (S.2 _ _ _ rfl) ?_
                 refine r_aload_n dX11_readOrder_96 rfl ?_
                 refine r_getI dX11_readOrder_97 g_X11_232 (S.1 _ _ rfl) rfl ?_
                 simp (decide := true) only [va_up_ne, va_up_self]
                 rw [e45]
                 refine r_iload_n dX11_readOrder_100 rfl ?_
                 refine r_iastore _ dX11_readOrder_101 (S.1 _ _ rfl) rfl (by first | decide | omega) (by decide) ?_
                 refine r_aload_n dX11_readOrder_102 rfl ?_
                 refine r_dup dX11_readOrder_103 ?_
                 refine r_getI dX11_readOrder_104 g_X11_232 (S.1 _ _ rfl) rfl ?_
                 simp (decide := true) only [va_up_ne, va_up_self]
                 rw [e45]
                 refine r_iconst dX11_readOrder_107 (v := nI 1) kc_1 ?_
                 first | refine r_iaddN dX11_readOrder_108 ?_ | refine r_iadd dX11_readOrder_108 ?_
                 refine r_putI dX11_readOrder_109 f_X11_232 (S.1 _ _ rfl) rfl rfl rfl ?_
                 refine r_iconst dX11_readOrder_112 (v := nI 1) kc_1 ?_
                 refine r_ireturn dX11_readOrder_113 .boolean rfl rfl ?_
                 have hyes : rdO T (K 27) k s = some (s.1, s.2 ++ [(k, nI 0)]) := by
                   unfold rdO
                   rw [cif_f (by omega), cif_f h17]
                 refine ⟨_, rfl, bo_1 ⟨_, hyes⟩, fun s1 g => ?_, fun r a b c => ?_, rfl, rfl⟩
                 · rw [hyes] at g
                   cases g
                   simp (decide := true) only [va_up_ne, va_up_self]
                   exact h.put (by simp [upd]) (by simp [upd, e46])
                 · rw [va_up_ne _ _ a, va_up_ne _ _ c, va_up_ne _ _ b]
                   exact h.1 r a b c
               · replace h77 := hb74.f h77
                 exact absurd hz h77
              )
            | (have _ := ev
               refine r_iload_n dX11_readOrder_72 rfl ?_
               refine r_iload_n dX11_readOrder_73 rfl ?_
               refine r_callS2 (fr' := 1) (lo' := 22) (mc' := 0) (ms' := 0) dX11_readOrder_74 mm_X11_isArgument ms_X11_isArgument l_X11_154 (by decide) ⟨by decide, by decide⟩ (Nat.zero_le _) (Nat.zero_le _) (Nat.le_of_ble_eq_true rfl) (c_X11_isArgument hk _) (am_ki ?_)
               rintro v74 _ _ _ ⟨hb74, rfl, rfl, rfl⟩
               refine r_if_ne 82 dX11_readOrder_77 (by decide) (fun h77 => ?_) (fun h77 => ?_)
               · replace h77 := hb74.t h77
                 refine r_aload_n dX11_readOrder_82 rfl ?_
                 refine r_getP dX11_readOrder_83 g_X11_125 (S.1 _ _ rfl) rfl (S.2 _ _ _ rfl) ?_
                 refine r_aload_n dX11_readOrder_86 rfl ?_
                 refine r_getI dX11_readOrder_87 g_X11_232 (S.1 _ _ rfl) rfl ?_
                 simp (decide := true) only [va_up_ne, va_up_self]
                 rw [pk_un (by decide), e45]
                 refine r_iload_n dX11_readOrder_90 rfl ?_
                 refine r_iastore _ dX11_readOrder_91 (S.1 _ _ rfl) rfl (by first | decide | omega) (by decide) ?_
                 refine r_aload_n dX11_readOrder_92 rfl ?_
                 refine r_getP dX11_readOrder_93 g_X11_128 (S.1 _ _ rfl) rfl (S.2 _ _ _ rfl) ?_
                 refine r_aload_n dX11_readOrder_96 rfl ?_
                 refine r_getI dX11_readOrder_97 g_X11_232 (S.1 _ _ rfl) rfl ?_
                 simp (decide := true) only [va_up_ne, va_up_self]
                 rw [pk_un (by decide), e45]
                 refine r_iload_n dX11_readOrder_100 rfl ?_
                 refine r_iastore _ dX11_readOrder_101 (S.1 _ _ rfl) rfl (by first | decide | omega) (by decide) ?_
                 refine r_aload_n dX11_readOrder_102 rfl ?_
                 refine r_dup dX11_readOrder_103 ?_
                 refine r_getI dX11_readOrder_104 g_X11_232 (S.1 _ _ rfl) rfl ?_
                 simp (decide := true) only [va_up_ne, va_up_self]
                 rw [pk_un (by decide), e45]
                 refine r_iconst dX11_readOrder_107 (v := nI 1) kc_1 ?_
                 first | refine r_iaddN dX11_readOrder_108 ?_ | refine r_iadd dX11_readOrder_108 ?_
                 refine r_putI dX11_readOrder_109 f_X11_232 (S.1 _ _ rfl) rfl rfl rfl ?_
                 refine r_iconst dX11_readOrder_112 (v := nI 1) kc_1 ?_
                 refine r_ireturn dX11_readOrder_113 .boolean rfl rfl ?_
                 have hyes : rdO T (K 27) k s = some (s.1 + 1, s.2 ++ [(k, rdv k (K 27 s.1))]) := by
                   unfold rdO
                   rw [cif_f (by omega), cif_t h17, cif_f h30, cif_t h77]
                 refine ⟨_, rfl, bo_1 ⟨_, hyes⟩, fun s1 g => ?_, fun r a b c => ?_, rfl, rfl⟩
                 · rw [hyes] at g
                   cases g
                   simp (decide := true) only [va_up_ne, va_up_self]
                   rw [up_sw (i := 0) (j := 43) (by decide), up_sw (i := 0) (j := 44) (by decide), bx_uu]
                   exact h.put (by simp [upd]) (by simp [upd])
                 · rw [va_up_ne _ _ a, va_up_ne _ _ c, va_up_ne _ _ b, va_up_ne _ _ a]
                   exact h.1 r a b c
               · replace h77 := hb74.f h77
                 refine r_iconst dX11_readOrder_80 (v := nI 0) kc_0 ?_
                 refine r_ireturn dX11_readOrder_81 .boolean rfl rfl ?_
                 have hno : rdO T (K 27) k s = none := by
                   unfold rdO
                   rw [cif_f (by omega), cif_t h17, cif_f h30, cif_f h77]
                 exact ⟨_, rfl, bo_0 (fun ⟨s1, g⟩ => by rw [hno] at g; cases g), (fun s1 g => by rw [hno] at g; cases g), (fun r a b c => by rw [va_up_ne _ _ a]; exact h.1 r a b c), rfl, rfl⟩
              )
        · have ev : rdv k (K 27 s.1) = (K 27 s.1).toInt8.toInt32 := if_pos h36
          refine r_aload_n dX11_readOrder_39 rfl ?_
          refine r_getP dX11_readOrder_40 g_X11_88 (S.1 _ _ rfl) rfl (S.2 _ _ _ rfl) ?_
          refine r_aload_n dX11_readOrder_43 rfl ?_
          refine r_getI dX11_readOrder_44 g_X11_235 (S.1 _ _ rfl) rfl ?_
          rw [e46]
          refine r_iaload _ dX11_readOrder_47 (S.1 _ _ rfl) rfl (by first | decide | omega) (by decide) ?_
          rw [e27]
          refine r_i2b dX11_readOrder_48 ?_
          refine r_goto 61 dX11_readOrder_49 (by decide) ?_
          rw [← ev]
          refine r_istore_n dX11_readOrder_61 (Nat.le_of_ble_eq_true rfl) ?_
          dsimp only [List.set]
          refine r_aload_n dX11_readOrder_62 rfl ?_
          refine r_dup dX11_readOrder_63 ?_
          refine r_getI dX11_readOrder_64 g_X11_235 (S.1 _ _ rfl) rfl ?_
          rw [e46]
          refine r_iconst dX11_readOrder_67 (v := nI 1) kc_1 ?_
          first | refine r_iaddN dX11_readOrder_68 ?_ | refine r_iadd dX11_readOrder_68 ?_
          refine r_putI dX11_readOrder_69 f_X11_235 (S.1 _ _ rfl) rfl rfl rfl ?_
          first
            | (have _ := hz
               refine r_iload_n dX11_readOrder_72 rfl ?_
               refine r_iload_n dX11_readOrder_73 rfl ?_
               refine r_callS2 (fr' := 1) (lo' := 22) (mc' := 0) (ms' := 0) dX11_readOrder_74 mm_X11_isArgument ms_X11_isArgument l_X11_154 (by decide) ⟨by decide, by decide⟩ (Nat.zero_le _) (Nat.zero_le _) (Nat.le_of_ble_eq_true rfl) (c_X11_isArgument hk _) (am_ki ?_)
               rintro v74 _ _ _ ⟨hb74, rfl, rfl, rfl⟩
               refine r_if_ne 82 dX11_readOrder_77 (by decide) (fun h77 => ?_) (fun h77 => ?_)
               · replace h77 := hb74.t h77
                 refine r_aload_n dX11_readOrder_82 rfl ?_
                 refine r_getP dX11_readOrder_83 g_X11_125 (S.1 _ _ rfl) rfl (S.2 _ _ _ rfl) ?_
                 refine r_aload_n dX11_readOrder_86 rfl ?_
                 refine r_getI dX11_readOrder_87 g_X11_232 (S.1 _ _ rfl) rfl ?_
                 rw [e45]
                 refine r_iload_n dX11_readOrder_90 rfl ?_
                 refine r_iastore _ dX11_readOrder_91 (S.1 _ _ rfl) rfl (by first | decide | omega) (by decide) ?_
                 refine r_aload_n dX11_readOrder_92 rfl ?_
                 refine r_getP dX11_readOrder_93 g_X11_128 (S.1 _ _ rfl) rfl (S.2 _ _ _ rfl) ?_
                 refine r_aload_n dX11_readOrder_96 rfl ?_
                 refine r_getI dX11_readOrder_97 g_X11_232 (S.1 _ _ rfl) rfl ?_
                 simp (decide := true) only [va_up_ne, va_up_self]
                 rw [e45]
                 refine r_iload_n dX11_readOrder_100 rfl ?_
                 refine r_iastore _ dX11_readOrder_101 (S.1 _ _ rfl) rfl (by first | decide | omega) (by decide) ?_
                 refine r_aload_n dX11_readOrder_102 rfl ?_
                 refine r_dup dX11_readOrder_103 ?_
                 refine r_getI dX11_readOrder_104 g_X11_232 (S.1 _ _ rfl) rfl ?_
                 simp (decide := true) only [va_up_ne, va_up_self]
                 rw [e45]
                 refine r_iconst dX11_readOrder_107 (v := nI 1) kc_1 ?_
                 first | refine r_iaddN dX11_readOrder_108 ?_ | refine r_iadd dX11_readOrder_108 ?_
                 refine r_putI dX11_readOrder_109 f_X11_232 (S.1 _ _ rfl) rfl rfl rfl ?_
                 refine r_iconst dX11_readOrder_112 (v := nI 1) kc_1 ?_
                 refine r_ireturn dX11_readOrder_113 .boolean rfl rfl ?_
                 have hyes : rdO T (K 27) k s = some (s.1, s.2 ++ [(k, nI 0)]) := by
                   unfold rdO
                   rw [cif_f (by omega), cif_f h17]
                 refine ⟨_, rfl, bo_1 ⟨_, hyes⟩, fun s1 g => ?_, fun r a b c => ?_, rfl, rfl⟩
                 · rw [hyes] at g
                   cases g
                   simp (decide := true) only [va_up_ne, va_up_self]
                   exact h.put (by simp [upd]) (by simp [upd, e46])
                 · rw [va_up_ne _ _ a, va_up_ne _ _ c, va_up_ne _ _ b]
                   exact h.1 r a b c
               · replace h77 := hb74.f h77
                 exact absurd hz h77
              )
            | (have _ := ev
               refine r_iload_n dX11_readOrder_72 rfl ?_
               refine r_iload_n dX11_readOrder_73 rfl ?_
               refine r_callS2 (fr' := 1) (lo' := 22) (mc' := 0) (ms' := 0) dX11_readOrder_74 mm_X11_isArgument ms_X11_isArgument l_X11_154 (by decide) ⟨by decide, by decide⟩ (Nat.zero_le _) (Nat.zero_le _) (Nat.le_of_ble_eq_true rfl) (c_X11_isArgument hk _) (am_ki ?_)
               rintro v74 _ _ _ ⟨hb74, rfl, rfl, rfl⟩
               refine r_if_ne 82 dX11_readOrder_77 (by decide) (fun h77 => ?_) (fun h77 => ?_)
               · replace h77 := hb74.t h77
                 refine r_aload_n dX11_readOrder_82 rfl ?_
                 refine r_getP dX11_readOrder_83 g_X11_125 (S.1 _ _ rfl) rfl (S.2 _ _ _ rfl) ?_
                 refine r_aload_n dX11_readOrder_86 rfl ?_
                 refine r_getI dX11_readOrder_87 g_X11_232 (S.1 _ _ rfl) rfl ?_
                 simp (decide := true) only [va_up_ne, va_up_self]
                 rw [pk_un (by decide), e45]
                 refine r_iload_n dX11_readOrder_90 rfl ?_
                 refine r_iastore _ dX11_readOrder_91 (S.1 _ _ rfl) rfl (by first | decide | omega) (by decide) ?_
                 refine r_aload_n dX11_readOrder_92 rfl ?_
                 refine r_getP dX11_readOrder_93 g_X11_128 (S.1 _ _ rfl) rfl (S.2 _ _ _ rfl) ?_
                 refine r_aload_n dX11_readOrder_96 rfl ?_
                 refine r_getI dX11_readOrder_97 g_X11_232 (S.1 _ _ rfl) rfl ?_
                 simp (decide := true) only [va_up_ne, va_up_self]
                 rw [pk_un (by decide), e45]
                 refine r_iload_n dX11_readOrder_100 rfl ?_
                 refine r_iastore _ dX11_readOrder_101 (S.1 _ _ rfl) rfl (by first | decide | omega) (by decide) ?_
                 refine r_aload_n dX11_readOrder_102 rfl ?_
                 refine r_dup dX11_readOrder_103 ?_
                 refine r_getI dX11_readOrder_104 g_X11_232 (S.1 _ _ rfl) rfl ?_
                 simp (decide := true) only [va_up_ne, va_up_self]
                 rw [pk_un (by decide), e45]
                 refine r_iconst dX11_readOrder_107 (v := nI 1) kc_1 ?_
                 first | refine r_iaddN dX11_readOrder_108 ?_ | refine r_iadd dX11_readOrder_108 ?_
                 refine r_putI dX11_readOrder_109 f_X11_232 (S.1 _ _ rfl) rfl rfl rfl ?_
                 refine r_iconst dX11_readOrder_112 (v := nI 1) kc_1 ?_
                 refine r_ireturn dX11_readOrder_113 .boolean rfl rfl ?_
                 have hyes : rdO T (K 27) k s = some (s.1 + 1, s.2 ++ [(k, rdv k (K 27 s.1))]) := by
                   unfold rdO
                   rw [cif_f (by omega), cif_t h17, cif_f h30, cif_t h77]
                 refine ⟨_, rfl, bo_1 ⟨_, hyes⟩, fun s1 g => ?_, fun r a b c => ?_, rfl, rfl⟩
                 · rw [hyes] at g
                   cases g
                   simp (decide := true) only [va_up_ne, va_up_self]
                   rw [up_sw (i := 0) (j := 43) (by decide), up_sw (i := 0) (j := 44) (by decide), bx_uu]
                   exact h.put (by simp [upd]) (by simp [upd])
                 · rw [va_up_ne _ _ a, va_up_ne _ _ c, va_up_ne _ _ b, va_up_ne _ _ a]
                   exact h.1 r a b c
               · replace h77 := hb74.f h77
                 refine r_iconst dX11_readOrder_80 (v := nI 0) kc_0 ?_
                 refine r_ireturn dX11_readOrder_81 .boolean rfl rfl ?_
                 have hno : rdO T (K 27) k s = none := by
                   unfold rdO
                   rw [cif_f (by omega), cif_t h17, cif_f h30, cif_f h77]
                 exact ⟨_, rfl, bo_0 (fun ⟨s1, g⟩ => by rw [hno] at g; cases g), (fun s1 g => by rw [hno] at g; cases g), (fun r a b c => by rw [va_up_ne _ _ a]; exact h.1 r a b c), rfl, rfl⟩
              )
      · refine r_iconst dX11_readOrder_33 (v := nI 0) kc_0 ?_
        refine r_ireturn dX11_readOrder_34 .boolean rfl rfl ?_
        have hno : rdO T (K 27) k s = none := by
          unfold rdO
          rw [cif_f (by omega), cif_t h17, cif_t h30]
        exact ⟨_, rfl, bo_0 (fun ⟨s1, g⟩ => by rw [hno] at g; cases g), (fun s1 g => by rw [hno] at g; cases g), h.1, rfl, rfl⟩
  · refine r_iconst dX11_readOrder_9 (v := nI 0) kc_0 ?_
    refine r_ireturn dX11_readOrder_10 .boolean rfl rfl ?_
    have hno : rdO T (K 27) k s = none := by
      unfold rdO
      rw [cif_t h6]
    exact ⟨_, rfl, bo_0 (fun ⟨s1, g⟩ => by rw [hno] at g; cases g), (fun s1 g => by rw [hno] at g; cases g), h.1, rfl, rfl⟩
end M17
