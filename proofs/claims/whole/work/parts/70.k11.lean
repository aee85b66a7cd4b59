/-! the class: the cheapest way to pack, cost -/
def wyE (σ : AIn) (p : Nat) (T : Nat → Nat) (j l len : Nat) (num : Int32) : Prop := bgE T (sdp σ (σ 7) p j) (rln (σ 7)) (nj σ) j l (σ 3 (40 * p + j)) len num
def bgF (I : AIn) (j : Nat) (H : AIn) : Prop := (∀ r, r ≠ 63 → r ≠ 64 → H r = I r) ∧ ∀ t, t ≠ j → H 63 t = I 63 t ∧ H 64 t = I 64 t
section K11
variable {sh : ASh} {I σ : AIn} {P : APt}
theorem bgF_63 {H : AIn} {j : Nat} {x : Int32} (h : bgF I j H) : bgF I j (va_up H 63 (upd (H 63) j x)) := ⟨fun r a b => by rw [va_up_ne _ _ a]; exact h.1 r a b, fun t ht => by
  rw [va_up_self, pk_un ht, va_up_ne _ _ (by decide)]
  exact h.2 t ht⟩
theorem bgF_64 {H : AIn} {j : Nat} {x : Int32} (h : bgF I j H) : bgF I j (va_up H 64 (upd (H 64) j x)) := ⟨fun r a b => by rw [va_up_ne _ _ b]; exact h.1 r a b, fun t ht => by
  rw [va_up_self, pk_un ht, va_up_ne _ _ (by decide)]
  exact h.2 t ht⟩
def bgP (sh : ASh) (P : APt) (I σ : AIn) (p : Nat) (T : Nat → Nat) (j : Nat) : APo := po_v (fun sh' I' P' => bgF I j I' ∧ (∃ len num, I' 63 j = nI len ∧ I' 64 j = num ∧ wyE σ p T j 4 len num) ∧ sh = sh' ∧ P = P')
theorem l_X9_begin (S : St_c sh P) (V : Inv σ) {p q : Nat} (Q : SPg sh P q) (hq : 100 < q ∧ q + 4 < 117) (hp : p < 3) (hP : Pg I q σ p) (hJ : RwR I 117 (nj σ) (fun j => eR (σ 7) (5 * j))) {T : Nat → Nat} {j R : Nat} (hj : j < sz σ p) (hT : ∀ t, j < t → t ≤ sz σ p → I 65 t = nI (T t) ∧ T t < 2147483648) (hR : rcE (sz σ p) (kdN σ p) (ldN σ p) j R) : ∀ (m l : Nat), l + m = R → 1 ≤ l → ∀ H len num x7, bgF I j H → H 63 j = nI len → H 64 j = num → wyE σ p T j l len num → am_R mX9_begin (bgP sh P I σ p T j) 3 62 0 0 42 [some (.ref 62), some (.ref q), some (.ref 117), some (.int (nI j)), some (.int (nI R)), some (.int (nI (e5 (kpN σ p j) l))), some (.int (nI (l + 1))), x7] [] sh H P := by
  obtain ⟨s0, s1, s2, s3, s4, p1, p2, p3, p4⟩ := id Q
  have hn4 : sz σ p ≤ 40 := (V.1.sz hp).2
  have hR4 := hR.1.1.2
  have hRn := hR.1.2.1
  have hV := V.2.1
  intro m
  induction m with
  | zero =>
    intro l hl h1 H len num x7 hF h63 h64 hE
    have e : l = R := by omega
    subst e
    refine r_iload dX9_begin_42 rfl ?_
    refine r_iload dX9_begin_44 rfl ?_
    refine r_icmp_gtN 135 dX9_begin_46 (by decide) (by omega) (by omega) (fun h46 => ?_) (fun h46 => ?_)
    · refine r_return dX9_begin_135 rfl ?_
      exact ⟨rfl, hF, ⟨len, num, h63, h64, bgE_all hE hR4 (fun r hr hs => st_R V.1 hp (hV.2.1 r hr) hR hs)⟩, rfl, rfl⟩
    · exact absurd h46 (by omega)
  | succ m ih =>
    intro l hl h1 H len num x7 hF h63 h64 hE
    have hkd : ∀ i, i ≤ l → kpN σ p j i ≤ 15 := fun i hi => (V.1.2.2.1 p (j + i) hp (by omega)).1.2
    have hlen := hE.1
    obtain ⟨t1, t2⟩ := hT (j + (l + 1)) (by omega) (by omega)
    obtain ⟨t3, t4⟩ := hT (j + len) (by omega) (by omega)
    have e65 : H 65 = I 65 := hF.1 65 (by decide) (by decide)
    have ek : H (q + 1) (j + (l + 1) - 1) = nI (kpN σ p j l) := by
      rw [hF.1 (q + 1) (by omega) (by omega), show j + (l + 1) - 1 = j + l by omega, ((hP.2.1 (j + l) (by omega))).1]
      exact (V.1.2.2.1 p (j + l) hp (by omega)).1.1
    have hJ2 : RwR H 117 (nj σ) (fun j => eR (σ 7) (5 * j)) := RwR_fr hJ (by rw [hF.1 117 (by decide) (by decide)]) (hF.1 118 (by decide) (by decide))
    have hJ6 := hJ.2.1
    have elt : e5 (kpN σ p j) (l + 1) < 1048576 := e5_lt (by omega) (fun i hi => hkd i (by omega))
    have st : ∀ H' len' num' x7, bgF I j H' → H' 63 j = nI len' → H' 64 j = num' → wyE σ p T j (l + 1) len' num' → am_R mX9_begin (bgP sh P I σ p T j) 3 62 0 0 42 [some (.ref 62), some (.ref q), some (.ref 117), some (.int (nI j)), some (.int (nI R)), some (.int (nI (e5 (kpN σ p j) (l + 1)))), some (.int (nI (l + 1 + 1))), x7] [] sh H' P := fun H' len' num' x7 a b c d => ih (l + 1) (by omega) (by omega) H' len' num' x7 a b c d
    refine r_iload dX9_begin_42 rfl ?_
    refine r_iload dX9_begin_44 rfl ?_
    refine r_icmp_gtN 135 dX9_begin_46 (by decide) (by omega) (by omega) (fun h46 => ?_) (fun h46 => ?_)
    · exact absurd h46 (by omega)
    · refine r_iload dX9_begin_49 rfl ?_
      refine r_iload dX9_begin_51 rfl ?_
      refine r_iconst dX9_begin_53 (v := nI 1) kc_1 ?_
      first | refine r_isubN dX9_begin_54 (by omega) ?_ | refine r_isub dX9_begin_54 ?_
      refine r_aload_n dX9_begin_55 rfl ?_
      refine r_getP dX9_begin_56 g_X9_35 (by first | assumption | exact S.1 _ _ rfl) rfl (by first | assumption | exact S.2 _ _ _ rfl) ?_
      refine r_iload_n dX9_begin_59 rfl ?_
      refine r_iload dX9_begin_60 rfl ?_
      first | refine r_iaddN dX9_begin_62 ?_ | refine r_iadd dX9_begin_62 ?_
      refine r_iconst dX9_begin_63 (v := nI 1) kc_1 ?_
      first | refine r_isubN dX9_begin_64 (by omega) ?_ | refine r_isub dX9_begin_64 ?_
      refine r_iaload (j + (l + 1) - 1) dX9_begin_65 (by first | assumption | exact S.1 _ _ rfl) rfl (by first | decide | omega) (by decide) ?_
      rw [ek]
      rw [show l + 1 - 1 = l from rfl]
      refine r_callS3 (fr' := 0) (lo' := 0) (mc' := 0) (ms' := 0) dX9_begin_66 mm_X4_with ms_X4_with l_X9_42 (by decide) ⟨by decide, by decide⟩ (Nat.zero_le _) (Nat.zero_le _) (Nat.le_of_ble_eq_true rfl) (c_X4_with2 (κ := kpN σ p j) (by omega) hkd rfl rfl) (am_ki ?_)
      rintro v66 _ _ _ ⟨rfl, rfl, rfl, rfl⟩
      refine r_istore dX9_begin_69 (Nat.le_of_ble_eq_true rfl) ?_
      dsimp only [List.set]
      refine r_aload_n dX9_begin_71 rfl ?_
      refine r_iload dX9_begin_72 rfl ?_
      refine r_callV1 (fr' := 0) (lo' := 0) (mc' := 0) (ms' := 0) dX9_begin_74 mm_X5_indexOf mv_X5_indexOf l_X9_48 (by first | assumption | exact S.1 _ _ rfl) mc_X5_indexOf (by decide) ⟨by decide, by decide⟩ (Nat.zero_le _) (Nat.zero_le _) (Nat.le_of_ble_eq_true rfl) (c_X5_indexOf (SRw_j S) hJ2 elt) (am_ki ?_)
      rintro v74 _ _ _ ⟨hv74, rfl, rfl, rfl⟩
      refine r_istore dX9_begin_77 (Nat.le_of_ble_eq_true rfl) ?_
      dsimp only [List.set]
      refine r_iload dX9_begin_79 rfl ?_
      refine r_iconst dX9_begin_81 (v := (-1)) kc_m1 ?_
      refine r_icmp_eq 129 dX9_begin_82 (by decide) (fun h82 => ?_) (fun h82 => ?_)
      · have hno : ∀ r, r < nj σ → sdp σ (σ 7) p j r → rln (σ 7) r = l + 1 → T (j + len) < T (j + (l + 1)) := by
          intro r hr hs hl2
          have e9 := (st_iff V.1 hp (hV.2.1 r hr) hR (show 1 ≤ l + 1 by omega) (show l + 1 ≤ R by omega)).mp ⟨hs, hl2⟩
          exfalso
          rcases hv74 with ⟨i, hi, e, ei⟩ | ⟨e, -⟩
          · rw [ei] at h82
            exact nI_pos (n := i) (by omega) (by rw [h82]; decide)
          · exact e r hr e9
        first | refine r_iincN dX9_begin_129 rfl kc_1 ?_ | refine r_iinc dX9_begin_129 rfl rfl ?_
        dsimp only [List.set]
        refine r_goto 42 dX9_begin_132 (by decide) ?_
        first
          | exact st _ len num _ hF h63 h64 (bgE_no hE hno)
          | exact st _ (l + 1) (nI (16 + r)) _ (bgF_64 (bgF_63 hF)) (by rw [va_up_ne _ _ (by decide), va_up_self]; exact pk_us) (by rw [va_up_self]; exact pk_us) (bgE_up hE hr hs hl2 (by omega))
      · obtain ⟨r, hr, er, rfl⟩ : ∃ r, r < nj σ ∧ eR (σ 7) (5 * r) = e5 (kpN σ p j) (l + 1) ∧ v74 = nI r := by
          rcases hv74 with h | ⟨-, e⟩
          · exact h
          · exact absurd e h82
        obtain ⟨hs, hl2⟩ := (st_iff V.1 hp (hV.2.1 r hr) hR (show 1 ≤ l + 1 by omega) (show l + 1 ≤ R by omega)).mpr er
        refine r_aload_n dX9_begin_85 rfl ?_
        refine r_getP dX9_begin_86 g_X9_20 (by first | assumption | exact S.1 _ _ rfl) rfl (by first | assumption | exact S.2 _ _ _ rfl) ?_
        refine r_iload_n dX9_begin_89 rfl ?_
        refine r_iload dX9_begin_90 rfl ?_
        first | refine r_iaddN dX9_begin_92 ?_ | refine r_iadd dX9_begin_92 ?_
        refine r_iaload (j + (l + 1)) dX9_begin_93 (by first | assumption | exact S.1 _ _ rfl) rfl (by first | decide | omega) (by decide) ?_
        rw [e65, t1]
        refine r_aload_n dX9_begin_94 rfl ?_
        refine r_getP dX9_begin_95 g_X9_20 (by first | assumption | exact S.1 _ _ rfl) rfl (by first | assumption | exact S.2 _ _ _ rfl) ?_
        refine r_iload_n dX9_begin_98 rfl ?_
        refine r_aload_n dX9_begin_99 rfl ?_
        refine r_getP dX9_begin_100 g_X9_11 (by first | assumption | exact S.1 _ _ rfl) rfl (by first | assumption | exact S.2 _ _ _ rfl) ?_
        refine r_iload_n dX9_begin_103 rfl ?_
        refine r_iaload j dX9_begin_104 (by first | assumption | exact S.1 _ _ rfl) rfl (by first | decide | omega) (by decide) ?_
        rw [h63]
        first | refine r_iaddN dX9_begin_105 ?_ | refine r_iadd dX9_begin_105 ?_
        refine r_iaload (j + len) dX9_begin_106 (by first | assumption | exact S.1 _ _ rfl) rfl (by first | decide | omega) (by decide) ?_
        rw [e65, t3]
        refine r_icmp_gtN 129 dX9_begin_107 (by decide) (by omega) (by omega) (fun h107 => ?_) (fun h107 => ?_)
        · have hno : ∀ r, r < nj σ → sdp σ (σ 7) p j r → rln (σ 7) r = l + 1 → T (j + len) < T (j + (l + 1)) := fun _ _ _ _ => h107
          first | refine r_iincN dX9_begin_129 rfl kc_1 ?_ | refine r_iinc dX9_begin_129 rfl rfl ?_
          dsimp only [List.set]
          refine r_goto 42 dX9_begin_132 (by decide) ?_
          first
            | exact st _ len num _ hF h63 h64 (bgE_no hE hno)
            | exact st _ (l + 1) (nI (16 + r)) _ (bgF_64 (bgF_63 hF)) (by rw [va_up_ne _ _ (by decide), va_up_self]; exact pk_us) (by rw [va_up_self]; exact pk_us) (bgE_up hE hr hs hl2 (by omega))
        · refine r_aload_n dX9_begin_110 rfl ?_
          refine r_getP dX9_begin_111 g_X9_11 (by first | assumption | exact S.1 _ _ rfl) rfl (by first | assumption | exact S.2 _ _ _ rfl) ?_
          refine r_iload_n dX9_begin_114 rfl ?_
          refine r_iload dX9_begin_115 rfl ?_
          refine r_iastore j dX9_begin_117 (by first | assumption | exact S.1 _ _ rfl) rfl (by first | decide | omega) (by decide) ?_
          refine r_aload_n dX9_begin_118 rfl ?_
          refine r_getP dX9_begin_119 g_X9_17 (by first | assumption | exact S.1 _ _ rfl) rfl (by first | assumption | exact S.2 _ _ _ rfl) ?_
          refine r_iload_n dX9_begin_122 rfl ?_
          refine r_bipush dX9_begin_123 (v := nI 16) (by decide) ?_
          refine r_iload dX9_begin_125 rfl ?_
          first | refine r_iaddN dX9_begin_127 ?_ | refine r_iadd dX9_begin_127 ?_
          refine r_iastore j dX9_begin_128 (by first | assumption | exact S.1 _ _ rfl) rfl (by first | decide | omega) (by decide) ?_
          first | refine r_iincN dX9_begin_129 rfl kc_1 ?_ | refine r_iinc dX9_begin_129 rfl rfl ?_
          dsimp only [List.set]
          refine r_goto 42 dX9_begin_132 (by decide) ?_
          first
            | exact st _ len num _ hF h63 h64 (bgE_no hE hno)
            | exact st _ (l + 1) (nI (16 + r)) _ (bgF_64 (bgF_63 hF)) (by rw [va_up_ne _ _ (by decide), va_up_self]; exact pk_us) (by rw [va_up_self]; exact pk_us) (bgE_up hE hr hs hl2 (by omega))
theorem c_X9_begin (S : St_c sh P) (V : Inv σ) {p q : Nat} (Q : SPg sh P q) (hq : 100 < q ∧ q + 4 < 117) (hp : p < 3) (hP : Pg I q σ p) (hJ : RwR I 117 (nj σ) (fun j => eR (σ 7) (5 * j))) {T : Nat → Nat} {j : Nat} (hj : j < sz σ p) (hT : ∀ t, j < t → t ≤ sz σ p → I 65 t = nI (T t) ∧ T t < 2147483648) : am_R mX9_begin (bgP sh P I σ p T j) 3 62 0 0 0 [some (.ref 62), some (.ref q), some (.ref 117), some (.int (nI j)), none, none, none, none] [] sh I P := by
  obtain ⟨s0, s1, s2, s3, s4, p1, p2, p3, p4⟩ := id Q
  have hn4 : sz σ p ≤ 40 := (V.1.sz hp).2
  have vk := (V.1.2.2.1 p j hp hj).1
  have ek : I (q + 1) j = nI (kdN σ p j) := ((hP.2.1 j hj).1).trans vk.1
  have hkk : ∀ k, k < sz σ p → I (q + 1) k = nI (kdN σ p k) ∧ kdN σ p k < 16 := fun k hk => ⟨((hP.2.1 k hk).1).trans (V.1.2.2.1 p k hp hk).1.1, Nat.lt_succ_of_le (V.1.2.2.1 p k hp hk).1.2⟩
  have hll : ∀ t, t < 40 → I (q + 4) t = nI (ldN σ p t) ∧ ldN σ p t < 2147483648 := fun t ht => ⟨hP.2.2 t ht, Nat.lt_of_le_of_lt (cnt_le _ _ _ _) (by omega)⟩
  refine r_aload_n dX9_begin_0 rfl ?_
  refine r_getP dX9_begin_1 g_X9_11 (by first | assumption | exact S.1 _ _ rfl) rfl (by first | assumption | exact S.2 _ _ _ rfl) ?_
  refine r_iload_n dX9_begin_4 rfl ?_
  refine r_iconst dX9_begin_5 (v := nI 1) kc_1 ?_
  refine r_iastore j dX9_begin_6 (by first | assumption | exact S.1 _ _ rfl) rfl (by first | decide | omega) (by decide) ?_
  refine r_aload_n dX9_begin_7 rfl ?_
  refine r_getP dX9_begin_8 g_X9_17 (by first | assumption | exact S.1 _ _ rfl) rfl (by first | assumption | exact S.2 _ _ _ rfl) ?_
  refine r_iload_n dX9_begin_11 rfl ?_
  refine r_aload_n dX9_begin_12 rfl ?_
  refine r_getP dX9_begin_13 g_X9_35 (by first | assumption | exact S.1 _ _ rfl) rfl (by first | assumption | exact S.2 _ _ _ rfl) ?_
  refine r_iload_n dX9_begin_16 rfl ?_
  refine r_iaload j dX9_begin_17 (by first | assumption | exact S.1 _ _ rfl) rfl (by first | decide | omega) (by decide) ?_
  rw [va_up_ne _ _ (by omega), ek]
  refine r_iastore j dX9_begin_18 (by first | assumption | exact S.1 _ _ rfl) rfl (by first | decide | omega) (by decide) ?_
  rw [va_up_ne (k := 63) (j := 64) _ _ (by decide)]
  have f1 : ∀ r, r ≠ 63 → r ≠ 64 → (va_up (va_up I 63 (upd (I 63) j (nI 1))) 64 (upd (I 64) j (nI (kdN σ p j)))) r = I r := fun r a b => by rw [va_up_ne _ _ b, va_up_ne _ _ a]
  refine r_aload_n dX9_begin_19 rfl ?_
  refine r_iload_n dX9_begin_20 rfl ?_
  refine r_callV1 (fr' := 2) (lo' := 40) (mc' := 0) (ms' := 0) dX9_begin_21 mm_X3_reach mv_X3_reach l_X9_38 (by first | assumption | exact S.1 _ _ rfl) mc_X3_reach (by decide) ⟨by decide, by decide⟩ (Nat.zero_le _) (Nat.zero_le _) (Nat.le_of_ble_eq_true rfl) (c_X3_reach Q (by rw [f1 q (by omega) (by omega)]; exact hP.1) hn4 (fun k hk => by rw [f1 _ (by omega) (by omega)]; exact hkk k hk) (fun t ht => by rw [f1 _ (by omega) (by omega)]; exact hll t ht) hj) (am_ki ?_)
  rintro v21 _ _ _ ⟨⟨R, rfl, hR⟩, rfl, rfl, rfl⟩
  refine r_istore dX9_begin_24 (Nat.le_of_ble_eq_true rfl) ?_
  dsimp only [List.set]
  refine r_iconst dX9_begin_26 (v := nI 0) kc_0 ?_
  refine r_iconst dX9_begin_27 (v := nI 0) kc_0 ?_
  refine r_aload_n dX9_begin_28 rfl ?_
  refine r_getP dX9_begin_29 g_X9_35 (by first | assumption | exact S.1 _ _ rfl) rfl (by first | assumption | exact S.2 _ _ _ rfl) ?_
  refine r_iload_n dX9_begin_32 rfl ?_
  refine r_iaload j dX9_begin_33 (by first | assumption | exact S.1 _ _ rfl) rfl (by first | decide | omega) (by decide) ?_
  rw [f1 _ (by omega) (by omega), ek]
  refine r_callS3 (fr' := 0) (lo' := 0) (mc' := 0) (ms' := 0) dX9_begin_34 mm_X4_with ms_X4_with l_X9_42 (by decide) ⟨by decide, by decide⟩ (Nat.zero_le _) (Nat.zero_le _) (Nat.le_of_ble_eq_true rfl) (c_X4_with2 (κ := kpN σ p j) (by decide) (fun i hi => by obtain rfl := Nat.le_zero.mp hi; exact vk.2) rfl rfl) (am_ki ?_)
  rintro v34 _ _ _ ⟨rfl, rfl, rfl, rfl⟩
  refine r_istore dX9_begin_37 (Nat.le_of_ble_eq_true rfl) ?_
  dsimp only [List.set]
  refine r_iconst dX9_begin_39 (v := nI 2) kc_2 ?_
  refine r_istore dX9_begin_40 (Nat.le_of_ble_eq_true rfl) ?_
  dsimp only [List.set]
  have h1R := hR.1.1.1
  refine l_X9_begin S V Q hq hp hP hJ hj hT hR (R - 1) 1 (by omega) (Nat.le_refl 1) _ 1 (nI (kdN σ p j)) _ ⟨f1, fun t ht => ⟨?_, ?_⟩⟩ ?_ ?_ ?_
  · rw [va_up_ne _ _ (by decide), va_up_self, pk_un ht]
  · rw [va_up_self, pk_un ht]
  · rw [va_up_ne _ _ (by decide), va_up_self, pk_us]
  · rw [va_up_self, pk_us]
  · unfold wyE
    rw [vk.1]
    exact bgE_0 (fun r hr => (V.2.1.2.1 r hr).1.1)
def wyW (I σ : AIn) (p : Nat) (way : Int32) (j : Nat) (H : AIn) : Prop := (∀ r, r ≠ 63 → r ≠ 64 → r ≠ 65 → H r = I r) ∧ (∀ t, j ≤ t → t ≤ sz σ p → H 65 t = nI (lsp σ (σ 7) (nj σ) p way t)) ∧ ∀ t, j ≤ t → t < sz σ p → ∃ len num, H 63 t = nI len ∧ H 64 t = num ∧ wyE σ p (lsp σ (σ 7) (nj σ) p way) t 4 len num
def meP (sh : ASh) (P : APt) (I σ : AIn) (p : Nat) (way : Int32) : APo := po_i (fun v sh' I' P' => v = nI (lsp σ (σ 7) (nj σ) p way 0) ∧ wyW I σ p way 0 I' ∧ sh = sh' ∧ P = P')
theorem iJ_rO {σ : AIn} (h : iJ σ) : rOk (σ 7) (nj σ) := ⟨h.1.2, fun r hr => ⟨(h.2.1 r hr).1, trivial⟩⟩
theorem l_X9_measure (S : St_c sh P) (V : Inv σ) {p q : Nat} (Q : SPg sh P q) (hq : 100 < q ∧ q + 4 < 117) (hp : p < 3) (hP : Pg I q σ p) (hJ : RwR I 117 (nj σ) (fun j => eR (σ 7) (5 * j))) {b way : Int32} (hw : way = if b = 0 then nI 0 else nI 1) : ∀ (j : Nat), j ≤ sz σ p → ∀ H, wyW I σ p way j H → am_R mX9_measure (meP sh P I σ p way) 4 89 0 0 18 [some (.ref 62), some (.ref q), some (.ref 117), some (.int b), some (.int (nI j - nI 1))] [] sh H P := by
  obtain ⟨s0, s1, s2, s3, s4, p1, p2, p3, p4⟩ := id Q
  have hn4 : sz σ p ≤ 40 := (V.1.sz hp).2
  have hrO := iJ_rO V.2.1
  intro j
  induction j with
  | zero =>
    intro hj H hW
    refine r_iload dX9_measure_18 rfl ?_
    refine r_if_lt 67 dX9_measure_20 (by decide) (fun h20 => ?_) (fun h20 => ?_)
    · refine r_aload_n dX9_measure_67 rfl ?_
      refine r_getP dX9_measure_68 g_X9_20 (by first | assumption | exact S.1 _ _ rfl) rfl (by first | assumption | exact S.2 _ _ _ rfl) ?_
      refine r_iconst dX9_measure_71 (v := nI 0) kc_0 ?_
      refine r_iaload 0 dX9_measure_72 (by first | assumption | exact S.1 _ _ rfl) rfl (by first | decide | omega) (by decide) ?_
      rw [hW.2.1 0 (Nat.le_refl 0) (Nat.zero_le _)]
      refine r_ireturn dX9_measure_73 .int rfl rfl ?_
      exact ⟨_, rfl, rfl, hW, rfl, rfl⟩
    · exact absurd (by decide) h20
  | succ j ih =>
    intro hj H hW
    have hT : ∀ t, j < t → t ≤ sz σ p → H 65 t = nI (lsp σ (σ 7) (nj σ) p way t) ∧ lsp σ (σ 7) (nj σ) p way t < 2147483648 := fun t h1 h2 => ⟨hW.2.1 t h1 h2, by have := lsp_le V.1 hrO hp way h2; omega⟩
    have hP2 : Pg H q σ p := hP.congr (by rw [hW.1 q (by omega) (by omega) (by omega)]) (fun r h1 h2 => hW.1 r (by omega) (by omega) (by omega)) (fun _ _ => ⟨rfl, rfl, rfl⟩)
    have hJ2 : RwR H 117 (nj σ) (fun j => eR (σ 7) (5 * j)) := RwR_fr hJ (by rw [hW.1 117 (by decide) (by decide) (by decide)]) (hW.1 118 (by decide) (by decide) (by decide))
    have h5 := (V.1.2.2.2 (40 * p + j) (by omega))
    rw [pk_sub (by omega), Nat.add_sub_cancel]
    refine r_iload dX9_measure_18 rfl ?_
    refine r_if_lt 67 dX9_measure_20 (by decide) (fun h20 => ?_) (fun h20 => ?_)
    · exact absurd h20 (nI_pos (by omega))
    · refine r_aload_n dX9_measure_23 rfl ?_
      refine r_aload_n dX9_measure_24 rfl ?_
      refine r_aload_n dX9_measure_25 rfl ?_
      refine r_iload dX9_measure_26 rfl ?_
      refine r_callV3 (fr' := 3) (lo' := 62) (mc' := 0) (ms' := 0) dX9_measure_28 mm_X9_begin mv_X9_begin l_X9_27 (by first | assumption | exact S.1 _ _ rfl) mc_X9_begin (by decide) ⟨by decide, by decide⟩ (Nat.zero_le _) (Nat.zero_le _) (Nat.le_of_ble_eq_true rfl) (c_X9_begin S V Q hq hp hP2 hJ2 (show j < sz σ p by omega) hT) (am_kv ?_)
      rintro _ H2 _ ⟨hF, ⟨len, num, h63, h64, hE⟩, rfl, rfl⟩
      have hst := bgE_bst (sd := sdp σ (σ 7) p) hE (fun r hr => (V.2.1.2.1 r hr).ln)
      have hlen := hE.1
      have hjl : j + len ≤ sz σ p := by
        rcases hE.2.2.2 with ⟨e, -⟩ | ⟨r, hr, hs, e, -⟩
        · omega
        · rw [← e]; exact hs.1
      have eL : lsp σ (σ 7) (nj σ) p way j = wt σ p way j + lsp σ (σ 7) (nj σ) p way (j + len) := by
        rw [← hst]
        exact lst_eq (by omega) (fun r hr hs => sdp_in hrO j r (by omega) hr hs)
      have e65 : H2 65 (j + len) = nI (lsp σ (σ 7) (nj σ) p way (j + len)) := by rw [hF.1 65 (by decide) (by decide)]; exact hW.2.1 _ (by omega) hjl
      have ewt : (if b = 0 then nI 1 else H2 (q + 3) j) = nI (wt σ p way j) := by
        unfold wt
        by_cases hb : b = 0
        · rw [if_pos hb, hw, if_pos hb, if_neg (by decide)]
        · rw [if_neg hb, hw, if_neg hb, if_pos rfl, hF.1 (q + 3) (by omega) (by omega), (hP2.2.1 j (by omega)).2.2]
          exact h5.1
      refine r_aload_n dX9_measure_31 rfl ?_
      refine r_getP dX9_measure_32 g_X9_20 (by first | assumption | exact S.1 _ _ rfl) rfl (by first | assumption | exact S.2 _ _ _ rfl) ?_
      refine r_iload dX9_measure_35 rfl ?_
      refine r_aload_n dX9_measure_37 rfl ?_
      refine r_iload dX9_measure_38 rfl ?_
      refine r_iload_n dX9_measure_40 rfl ?_
      refine r_callV2 (fr' := 0) (lo' := 0) (mc' := 0) (ms' := 0) dX9_measure_41 mm_X3_weight mv_X3_weight l_X9_31 (by first | assumption | exact S.1 _ _ rfl) mc_X3_weight (by decide) ⟨by decide, by decide⟩ (Nat.zero_le _) (Nat.zero_le _) (Nat.le_of_ble_eq_true rfl) (c_X3_weight Q (show j < 40 by omega) _) (am_ki ?_)
      rintro v41 _ _ _ ⟨rfl, rfl, rfl, rfl⟩
      rw [ewt]
      refine r_aload_n dX9_measure_44 rfl ?_
      refine r_getP dX9_measure_45 g_X9_20 (by first | assumption | exact S.1 _ _ rfl) rfl (by first | assumption | exact S.2 _ _ _ rfl) ?_
      refine r_iload dX9_measure_48 rfl ?_
      refine r_aload_n dX9_measure_50 rfl ?_
      refine r_getP dX9_measure_51 g_X9_11 (by first | assumption | exact S.1 _ _ rfl) rfl (by first | assumption | exact S.2 _ _ _ rfl) ?_
      refine r_iload dX9_measure_54 rfl ?_
      refine r_iaload j dX9_measure_56 (by first | assumption | exact S.1 _ _ rfl) rfl (by first | decide | omega) (by decide) ?_
      rw [h63]
      first | refine r_iaddN dX9_measure_57 ?_ | refine r_iadd dX9_measure_57 ?_
      refine r_iaload (j + len) dX9_measure_58 (by first | assumption | exact S.1 _ _ rfl) rfl (by first | decide | omega) (by decide) ?_
      rw [e65]
      first | refine r_iaddN dX9_measure_59 ?_ | refine r_iadd dX9_measure_59 ?_
      rw [← eL]
      refine r_iastore j dX9_measure_60 (by first | assumption | exact S.1 _ _ rfl) rfl (by first | decide | omega) (by decide) ?_
      refine r_iinc dX9_measure_61 rfl (v := nI j - nI 1) (by rw [show Int32.ofInt (-1) = -1 from rfl, Int32.sub_eq_add_neg]; rfl) ?_
      dsimp only [List.set]
      refine r_goto 18 dX9_measure_64 (by decide) ?_
      refine ih (by omega) _ ⟨fun r a b c => ?_, fun t h1 h2 => ?_, fun t h1 h2 => ?_⟩
      · rw [va_up_ne _ _ c, hF.1 r a b, hW.1 r a b c]
      · rw [va_up_self]
        by_cases e : t = j
        · rw [e, pk_us]
        · rw [pk_un e, hF.1 65 (by decide) (by decide)]; exact hW.2.1 t (by omega) h2
      · rw [va_up_ne _ _ (by decide), va_up_ne _ _ (by decide)]
        by_cases e : t = j
        · subst e; exact ⟨len, num, h63, h64, hE⟩
        · obtain ⟨a, b⟩ := hF.2 t e
          rw [a, b]
          exact hW.2.2 t (by omega) h2
theorem c_X9_measure (S : St_c sh P) (V : Inv σ) {p q : Nat} (Q : SPg sh P q) (hq : 100 < q ∧ q + 4 < 117) (hp : p < 3) (hP : Pg I q σ p) (hJ : RwR I 117 (nj σ) (fun j => eR (σ 7) (5 * j))) {b way : Int32} (hw : way = if b = 0 then nI 0 else nI 1) : am_R mX9_measure (meP sh P I σ p way) 4 89 0 0 0 [some (.ref 62), some (.ref q), some (.ref 117), some (.int b), none] [] sh I P := by
  obtain ⟨s0, s1, s2, s3, s4, p1, p2, p3, p4⟩ := id Q
  have hn4 : sz σ p ≤ 40 := (V.1.sz hp).2
  have e0 := hP.1
  refine r_aload_n dX9_measure_0 rfl ?_
  refine r_getP dX9_measure_1 g_X9_20 (by first | assumption | exact S.1 _ _ rfl) rfl (by first | assumption | exact S.2 _ _ _ rfl) ?_
  refine r_aload_n dX9_measure_4 rfl ?_
  refine r_getI dX9_measure_5 g_X9_23 (by first | assumption | exact S.1 _ _ rfl) rfl ?_
  rw [e0]
  refine r_iconst dX9_measure_8 (v := nI 0) kc_0 ?_
  refine r_iastore (sz σ p) dX9_measure_9 (by first | assumption | exact S.1 _ _ rfl) rfl (by first | decide | omega) (by decide) ?_
  refine r_aload_n dX9_measure_10 rfl ?_
  refine r_getI dX9_measure_11 g_X9_23 (by first | assumption | exact S.1 _ _ rfl) rfl ?_
  rw [va_up_ne _ _ (by omega), e0]
  refine r_iconst dX9_measure_14 (v := nI 1) kc_1 ?_
  refine r_isub dX9_measure_15 ?_
  refine r_istore dX9_measure_16 (Nat.le_of_ble_eq_true rfl) ?_
  dsimp only [List.set]
  refine l_X9_measure S V Q hq hp hP hJ hw (sz σ p) (Nat.le_refl _) _ ⟨fun r a b c => va_up_ne _ _ c, fun t h1 h2 => ?_, fun t h1 h2 => absurd h2 (by omega)⟩
  have e : t = sz σ p := by omega
  rw [e, va_up_self, pk_us]
  exact congrArg nI lst_end.symm
theorem l_X10_cost (S : St_c sh P) (V : Inv σ) (R : RepS I 100 σ) {b way : Int32} (hw : way = if b = 0 then nI 0 else nI 1) : ∀ (m k : Nat), k + m = np σ → ∀ H, (∀ r, r ≠ 63 → r ≠ 64 → r ≠ 65 → H r = I r) → am_R mX10_cost (cpo sh P I σ (co_res σ way)) 5 113 0 0 4 [some (.ref 60), some (.int b), some (.int (nI (csum (fun p => lsp σ (σ 7) (nj σ) p way 0) k))), some (.int (nI k))] [] sh H P := by
  have b1 : np σ ≤ 3 := V.1.np.2
  have fin : ∀ H, (∀ r, r ≠ 63 → r ≠ 64 → r ≠ 65 → H r = I r) → RepS H 100 σ ∧ cF H I := fun H hF => ⟨⟨rpP_fr R.1 (by rw [hF 100 (by decide) (by decide) (by decide)]) (fun r h1 h2 => hF r (by omega) (by omega) (by omega)) b1, rpJ_fr R.2.1 (fun r h1 h2 => hF r (by omega) (by omega) (by omega)), rpK_fr R.2.2.1 (fun r h1 h2 => hF r (by omega) (by omega) (by omega)), rpR_fr R.2.2.2.1 (fun r h1 h2 => hF r (by omega) (by omega) (by omega)), rpW_fr R.2.2.2.2.1 (by rw [hF 100 (by decide) (by decide) (by decide)]) (fun r h1 h2 => hF r (by omega) (by omega) (by omega)), rpT_fr R.2.2.2.2.2 (by rw [hF 136 (by decide) (by decide) (by decide)]) (hF 137 (by decide) (by decide) (by decide))⟩, fun r hr => hF r (by omega) (by omega) (by omega)⟩
  intro m
  induction m with
  | zero =>
    intro k hk H hF
    have e : k = np σ := by omega
    subst e
    obtain ⟨g1, g2⟩ := fin H hF
    have e1 : H 100 0 = nI (np σ) := g1.1.1
    refine r_iload_n dX10_cost_4 rfl ?_
    refine r_aload_n dX10_cost_5 rfl ?_
    refine r_getP dX10_cost_6 g_X10_10 (by first | assumption | exact S.1 _ _ rfl) rfl (by first | assumption | exact S.2 _ _ _ rfl) ?_
    refine r_getI dX10_cost_9 g_X10_34 (by first | assumption | exact S.1 _ _ rfl) rfl ?_
    rw [e1]
    refine r_icmp_geN 48 dX10_cost_12 (by decide) (by omega) (by omega) (fun h12 => ?_) (fun h12 => ?_)
    · refine r_iload_n dX10_cost_48 rfl ?_
      refine r_ireturn dX10_cost_49 .int rfl rfl ?_
      exact ⟨_, rfl, rfl, g1, g2, rfl, rfl⟩
    · exact absurd h12 (by omega)
  | succ m ih =>
    intro k hk H hF
    obtain ⟨g1, g2⟩ := fin H hF
    have e1 : H 100 0 = nI (np σ) := g1.1.1
    obtain ⟨pp, Q⟩ := SPg_of S (show k < 3 by omega)
    have sp := Q.1
    refine r_iload_n dX10_cost_4 rfl ?_
    refine r_aload_n dX10_cost_5 rfl ?_
    refine r_getP dX10_cost_6 g_X10_10 (by first | assumption | exact S.1 _ _ rfl) rfl (by first | assumption | exact S.2 _ _ _ rfl) ?_
    refine r_getI dX10_cost_9 g_X10_34 (by first | assumption | exact S.1 _ _ rfl) rfl ?_
    rw [e1]
    refine r_icmp_geN 48 dX10_cost_12 (by decide) (by omega) (by omega) (fun h12 => ?_) (fun h12 => ?_)
    · exact absurd h12 (by omega)
    · refine r_iload_n dX10_cost_15 rfl ?_
      refine r_aload_n dX10_cost_16 rfl ?_
      refine r_getP dX10_cost_17 g_X10_23 (by first | assumption | exact S.1 _ _ rfl) rfl (by first | assumption | exact S.2 _ _ _ rfl) ?_
      refine r_aload_n dX10_cost_20 rfl ?_
      refine r_getP dX10_cost_21 g_X10_10 (by first | assumption | exact S.1 _ _ rfl) rfl (by first | assumption | exact S.2 _ _ _ rfl) ?_
      refine r_getP dX10_cost_24 g_X10_38 (by first | assumption | exact S.1 _ _ rfl) rfl (by first | assumption | exact S.2 _ _ _ rfl) ?_
      refine r_iload_n dX10_cost_27 rfl ?_
      refine r_aaloadP k dX10_cost_28 (by first | assumption | exact S.1 _ _ rfl) rfl (by first | decide | omega) (by decide) (by first | assumption | exact S.2 _ _ _ rfl) ?_
      refine r_aload_n dX10_cost_29 rfl ?_
      refine r_getP dX10_cost_30 g_X10_10 (by first | assumption | exact S.1 _ _ rfl) rfl (by first | assumption | exact S.2 _ _ _ rfl) ?_
      refine r_getP dX10_cost_33 g_X10_86 (by first | assumption | exact S.1 _ _ rfl) rfl (by first | assumption | exact S.2 _ _ _ rfl) ?_
      refine r_iload_n dX10_cost_36 rfl ?_
      refine r_callV3 (fr' := 4) (lo' := 89) (mc' := 0) (ms' := 0) dX10_cost_37 mm_X9_measure mv_X9_measure l_X10_103 (by first | assumption | exact S.1 _ _ rfl) mc_X9_measure (by decide) ⟨by decide, by decide⟩ (Nat.zero_le _) (Nat.zero_le _) (Nat.le_of_ble_eq_true rfl) (c_X9_measure S V Q (by omega) (by omega) (g1.1.2 k (by omega)) g1.2.1 hw) (am_ki ?_)
      rintro v37 _ H2 _ ⟨rfl, hW, rfl, rfl⟩
      first | refine r_iaddN dX10_cost_40 ?_ | refine r_iadd dX10_cost_40 ?_
      refine r_istore_n dX10_cost_41 (Nat.le_of_ble_eq_true rfl) ?_
      dsimp only [List.set]
      first | refine r_iincN dX10_cost_42 rfl kc_1 ?_ | refine r_iinc dX10_cost_42 rfl rfl ?_
      dsimp only [List.set]
      refine r_goto 4 dX10_cost_45 (by decide) ?_
      exact ih (k + 1) (by omega) H2 (fun r a b c => by rw [hW.1 r a b c]; exact hF r a b c)
theorem c_X10_cost (S : St_c sh P) (V : Inv σ) (R : RepS I 100 σ) (x : Int32) : am_R mX10_cost (cpo sh P I (σ) (co_res σ (if x = 0 then nI 0 else nI 1))) 5 113 0 0 0 [some (.ref 60), some (.int x), none, none] [] sh I P := by
  have b1 : np σ ≤ 3 := V.1.np.2
  have e1 : I 100 0 = nI (np σ) := R.1.1
  refine r_iconst dX10_cost_0 (v := nI 0) kc_0 ?_
  refine r_istore_n dX10_cost_1 (Nat.le_of_ble_eq_true rfl) ?_
  dsimp only [List.set]
  refine r_iconst dX10_cost_2 (v := nI 0) kc_0 ?_
  refine r_istore_n dX10_cost_3 (Nat.le_of_ble_eq_true rfl) ?_
  dsimp only [List.set]
  exact l_X10_cost S V R rfl (np σ) 0 (Nat.zero_add _) I (fun _ _ _ _ => rfl)
end K11
