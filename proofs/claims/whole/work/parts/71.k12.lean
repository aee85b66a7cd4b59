/-! the class: pack -/
section K12
variable {sh : ASh} {I σ : AIn} {P : APt}
theorem c_X2_write (S : St_c sh P) {nb : Nat} (hn : I 119 6 = nI nb) (hb : nb < 80) (x : Int32) : am_R mX2_write (po_v (fun sh' I' P' => (∀ r, r ≠ 119 → r ≠ 128 → I' r = I r) ∧ I' 128 = upd (I 128) nb (x &&& nI 255) ∧ I' 119 = upd (I 119) 6 (nI (nb + 1)) ∧ sh = sh' ∧ P = P')) 0 0 0 0 0 [some (.ref 119), some (.int x)] [] sh I P := by
  refine r_aload_n dX2_write_0 rfl ?_
  refine r_getP dX2_write_1 g_X2_28 (by first | assumption | exact S.1 _ _ rfl) rfl (by first | assumption | exact S.2 _ _ _ rfl) ?_
  refine r_aload_n dX2_write_4 rfl ?_
  refine r_getI dX2_write_5 g_X2_42 (by first | assumption | exact S.1 _ _ rfl) rfl ?_
  rw [hn]
  refine r_iload_n dX2_write_8 rfl ?_
  refine r_sipush dX2_write_9 (v := nI 255) (by decide) ?_
  refine r_iand dX2_write_12 ?_
  refine r_iastore nb dX2_write_13 (by first | assumption | exact S.1 _ _ rfl) rfl (by first | decide | omega) (by decide) ?_
  refine r_aload_n dX2_write_14 rfl ?_
  refine r_dup dX2_write_15 ?_
  refine r_getI dX2_write_16 g_X2_42 (by first | assumption | exact S.1 _ _ rfl) rfl ?_
  rw [va_up_ne _ _ (by decide), hn]
  refine r_iconst dX2_write_19 (v := nI 1) kc_1 ?_
  first | refine r_iaddN dX2_write_20 ?_ | refine r_iadd dX2_write_20 ?_
  refine r_putI dX2_write_21 f_X2_42 (by first | assumption | exact S.1 _ _ rfl) rfl rfl rfl ?_
  rw [va_up_ne (k := 128) (j := 119) _ _ (by decide)]
  refine r_return dX2_write_24 rfl ?_
  exact ⟨rfl, fun r a b => by rw [va_up_ne _ _ a, va_up_ne _ _ b], by rw [va_up_ne _ _ (by decide), va_up_self], by rw [va_up_self], rfl, rfl⟩
def bcH (I : AIn) (k c nb : Nat) (num : Int32) (len : Int32) (H : AIn) : Prop := (∀ r, r ≠ 119 → r ≠ 125 → r ≠ 126 → r ≠ 127 → r ≠ 128 → H r = I r) ∧ H 125 = upd (I 125) c num ∧ H 126 = upd (I 126) c (nI k) ∧ H 127 = upd (I 127) c len ∧ H 128 = upd (I 128) nb (num &&& nI 255) ∧ H 119 = upd (upd (I 119) 2 (nI (c + 1))) 6 (nI (nb + 1))
theorem c_X2_beginCode (S : St_c sh P) {k c nb : Nat} (hc : I 119 2 = nI c) (hc4 : c < 40) (hn : I 119 6 = nI nb) (hb : nb < 80) (num len : Int32) : am_R mX2_beginCode (po_v (fun sh' I' P' => bcH I k c nb num len I' ∧ sh = sh' ∧ P = P')) 1 21 0 0 0 [some (.ref 119), some (.int (nI k)), some (.int num), some (.int len)] [] sh I P := by
  refine r_aload_n dX2_beginCode_0 rfl ?_
  refine r_getP dX2_beginCode_1 g_X2_18 (by first | assumption | exact S.1 _ _ rfl) rfl (by first | assumption | exact S.2 _ _ _ rfl) ?_
  refine r_aload_n dX2_beginCode_4 rfl ?_
  refine r_getI dX2_beginCode_5 g_X2_38 (by first | assumption | exact S.1 _ _ rfl) rfl ?_
  rw [hc]
  refine r_iload_n dX2_beginCode_8 rfl ?_
  refine r_iastore c dX2_beginCode_9 (by first | assumption | exact S.1 _ _ rfl) rfl (by first | decide | omega) (by decide) ?_
  refine r_aload_n dX2_beginCode_10 rfl ?_
  refine r_getP dX2_beginCode_11 g_X2_22 (by first | assumption | exact S.1 _ _ rfl) rfl (by first | assumption | exact S.2 _ _ _ rfl) ?_
  refine r_aload_n dX2_beginCode_14 rfl ?_
  refine r_getI dX2_beginCode_15 g_X2_38 (by first | assumption | exact S.1 _ _ rfl) rfl ?_
  simp (decide := true) only [va_up_ne, va_up_self]
  rw [hc]
  refine r_iload_n dX2_beginCode_18 rfl ?_
  refine r_iastore c dX2_beginCode_19 (by first | assumption | exact S.1 _ _ rfl) rfl (by first | decide | omega) (by decide) ?_
  refine r_aload_n dX2_beginCode_20 rfl ?_
  refine r_getP dX2_beginCode_21 g_X2_25 (by first | assumption | exact S.1 _ _ rfl) rfl (by first | assumption | exact S.2 _ _ _ rfl) ?_
  refine r_aload_n dX2_beginCode_24 rfl ?_
  refine r_getI dX2_beginCode_25 g_X2_38 (by first | assumption | exact S.1 _ _ rfl) rfl ?_
  simp (decide := true) only [va_up_ne, va_up_self]
  rw [hc]
  refine r_iload_n dX2_beginCode_28 rfl ?_
  refine r_iastore c dX2_beginCode_29 (by first | assumption | exact S.1 _ _ rfl) rfl (by first | decide | omega) (by decide) ?_
  refine r_aload_n dX2_beginCode_30 rfl ?_
  refine r_dup dX2_beginCode_31 ?_
  refine r_getI dX2_beginCode_32 g_X2_38 (by first | assumption | exact S.1 _ _ rfl) rfl ?_
  simp (decide := true) only [va_up_ne, va_up_self]
  rw [hc]
  refine r_iconst dX2_beginCode_35 (v := nI 1) kc_1 ?_
  first | refine r_iaddN dX2_beginCode_36 ?_ | refine r_iadd dX2_beginCode_36 ?_
  refine r_putI dX2_beginCode_37 f_X2_38 (by first | assumption | exact S.1 _ _ rfl) rfl rfl rfl ?_
  simp (decide := true) only [va_up_ne, va_up_self]
  refine r_aload_n dX2_beginCode_40 rfl ?_
  refine r_iload_n dX2_beginCode_41 rfl ?_
  refine r_callV1 (fr' := 0) (lo' := 0) (mc' := 0) (ms' := 0) dX2_beginCode_42 mm_X2_write mv_X2_write l_X2_72 (by first | assumption | exact S.1 _ _ rfl) mc_X2_write (by decide) ⟨by decide, by decide⟩ (Nat.zero_le _) (Nat.zero_le _) (Nat.le_of_ble_eq_true rfl) (c_X2_write S (nb := nb) (by rw [va_up_self, pk_un (by decide)]; exact hn) hb _) (am_kv ?_)
  rintro _ H _ ⟨h1, h2, h3, rfl, rfl⟩
  refine r_return dX2_beginCode_45 rfl ?_
  refine ⟨rfl, ⟨fun r a b c d e => ?_, ?_, ?_, ?_, ?_, ?_⟩, rfl, rfl⟩
  · rw [h1 r a e, va_up_ne _ _ a, va_up_ne _ _ d, va_up_ne _ _ c, va_up_ne _ _ b]
  · rw [h1 125 (by decide) (by decide)]; rfl
  · rw [h1 126 (by decide) (by decide)]; rfl
  · rw [h1 127 (by decide) (by decide)]; rfl
  · rw [h2]; rfl
  · rw [h3]; rfl
def mkB (I σ : AIn) (p : Nat) (H : AIn) : Prop := (∀ r, r < 119 ∨ 129 < r → H r = I r) ∧ H 119 0 = nI 1 ∧ H 120 0 = nI (sz σ p) ∧ (∀ j, j < sz σ p → H 121 j = σ 3 (40 * p + j) ∧ H 122 j = σ 4 (40 * p + j))
def mkR (k : Nat) (s : PKT) (H : AIn) : Prop := (H 119 2 = nI s.1 ∧ H 119 6 = nI s.2.1) ∧ (∀ i, i < s.1 → H 125 i = s.2.2.2.1 (3 * i) ∧ H 126 i = s.2.2.2.1 (3 * i + 1) ∧ H 127 i = s.2.2.2.1 (3 * i + 2)) ∧ (∀ i, i < s.2.1 → H 128 i = s.2.2.2.2 i) ∧ (∀ t, t < k → (H 129 t ≠ -1 ↔ ∃ i, i < s.1 ∧ s.2.2.2.1 (3 * i + 1) = nI t)) ∧ ∀ i, i < s.1 → ∃ t, t < k ∧ s.2.2.2.1 (3 * i + 1) = nI t
theorem mkR_b {H H' : AIn} {k : Nat} {s : PKT} {x : Int32} (h : mkR k s H) (h1 : ∀ r, r ≠ 119 → r ≠ 128 → H' r = H r) (h2 : H' 128 = upd (H 128) s.2.1 (x &&& nI 255)) (h3 : H' 119 = upd (H 119) 6 (nI (s.2.1 + 1))) : mkR k (pkB s x) H' := by
  obtain ⟨⟨a1, a2⟩, b, c, d, e⟩ := h
  refine ⟨⟨?_, ?_⟩, fun i hi => ?_, fun i hi => ?_, fun t ht => ?_, e⟩
  · rw [h3, pk_un (by decide)]; exact a1
  · rw [h3]; exact pk_us
  · rw [h1 125 (by decide) (by decide), h1 126 (by decide) (by decide), h1 127 (by decide) (by decide)]; exact b i hi
  · have hi : i < s.2.1 + 1 := hi
    rw [h2]
    show _ = upd s.2.2.2.2 s.2.1 (x &&& nI 255) i
    by_cases e9 : i = s.2.1
    · rw [e9, pk_us, pk_us]
    · rw [pk_un e9, pk_un e9]; exact c i (by omega)
  · rw [h1 129 (by decide) (by decide)]; exact d t ht
theorem mkR_n {H H' : AIn} {k len : Nat} {s : PKT} {num : Int32} (hk : k < 40) (hs : s.1 ≤ 40) (h : mkR k s H) (hx : H 129 k ≠ -1) (hb : bcH H k s.1 s.2.1 num (nI len) H') : mkR (k + 1) (pkN s k len num) H' := by
  obtain ⟨⟨a1, a2⟩, b, c, d, e⟩ := h
  obtain ⟨b1, b2, b3, b4, b5, b6⟩ := hb
  have old : ∀ i, i < s.1 → ∀ f, f < 3 → upd (upd (upd s.2.2.2.1 (3 * s.1) num) (3 * s.1 + 1) (nI k)) (3 * s.1 + 2) (nI len) (3 * i + f) = s.2.2.2.1 (3 * i + f) := fun i hi f hf => by
    rw [pk_un (by omega), pk_un (by omega), pk_un (by omega)]
  have new : upd (upd (upd s.2.2.2.1 (3 * s.1) num) (3 * s.1 + 1) (nI k)) (3 * s.1 + 2) (nI len) (3 * s.1 + 1) = nI k := by rw [pk_un (by omega)]; exact pk_us
  refine ⟨⟨?_, ?_⟩, fun i hi => ?_, fun i hi => ?_, fun t ht => ?_, fun i hi => ?_⟩
  · rw [b6, pk_un (by decide)]; exact pk_us
  · rw [b6]; exact pk_us
  · have hi : i < s.1 + 1 := hi
    rw [b2, b3, b4]
    show _ = upd (upd (upd s.2.2.2.1 (3 * s.1) num) (3 * s.1 + 1) (nI k)) (3 * s.1 + 2) (nI len) (3 * i) ∧ _ = upd (upd (upd s.2.2.2.1 (3 * s.1) num) (3 * s.1 + 1) (nI k)) (3 * s.1 + 2) (nI len) (3 * i + 1) ∧ _ = upd (upd (upd s.2.2.2.1 (3 * s.1) num) (3 * s.1 + 1) (nI k)) (3 * s.1 + 2) (nI len) (3 * i + 2)
    by_cases e9 : i = s.1
    · rw [e9, pk_us, pk_us, pk_us, pk_us, new]
      refine ⟨?_, rfl, rfl⟩
      rw [pk_un (by omega), pk_un (by omega), pk_us]
    · rw [pk_un e9, pk_un e9, pk_un e9, old i (by omega) 1 (by decide), old i (by omega) 2 (by decide), show 3 * i = 3 * i + 0 from rfl, old i (by omega) 0 (by decide)]
      exact b i (by omega)
  · have hi : i < s.2.1 + 1 := hi
    rw [b5]
    show _ = upd s.2.2.2.2 s.2.1 (num &&& nI 255) i
    by_cases e9 : i = s.2.1
    · rw [e9, pk_us, pk_us]
    · rw [pk_un e9, pk_un e9]; exact c i (by omega)
  · rw [b1 129 (by decide) (by decide) (by decide) (by decide) (by decide)]
    show _ ↔ ∃ i, i < s.1 + 1 ∧ upd (upd (upd s.2.2.2.1 (3 * s.1) num) (3 * s.1 + 1) (nI k)) (3 * s.1 + 2) (nI len) (3 * i + 1) = nI t
    by_cases e9 : t = k
    · subst e9
      exact ⟨fun _ => ⟨s.1, Nat.lt_succ_self _, new⟩, fun _ => hx⟩
    · rw [d t (by omega)]
      constructor
      · rintro ⟨i, hi, g⟩
        exact ⟨i, by omega, by rw [old i hi 1 (by decide)]; exact g⟩
      · rintro ⟨i, hi, g⟩
        by_cases e8 : i = s.1
        · rw [e8, new] at g
          exact absurd ((nI_eq (by omega) (by omega)).mp g).symm e9
        · rw [old i (by omega) 1 (by decide)] at g
          exact ⟨i, by omega, g⟩
  · have hi : i < s.1 + 1 := hi
    show ∃ t, t < k + 1 ∧ upd (upd (upd s.2.2.2.1 (3 * s.1) num) (3 * s.1 + 1) (nI k)) (3 * s.1 + 2) (nI len) (3 * i + 1) = nI t
    by_cases e8 : i = s.1
    · rw [e8]; exact ⟨k, Nat.lt_succ_self k, new⟩
    · obtain ⟨t, ht, g⟩ := e i (by omega)
      exact ⟨t, by omega, by rw [old i (by omega) 1 (by decide)]; exact g⟩
theorem mkR_o {H H' : AIn} {k : Nat} {s : PKT} (hk : k < 40) (h : mkR k s H) (h1 : ∀ r, r ≠ 129 → H' r = H r) (h2 : H' 129 = upd (H 129) k (-1)) : mkR (k + 1) s H' := by
  obtain ⟨⟨a1, a2⟩, b, c, d, e⟩ := h
  refine ⟨⟨?_, ?_⟩, fun i hi => ?_, fun i hi => ?_, fun t ht => ?_, fun i hi => ?_⟩
  · rw [h1 119 (by decide)]; exact a1
  · rw [h1 119 (by decide)]; exact a2
  · rw [h1 125 (by decide), h1 126 (by decide), h1 127 (by decide)]; exact b i hi
  · rw [h1 128 (by decide)]; exact c i hi
  · rw [h2]
    by_cases e9 : t = k
    · subst e9
      rw [pk_us]
      refine ⟨fun g => absurd rfl g, ?_⟩
      rintro ⟨i, hi, g⟩
      obtain ⟨u, hu, g2⟩ := e i hi
      rw [g] at g2
      have := (nI_eq (by omega) (by omega)).mp g2
      omega
    · rw [pk_un e9]; exact d t (by omega)
  · obtain ⟨t, ht, g⟩ := e i hi
    exact ⟨t, by omega, g⟩
theorem mkR_c {H H' : AIn} {k : Nat} {s : PKT} {x : Int32} (h : mkR k s H) (h1 : ∀ r, r ≠ 129 → H' r = H r) (h2 : H' 129 = upd (H 129) k x) : mkR k s H' := by
  obtain ⟨⟨a1, a2⟩, b, c, d, e⟩ := h
  refine ⟨⟨?_, ?_⟩, fun i hi => ?_, fun i hi => ?_, fun t ht => ?_, e⟩
  · rw [h1 119 (by decide)]; exact a1
  · rw [h1 119 (by decide)]; exact a2
  · rw [h1 125 (by decide), h1 126 (by decide), h1 127 (by decide)]; exact b i hi
  · rw [h1 128 (by decide)]; exact c i hi
  · rw [h2, pk_un (by omega)]; exact d t ht
def mkP (sh : ASh) (P : APt) (I σ : AIn) (p : Nat) : APo := po_v (fun sh' I' P' => mkB I σ p I' ∧ mkR (sz σ p) (pks σ p (sz σ p)) I' ∧ sh = sh' ∧ P = P')
theorem pks_n {σ : AIn} (V : iJ σ) {p : Nat} : ∀ k, k ≤ sz σ p → (pks σ p k).2.2.1 ≤ sz σ p
  | 0, _ => Nat.zero_le _
  | k + 1, h => by
    have ih := pks_n V (p := p) k (by omega)
    show (pkA _ _ (pkM _ (pks σ p k) k) k).2.2.1 ≤ _
    rw [(pkA_b _ _ _ _).2.2.1]
    unfold pkM
    split
    · show k + (pkc σ p k).1 ≤ _
      exact (pkC_b (show k < sz σ p by omega) (fun r hr hs => hs.1)).2
    · exact ih
theorem l_X2_make (S : St_c sh P) (V : Inv σ) {p q : Nat} (hp : p < 3) (hW : ∀ t, t < sz σ p → I 63 t = nI (pkc σ p t).1 ∧ I 64 t = (pkc σ p t).2) : ∀ (m k : Nat), k + m = sz σ p → ∀ H, mkB I σ p H → mkR k (pks σ p k) H → am_R mX2_make (mkP sh P I σ p) 2 51 0 0 28 [some (.ref 119), some (.ref q), some (.ref 62), some (.int (nI (pks σ p k).2.2.1)), some (.int (nI k))] [] sh H P := by
  have hn4 : sz σ p ≤ 40 := (V.1.sz hp).2
  intro m
  induction m with
  | zero =>
    intro k hk H hB hR
    have e : k = sz σ p := by omega
    subst e
    refine r_iload dX2_make_28 rfl ?_
    refine r_aload_n dX2_make_30 rfl ?_
    refine r_getP dX2_make_31 g_X2_12 (by first | assumption | exact S.1 _ _ rfl) rfl (by first | assumption | exact S.2 _ _ _ rfl) ?_
    refine r_getI dX2_make_34 g_X2_49 (by first | assumption | exact S.1 _ _ rfl) rfl ?_
    rw [hB.2.2.1]
    refine r_icmp_geN 133 dX2_make_37 (by decide) (by omega) (by omega) (fun h37 => ?_) (fun h37 => ?_)
    · refine r_return dX2_make_133 rfl ?_
      exact ⟨rfl, hB, hR, rfl, rfl⟩
    · exact absurd h37 (by omega)
  | succ m ih =>
    intro k hk H hB hR
    have hb := pkS_b (pkc σ p) (fun j => σ 3 (40 * p + j)) (fun j => σ 4 (40 * p + j)) (σ 12) (σ 14) k
    have hb1 : (pks σ p k).1 ≤ k := hb.1
    have hb2 : (pks σ p k).2.1 ≤ 2 * k := hb.2
    have hnx := pks_n V.2.1 (p := p) k (by omega)
    obtain ⟨w1, w2⟩ := hW k (by omega)
    have vk := (V.1.2.2.1 p k hp (by omega)).1
    have hcb := (pkC_b (T := pkT σ p) (sd := sdp σ (σ 7) p) (ln := rln (σ 7)) (k0 := σ 3 (40 * p + k)) (m := nj σ) (show k < sz σ p by omega) (fun r hr hs => hs.1)).2
    have hcb : k + (pkc σ p k).1 ≤ sz σ p := hcb
    have hmb := pkM_b (pkc σ p) (pks σ p k) k
    have st : ∀ s1 H1, s1 = pkM (pkc σ p) (pks σ p k) k → mkB I σ p H1 → mkR (k + 1) s1 H1 → am_R mX2_make (mkP sh P I σ p) 2 51 0 0 97 [some (.ref 119), some (.ref q), some (.ref 62), some (.int (nI s1.2.2.1)), some (.int (nI k))] [] sh H1 P := by
      intro s1 H1 es hB1 hR1
      have ek : H1 121 k = nI (nv (σ 3 (40 * p + k))) := by rw [(hB1.2.2.2 k (by omega)).1]; exact vk.1
      have ea : H1 122 k = σ 4 (40 * p + k) := (hB1.2.2.2 k (by omega)).2
      have hs1 : s1.1 ≤ k + 1 ∧ s1.2.1 ≤ 2 * k + 1 := by rw [es]; omega
      have estp : pks σ p (k + 1) = pkA (fun j => σ 3 (40 * p + j)) (fun j => σ 4 (40 * p + j)) s1 k := by rw [es]; rfl
      have ih1 := fun H2 => ih (k + 1) (by omega) H2
      rw [estp] at ih1
      refine r_aload_n dX2_make_97 rfl ?_
      refine r_getP dX2_make_98 g_X2_12 (by first | assumption | exact S.1 _ _ rfl) rfl (by first | assumption | exact S.2 _ _ _ rfl) ?_
      refine r_getP dX2_make_101 g_X2_60 (by first | assumption | exact S.1 _ _ rfl) rfl (by first | assumption | exact S.2 _ _ _ rfl) ?_
      refine r_iload dX2_make_104 rfl ?_
      refine r_iaload k dX2_make_106 (by first | assumption | exact S.1 _ _ rfl) rfl (by first | decide | omega) (by decide) ?_
      rw [ek]
      refine r_callS1 (fr' := 0) (lo' := 0) (mc' := 0) (ms' := 0) dX2_make_107 mm_X1_hasArgument ms_X1_hasArgument l_X2_63 (by decide) ⟨by decide, by decide⟩ (Nat.zero_le _) (Nat.zero_le _) (Nat.le_of_ble_eq_true rfl) (c_X1_hasArgument (show nv (σ 3 (40 * p + k)) < 16 by have := vk.2; omega)) (am_ki ?_)
      rintro v107 _ _ _ ⟨hb107, rfl, rfl, rfl⟩
      refine r_if_eq 127 dX2_make_110 (by decide) (fun h110 => ?_) (fun h110 => ?_)
      · replace h110 := hb107.f h110
        have e9 : pkA (fun j => σ 3 (40 * p + j)) (fun j => σ 4 (40 * p + j)) s1 k = s1 := cif_f h110
        rw [e9] at ih1
        first | refine r_iincN dX2_make_127 rfl kc_1 ?_ | refine r_iinc dX2_make_127 rfl rfl ?_
        dsimp only [List.set]
        refine r_goto 28 dX2_make_130 (by decide) ?_
        first
          | exact ih1 _ hB1 hR1
          | exact ih1 _ ⟨fun r hr => by rw [h1 r (by omega) (by omega)]; exact hB1.1 r hr, by rw [h3, pk_un (by decide)]; exact hB1.2.1, by rw [h1 120 (by decide) (by decide)]; exact hB1.2.2.1, fun j hj => by rw [h1 121 (by decide) (by decide), h1 122 (by decide) (by decide)]; exact hB1.2.2.2 j hj⟩ (mkR_b hR1 h1 h2 h3)
      · replace h110 := hb107.t h110
        have e9 : pkA (fun j => σ 3 (40 * p + j)) (fun j => σ 4 (40 * p + j)) s1 k = pkB s1 (σ 4 (40 * p + k)) := cif_t h110
        rw [e9] at ih1
        refine r_aload_n dX2_make_113 rfl ?_
        refine r_aload_n dX2_make_114 rfl ?_
        refine r_getP dX2_make_115 g_X2_12 (by first | assumption | exact S.1 _ _ rfl) rfl (by first | assumption | exact S.2 _ _ _ rfl) ?_
        refine r_getP dX2_make_118 g_X2_69 (by first | assumption | exact S.1 _ _ rfl) rfl (by first | assumption | exact S.2 _ _ _ rfl) ?_
        refine r_iload dX2_make_121 rfl ?_
        refine r_iaload k dX2_make_123 (by first | assumption | exact S.1 _ _ rfl) rfl (by first | decide | omega) (by decide) ?_
        rw [ea]
        refine r_callV1 (fr' := 0) (lo' := 0) (mc' := 0) (ms' := 0) dX2_make_124 mm_X2_write mv_X2_write l_X2_72 (by first | assumption | exact S.1 _ _ rfl) mc_X2_write (by decide) ⟨by decide, by decide⟩ (Nat.zero_le _) (Nat.zero_le _) (Nat.le_of_ble_eq_true rfl) (c_X2_write S hR1.1.2 (by omega) _) (am_kv ?_)
        rintro _ H2 _ ⟨h1, h2, h3, rfl, rfl⟩
        first | refine r_iincN dX2_make_127 rfl kc_1 ?_ | refine r_iinc dX2_make_127 rfl rfl ?_
        dsimp only [List.set]
        refine r_goto 28 dX2_make_130 (by decide) ?_
        first
          | exact ih1 _ hB1 hR1
          | exact ih1 _ ⟨fun r hr => by rw [h1 r (by omega) (by omega)]; exact hB1.1 r hr, by rw [h3, pk_un (by decide)]; exact hB1.2.1, by rw [h1 120 (by decide) (by decide)]; exact hB1.2.2.1, fun j hj => by rw [h1 121 (by decide) (by decide), h1 122 (by decide) (by decide)]; exact hB1.2.2.2 j hj⟩ (mkR_b hR1 h1 h2 h3)
    by_cases hc : (pks σ p k).2.2.1 = k
    · have es : pkM (pkc σ p) (pks σ p k) k = pkN (pks σ p k) k (pkc σ p k).1 (pkc σ p k).2 := if_pos hc
      rw [hc]
      refine r_iload dX2_make_28 rfl ?_
      refine r_aload_n dX2_make_30 rfl ?_
      refine r_getP dX2_make_31 g_X2_12 (by first | assumption | exact S.1 _ _ rfl) rfl (by first | assumption | exact S.2 _ _ _ rfl) ?_
      refine r_getI dX2_make_34 g_X2_49 (by first | assumption | exact S.1 _ _ rfl) rfl ?_
      rw [hB.2.2.1]
      refine r_icmp_geN 133 dX2_make_37 (by decide) (by omega) (by omega) (fun h37 => ?_) (fun h37 => ?_)
      · exact absurd h37 (by omega)
      · refine r_aload_n dX2_make_40 rfl ?_
        refine r_getP dX2_make_41 g_X2_31 (by first | assumption | exact S.1 _ _ rfl) rfl (by first | assumption | exact S.2 _ _ _ rfl) ?_
        refine r_iload dX2_make_44 rfl ?_
        refine r_iload dX2_make_46 rfl ?_
        refine r_iload_n dX2_make_48 rfl ?_
        refine r_icmp_neN 59 dX2_make_49 (by decide) (by omega) (by omega) (fun h49 => ?_) (fun h49 => ?_)
        · exact absurd rfl h49
        · refine r_aload_n dX2_make_52 rfl ?_
          refine r_getI dX2_make_53 g_X2_38 (by first | assumption | exact S.1 _ _ rfl) rfl ?_
          rw [hR.1.1]
          refine r_goto 60 dX2_make_56 (by decide) ?_
          refine r_iastore k dX2_make_60 (by first | assumption | exact S.1 _ _ rfl) rfl (by first | decide | omega) (by decide) ?_
          have f1 : ∀ r, r ≠ 129 → (va_up H 129 (upd (H 129) k (nI (pks σ p k).1))) r = H r := fun r hr => va_up_ne _ _ hr
          have hR1 : mkR k (pks σ p k) (va_up H 129 (upd (H 129) k (nI (pks σ p k).1))) := mkR_c hR f1 (va_up_self _ _ _)
          refine r_iload dX2_make_61 rfl ?_
          refine r_iload_n dX2_make_63 rfl ?_
          refine r_icmp_neN 97 dX2_make_64 (by decide) (by omega) (by omega) (fun h64 => ?_) (fun h64 => ?_)
          · exact absurd rfl h64
          · refine r_aload_n dX2_make_67 rfl ?_
            refine r_iload dX2_make_68 rfl ?_
            refine r_aload_n dX2_make_70 rfl ?_
            refine r_getP dX2_make_71 g_X2_52 (by first | assumption | exact S.1 _ _ rfl) rfl (by first | assumption | exact S.2 _ _ _ rfl) ?_
            refine r_iload dX2_make_74 rfl ?_
            refine r_iaload k dX2_make_76 (by first | assumption | exact S.1 _ _ rfl) rfl (by first | decide | omega) (by decide) ?_
            rw [f1 64 (by decide), hB.1 64 (by omega), w2]
            refine r_aload_n dX2_make_77 rfl ?_
            refine r_getP dX2_make_78 g_X2_55 (by first | assumption | exact S.1 _ _ rfl) rfl (by first | assumption | exact S.2 _ _ _ rfl) ?_
            refine r_iload dX2_make_81 rfl ?_
            refine r_iaload k dX2_make_83 (by first | assumption | exact S.1 _ _ rfl) rfl (by first | decide | omega) (by decide) ?_
            rw [f1 63 (by decide), hB.1 63 (by omega), w1]
            refine r_callV3 (fr' := 1) (lo' := 21) (mc' := 0) (ms' := 0) dX2_make_84 mm_X2_beginCode mv_X2_beginCode l_X2_56 (by first | assumption | exact S.1 _ _ rfl) mc_X2_beginCode (by decide) ⟨by decide, by decide⟩ (Nat.zero_le _) (Nat.zero_le _) (Nat.le_of_ble_eq_true rfl) (c_X2_beginCode S hR1.1.1 (by omega) hR1.1.2 (by omega) _ _) (am_kv ?_)
            rintro _ H2 _ ⟨hb9, rfl, rfl⟩
            refine r_iload_n dX2_make_87 rfl ?_
            refine r_aload_n dX2_make_88 rfl ?_
            refine r_getP dX2_make_89 g_X2_55 (by first | assumption | exact S.1 _ _ rfl) rfl (by first | assumption | exact S.2 _ _ _ rfl) ?_
            refine r_iload dX2_make_92 rfl ?_
            refine r_iaload k dX2_make_94 (by first | assumption | exact S.1 _ _ rfl) rfl (by first | decide | omega) (by decide) ?_
            rw [hb9.1 63 (by decide) (by decide) (by decide) (by decide) (by decide), f1 63 (by decide), hB.1 63 (by omega), w1]
            first | refine r_iaddN dX2_make_95 ?_ | refine r_iadd dX2_make_95 ?_
            refine r_istore_n dX2_make_96 (Nat.le_of_ble_eq_true rfl) ?_
            dsimp only [List.set]
            refine st (pkN (pks σ p k) k (pkc σ p k).1 (pkc σ p k).2) H2 es.symm ⟨fun r hr => ?_, ?_, ?_, fun j hj => ?_⟩ (mkR_n (by omega) (by omega) hR1 ?_ hb9)
            · rw [hb9.1 r (by omega) (by omega) (by omega) (by omega) (by omega), f1 r (by omega)]; exact hB.1 r hr
            · rw [hb9.2.2.2.2.2, pk_un (by decide), pk_un (by decide), f1 119 (by decide)]; exact hB.2.1
            · rw [hb9.1 120 (by decide) (by decide) (by decide) (by decide) (by decide), f1 120 (by decide)]; exact hB.2.2.1
            · rw [hb9.1 121 (by decide) (by decide) (by decide) (by decide) (by decide), hb9.1 122 (by decide) (by decide) (by decide) (by decide) (by decide), f1 121 (by decide), f1 122 (by decide)]; exact hB.2.2.2 j hj
            · rw [va_up_self, pk_us]
              exact fun e => nI_pos (n := (pks σ p k).1) (by omega) (by rw [e]; decide)
    · have es : pkM (pkc σ p) (pks σ p k) k = pks σ p k := if_neg hc
      refine r_iload dX2_make_28 rfl ?_
      refine r_aload_n dX2_make_30 rfl ?_
      refine r_getP dX2_make_31 g_X2_12 (by first | assumption | exact S.1 _ _ rfl) rfl (by first | assumption | exact S.2 _ _ _ rfl) ?_
      refine r_getI dX2_make_34 g_X2_49 (by first | assumption | exact S.1 _ _ rfl) rfl ?_
      rw [hB.2.2.1]
      refine r_icmp_geN 133 dX2_make_37 (by decide) (by omega) (by omega) (fun h37 => ?_) (fun h37 => ?_)
      · exact absurd h37 (by omega)
      · refine r_aload_n dX2_make_40 rfl ?_
        refine r_getP dX2_make_41 g_X2_31 (by first | assumption | exact S.1 _ _ rfl) rfl (by first | assumption | exact S.2 _ _ _ rfl) ?_
        refine r_iload dX2_make_44 rfl ?_
        refine r_iload dX2_make_46 rfl ?_
        refine r_iload_n dX2_make_48 rfl ?_
        refine r_icmp_neN 59 dX2_make_49 (by decide) (by omega) (by omega) (fun h49 => ?_) (fun h49 => ?_)
        · refine r_iconst dX2_make_59 (v := (-1)) kc_m1 ?_
          refine r_iastore k dX2_make_60 (by first | assumption | exact S.1 _ _ rfl) rfl (by first | decide | omega) (by decide) ?_
          have f1 : ∀ r, r ≠ 129 → (va_up H 129 (upd (H 129) k (-1))) r = H r := fun r hr => va_up_ne _ _ hr
          refine r_iload dX2_make_61 rfl ?_
          refine r_iload_n dX2_make_63 rfl ?_
          refine r_icmp_neN 97 dX2_make_64 (by decide) (by omega) (by omega) (fun h64 => ?_) (fun h64 => ?_)
          · refine st (pks σ p k) _ es.symm ⟨fun r hr => ?_, ?_, ?_, fun j hj => ?_⟩ (mkR_o (by omega) hR f1 (va_up_self _ _ _))
            · rw [f1 r (by omega)]; exact hB.1 r hr
            · rw [f1 119 (by decide)]; exact hB.2.1
            · rw [f1 120 (by decide)]; exact hB.2.2.1
            · rw [f1 121 (by decide), f1 122 (by decide)]; exact hB.2.2.2 j hj
          · exact absurd h64.symm hc
        · exact absurd h49.symm hc
theorem c_X2_make (S : St_c sh P) (V : Inv σ) {p q : Nat} (Q : SPg sh P q) (hq : 100 < q ∧ q + 4 < 117) (hp : p < 3) (hP : Pg I q σ p) (hW : ∀ t, t < sz σ p → I 63 t = nI (pkc σ p t).1 ∧ I 64 t = (pkc σ p t).2) : am_R mX2_make (mkP sh P I σ p) 2 51 0 0 0 [some (.ref 119), some (.ref q), some (.ref 62), none, none] [] sh I P := by
  have hn4 : sz σ p ≤ 40 := (V.1.sz hp).2
  have sq := Q.1
  refine r_aload_n dX2_make_0 rfl ?_
  refine r_iconst dX2_make_1 (v := nI 1) kc_1 ?_
  refine r_putI dX2_make_2 f_X2_34 (by first | assumption | exact S.1 _ _ rfl) rfl rfl rfl ?_
  refine r_aload_n dX2_make_5 rfl ?_
  refine r_getP dX2_make_6 g_X2_12 (by first | assumption | exact S.1 _ _ rfl) rfl (by first | assumption | exact S.2 _ _ _ rfl) ?_
  refine r_aload_n dX2_make_9 rfl ?_
  refine r_callV1 (fr' := 1) (lo' := 30) (mc' := 0) (ms' := 0) dX2_make_10 mm_X3_copyFrom mv_X3_copyFrom l_X2_45 (by first | assumption | exact S.1 _ _ rfl) mc_X3_copyFrom (by decide) ⟨by decide, by decide⟩ (Nat.zero_le _) (Nat.zero_le _) (Nat.le_of_ble_eq_true rfl) (c_X3_copyFrom (SPg_k S) Q (by omega)) (am_kv ?_)
  rintro _ H _ ⟨hc, rfl, rfl⟩
  refine r_aload_n dX2_make_13 rfl ?_
  refine r_iconst dX2_make_14 (v := nI 0) kc_0 ?_
  refine r_putI dX2_make_15 f_X2_38 (by first | assumption | exact S.1 _ _ rfl) rfl rfl rfl ?_
  refine r_aload_n dX2_make_18 rfl ?_
  refine r_iconst dX2_make_19 (v := nI 0) kc_0 ?_
  refine r_putI dX2_make_20 f_X2_42 (by first | assumption | exact S.1 _ _ rfl) rfl rfl rfl ?_
  rw [va_up_self, bx_uu]
  refine r_iconst dX2_make_23 (v := nI 0) kc_0 ?_
  refine r_istore_n dX2_make_24 (Nat.le_of_ble_eq_true rfl) ?_
  dsimp only [List.set]
  refine r_iconst dX2_make_25 (v := nI 0) kc_0 ?_
  refine r_istore dX2_make_26 (Nat.le_of_ble_eq_true rfl) ?_
  dsimp only [List.set]
  have f1 : ∀ r, r ≠ 119 → r < 120 ∨ 124 < r → H r = I r := fun r a b => by rw [hc.1 r (by omega) (by omega) (by omega) (by omega) (by omega), va_up_ne _ _ a]
  have e19 : H 119 = upd (I 119) 0 (nI 1) := by rw [hc.1 119 (by decide) (by decide) (by decide) (by decide) (by decide), va_up_self]
  refine l_X2_make S V hp hW (sz σ p) 0 (Nat.zero_add _) _ ⟨fun r hr => ?_, ?_, ?_, fun j hj => ?_⟩ ⟨⟨?_, ?_⟩, fun i hi => absurd hi (Nat.not_lt_zero i), fun i hi => absurd hi (Nat.not_lt_zero i), fun t ht => absurd ht (Nat.not_lt_zero t), fun i hi => absurd hi (Nat.not_lt_zero i)⟩
  · rw [va_up_ne _ _ (by omega), f1 r (by omega) (by omega)]
  · rw [va_up_self, pk_un (by decide), pk_un (by decide), e19]; exact pk_us
  · rw [va_up_ne _ _ (by decide), hc.2.1, va_up_ne _ _ (by omega)]; exact hP.1
  · obtain ⟨c1, c2, c3, c4⟩ := hc.2.2 j (by omega)
    obtain ⟨r1, r2, r3⟩ := hP.2.1 j hj
    rw [va_up_ne _ _ (by decide), va_up_ne _ _ (by decide), c1, c2, va_up_ne _ _ (by omega), va_up_ne _ _ (by omega), r1, r2]
    exact ⟨rfl, rfl⟩
  · rw [va_up_self, pk_un (by decide)]; exact pk_us
  · rw [va_up_self]; exact pk_us
theorem pa_fin2 {H J : AIn} (V : Inv σ) (R : RepS I 100 σ) {p : Nat} (hp : p < np σ) (hB : mkB J σ p H) (hR : mkR (sz σ p) (pks σ p (sz σ p)) H) (hF : ∀ r, r ≠ 63 → r ≠ 64 → r ≠ 65 → r < 119 ∨ 129 < r → H r = I r) : RepS H 100 (pa_op σ (nI p)) ∧ pa_res σ (nI p) = nI (pks σ p (sz σ p)).1 := by
  have b1 := V.1.np.2
  have hn4 : sz σ p ≤ 40 := (V.1.sz (by omega)).2
  have enp : nv (nI p) = p := nv_nI (by omega)
  have hb := pkS_b (pkc σ p) (fun j => σ 3 (40 * p + j)) (fun j => σ 4 (40 * p + j)) (σ 12) (σ 14) (sz σ p)
  have hb1 : (pks σ p (sz σ p)).1 ≤ sz σ p := hb.1
  have hb2 : (pks σ p (sz σ p)).2.1 ≤ 2 * sz σ p := hb.2
  unfold pa_op pa_res
  rw [enp, cif_t (inR_nI hp), cif_t (inR_nI hp)]
  refine ⟨⟨rpP_σ (rpP_fr R.1 (by rw [hF 100 (by omega) (by omega) (by omega) (by omega)]) (fun r h1 h2 => hF r (by omega) (by omega) (by omega) (by omega)) b1) rfl rfl rfl rfl rfl, rpJ_σ (rpJ_fr R.2.1 (fun r h1 h2 => hF r (by omega) (by omega) (by omega) (by omega))) rfl rfl, ?_, rpR_σ (rpR_fr R.2.2.2.1 (fun r h1 h2 => hF r (by omega) (by omega) (by omega) (by omega))) rfl rfl rfl rfl rfl rfl rfl rfl rfl, rpW_σ (rpW_fr R.2.2.2.2.1 (by rw [hF 100 (by omega) (by omega) (by omega) (by omega)]) (fun r h1 h2 => hF r (by omega) (by omega) (by omega) (by omega))) rfl rfl, rpT_σ (rpT_fr R.2.2.2.2.2 (by rw [hF 136 (by omega) (by omega) (by omega) (by omega)]) (hF 137 (by omega) (by omega) (by omega) (by omega))) rfl rfl⟩, rfl⟩
  have e11 : pk1 (pk0 σ p (sz σ p)) (pks σ p (sz σ p)) 11 0 = nI (pks σ p (sz σ p)).1 := rfl
  have e8 : pk1 (pk0 σ p (sz σ p)) (pks σ p (sz σ p)) 8 0 = nI (sz σ p) := rfl
  have e13 : pk1 (pk0 σ p (sz σ p)) (pks σ p (sz σ p)) 13 0 = nI (pks σ p (sz σ p)).2.1 := rfl
  have e12 : pk1 (pk0 σ p (sz σ p)) (pks σ p (sz σ p)) 12 = (pks σ p (sz σ p)).2.2.2.1 := rfl
  have e14 : pk1 (pk0 σ p (sz σ p)) (pks σ p (sz σ p)) 14 = (pks σ p (sz σ p)).2.2.2.2 := rfl
  have hne : nI (pks σ p (sz σ p)).1 ≠ -1 := fun e => nI_pos (n := (pks σ p (sz σ p)).1) (by omega) (by rw [e]; decide)
  unfold rpK
  rw [e11, e8, e13, e12, e14, nv_nI (show (pks σ p (sz σ p)).1 < 2147483648 by omega), nv_nI (show (pks σ p (sz σ p)).2.1 < 2147483648 by omega), nv_nI (show sz σ p < 2147483648 by omega)]
  refine ⟨?_, fun _ => ⟨⟨hR.1.1, hR.1.2, hB.2.2.1⟩, fun k hk => ?_, hR.2.1, hR.2.2.1, hR.2.2.2.1⟩⟩
  · show bo (H 119 0) _
    rw [hB.2.1]
    exact bo_1 hne
  · have := hB.2.2.2 k hk
    show H 121 k = (if k < sz σ p then σ 3 (40 * p + k) else σ 9 k) ∧ H 122 k = (if k < sz σ p then σ 4 (40 * p + k) else σ 10 k)
    rw [if_pos hk, if_pos hk]
    exact this
theorem wy_pkc (V : Inv σ) {p : Nat} (hp : p < 3) {H : AIn} (hW : wyW I σ p (nI 0) 0 H) : ∀ t, t < sz σ p → H 63 t = nI (pkc σ p t).1 ∧ H 64 t = (pkc σ p t).2 := fun t ht => by
  obtain ⟨len, num, h63, h64, hE⟩ := hW.2.2 t (Nat.zero_le _) ht
  have hst := bgE_bst (sd := sdp σ (σ 7) p) hE (fun r hr => (V.2.1.2.1 r hr).ln)
  have eL : lsp σ (σ 7) (nj σ) p (nI 0) t = 1 + lsp σ (σ 7) (nj σ) p (nI 0) (t + len) := by
    rw [← hst]
    exact lst_eq ht (fun r hr hs => sdp_in (iJ_rO V.2.1) t r ht hr hs)
  have e : pkc σ p t = (len, num) := bgE_pkC hE (fun r hr => ⟨(V.2.1.2.1 r hr).1.1, (V.2.1.2.1 r hr).ln⟩) eL (fun r r' hr hr' hs hs' e => st_one V.2.1 hr hr' hs hs' e)
  rw [e]
  exact ⟨h63, h64⟩
theorem c_X10_pack (S : St_c sh P) (V : Inv σ) (R : RepS I 100 σ) (x : Int32) : am_R mX10_pack (cpo sh P I (pa_op σ x) (pa_res σ x)) 5 113 0 0 0 [some (.ref 60), some (.int x), none] [] sh I P := by
  have b1 : np σ ≤ 3 := V.1.np.2
  have e1 : I 100 0 = nI (np σ) := R.1.1
  refine r_aload_n dX10_pack_0 rfl ?_
  refine r_getP dX10_pack_1 g_X10_10 (by first | assumption | exact S.1 _ _ rfl) rfl (by first | assumption | exact S.2 _ _ _ rfl) ?_
  refine r_iload_n dX10_pack_4 rfl ?_
  refine r_callV1 (fr' := 0) (lo' := 0) (mc' := 0) (ms' := 0) dX10_pack_5 mm_X7_hasProgram mv_X7_hasProgram l_X10_47 (by first | assumption | exact S.1 _ _ rfl) mc_X7_hasProgram (by decide) ⟨by decide, by decide⟩ (Nat.zero_le _) (Nat.zero_le _) (Nat.le_of_ble_eq_true rfl) (c_X7_hasProgram (S.1 100 _ rfl) R.1.1 b1 _) (am_ki ?_)
  rintro v5 _ _ _ ⟨hb5, rfl, rfl, rfl⟩
  refine r_if_ne 13 dX10_pack_8 (by decide) (fun h8 => ?_) (fun h8 => ?_)
  · replace h8 := hb5.t h8
    obtain ⟨p, hp, rfl⟩ := h8
    obtain ⟨pp, Q⟩ := SPg_of S (show p < 3 by omega)
    have sp := Q.1
    refine r_aload_n dX10_pack_13 rfl ?_
    refine r_getP dX10_pack_14 g_X10_10 (by first | assumption | exact S.1 _ _ rfl) rfl (by first | assumption | exact S.2 _ _ _ rfl) ?_
    refine r_getP dX10_pack_17 g_X10_38 (by first | assumption | exact S.1 _ _ rfl) rfl (by first | assumption | exact S.2 _ _ _ rfl) ?_
    refine r_iload_n dX10_pack_20 rfl ?_
    refine r_aaloadP p dX10_pack_21 (by first | assumption | exact S.1 _ _ rfl) rfl (by first | decide | omega) (by decide) (by first | assumption | exact S.2 _ _ _ rfl) ?_
    refine r_astore_n dX10_pack_22 (Nat.le_of_ble_eq_true rfl) ?_
    dsimp only [List.set]
    refine r_aload_n dX10_pack_23 rfl ?_
    refine r_getP dX10_pack_24 g_X10_23 (by first | assumption | exact S.1 _ _ rfl) rfl (by first | assumption | exact S.2 _ _ _ rfl) ?_
    refine r_aload_n dX10_pack_27 rfl ?_
    refine r_aload_n dX10_pack_28 rfl ?_
    refine r_getP dX10_pack_29 g_X10_10 (by first | assumption | exact S.1 _ _ rfl) rfl (by first | assumption | exact S.2 _ _ _ rfl) ?_
    refine r_getP dX10_pack_32 g_X10_86 (by first | assumption | exact S.1 _ _ rfl) rfl (by first | assumption | exact S.2 _ _ _ rfl) ?_
    refine r_iconst dX10_pack_35 (v := nI 0) kc_0 ?_
    refine r_callV3 (fr' := 4) (lo' := 89) (mc' := 0) (ms' := 0) dX10_pack_36 mm_X9_measure mv_X9_measure l_X10_103 (by first | assumption | exact S.1 _ _ rfl) mc_X9_measure (by decide) ⟨by decide, by decide⟩ (Nat.zero_le _) (Nat.zero_le _) (Nat.le_of_ble_eq_true rfl) (c_X9_measure S V Q (by omega) (show p < 3 by omega) (R.1.2 p hp) R.2.1 (b := nI 0) (way := nI 0) rfl) (am_ki ?_)
    rintro v36 _ H _ ⟨hv, hW, rfl, rfl⟩
    refine r_pop dX10_pack_39 ?_
    refine r_aload_n dX10_pack_40 rfl ?_
    refine r_getP dX10_pack_41 g_X10_10 (by first | assumption | exact S.1 _ _ rfl) rfl (by first | assumption | exact S.2 _ _ _ rfl) ?_
    refine r_getP dX10_pack_44 g_X10_107 (by first | assumption | exact S.1 _ _ rfl) rfl (by first | assumption | exact S.2 _ _ _ rfl) ?_
    refine r_aload_n dX10_pack_47 rfl ?_
    refine r_aload_n dX10_pack_48 rfl ?_
    refine r_getP dX10_pack_49 g_X10_23 (by first | assumption | exact S.1 _ _ rfl) rfl (by first | assumption | exact S.2 _ _ _ rfl) ?_
    have hP : Pg H (102 + 5 * p) σ p := (R.1.2 p hp).congr (by rw [hW.1 _ (by omega) (by omega) (by omega)]) (fun r h1 h2 => hW.1 r (by omega) (by omega) (by omega)) (fun _ _ => ⟨rfl, rfl, rfl⟩)
    refine r_callV2 (fr' := 2) (lo' := 51) (mc' := 0) (ms' := 0) dX10_pack_52 mm_X2_make mv_X2_make l_X10_111 (by first | assumption | exact S.1 _ _ rfl) mc_X2_make (by decide) ⟨by decide, by decide⟩ (Nat.zero_le _) (Nat.zero_le _) (Nat.le_of_ble_eq_true rfl) (c_X2_make S V Q (by omega) (show p < 3 by omega) hP (wy_pkc V (by omega) hW)) (am_kv ?_)
    rintro _ H2 _ ⟨hB, hR, rfl, rfl⟩
    refine r_aload_n dX10_pack_55 rfl ?_
    refine r_getP dX10_pack_56 g_X10_10 (by first | assumption | exact S.1 _ _ rfl) rfl (by first | assumption | exact S.2 _ _ _ rfl) ?_
    refine r_getP dX10_pack_59 g_X10_107 (by first | assumption | exact S.1 _ _ rfl) rfl (by first | assumption | exact S.2 _ _ _ rfl) ?_
    refine r_getI dX10_pack_62 g_X10_117 (by first | assumption | exact S.1 _ _ rfl) rfl ?_
    rw [hR.1.1]
    refine r_ireturn dX10_pack_65 .int rfl rfl ?_
    have hF : ∀ r, r ≠ 63 → r ≠ 64 → r ≠ 65 → r < 119 ∨ 129 < r → H2 r = I r := fun r a b c d => by rw [hB.1 r d, hW.1 r a b c]
    obtain ⟨g1, g2⟩ := pa_fin2 V R hp hB hR hF
    exact ⟨_, rfl, g2.symm, g1, fun r hr => hF r (by omega) (by omega) (by omega) (by omega), rfl, rfl⟩
  · replace h8 := hb5.f h8
    have hf := h8
    refine r_iconst dX10_pack_11 (v := (-1)) kc_m1 ?_
    refine r_ireturn dX10_pack_12 .int rfl rfl ?_
    exact ⟨_, rfl, by rw [pa_res, cif_f hf], by rw [pa_op, cif_f hf]; exact R, cF_rf _, rfl, rfl⟩
end K12
