/-! what pack, run, read and choose keep -/
theorem pks_loc {σ : AIn} {p : Nat} (hn : sz σ p ≤ 40) : ∀ k, k ≤ sz σ p → (∀ i, 120 ≤ i → (pks σ p k).2.2.2.1 i = σ 12 i) ∧ (∀ i, 80 ≤ i → (pks σ p k).2.2.2.2 i = σ 14 i) ∧ ∀ i, i < (pks σ p k).1 → ∃ t, t < k ∧ (pks σ p k).2.2.2.1 (3 * i + 1) = nI t
  | 0, _ => ⟨fun _ _ => rfl, fun _ _ => rfl, fun i hi => absurd hi (Nat.not_lt_zero i)⟩
  | k + 1, hk => by
    obtain ⟨a, b, c⟩ := pks_loc hn k (by omega)
    have hb := pkS_b (pkc σ p) (fun j => σ 3 (40 * p + j)) (fun j => σ 4 (40 * p + j)) (σ 12) (σ 14) k
    have hb1 : (pks σ p k).1 ≤ k := hb.1
    have hb2 : (pks σ p k).2.1 ≤ 2 * k := hb.2
    have hmb := pkM_b (pkc σ p) (pks σ p k) k
    have hM : (∀ i, 120 ≤ i → (pkM (pkc σ p) (pks σ p k) k).2.2.2.1 i = σ 12 i) ∧ (∀ i, 80 ≤ i → (pkM (pkc σ p) (pks σ p k) k).2.2.2.2 i = σ 14 i) ∧ ∀ i, i < (pkM (pkc σ p) (pks σ p k) k).1 → ∃ t, t < k + 1 ∧ (pkM (pkc σ p) (pks σ p k) k).2.2.2.1 (3 * i + 1) = nI t := by
      unfold pkM
      by_cases h : (pks σ p k).2.2.1 = k
      · rw [if_pos h]
        refine ⟨fun i hi => ?_, fun i hi => ?_, fun i hi => ?_⟩
        · show upd (upd (upd (pks σ p k).2.2.2.1 (3 * (pks σ p k).1) _) (3 * (pks σ p k).1 + 1) (nI k)) (3 * (pks σ p k).1 + 2) _ i = _
          rw [pk_un (by omega), pk_un (by omega), pk_un (by omega)]; exact a i hi
        · show upd (pks σ p k).2.2.2.2 (pks σ p k).2.1 _ i = _
          rw [pk_un (by omega)]; exact b i hi
        · have hi : i < (pks σ p k).1 + 1 := hi
          show ∃ t, t < k + 1 ∧ upd (upd (upd (pks σ p k).2.2.2.1 (3 * (pks σ p k).1) _) (3 * (pks σ p k).1 + 1) (nI k)) (3 * (pks σ p k).1 + 2) _ (3 * i + 1) = nI t
          by_cases e : i = (pks σ p k).1
          · rw [e, pk_un (by omega), pk_us]; exact ⟨k, by omega, rfl⟩
          · rw [pk_un (by omega), pk_un (by omega), pk_un (by omega)]
            obtain ⟨t, ht, g⟩ := c i (by omega)
            exact ⟨t, by omega, g⟩
      · rw [if_neg h]
        refine ⟨a, b, fun i hi => ?_⟩
        obtain ⟨t, ht, g⟩ := c i hi
        exact ⟨t, by omega, g⟩
    have est : pks σ p (k + 1) = pkA (fun j => σ 3 (40 * p + j)) (fun j => σ 4 (40 * p + j)) (pkM (pkc σ p) (pks σ p k) k) k := rfl
    rw [est]
    generalize pkM (pkc σ p) (pks σ p k) k = s at hM hmb
    unfold pkA
    by_cases h : hasA (nv (σ 3 (40 * p + k)))
    · rw [cif_t h]
      refine ⟨hM.1, fun i hi => ?_, hM.2.2⟩
      show upd s.2.2.2.2 s.2.1 _ i = _
      rw [pk_un (by omega)]; exact hM.2.1 i hi
    · rw [cif_f h]; exact hM
theorem K_pa {σ : AIn} (V : Inv σ) (x : Int32) : Inv (pa_op σ x) ∧ loc σ (pa_op σ x) := by
  unfold pa_op
  by_cases hc : inR x (np σ)
  · rw [cif_t hc]
    have b := V.1.np.2
    obtain ⟨-, hp⟩ := hc.nv (by omega)
    generalize nv x = p at hp
    have hn : sz σ p ≤ 40 := (V.1.sz (by omega)).2
    obtain ⟨l1, l2, l3⟩ := pks_loc hn (sz σ p) (Nat.le_refl _)
    have hb := pkS_b (pkc σ p) (fun j => σ 3 (40 * p + j)) (fun j => σ 4 (40 * p + j)) (σ 12) (σ 14) (sz σ p)
    have hb1 : (pks σ p (sz σ p)).1 ≤ sz σ p := hb.1
    have hb2 : (pks σ p (sz σ p)).2.1 ≤ 2 * sz σ p := hb.2
    generalize pks σ p (sz σ p) = s at l1 l2 l3 hb1 hb2
    have h9 : ∀ k, k < sz σ p → pk1 (pk0 σ p (sz σ p)) s 9 k = σ 3 (40 * p + k) ∧ pk1 (pk0 σ p (sz σ p)) s 10 k = σ 4 (40 * p + k) := fun k hk => ⟨if_pos hk, if_pos hk⟩
    have n8 : nv (pk1 (pk0 σ p (sz σ p)) s 8 0) = sz σ p := nv_nI (by omega)
    refine ⟨⟨V.1, V.2.1, Or.inr ⟨isN_nI (n := s.1) (by omega) (by decide), isN_nI (n := sz σ p) hn (by decide), isN_nI (n := s.2.1) (by omega) (by decide), fun k hk => ?_, fun k hk => ?_⟩, V.2.2.2.1, V.2.2.2.2.1, V.2.2.2.2.2⟩, ?_⟩
    · rw [n8] at hk
      rw [(h9 k hk).1, (h9 k hk).2]
      exact V.1.2.2.1 p k (by omega) hk
    · have hk : k < nv (nI s.1) := hk
      rw [nv_nI (by omega)] at hk
      obtain ⟨t, ht, g⟩ := l3 k hk
      show isN (s.2.2.2.1 (3 * k + 1)) 39 ∧ nv (s.2.2.2.1 (3 * k + 1)) < _
      rw [n8, g, nv_nI (by omega)]
      exact ⟨isN_nI (by omega) (by decide), ht⟩
    · refine loc_up (loc_up (loc_up (loc_up (loc_up (loc_up (loc_up (loc_rf σ) (loc_u (show 0 < 1 by decide))) (fun i hi => ?_)) (fun i hi => ?_)) (fun i hi => ?_)) (fun i hi => l1 i hi)) (fun i hi => ?_)) (fun i hi => l2 i hi)
      · have hi : 40 ≤ i := hi
        rw [if_neg (by omega)]
      · have hi : 40 ≤ i := hi
        rw [if_neg (by omega)]
      · have hi : 1 ≤ i := hi
        exact pk_un (by omega)
      · have hi : 1 ≤ i := hi
        exact pk_un (by omega)
  · rw [cif_f hc]; exact ⟨V, loc_rf σ⟩
/-! run -/
def msL (σ : AIn) (s : MS) : Prop := (∀ i, 24 ≤ i → s.2.2.1 i = σ 20 i) ∧ (∀ i, 40 ≤ i → s.2.2.2.1 i = σ 22 i) ∧ ∀ i, 8 ≤ i → s.2.2.2.2 i = σ 23 i
theorem psh_L {σ : AIn} {s : MS} (h : msL σ s) (v : Int32) (hs : s.1 < 24) : msL σ (psh s v) := ⟨fun i hi => by show upd s.2.2.1 s.1 v i = _; rw [pk_un (by omega)]; exact h.1 i hi, h.2.1, h.2.2⟩
theorem dos_L {σ : AIn} {k : Nat} {a : Int32} {t : Nat} {s : MS} (h : msL σ s) (hk : k < 16) (ha : aOk k a) (hw : wants k ≤ s.1) (hh : ¬ high k s) (hp : s.1 ≤ 24) (ho : s.2.1 ≤ 40) : msL σ (dos k a t s).2 := by
  have p2 : ∀ v, 2 ≤ s.1 → msL σ (psh (ppd (ppd s)) v) := fun v h2 => psh_L (s := ppd (ppd s)) h v (show s.1 - 1 - 1 < 24 by omega)
  rcases (show k = 0 ∨ k = 1 ∨ k = 2 ∨ k = 3 ∨ k = 4 ∨ k = 5 ∨ k = 6 ∨ k = 7 ∨ k = 8 ∨ k = 9 ∨ k = 10 ∨ k = 11 ∨ k = 12 ∨ k = 13 ∨ k = 14 ∨ k = 15 by omega) with rfl | rfl | rfl | rfl | rfl | rfl | rfl | rfl | rfl | rfl | rfl | rfl | rfl | rfl | rfl | rfl
  · have h9 : ¬ (s.1 = 24) := fun e => hh (Or.inl ⟨e, Or.inl rfl⟩)
    exact psh_L h _ (by omega)
  · exact p2 _ hw
  · exact p2 _ hw
  · exact p2 _ hw
  · have h9 : ¬ (s.1 = 24) := fun e => hh (Or.inl ⟨e, Or.inr (Or.inl rfl)⟩)
    exact psh_L h _ (by omega)
  · have hw : 2 ≤ s.1 := hw
    exact psh_L (p2 _ hw) _ (show s.1 - 1 - 1 + 1 < 24 by omega)
  · exact h
  · have h9 : ¬ (s.1 = 24) := fun e => hh (Or.inl ⟨e, Or.inr (Or.inr rfl)⟩)
    exact psh_L h _ (by omega)
  · obtain ⟨u, hu, rfl⟩ := aOk_7 ha (by omega)
    refine ⟨h.1, h.2.1, fun i hi => ?_⟩
    show upd s.2.2.2.2 (nv (nI u)) _ i = _
    rw [nv_nI (by omega), pk_un (by omega)]; exact h.2.2 i hi
  · exact h
  · exact h
  · exact p2 _ hw
  · have h9 : ¬ (s.2.1 = 40) := fun e => hh (Or.inr ⟨e, rfl⟩)
    refine ⟨h.1, fun i hi => ?_, h.2.2⟩
    show upd s.2.2.2.1 s.2.1 _ i = _
    rw [pk_un (by omega)]; exact h.2.1 i hi
  · exact h
  · exact h
  · obtain ⟨u, hu, rfl⟩ := aOk_7 ha (by omega)
    refine ⟨h.1, h.2.1, fun i hi => ?_⟩
    show upd s.2.2.2.2 (nv (nI u)) _ i = _
    rw [nv_nI (by omega), pk_un (by omega)]; exact h.2.2 i hi
theorem rn_L {σ : AIn} {n : Nat} {kd : Nat → Nat} {ag : Nat → Int32} {bg : Nat → Prop} (hn : n ≤ 40) (hk : ∀ t, t < n → kd t < 16 ∧ aOk (kd t) (ag t)) : ∀ (m : Nat) (c : RC), msL σ c.2.2.2.1 → c.2.2.2.1.1 ≤ 24 → c.2.2.2.1.2.1 ≤ 40 → msL σ (rn n kd ag bg m c).2.2.2.2.1
  | 0, c, h, _, _ => h
  | m + 1, c, h, h2, h3 => by
    by_cases hle : n ≤ c.1
    · rw [rn_1 hle]; exact h
    · show msL σ (if n ≤ c.1 then (0, c) else cif (c.2.2.2.1.1 < wants (kd c.1)) (1, _) (cif (high (kd c.1) c.2.2.2.1) (2, _) (if kd c.1 = 13 then (0, _) else rn n kd ag bg m _))).2.2.2.2.1
      rw [if_neg hle]
      by_cases a1 : c.2.2.2.1.1 < wants (kd c.1)
      · rw [cif_t a1]; exact h
      · rw [cif_f a1]
        by_cases a2 : high (kd c.1) c.2.2.2.1
        · rw [cif_t a2]; exact h
        · rw [cif_f a2]
          by_cases a3 : kd c.1 = 13
          · rw [if_pos a3]; exact h
          · rw [if_neg a3]
            have hd := dos_b (t := c.1) (hk c.1 (by omega)).1 (by omega) (hk c.1 (by omega)).2 (Nat.not_lt.mp a1) a2 h2 h3
            exact rn_L hn hk m _ (dos_L h (hk c.1 (by omega)).1 (hk c.1 (by omega)).2 (Nat.not_lt.mp a1) a2 h2 h3) hd.2.1 hd.2.2
theorem ms0_L (σ : AIn) : msL σ (ms0 σ) := ⟨fun _ _ => rfl, fun _ _ => rfl, fun i hi => if_neg (by omega)⟩
theorem ruW_loc {σ : AIn} {e : Nat} {c : RC} (h : msL σ c.2.2.2.1) : loc σ (ruW σ e c) :=
  loc_up (loc_up (loc_up (loc_up (loc_up (loc_up (loc_up (loc_up (loc_up (loc_rf σ) (loc_u (show 0 < 1 by decide))) (loc_u (show 0 < 1 by decide))) (loc_u (show 0 < 1 by decide))) (loc_u (show 0 < 1 by decide))) (loc_u (show 0 < 1 by decide))) (fun i hi => h.1 i hi)) (loc_u (show 0 < 1 by decide))) (fun i hi => h.2.1 i hi)) (fun i hi => h.2.2 i hi)
theorem ruW_Inv {σ : AIn} {e : Nat} {c : RC} (V : Inv σ) (he : e ≤ 3) (hB : rcB c) : Inv (ruW σ e c) :=
  ⟨V.1, V.2.1, V.2.2.1, Or.inr ⟨isN_nI he (by decide), isN_nI hB.2.1 (by decide), isN_nI hB.2.2.1 (by decide)⟩, V.2.2.2.2.1, V.2.2.2.2.2⟩
theorem K_ru {σ : AIn} (V : Inv σ) (x y z : Int32) : Inv (ru_op σ x y z) ∧ loc σ (ru_op σ x y z) := by
  unfold ru_op
  by_cases hc : ru_c σ x y z
  · rw [cif_t hc]
    obtain ⟨h1, h2, h3⟩ := hc
    obtain ⟨-, hm⟩ := h1.nv (by decide)
    generalize nv z = most at hm
    by_cases hy : y = 0
    · rw [if_pos hy]
      have b := V.1.np.2
      obtain ⟨-, hp⟩ := (h3 hy).nv (by omega)
      generalize nv x = p at hp
      have hn : sz σ p ≤ 40 := (V.1.sz (by omega)).2
      have hK : ∀ t, t < sz σ p → nv (σ 3 (40 * p + t)) < 16 ∧ aOk (nv (σ 3 (40 * p + t))) (σ 4 (40 * p + t)) := fun t ht => by
        obtain ⟨v1, v2⟩ := V.1.2.2.1 p t (by omega) ht
        exact ⟨Nat.lt_succ_of_le v1.2, v2⟩
      obtain ⟨r1, r2, r3⟩ := rn_b (bg := fun _ => True) hn hK most _ (rcB_0 (ms0 σ) ⟨rfl, rfl⟩) (Nat.le_refl _)
      have r4 := rn_L (bg := fun _ => True) hn hK most (0, 0, 0, ms0 σ, fun _ => nI 0) (ms0_L σ) (Nat.zero_le _) (Nat.zero_le _)
      have r1 : (rnU σ p most).1 ≤ 3 := r1
      have r2 : rcB (rnU σ p most).2 := r2
      have r3 : (rnU σ p most).2.2.1 ≤ 0 + most := r3
      have r4 : msL σ (rnU σ p most).2.2.2.2.1 := r4
      generalize rnU σ p most = q at r1 r2 r3 r4
      refine ⟨Inv_P (ruW_Inv V r1 r2) ⟨V.1.1, V.1.2.1, V.1.2.2.1, fun j hj => ?_⟩ (fun r hr => va_up_ne _ _ (by omega)), loc_up (ruW_loc r4) (fun i hi => ?_)⟩
      · show isN (if 40 * p ≤ j ∧ j < 40 * p + sz σ p then q.2.2.2.2.2 (j - 40 * p) else σ 5 j) 20000
        split
        · obtain ⟨f, f1, f2⟩ := r2.2.2.2.2 (j - 40 * p)
          rw [f1]; exact isN_nI (by omega) (by decide)
        · exact V.1.2.2.2 j hj
      · have hi : 120 ≤ i := hi
        show (if 40 * p ≤ i ∧ i < 40 * p + sz σ p then _ else σ 5 i) = σ 5 i
        rw [if_neg (by omega)]
    · rw [if_neg hy]
      rcases V.2.2.1 with g | ⟨g1, g2, g3, g4, g5⟩
      · exact absurd g (h2 hy)
      · have hK : ∀ t, t < nv (σ 8 0) → nv (σ 9 t) < 16 ∧ aOk (nv (σ 9 t)) (σ 10 t) := fun t ht => by
          obtain ⟨v1, v2⟩ := g4 t ht
          exact ⟨Nat.lt_succ_of_le v1.2, v2⟩
        obtain ⟨r1, r2, r3⟩ := rn_b (bg := fun t => ∃ k, k < nv (σ 11 0) ∧ σ 12 (3 * k + 1) = nI t) g2.2 hK most _ (rcB_0 (ms0 σ) ⟨rfl, rfl⟩) (Nat.le_refl _)
        have r4 := rn_L (bg := fun t => ∃ k, k < nv (σ 11 0) ∧ σ 12 (3 * k + 1) = nI t) g2.2 hK most (0, 0, 0, ms0 σ, fun _ => nI 0) (ms0_L σ) (Nat.zero_le _) (Nat.zero_le _)
        exact ⟨ruW_Inv V r1 r2, ruW_loc r4⟩
  · rw [cif_f hc]; exact ⟨V, loc_rf σ⟩
/-! read -/
def lOk (l : List (Nat × Int32)) : Prop := ∀ q ∈ l, q.1 ≤ 15 ∧ aOk q.1 q.2
theorem rdO_ok {T : Nat} {tb : Nat → Int32} {k : Nat} {s s' : RD} (h : rdO T tb k s = some s') (hk : k ≤ 15) (hl : lOk s.2) : lOk s'.2 := by
  have snoc : ∀ a, aOk k a → lOk (s.2 ++ [(k, a)]) := fun a ha q hq => by
    rcases List.mem_append.mp hq with g | g
    · exact hl q g
    · rw [List.mem_singleton.mp g]; exact ⟨hk, ha⟩
  unfold rdO at h
  by_cases h1 : s.2.length = 40
  · rw [cif_t h1] at h; cases h
  · rw [cif_f h1] at h
    by_cases h2 : hasA k
    · rw [cif_t h2] at h
      by_cases h3 : s.1 = T
      · rw [cif_t h3] at h; cases h
      · rw [cif_f h3] at h
        by_cases h4 : aOk k (rdv k (tb s.1))
        · rw [cif_t h4] at h; cases h; exact snoc _ h4
        · rw [cif_f h4] at h; cases h
    · rw [cif_f h2] at h; cases h; exact snoc _ (aOk_0 h2)
theorem rdR_ok {T : Nat} {tb : Nat → Int32} {kf : Nat → Nat} : ∀ {c i : Nat} {s s' : RD}, rdR T tb kf i c s = some s' → (∀ j, i ≤ j → j < i + c → kf j ≤ 15) → lOk s.2 → lOk s'.2
  | 0, i, s, s', h, _, hl => by cases h; exact hl
  | c + 1, i, s, s', h, hk, hl => by
    have h : (match rdO T tb (kf i) s with | none => none | some s1 => rdR T tb kf (i + 1) c s1) = some s' := h
    cases e : rdO T tb (kf i) s with
    | none => rw [e] at h; cases h
    | some s1 =>
      rw [e] at h
      exact rdR_ok h (fun j h1 h2 => hk j (by omega) (by omega)) (rdO_ok e (hk i (Nat.le_refl _) (by omega)) hl)
theorem rdK_ok {T : Nat} {tb : Nat → Int32} {nj : Nat} {F : Nat → Int32} {b : Nat} {s s' : RD} (hJ : ∀ j, j < nj → jOk F (5 * j)) (h : rdK T tb nj F b s = some s') (hl : lOk s.2) : lOk s'.2 := by
  unfold rdK at h
  by_cases h2 : b < 16
  · rw [if_pos h2] at h
    exact rdO_ok h (by omega) hl
  · rw [if_neg h2] at h
    by_cases h3 : nj ≤ b - 16
    · rw [if_pos h3] at h; cases h
    · rw [if_neg h3] at h
      exact rdR_ok h (fun j h1 h4 => (hJ (b - 16) (by omega)).kd j (by omega)) hl
theorem rdA_ok {T : Nat} {tb : Nat → Int32} {nj : Nat} {F : Nat → Int32} (hJ : ∀ j, j < nj → jOk F (5 * j)) : ∀ {m : Nat} {s s' : RD}, rdA T tb nj F m s = some s' → lOk s.2 → lOk s'.2
  | 0, s, s', h, hl => by cases h; exact hl
  | m + 1, s, s', h, hl => by
    rw [rdA_s] at h
    by_cases h1 : T ≤ s.1
    · rw [if_pos h1] at h; cases h; exact hl
    · rw [if_neg h1] at h
      cases e : rdK T tb nj F (nv (tb s.1)) (s.1 + 1, s.2) with
      | none => rw [e] at h; cases h
      | some s1 =>
        rw [e] at h
        exact rdA_ok hJ h (rdK_ok hJ e hl)
theorem lOk_at {l : List (Nat × Int32)} (h : lOk l) {k : Nat} (hk : k < l.length) : (l.getD k (0, 0)).1 ≤ 15 ∧ aOk (l.getD k (0, 0)).1 (l.getD k (0, 0)).2 := by
  have e : l.getD k (0, 0) = l[k] := by rw [List.getD_eq_getElem?_getD, List.getElem?_eq_getElem hk]; rfl
  rw [e]
  exact h _ (List.getElem_mem hk)
theorem K_rd {σ : AIn} (V : Inv σ) : Inv (rd_op σ) ∧ loc σ (rd_op σ) := by
  unfold rd_op
  by_cases h3 : np σ = 3
  · rw [cif_t h3]; exact ⟨V, loc_rf σ⟩
  · rw [cif_f h3]
    have b := V.1.np.2
    cases e : rdX σ with
    | none => exact ⟨V, loc_rf σ⟩
    | some s =>
      have hlen := rdX_len e
      have hok : lOk s.2 := rdA_ok V.2.1.2.1 e (fun q hq => absurd hq (List.not_mem_nil))
      show Inv (rdW σ s.2) ∧ loc σ (rdW σ s.2)
      generalize s.2 = l at hlen hok
      refine ⟨Inv_T (Inv_P V (σ' := va_up (va_up (fgt (va_up (va_up σ 1 (upd (σ 1) 0 (nI (np σ + 1)))) 2 (upd (σ 2) (np σ) (nI l.length))) (np σ)) 3 (fun j => if 40 * np σ ≤ j ∧ j < 40 * np σ + l.length then nI (l.getD (j - 40 * np σ) (0, 0)).1 else σ 3 j)) 4 (fun j => if 40 * np σ ≤ j ∧ j < 40 * np σ + l.length then (l.getD (j - 40 * np σ) (0, 0)).2 else σ 4 j)) ⟨?_, fun p hp => ?_, fun p k hp hk => ?_, fun j hj => ?_⟩ (fun r hr => ?_)) ⟨isN_nI (n := 0) (Nat.zero_le _) (by decide), fun k hk => absurd hk (Nat.not_lt_zero k)⟩ (fun r hr => va_up_ne _ _ (by omega)), ?_⟩
      · exact isN_nI (n := np σ + 1) (by omega) (by decide)
      · show isN (upd (σ 2) (np σ) (nI l.length) p) 40
        by_cases e9 : p = np σ
        · rw [e9, pk_us]; exact isN_nI hlen (by decide)
        · rw [pk_un e9]; exact V.1.2.1 p hp
      · have hk : k < nv (upd (σ 2) (np σ) (nI l.length) p) := hk
        show isN (if 40 * np σ ≤ 40 * p + k ∧ 40 * p + k < 40 * np σ + l.length then nI (l.getD (40 * p + k - 40 * np σ) (0, 0)).1 else σ 3 (40 * p + k)) 15 ∧ aOk (nv (if 40 * np σ ≤ 40 * p + k ∧ 40 * p + k < 40 * np σ + l.length then nI (l.getD (40 * p + k - 40 * np σ) (0, 0)).1 else σ 3 (40 * p + k))) (if 40 * np σ ≤ 40 * p + k ∧ 40 * p + k < 40 * np σ + l.length then (l.getD (40 * p + k - 40 * np σ) (0, 0)).2 else σ 4 (40 * p + k))
        by_cases e9 : p = np σ
        · subst e9
          rw [pk_us, nv_nI (by omega)] at hk
          obtain ⟨q1, q2⟩ := lOk_at hok hk
          rw [if_pos (by omega), if_pos (by omega), Nat.add_sub_cancel_left, nv_nI (by omega)]
          exact ⟨isN_nI q1 (by decide), q2⟩
        · rw [pk_un e9] at hk
          have hk : k < sz σ p := hk
          have hs := (V.1.sz hp).2
          rw [if_neg (by omega), if_neg (by omega)]
          exact V.1.2.2.1 p k hp hk
      · show isN (if 40 * np σ ≤ j ∧ j < 40 * np σ + 40 then 0 else σ 5 j) 20000
        split
        · exact isN_nI (n := 0) (Nat.zero_le _) (by decide)
        · exact V.1.2.2.2 j hj
      · unfold fgt
        rw [va_up_ne _ _ (by omega), va_up_ne _ _ (by omega), va_up_ne _ _ (by omega), va_up_ne _ _ (by omega), va_up_ne _ _ (by omega)]
      · refine loc_up (loc_up (loc_up (loc_fgt (loc_up (loc_up (loc_rf σ) (loc_u (show 0 < 1 by decide))) (loc_u (show np σ < 3 by omega))) (by omega)) (fun i hi => ?_)) (fun i hi => ?_)) (loc_u (show 0 < 1 by decide))
        · have hi : 120 ≤ i := hi
          rw [if_neg (by omega)]
        · have hi : 120 ≤ i := hi
          rw [if_neg (by omega)]
/-! choose -/
def cOk (σ : AIn) (s : CS) : Prop := s.2.1 ≤ 2 ∧ (1 ≤ s.2.1 → win σ s.2.2.1) ∧ (2 ≤ s.2.1 → win σ s.2.2.2 ∧ s.2.2.1 < s.2.2.2)
theorem chS_ok {σ : AIn} (V : iP σ) (k way : Int32) : cOk σ (chS σ k way) := by
  have wn0 : ∀ v, 0 < gn σ way v → win σ v := fun v h => Classical.byContradiction (fun g => by rw [gn_0 g] at h; exact Nat.lt_irrefl 0 h)
  have q1 : ∀ n, cOk σ (fo (sg1 (gn σ way)) (0, 0, 0, 0) n) := fo_inv (Q := cOk σ) (fun s u hs => by
    unfold sg1
    split
    · rename_i h
      exact ⟨(by decide : (1 : Nat) ≤ 2), fun _ => wn0 u (by omega), fun h9 => absurd h9 (show ¬ 2 ≤ 1 by decide)⟩
    · exact hs) ⟨Nat.zero_le _, fun h => absurd h (show ¬ 1 ≤ 0 by decide), fun h => absurd h (show ¬ 2 ≤ 0 by decide)⟩
  have hQ : sgQ (gn σ way) (fo (sg1 (gn σ way)) (0, 0, 0, 0) 83521) := fun u => by
    rcases Nat.lt_or_ge u 83521 with g | g
    · exact fo1_ge _ _ _ u g
    · rw [gn_0 (fun hw => by have := (win_ok V hw).lt; omega)]; exact Nat.zero_le _
  have q2 : ∀ v (s : CS) (u : Nat), (cOk σ s ∧ sgQ (gn σ way) s) → (cOk σ (sg2 (gn σ way) (g2 σ way) v s u) ∧ sgQ (gn σ way) (sg2 (gn σ way) (g2 σ way) v s u)) := fun v s u hs => by
    refine ⟨?_, sg2_Q s u hs.2⟩
    unfold sg2
    split
    · rename_i h
      have g1 := hs.2 v
      have g2 := hs.2 u
      exact ⟨Nat.le_refl _, fun _ => wn0 v (by omega), fun _ => ⟨wn0 u (by omega), h.1⟩⟩
    · exact hs.1
  unfold chS sch
  split
  · exact q1 _
  · exact (fo_inv (Q := fun s : CS => cOk σ s ∧ sgQ (gn σ way) s) (fun s v hs => fo_inv (Q := fun s : CS => cOk σ s ∧ sgQ (gn σ way) s) (q2 v) hs _) ⟨q1 _, hQ⟩ _).1
theorem K_ch {σ : AIn} (V : Inv σ) (k b : Int32) : Inv (ch_op σ k b) ∧ loc σ (ch_op σ k b) := by
  unfold ch_op
  by_cases hc : k = nI 1 ∨ k = nI 2
  · rw [cif_t hc]
    have hk := chS_ok V.1 k (if b = 0 then nI 0 else nI 1)
    generalize chS σ k (if b = 0 then nI 0 else nI 1) = s at hk
    obtain ⟨h1, h2, h3⟩ := hk
    have e24 : nv (ch_row σ s 24 0) = s.2.1 := nv_nI (by omega)
    have ag : ∀ i, i < 5 * s.2.1 → ch_row σ s 25 i = rw2 s.2.2.1 s.2.2.2 i := fun i hi => if_pos hi
    have hj : ∀ j, j < s.2.1 → jOk (rw2 s.2.2.1 s.2.2.2) (5 * j) := fun j hj => by
      rcases (show j = 0 ∨ j = 1 by omega) with rfl | rfl
      · exact (jOk_eq (jOk_rwF V.1 (h2 (by omega))) (fun i hi => (rw2_0 hi).symm)).1
      · exact (jOk_eq (jOk_rwF V.1 (h3 (by omega)).1) (fun i hi => rw2_5.symm)).1
    refine ⟨⟨V.1, V.2.1, V.2.2.1, V.2.2.2.1, Or.inr ⟨isN_nI (n := s.2.1) h1 (by decide), fun j hj2 => ?_, fun i j hi hj2 he => ?_⟩, V.2.2.2.2.2⟩, loc_up (loc_up (loc_rf σ) (loc_u (show 0 < 1 by decide))) (fun i hi => ?_)⟩
    · rw [e24] at hj2
      exact (jOk_eq (hj j hj2) (fun i hi => (ag (5 * j + i) (by omega)).symm)).1
    · rw [e24] at hi hj2
      have nd : 2 ≤ s.2.1 → ¬ jEq (ch_row σ s 25) 0 5 := fun h9 hq => by
        obtain ⟨w2, hlt⟩ := h3 h9
        have w1 := h2 (by omega)
        have e1 : eR (rwF s.2.2.1) 0 = eR (rwF s.2.2.2) 0 := by
          refine (rEq_e (jOk_rwF V.1 w1) (jOk_rwF V.1 w2)).mp (fun i hi => ?_)
          have := hq i hi
          rw [ag _ (by omega), ag _ (by omega), rw2_0 hi, rw2_5] at this
          exact this
        obtain ⟨p, q, L, hp, hw, ev⟩ := w1
        obtain ⟨p', q', L', hp', hw', ev'⟩ := w2
        rw [ev, ev', eR_rwF hw.1 (kd_15 V.1 hp hw), eR_rwF hw'.1 (kd_15 V.1 hp' hw')] at e1
        have e2 := congrArg bv e1
        rw [bv_e5 hw.1 (kd_15 V.1 hp hw), bv_e5 hw'.1 (kd_15 V.1 hp' hw'), ← ev, ← ev'] at e2
        omega
      rcases (show i = j ∨ (i = 0 ∧ j = 1) ∨ (i = 1 ∧ j = 0) by omega) with e | ⟨rfl, rfl⟩ | ⟨rfl, rfl⟩
      · exact e
      · exact absurd he (nd (by omega))
      · exact absurd (fun k hk => (he k hk).symm) (nd (by omega))
    · have hi : 15 ≤ i := hi
      show (if i < 5 * s.2.1 then _ else σ 25 i) = σ 25 i
      rw [if_neg (by omega)]
  · rw [cif_f hc]; exact ⟨V, loc_rf σ⟩
