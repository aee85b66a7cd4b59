/-! the reference: putFound -/
section M21
variable {sh : ASh} {I : AIn} {P : APt}
/-- the rows found: n numbers, upwards -/
def fnd (H : AIn) (n : Nat) (f : Nat → Nat) : Prop := H 0 38 = nI n ∧ (∀ j, j < n → H 36 j = nI (f j)) ∧ (∀ i j, i < j → j < n → f i < f j) ∧ ∀ j, j < n → f j < 100000
def pfP (sh : ASh) (P : APt) (I : AIn) (n : Nat) (f : Nat → Nat) (v : Nat) : APo := po_v (fun sh' I' P' => (∃ n' f', fnd I' n' f' ∧ (∀ u, (∃ j, j < n' ∧ f' j = u) ↔ ((∃ j, j < n ∧ f j = u) ∨ u = v)) ∧ n' ≤ n + 1) ∧ (∀ r, r ≠ 0 → r ≠ 36 → I' r = I r) ∧ (∀ j, j ≠ 38 → I' 0 j = I 0 j) ∧ sh = sh' ∧ P = P')
def insF (i v : Nat) (f : Nat → Nat) (j : Nat) : Nat := if j < i then f j else if j = i then v else f (j - 1)
theorem insF_lt {i v j : Nat} {f : Nat → Nat} (h : j < i) : insF i v f j = f j := if_pos h
theorem insF_eq {i v : Nat} {f : Nat → Nat} : insF i v f i = v := by
  unfold insF
  rw [if_neg (Nat.lt_irrefl i), if_pos rfl]
theorem insF_gt {i v j : Nat} {f : Nat → Nat} (h : i < j) : insF i v f j = f (j - 1) := by
  unfold insF
  rw [if_neg (by omega), if_neg (by omega)]
theorem l_X11_pfB (S : St_m sh P) {n k v : Nat} {f : Nat → Nat} (h : fnd I n f) (hn : n < 360) (hkn : k ≤ n) (hv : v < 100000) (h1 : ∀ i, k ≤ i → i < n → v < f i) (h2 : ∀ i, i < k → f i < v) : ∀ (m i : Nat), k + m = i → i ≤ n → ∀ g, (∀ j, j < n + 1 → g j = if i < j then nI (f (j - 1)) else (if j < n then nI (f j) else g j)) → am_R mX11_putFound (pfP sh P I n f v) 0 0 0 0 49 [some (.ref 0), some (.int (nI v)), some (.int (nI k)), some (.int (nI i))] [] sh (va_up I 36 g) P := by
  obtain ⟨e38, e36, hinc, hbd⟩ := id h
  intro m
  induction m with
  | zero =>
    intro i hi hin g hg
    have e : i = k := by omega
    subst e
    refine r_iload_n dX11_putFound_49 rfl ?_
    refine r_iload_n dX11_putFound_50 rfl ?_
    refine r_icmp_leN 74 dX11_putFound_51 (by decide) (by omega) (by omega) (fun h51 => ?_) (fun h51 => ?_)
    · refine r_aload_n dX11_putFound_74 rfl ?_
      refine r_getP dX11_putFound_75 g_X11_113 (S.1 _ _ rfl) rfl (S.2 _ _ _ rfl) ?_
      refine r_iload_n dX11_putFound_78 rfl ?_
      refine r_iload_n dX11_putFound_79 rfl ?_
      refine r_iastore _ dX11_putFound_80 (S.1 _ _ rfl) rfl (by first | decide | omega) (by decide) ?_
      rw [va_up_self, bx_uu]
      refine r_aload_n dX11_putFound_81 rfl ?_
      refine r_dup dX11_putFound_82 ?_
      refine r_getI dX11_putFound_83 g_X11_211 (S.1 _ _ rfl) rfl ?_
      rw [show va_up I 36 (upd g i (nI v)) 0 38 = nI n from e38]
      refine r_iconst dX11_putFound_86 (v := nI 1) kc_1 ?_
      first | refine r_iaddN dX11_putFound_87 ?_ | refine r_iadd dX11_putFound_87 ?_
      refine r_putI dX11_putFound_88 f_X11_211 (S.1 _ _ rfl) rfl rfl rfl ?_
      rw [show va_up I 36 (upd g i (nI v)) 0 = I 0 from rfl]
      refine r_return dX11_putFound_91 rfl ?_
      refine ⟨rfl, ⟨n + 1, insF i v f, ⟨?_, ?_, ?_, ?_⟩, ?_, Nat.le_refl _⟩, ?_, ?_, rfl, rfl⟩
      · rw [va_up_self]; exact pk_us
      · intro j hj
        rw [va_up_ne _ _ (by decide), va_up_self]
        by_cases c1 : j = i
        · subst c1; rw [pk_us, insF_eq]
        · rw [pk_un c1, hg j hj]
          by_cases c2 : i < j
          · rw [if_pos c2, insF_gt c2]
          · rw [if_neg c2, if_pos (by omega), insF_lt (by omega)]
      · intro a b hab hb
        by_cases a1 : a < i
        · rw [insF_lt a1]
          by_cases b1 : b < i
          · rw [insF_lt b1]; exact hinc a b hab (by omega)
          · by_cases b2 : b = i
            · rw [b2, insF_eq]; exact h2 a a1
            · rw [insF_gt (by omega)]; exact Nat.lt_trans (h2 a a1) (h1 (b - 1) (by omega) (by omega))
        · by_cases a2 : a = i
          · rw [a2, insF_eq, insF_gt (by omega)]; exact h1 (b - 1) (by omega) (by omega)
          · rw [insF_gt (by omega), insF_gt (by omega)]; exact hinc (a - 1) (b - 1) (by omega) (by omega)
      · intro j hj
        by_cases c1 : j < i
        · rw [insF_lt c1]; exact hbd j (by omega)
        · by_cases c2 : j = i
          · rw [c2, insF_eq]; exact hv
          · rw [insF_gt (by omega)]; exact hbd (j - 1) (by omega)
      · intro u
        constructor
        · rintro ⟨j, hj, rfl⟩
          by_cases c1 : j < i
          · exact Or.inl ⟨j, by omega, by rw [insF_lt c1]⟩
          · by_cases c2 : j = i
            · exact Or.inr (by rw [c2, insF_eq])
            · exact Or.inl ⟨j - 1, by omega, by rw [insF_gt (by omega)]⟩
        · rintro (⟨j, hj, rfl⟩ | rfl)
          · by_cases c1 : j < i
            · exact ⟨j, by omega, by rw [insF_lt c1]⟩
            · exact ⟨j + 1, by omega, by rw [insF_gt (by omega)]; rfl⟩
          · exact ⟨i, by omega, by rw [insF_eq]⟩
      · intro r a b
        rw [va_up_ne _ _ a, va_up_ne _ _ b]
      · intro j hj
        rw [va_up_self, pk_un hj]
    · exact absurd h51 (by omega)
  | succ m ih =>
    intro i hi hin g hg
    obtain ⟨i2, rfl⟩ : ∃ i2, i = i2 + 1 := ⟨i - 1, by omega⟩
    have eg : va_up I 36 g 36 i2 = nI (f i2) := by
      rw [va_up_self, hg i2 (by omega), if_neg (by omega), if_pos (by omega)]
    refine r_iload_n dX11_putFound_49 rfl ?_
    refine r_iload_n dX11_putFound_50 rfl ?_
    refine r_icmp_leN 74 dX11_putFound_51 (by decide) (by omega) (by omega) (fun h51 => ?_) (fun h51 => ?_)
    · exact absurd h51 (by omega)
    · refine r_aload_n dX11_putFound_54 rfl ?_
      refine r_getP dX11_putFound_55 g_X11_113 (S.1 _ _ rfl) rfl (S.2 _ _ _ rfl) ?_
      refine r_iload_n dX11_putFound_58 rfl ?_
      refine r_aload_n dX11_putFound_59 rfl ?_
      refine r_getP dX11_putFound_60 g_X11_113 (S.1 _ _ rfl) rfl (S.2 _ _ _ rfl) ?_
      refine r_iload_n dX11_putFound_63 rfl ?_
      refine r_iconst dX11_putFound_64 (v := nI 1) kc_1 ?_
      first | refine r_isubN dX11_putFound_65 (by omega) ?_ | refine r_isub dX11_putFound_65 ?_
      refine r_iaload i2 dX11_putFound_66 (S.1 _ _ rfl) rfl (by first | decide | omega) (by decide) ?_
      rw [eg]
      refine r_iastore _ dX11_putFound_67 (S.1 _ _ rfl) rfl (by first | decide | omega) (by decide) ?_
      rw [va_up_self, bx_uu]
      refine r_iincM dX11_putFound_68 rfl kc_m1 ?_
      dsimp only [List.set]
      refine r_goto 49 dX11_putFound_71 (by decide) ?_
      refine ih i2 (by omega) (by omega) _ (fun j hj => ?_)
      by_cases c1 : j = i2 + 1
      · subst c1; rw [pk_us, if_pos (by omega)]; rfl
      · rw [pk_un c1]
        have h9 := hg j hj
        by_cases c2 : i2 < j
        · rw [if_pos c2]
          rw [if_pos (show i2 + 1 < j by omega)] at h9
          exact h9
        · rw [if_neg c2, if_pos (by omega)]
          rw [if_neg (by omega), if_pos (by omega)] at h9
          exact h9
theorem l_X11_pfA (S : St_m sh P) {n v : Nat} {f : Nat → Nat} (h : fnd I n f) (hn : n < 360) (hv : v < 100000) : ∀ (k : Nat), k ≤ n → (∀ i, k ≤ i → i < n → v < f i) → am_R mX11_putFound (pfP sh P I n f v) 0 0 0 0 5 [some (.ref 0), some (.int (nI v)), some (.int (nI k)), none] [] sh I P := by
  obtain ⟨e38, e36, hinc, hbd⟩ := id h
  have GO : ∀ k, k ≤ n → (∀ i, k ≤ i → i < n → v < f i) → (∀ i, i < k → f i < v) → am_R mX11_putFound (pfP sh P I n f v) 0 0 0 0 44 [some (.ref 0), some (.int (nI v)), some (.int (nI k)), none] [] sh I P := by
    intro k hk h1 h2
    refine r_aload_n dX11_putFound_44 rfl ?_
    refine r_getI dX11_putFound_45 g_X11_211 (S.1 _ _ rfl) rfl ?_
    rw [e38]
    refine r_istore_n dX11_putFound_48 (Nat.le_of_ble_eq_true rfl) ?_
    dsimp only [List.set]
    have h9 := l_X11_pfB S h hn hk hv h1 h2 (n - k) n (by omega) (Nat.le_refl _) (I 36) (fun j hj => ?_)
    · rw [← up_id 36 (I 36) rfl] at h9
      exact h9
    · rw [if_neg (by omega)]
      by_cases c : j < n
      · rw [if_pos c]; exact e36 j c
      · rw [if_neg c]
  intro k
  induction k with
  | zero =>
    intro hk h1
    refine r_iload_n dX11_putFound_5 rfl ?_
    refine r_if_leN 27 dX11_putFound_6 (by decide) (by omega) (fun h6 => ?_) (fun h6 => ?_)
    · refine r_iload_n dX11_putFound_27 rfl ?_
      refine r_if_leN 44 dX11_putFound_28 (by decide) (by omega) (fun h28 => ?_) (fun h28 => ?_)
      · exact GO 0 hk h1 (fun i hi => absurd hi (Nat.not_lt_zero i))
      · exact absurd h28 (by omega)
    · exact absurd h6 (by omega)
  | succ k ih =>
    intro hk h1
    have ek : I 36 k = nI (f k) := e36 k (by omega)
    have bk2 := hbd k (by omega)
    refine r_iload_n dX11_putFound_5 rfl ?_
    refine r_if_leN 27 dX11_putFound_6 (by decide) (by omega) (fun h6 => ?_) (fun h6 => ?_)
    · exact absurd h6 (by omega)
    · refine r_aload_n dX11_putFound_9 rfl ?_
      refine r_getP dX11_putFound_10 g_X11_113 (S.1 _ _ rfl) rfl (S.2 _ _ _ rfl) ?_
      refine r_iload_n dX11_putFound_13 rfl ?_
      refine r_iconst dX11_putFound_14 (v := nI 1) kc_1 ?_
      first | refine r_isubN dX11_putFound_15 (by omega) ?_ | refine r_isub dX11_putFound_15 ?_
      refine r_iaload k dX11_putFound_16 (S.1 _ _ rfl) rfl (by first | decide | omega) (by decide) ?_
      rw [ek]
      refine r_iload_n dX11_putFound_17 rfl ?_
      refine r_icmp_leN 27 dX11_putFound_18 (by decide) (by omega) (by omega) (fun h18 => ?_) (fun h18 => ?_)
      · refine r_iload_n dX11_putFound_27 rfl ?_
        refine r_if_leN 44 dX11_putFound_28 (by decide) (by omega) (fun h28 => ?_) (fun h28 => ?_)
        · exact absurd h28 (by omega)
        · refine r_aload_n dX11_putFound_31 rfl ?_
          refine r_getP dX11_putFound_32 g_X11_113 (S.1 _ _ rfl) rfl (S.2 _ _ _ rfl) ?_
          refine r_iload_n dX11_putFound_35 rfl ?_
          refine r_iconst dX11_putFound_36 (v := nI 1) kc_1 ?_
          first | refine r_isubN dX11_putFound_37 (by omega) ?_ | refine r_isub dX11_putFound_37 ?_
          refine r_iaload k dX11_putFound_38 (S.1 _ _ rfl) rfl (by first | decide | omega) (by decide) ?_
          rw [ek]
          refine r_iload_n dX11_putFound_39 rfl ?_
          refine r_icmp_neN 44 dX11_putFound_40 (by decide) (by omega) (by omega) (fun h40 => ?_) (fun h40 => ?_)
          · refine GO (k + 1) hk h1 (fun i hi => ?_)
            rcases Nat.lt_or_ge i k with c | c
            · have h9 := hinc i k c (by omega); omega
            · have e : i = k := by omega
              subst e; omega
          · refine r_return dX11_putFound_43 rfl ?_
            refine ⟨rfl, ⟨n, f, h, fun u => ⟨Or.inl, ?_⟩, Nat.le_succ _⟩, fun _ _ _ => rfl, fun _ _ => rfl, rfl, rfl⟩
            rintro (hu | rfl)
            · exact hu
            · exact ⟨k, by omega, h40⟩
      · refine r_iincM dX11_putFound_21 rfl kc_m1 ?_
        dsimp only [List.set]
        refine r_goto 5 dX11_putFound_24 (by decide) ?_
        refine ih (by omega) (fun i h2 h3 => ?_)
        rcases Nat.lt_or_ge k i with c | c
        · exact h1 i c h3
        · have e : i = k := by omega
          subst e; omega
theorem c_X11_putFound (S : St_m sh P) {n v : Nat} {f : Nat → Nat} (h : fnd I n f) (hn : n < 360) (hv : v < 100000) : am_R mX11_putFound (pfP sh P I n f v) 0 0 0 0 0 [some (.ref 0), some (.int (nI v)), none, none] [] sh I P := by
  have e38 := h.1
  refine r_aload_n dX11_putFound_0 rfl ?_
  refine r_getI dX11_putFound_1 g_X11_211 (S.1 _ _ rfl) rfl ?_
  rw [e38]
  refine r_istore_n dX11_putFound_4 (Nat.le_of_ble_eq_true rfl) ?_
  dsimp only [List.set]
  exact l_X11_pfA S h hn hv n (Nat.le_refl _) (fun i h1 h2 => absurd h2 (by omega))
end M21
