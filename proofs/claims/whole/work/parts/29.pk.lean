/-! packing: place by place -/
noncomputable def pkC (T : Nat → Nat) (sd : Nat → Nat → Prop) (ln : Nat → Nat) (q : Nat) (k0 : Int32) : Nat → Nat × Int32
  | 0 => (1, k0)
  | r + 1 => cif ((pkC T sd ln q k0 r).1 < ln r ∧ sd q r ∧ 1 + T (q + ln r) = T q) (ln r, nI (16 + r)) (pkC T sd ln q k0 r)
abbrev PKT : Type := Nat × Nat × Nat × (Nat → Int32) × (Nat → Int32)
def pkB (s : PKT) (b : Int32) : PKT := (s.1, s.2.1 + 1, s.2.2.1, s.2.2.2.1, upd s.2.2.2.2 s.2.1 (b &&& nI 255))
def pkN (s : PKT) (k len : Nat) (num : Int32) : PKT := pkB (s.1 + 1, s.2.1, k + len, upd (upd (upd s.2.2.2.1 (3 * s.1) num) (3 * s.1 + 1) (nI k)) (3 * s.1 + 2) (nI len), s.2.2.2.2) num
def pkM (C : Nat → Nat × Int32) (s : PKT) (k : Nat) : PKT := if s.2.2.1 = k then pkN s k (C k).1 (C k).2 else s
noncomputable def pkA (kd ag : Nat → Int32) (s : PKT) (k : Nat) : PKT := cif (hasA (nv (kd k))) (pkB s (ag k)) s
noncomputable def pkS (C : Nat → Nat × Int32) (kd ag : Nat → Int32) (s0 : PKT) : Nat → PKT
  | 0 => s0
  | k + 1 => pkA kd ag (pkM C (pkS C kd ag s0 k) k) k
theorem pkM_b (C : Nat → Nat × Int32) (s : PKT) (k : Nat) : (pkM C s k).1 ≤ s.1 + 1 ∧ (pkM C s k).2.1 ≤ s.2.1 + 1 := by
  unfold pkM
  split
  · exact ⟨Nat.le_refl _, Nat.le_refl _⟩
  · exact ⟨Nat.le_succ _, Nat.le_succ _⟩
theorem pkA_b (kd ag : Nat → Int32) (s : PKT) (k : Nat) : (pkA kd ag s k).1 = s.1 ∧ (pkA kd ag s k).2.1 ≤ s.2.1 + 1 ∧ (pkA kd ag s k).2.2.1 = s.2.2.1 ∧ (pkA kd ag s k).2.2.2.1 = s.2.2.2.1 := by
  unfold pkA
  by_cases h : hasA (nv (kd k))
  · rw [cif_t h]; exact ⟨rfl, Nat.le_refl _, rfl, rfl⟩
  · rw [cif_f h]; exact ⟨rfl, Nat.le_succ _, rfl, rfl⟩
theorem pkS_b (C : Nat → Nat × Int32) (kd ag : Nat → Int32) (c b : Nat → Int32) : ∀ k, (pkS C kd ag (0, 0, 0, c, b) k).1 ≤ k ∧ (pkS C kd ag (0, 0, 0, c, b) k).2.1 ≤ 2 * k
  | 0 => ⟨Nat.le_refl _, Nat.le_refl _⟩
  | k + 1 => by
    have ih := pkS_b C kd ag c b k
    show (pkA _ _ _ _).1 ≤ _ ∧ (pkA _ _ _ _).2.1 ≤ _
    have h1 := pkM_b C (pkS C kd ag (0, 0, 0, c, b) k) k
    have h2 := pkA_b kd ag (pkM C (pkS C kd ag (0, 0, 0, c, b) k) k) k
    omega
theorem pkC_b {T : Nat → Nat} {sd : Nat → Nat → Prop} {ln : Nat → Nat} {q : Nat} {k0 : Int32} {n : Nat} (hq : q < n) : ∀ {m : Nat}, (∀ r, r < m → sd q r → q + ln r ≤ n) → (1 ≤ (pkC T sd ln q k0 m).1 ∧ q + (pkC T sd ln q k0 m).1 ≤ n)
  | 0, _ => ⟨Nat.le_refl _, hq⟩
  | m + 1, h => by
    have ih := pkC_b (T := T) (k0 := k0) hq (m := m) (fun r hr => h r (by omega))
    unfold pkC
    by_cases g : (pkC T sd ln q k0 m).1 < ln m ∧ sd q m ∧ 1 + T (q + ln m) = T q
    · rw [cif_t g]
      exact ⟨by show 1 ≤ ln m; omega, h m (by omega) g.2.1⟩
    · rw [cif_f g]
      exact ih
/-! of the rows -/
noncomputable def pkT (σ : AIn) (p : Nat) : Nat → Nat := lsp σ (σ 7) (nj σ) p (nI 0)
noncomputable def pkc (σ : AIn) (p : Nat) (q : Nat) : Nat × Int32 := pkC (pkT σ p) (sdp σ (σ 7) p) (rln (σ 7)) q (σ 3 (40 * p + q)) (nj σ)
noncomputable def pks (σ : AIn) (p k : Nat) : PKT := pkS (pkc σ p) (fun j => σ 3 (40 * p + j)) (fun j => σ 4 (40 * p + j)) (0, 0, 0, σ 12, σ 14) k
def pk0 (σ : AIn) (p n : Nat) : AIn := va_up (va_up (va_up σ 8 (upd (σ 8) 0 (nI n))) 9 (fun j => if j < n then σ 3 (40 * p + j) else σ 9 j)) 10 (fun j => if j < n then σ 4 (40 * p + j) else σ 10 j)
def pk1 (σ : AIn) (s : PKT) : AIn := va_up (va_up (va_up (va_up σ 11 (upd (σ 11) 0 (nI s.1))) 12 s.2.2.2.1) 13 (upd (σ 13) 0 (nI s.2.1))) 14 s.2.2.2.2
noncomputable def pa_res (σ : AIn) (x : Int32) : Int32 := cif (inR x (np σ)) (nI (pks σ (nv x) (sz σ (nv x))).1) (-1)
noncomputable def pa_op (σ : AIn) (x : Int32) : AIn := cif (inR x (np σ)) (pk1 (pk0 σ (nv x) (sz σ (nv x))) (pks σ (nv x) (sz σ (nv x)))) σ
