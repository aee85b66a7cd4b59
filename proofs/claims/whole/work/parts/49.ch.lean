/-! choose: what it answers -/
def dg (v k : Nat) : Nat := v / un k % 17
def lnv (v : Nat) : Nat := if 0 < v % 17 then 4 else if 0 < v / 17 % 17 then 3 else 2
def wOk (v : Nat) : Prop := ∃ κ L, (2 ≤ L ∧ L ≤ 4) ∧ (∀ k, k < L → κ k ≤ 15) ∧ v = wn κ L
theorem wn_2 (κ : Nat → Nat) : wn κ 2 = 4913 * (κ 0 + 1) + 289 * (κ 1 + 1) := by show 0 + 4913 * (κ 0 + 1) + 289 * (κ 1 + 1) = _; omega
theorem wn_3 (κ : Nat → Nat) : wn κ 3 = 4913 * (κ 0 + 1) + 289 * (κ 1 + 1) + 17 * (κ 2 + 1) := by show 0 + 4913 * (κ 0 + 1) + 289 * (κ 1 + 1) + 17 * (κ 2 + 1) = _; omega
theorem wn_4 (κ : Nat → Nat) : wn κ 4 = 4913 * (κ 0 + 1) + 289 * (κ 1 + 1) + 17 * (κ 2 + 1) + (κ 3 + 1) := by show 0 + 4913 * (κ 0 + 1) + 289 * (κ 1 + 1) + 17 * (κ 2 + 1) + 1 * (κ 3 + 1) = _; omega
theorem dg_0 (v : Nat) : dg v 0 = v / 4913 % 17 := rfl
theorem dg_1 (v : Nat) : dg v 1 = v / 289 % 17 := rfl
theorem dg_2 (v : Nat) : dg v 2 = v / 17 % 17 := rfl
theorem dg_3 (v : Nat) : dg v 3 = v / 1 % 17 := rfl
theorem wn_dg {κ : Nat → Nat} {L : Nat} (hL : 2 ≤ L ∧ L ≤ 4) (h : ∀ k, k < L → κ k ≤ 15) : lnv (wn κ L) = L ∧ (∀ k, k < L → dg (wn κ L) k = κ k + 1) ∧ ∀ k, L ≤ k → k < 4 → dg (wn κ L) k = 0 := by
  have h0 := h 0 (by omega)
  have h1 := h 1 (by omega)
  have key : L = 2 ∨ L = 3 ∨ L = 4 := by omega
  rcases key with rfl | rfl | rfl
  · rw [wn_2]
    refine ⟨?_, fun k hk => ?_, fun k hk hk4 => ?_⟩
    · unfold lnv
      rw [if_neg (by omega), if_neg (by omega)]
    · have hk2 : k = 0 ∨ k = 1 := by omega
      rcases hk2 with rfl | rfl
      · rw [dg_0]; omega
      · rw [dg_1]; omega
    · have hk2 : k = 2 ∨ k = 3 := by omega
      rcases hk2 with rfl | rfl
      · rw [dg_2]; omega
      · rw [dg_3]; omega
  · have h2 := h 2 (by omega)
    rw [wn_3]
    refine ⟨?_, fun k hk => ?_, fun k hk hk4 => ?_⟩
    · unfold lnv
      rw [if_neg (by omega), if_pos (by omega)]
    · have hk2 : k = 0 ∨ k = 1 ∨ k = 2 := by omega
      rcases hk2 with rfl | rfl | rfl
      · rw [dg_0]; omega
      · rw [dg_1]; omega
      · rw [dg_2]; omega
    · have hk2 : k = 3 := by omega
      subst hk2
      rw [dg_3]; omega
  · have h2 := h 2 (by omega)
    have h3 := h 3 (by omega)
    rw [wn_4]
    refine ⟨?_, fun k hk => ?_, fun k hk hk4 => ?_⟩
    · unfold lnv
      rw [if_pos (by omega)]
    · have hk2 : k = 0 ∨ k = 1 ∨ k = 2 ∨ k = 3 := by omega
      rcases hk2 with rfl | rfl | rfl | rfl
      · rw [dg_0]; omega
      · rw [dg_1]; omega
      · rw [dg_2]; omega
      · rw [dg_3]; omega
    · omega
theorem wOk.lt {v : Nat} (h : wOk v) : v ≤ 83520 := by
  obtain ⟨κ, L, h1, h2, rfl⟩ := h
  exact wn_le h1.2 h2
theorem wOk.ln {v : Nat} (h : wOk v) : 2 ≤ lnv v ∧ lnv v ≤ 4 := by
  unfold lnv
  split
  · decide
  · split <;> decide
theorem wOk.dgB {v k : Nat} (h : wOk v) (hk : k < lnv v) : 1 ≤ dg v k ∧ dg v k ≤ 16 := by
  obtain ⟨κ, L, h1, h2, rfl⟩ := h
  obtain ⟨a, b, c⟩ := wn_dg h1 h2
  rw [a] at hk
  have := h2 k hk
  rw [b k hk]
  omega
theorem wOk.dg0 {v k : Nat} (h : wOk v) (hk : lnv v ≤ k) (hk4 : k < 4) : dg v k = 0 := by
  obtain ⟨κ, L, h1, h2, rfl⟩ := h
  obtain ⟨a, b, c⟩ := wn_dg h1 h2
  rw [a] at hk
  exact c k hk hk4
/-- the row that a number stands for -/
def rwF (v j : Nat) : Int32 := if j = 0 then nI (lnv v) else nI (dg v (j - 1) - 1)
def rw2 (v w j : Nat) : Int32 := if j < 5 then rwF v j else rwF w (j - 5)
def rwA (F : Nat → Int32) (r v : Nat) : Prop := F (5 * r) = nI (lnv v) ∧ ∀ k, k < lnv v → F (5 * r + 1 + k) = nI (dg v k - 1)
theorem rwA_F (v : Nat) : rwA (rwF v) 0 v := ⟨rfl, fun k _ => by
  show (if 0 + 1 + k = 0 then _ else nI (dg v (0 + 1 + k - 1) - 1)) = _
  rw [if_neg (by omega), show 0 + 1 + k - 1 = k by omega]⟩
theorem rwA_20 (v w : Nat) (h : lnv v ≤ 4) : rwA (rw2 v w) 0 v := ⟨rfl, fun k hk => by
  show (if 0 + 1 + k < 5 then rwF v (0 + 1 + k) else _) = _
  rw [if_pos (by omega)]
  exact (rwA_F v).2 k hk⟩
theorem rwA_21 (v w : Nat) : rwA (rw2 v w) 1 w := ⟨rfl, fun k hk => by
  show (if 5 + 1 + k < 5 then _ else rwF w (5 + 1 + k - 5)) = _
  rw [if_neg (by omega), show 5 + 1 + k - 5 = 0 + 1 + k by omega]
  exact (rwA_F w).2 k hk⟩
theorem rwA.ok {F : Nat → Int32} {r v : Nat} (h : rwA F r v) (hv : wOk v) : jOl F (5 * r) := by
  have h1 := hv.ln
  refine ⟨?_, trivial⟩
  rw [h.1]
  exact ⟨by rw [nv_nI (by omega)]; exact h1.1, isN_nI h1.2 (by decide)⟩
theorem trS_0 {a u : Nat} {s : Nat × Nat × (Nat → Int32)} (h : s.2.1 / u = 0) : trS a u s = (s.1, s.2.1 % u, s.2.2) := by
  unfold trS
  rw [h]
  exact if_neg (by decide)
theorem trS_1 {a u n l d : Nat} {G : Nat → Int32} (h : l / u = d + 1) : trS a u (n, l, G) = (n + 1, l % u, upd G (5 * a + (n + 1)) (nI d)) := by
  unfold trS
  have e : (n, l, G).2.1 / u = d + 1 := h
  rw [e]
  exact if_pos (by omega)
theorem tr_rw {a v : Nat} (hv : wOk v) (G : Nat → Int32) : rwA (upd (trR a v G).2.2 (5 * a) (nI (trR a v G).1)) a v ∧ ∀ j, j < 5 * a ∨ 5 * a + 5 ≤ j → upd (trR a v G).2.2 (5 * a) (nI (trR a v G).1) j = G j := by
  obtain ⟨κ, L, h1, h2, rfl⟩ := hv
  obtain ⟨e1, e2, e3⟩ := wn_dg h1 h2
  have h0 := h2 0 (by omega)
  have h01 := h2 1 (by omega)
  have key : L = 2 ∨ L = 3 ∨ L = 4 := by omega
  rcases key with rfl | rfl | rfl
  · have et : trR a (wn κ 2) G = (2, 0, upd (upd G (5 * a + 1) (nI (κ 0))) (5 * a + 2) (nI (κ 1))) := by
      unfold trR
      rw [wn_2]
      have t0 : trS a 4913 (0, 4913 * (κ 0 + 1) + 289 * (κ 1 + 1), G) = (1, 289 * (κ 1 + 1), (upd G (5 * a + 1) (nI (κ 0)))) := by
        rw [trS_1 (d := κ 0) (by omega)]
        exact Prod.ext rfl (Prod.ext (by first | rfl | (dsimp only; omega)) rfl)
      have t1 : trS a 289 (1, 289 * (κ 1 + 1), (upd G (5 * a + 1) (nI (κ 0)))) = (2, 0, (upd (upd G (5 * a + 1) (nI (κ 0))) (5 * a + 2) (nI (κ 1)))) := by
        rw [trS_1 (d := κ 1) (by omega)]
        exact Prod.ext rfl (Prod.ext (by first | rfl | (dsimp only; omega)) rfl)
      have t2 : trS a 17 (2, 0, (upd (upd G (5 * a + 1) (nI (κ 0))) (5 * a + 2) (nI (κ 1)))) = (2, 0, (upd (upd G (5 * a + 1) (nI (κ 0))) (5 * a + 2) (nI (κ 1)))) := by
        rw [trS_0 (show 0 / 17 = 0 by decide)]
        exact Prod.ext rfl (Prod.ext (by first | rfl | (dsimp only; omega)) rfl)
      have t3 : trS a 1 (2, 0, (upd (upd G (5 * a + 1) (nI (κ 0))) (5 * a + 2) (nI (κ 1)))) = (2, 0, (upd (upd G (5 * a + 1) (nI (κ 0))) (5 * a + 2) (nI (κ 1)))) := by
        rw [trS_0 (show 0 / 1 = 0 by decide)]
        exact Prod.ext rfl (Prod.ext (by first | rfl | (dsimp only; omega)) rfl)
      rw [t0, t1, t2, t3]
    rw [et]
    dsimp only
    refine ⟨⟨by rw [e1]; exact pk_us, fun k hk => ?_⟩, fun j hj => ?_⟩
    · rw [e1] at hk
      rw [e2 k hk, Nat.add_sub_cancel]
      have hk2 : k = 0 ∨ k = 1 := by omega
      rcases hk2 with rfl | rfl
      · rw [pk_un (by omega), pk_un (by omega)]; exact pk_us
      · rw [pk_un (by omega)]; exact pk_us
    · rw [pk_un (by omega), pk_un (by omega), pk_un (by omega)]
  · have h02 := h2 2 (by omega)
    have et : trR a (wn κ 3) G = (3, 0, upd (upd (upd G (5 * a + 1) (nI (κ 0))) (5 * a + 2) (nI (κ 1))) (5 * a + 3) (nI (κ 2))) := by
      unfold trR
      rw [wn_3]
      have t0 : trS a 4913 (0, 4913 * (κ 0 + 1) + 289 * (κ 1 + 1) + 17 * (κ 2 + 1), G) = (1, 289 * (κ 1 + 1) + 17 * (κ 2 + 1), (upd G (5 * a + 1) (nI (κ 0)))) := by
        rw [trS_1 (d := κ 0) (by omega)]
        exact Prod.ext rfl (Prod.ext (by first | rfl | (dsimp only; omega)) rfl)
      have t1 : trS a 289 (1, 289 * (κ 1 + 1) + 17 * (κ 2 + 1), (upd G (5 * a + 1) (nI (κ 0)))) = (2, 17 * (κ 2 + 1), (upd (upd G (5 * a + 1) (nI (κ 0))) (5 * a + 2) (nI (κ 1)))) := by
        rw [trS_1 (d := κ 1) (by omega)]
        exact Prod.ext rfl (Prod.ext (by first | rfl | (dsimp only; omega)) rfl)
      have t2 : trS a 17 (2, 17 * (κ 2 + 1), (upd (upd G (5 * a + 1) (nI (κ 0))) (5 * a + 2) (nI (κ 1)))) = (3, 0, (upd (upd (upd G (5 * a + 1) (nI (κ 0))) (5 * a + 2) (nI (κ 1))) (5 * a + 3) (nI (κ 2)))) := by
        rw [trS_1 (d := κ 2) (by omega)]
        exact Prod.ext rfl (Prod.ext (by first | rfl | (dsimp only; omega)) rfl)
      have t3 : trS a 1 (3, 0, (upd (upd (upd G (5 * a + 1) (nI (κ 0))) (5 * a + 2) (nI (κ 1))) (5 * a + 3) (nI (κ 2)))) = (3, 0, (upd (upd (upd G (5 * a + 1) (nI (κ 0))) (5 * a + 2) (nI (κ 1))) (5 * a + 3) (nI (κ 2)))) := by
        rw [trS_0 (show 0 / 1 = 0 by decide)]
        exact Prod.ext rfl (Prod.ext (by first | rfl | (dsimp only; omega)) rfl)
      rw [t0, t1, t2, t3]
    rw [et]
    dsimp only
    refine ⟨⟨by rw [e1]; exact pk_us, fun k hk => ?_⟩, fun j hj => ?_⟩
    · rw [e1] at hk
      rw [e2 k hk, Nat.add_sub_cancel]
      have hk2 : k = 0 ∨ k = 1 ∨ k = 2 := by omega
      rcases hk2 with rfl | rfl | rfl
      · rw [pk_un (by omega), pk_un (by omega), pk_un (by omega)]; exact pk_us
      · rw [pk_un (by omega), pk_un (by omega)]; exact pk_us
      · rw [pk_un (by omega)]; exact pk_us
    · rw [pk_un (by omega), pk_un (by omega), pk_un (by omega), pk_un (by omega)]
  · have h02 := h2 2 (by omega)
    have h03 := h2 3 (by omega)
    have et : trR a (wn κ 4) G = (4, 0, upd (upd (upd (upd G (5 * a + 1) (nI (κ 0))) (5 * a + 2) (nI (κ 1))) (5 * a + 3) (nI (κ 2))) (5 * a + 4) (nI (κ 3))) := by
      unfold trR
      rw [wn_4]
      have t0 : trS a 4913 (0, 4913 * (κ 0 + 1) + 289 * (κ 1 + 1) + 17 * (κ 2 + 1) + (κ 3 + 1), G) = (1, 289 * (κ 1 + 1) + 17 * (κ 2 + 1) + (κ 3 + 1), (upd G (5 * a + 1) (nI (κ 0)))) := by
        rw [trS_1 (d := κ 0) (by omega)]
        exact Prod.ext rfl (Prod.ext (by first | rfl | (dsimp only; omega)) rfl)
      have t1 : trS a 289 (1, 289 * (κ 1 + 1) + 17 * (κ 2 + 1) + (κ 3 + 1), (upd G (5 * a + 1) (nI (κ 0)))) = (2, 17 * (κ 2 + 1) + (κ 3 + 1), (upd (upd G (5 * a + 1) (nI (κ 0))) (5 * a + 2) (nI (κ 1)))) := by
        rw [trS_1 (d := κ 1) (by omega)]
        exact Prod.ext rfl (Prod.ext (by first | rfl | (dsimp only; omega)) rfl)
      have t2 : trS a 17 (2, 17 * (κ 2 + 1) + (κ 3 + 1), (upd (upd G (5 * a + 1) (nI (κ 0))) (5 * a + 2) (nI (κ 1)))) = (3, (κ 3 + 1), (upd (upd (upd G (5 * a + 1) (nI (κ 0))) (5 * a + 2) (nI (κ 1))) (5 * a + 3) (nI (κ 2)))) := by
        rw [trS_1 (d := κ 2) (by omega)]
        exact Prod.ext rfl (Prod.ext (by first | rfl | (dsimp only; omega)) rfl)
      have t3 : trS a 1 (3, (κ 3 + 1), (upd (upd (upd G (5 * a + 1) (nI (κ 0))) (5 * a + 2) (nI (κ 1))) (5 * a + 3) (nI (κ 2)))) = (4, 0, (upd (upd (upd (upd G (5 * a + 1) (nI (κ 0))) (5 * a + 2) (nI (κ 1))) (5 * a + 3) (nI (κ 2))) (5 * a + 4) (nI (κ 3)))) := by
        rw [trS_1 (d := κ 3) (by omega)]
        exact Prod.ext rfl (Prod.ext (by first | rfl | (dsimp only; omega)) rfl)
      rw [t0, t1, t2, t3]
    rw [et]
    dsimp only
    refine ⟨⟨by rw [e1]; exact pk_us, fun k hk => ?_⟩, fun j hj => ?_⟩
    · rw [e1] at hk
      rw [e2 k hk, Nat.add_sub_cancel]
      have hk2 : k = 0 ∨ k = 1 ∨ k = 2 ∨ k = 3 := by omega
      rcases hk2 with rfl | rfl | rfl | rfl
      · rw [pk_un (by omega), pk_un (by omega), pk_un (by omega), pk_un (by omega)]; exact pk_us
      · rw [pk_un (by omega), pk_un (by omega), pk_un (by omega)]; exact pk_us
      · rw [pk_un (by omega), pk_un (by omega)]; exact pk_us
      · rw [pk_un (by omega)]; exact pk_us
    · rw [pk_un (by omega), pk_un (by omega), pk_un (by omega), pk_un (by omega), pk_un (by omega)]
/-- of rows only their kinds count -/
theorem sdp_congr2 {σ : AIn} {F F' : Nat → Int32} {p q r : Nat} (h0 : F (5 * r) = F' (5 * r)) (h : ∀ k, k < nv (F (5 * r)) → F (5 * r + 1 + k) = F' (5 * r + 1 + k)) : sdp σ F p q r ↔ sdp σ F' p q r := by
  unfold sdp
  rw [← h0]
  constructor
  · rintro ⟨a, b⟩
    exact ⟨a, fun k hk => by rw [← h k hk]; exact b k hk⟩
  · rintro ⟨a, b⟩
    exact ⟨a, fun k hk => by rw [h k hk]; exact b k hk⟩
theorem lsp_congr2 {σ : AIn} {F F' : Nat → Int32} {m p : Nat} {way : Int32} (hF : rOk F m) (h0 : ∀ r, r < m → F (5 * r) = F' (5 * r)) (h : ∀ r, r < m → ∀ k, k < nv (F (5 * r)) → F (5 * r + 1 + k) = F' (5 * r + 1 + k)) : ∀ q, q ≤ sz σ p → lsp σ F m p way q = lsp σ F' m p way q := by
  have hl : ∀ r, r < m → rln F r = rln F' r := fun r hr2 => by unfold rln; rw [h0 r hr2]
  refine lst_one lst_end (fun q r hq hr2 hsd => ?_) (fun q hq => ?_)
  · have hsd2 := (sdp_congr2 (h0 r hr2) (h r hr2)).mpr hsd
    rw [← hl r hr2]
    exact sdp_in hF q r hq hr2 hsd2
  · unfold lsp
    rw [lst_eq hq (fun r hr2 hsd => sdp_in hF q r hq hr2 hsd)]
    congr 1
    exact bstR_congr (fun r hr2 => sdp_congr2 (h0 r hr2) (h r hr2)) (fun r hr2 _ => ⟨hl r hr2, rfl⟩) rfl
noncomputable def cs (σ : AIn) (way : Int32) (F : Nat → Int32) (m : Nat) : Nat := csum (fun p => lsp σ F m p way 0) (np σ)
theorem cs_congr {σ : AIn} {way : Int32} {F F' : Nat → Int32} {m : Nat} (hF : rOk F m) (h0 : ∀ r, r < m → F (5 * r) = F' (5 * r)) (h : ∀ r, r < m → ∀ k, k < nv (F (5 * r)) → F (5 * r + 1 + k) = F' (5 * r + 1 + k)) : cs σ way F m = cs σ way F' m :=
  csum_congr (fun _ _ => lsp_congr2 hF h0 h 0 (Nat.zero_le _))
noncomputable def pl (σ : AIn) (way : Int32) : Nat := cs σ way (fun _ => 0) 0
theorem rOk_0 (F : Nat → Int32) : rOk F 0 := ⟨by decide, fun r hr => absurd hr (Nat.not_lt_zero r)⟩
theorem cs_0 {σ : AIn} {way : Int32} (F : Nat → Int32) : cs σ way F 0 = pl σ way :=
  cs_congr (rOk_0 F) (fun r hr => absurd hr (Nat.not_lt_zero r)) (fun r hr => absurd hr (Nat.not_lt_zero r))
theorem lst_pl {n : Nat} {w : Nat → Nat} {sd sd' : Nat → Nat → Prop} {ln ln' : Nat → Nat} {m : Nat} (hs : ∀ q r, q < n → r < m → sd q r → 1 ≤ ln r ∧ q + ln r ≤ n) : ∀ i q, q + i = n → lst n w sd ln m q ≤ lst n w sd' ln' 0 q
  | 0, q, h => by
    have e : q = n := by omega
    rw [e, lst_end]
    exact Nat.zero_le _
  | i + 1, q, h => by
    have ih := lst_pl (w := w) (sd' := sd') (ln' := ln') (m := m) hs i (q + 1) (by omega)
    rw [lst_eq (by omega) (fun r hr hsd => hs q r (by omega) hr hsd), lst_eq (m := 0) (by omega) (fun r hr hsd => absurd hr (Nat.not_lt_zero r))]
    have h1 := bstR_le (sd := sd) (ln := ln) (T := lst n w sd ln m) (q := q) m
    have h2 : bstR sd' ln' (lst n w sd' ln' 0) q 0 = lst n w sd' ln' 0 (q + 1) := rfl
    rw [h2]
    omega
theorem csum_mono {f g : Nat → Nat} : ∀ {n : Nat}, (∀ k, k < n → f k ≤ g k) → csum f n ≤ csum g n
  | 0, _ => Nat.le_refl _
  | n + 1, h => by
    have ih := csum_mono (n := n) (fun k hk => h k (by omega))
    have h1 := h n (by omega)
    show csum f n + f n ≤ csum g n + g n
    omega
theorem cs_pl {σ : AIn} {way : Int32} {F : Nat → Int32} {m : Nat} (hF : rOk F m) : cs σ way F m ≤ pl σ way :=
  csum_mono (fun p _ => by
    unfold lsp
    exact lst_pl (sdp_in hF) (sz σ p) 0 (Nat.zero_add _))
theorem cs_le {σ : AIn} (h : iP σ) {way : Int32} {F : Nat → Int32} {m : Nat} (hF : rOk F m) : cs σ way F m ≤ 2400000 := by
  have b := h.np.2
  have h1 := csum_le (f := fun p => lsp σ F m p way 0) (W := 800000) (n := np σ) (fun k hk => lsp_le h hF (by omega) way (Nat.zero_le _))
  unfold cs
  have h2 : np σ * 800000 ≤ 3 * 800000 := Nat.mul_le_mul_right _ b
  omega
noncomputable def gn (σ : AIn) (way : Int32) (v : Nat) : Nat := cif (win σ v) (pl σ way - cs σ way (rwF v) 1) 0
noncomputable def g2 (σ : AIn) (way : Int32) (v w : Nat) : Nat := pl σ way - cs σ way (rw2 v w) 2
/-! the search: first single rows, then two; only what is better counts -/
def fo {α : Type} (f : α → Nat → α) (s : α) : Nat → α
  | 0 => s
  | n + 1 => f (fo f s n) n
abbrev CS := Nat × Nat × Nat × Nat
def sg1 (gn : Nat → Nat) (s : CS) (v : Nat) : CS := if s.1 < gn v then (gn v, 1, v, 0) else s
def sg2 (gn : Nat → Nat) (g2 : Nat → Nat → Nat) (v : Nat) (s : CS) (w : Nat) : CS := if v < w ∧ s.1 < gn v + gn w ∧ s.1 < g2 v w then (g2 v w, 2, v, w) else s
def sch (gn : Nat → Nat) (g2 : Nat → Nat → Nat) (N : Nat) (k : Nat) : CS := if k = 1 then fo (sg1 gn) (0, 0, 0, 0) N else fo (fun s v => fo (sg2 gn g2 v) s N) (fo (sg1 gn) (0, 0, 0, 0) N) N
theorem fo_inv {α : Type} {f : α → Nat → α} {Q : α → Prop} (h : ∀ s u, Q s → Q (f s u)) {s : α} (hs : Q s) : ∀ n, Q (fo f s n)
  | 0 => hs
  | n + 1 => h _ _ (fo_inv h hs n)
/-- steps that do nothing may be left out -/
theorem fo_enum {α : Type} {f : α → Nat → α} {Q : α → Prop} (hQ : ∀ s u, Q s → Q (f s u)) {s : α} (hs : Q s) {e : Nat → Nat} {n : Nat} (hinc : ∀ i j, i < j → j < n → e i < e j) (hid : ∀ s u, Q s → (∀ i, i < n → e i ≠ u) → f s u = s) : ∀ b j, j ≤ n → (∀ i, i < j → e i < b) → (∀ i, j ≤ i → i < n → b ≤ e i) → fo f s b = fo (fun s i => f s (e i)) s j
  | 0, j, _, h1, _ => by
    have e0 : j = 0 := by
      rcases Nat.eq_zero_or_pos j with h | h
      · exact h
      · exact absurd (h1 0 h) (Nat.not_lt_zero _)
    rw [e0]
    rfl
  | b + 1, j, hj, h1, h2 => by
    by_cases hc : ∃ i, i < n ∧ e i = b
    · obtain ⟨i, hi, rfl⟩ := hc
      have hij : i < j := by
        rcases Nat.lt_or_ge i j with g | g
        · exact g
        · have := h2 i g hi; omega
      have ej : j = i + 1 := by
        rcases Nat.lt_or_ge (i + 1) j with g | g
        · have h3 := hinc i (i + 1) (Nat.lt_succ_self i) (by omega)
          have h4 := h1 (i + 1) g
          omega
        · omega
      subst ej
      have ih := fo_enum hQ hs hinc hid (e i) i (by omega) (fun k hk => hinc k i hk hi) (fun k h3 h4 => by
        rcases Nat.lt_or_ge i k with g | g
        · have := hinc i k g h4; omega
        · have e1 : k = i := by omega
          subst e1; exact Nat.le_refl _)
      show f (fo f s (e i)) (e i) = f (fo (fun s i => f s (e i)) s i) (e i)
      rw [ih]
    · have ih := fo_enum hQ hs hinc hid b j hj (fun i hi => by
        have h3 := h1 i hi
        have h4 : e i ≠ b := fun h => hc ⟨i, by omega, h⟩
        omega) (fun i h3 h4 => by have := h2 i h3 h4; omega)
      show f (fo f s b) b = _
      rw [hid _ _ (fo_inv hQ hs b) (fun i hi h => hc ⟨i, hi, h⟩), ih]
theorem fo_all {α : Type} {f : α → Nat → α} {Q : α → Prop} (hQ : ∀ s u, Q s → Q (f s u)) {s : α} (hs : Q s) {e : Nat → Nat} {n N : Nat} (hinc : ∀ i j, i < j → j < n → e i < e j) (hN : ∀ i, i < n → e i < N) (hid : ∀ s u, Q s → (∀ i, i < n → e i ≠ u) → f s u = s) : fo f s N = fo (fun s i => f s (e i)) s n :=
  fo_enum hQ hs hinc hid N n (Nat.le_refl _) hN (fun i h1 h2 => by omega)
theorem fo_congr {α : Type} {f g : α → Nat → α} {Q : α → Prop} (hQ : ∀ s u, Q s → Q (f s u)) : ∀ {n : Nat} {s : α}, Q s → (∀ s i, Q s → i < n → f s i = g s i) → fo f s n = fo g s n
  | 0, _, _, _ => rfl
  | n + 1, s, hs, h => by
    have ih := fo_congr hQ (n := n) hs (fun s i h1 h2 => h s i h1 (by omega))
    show f (fo f s n) n = g (fo g s n) n
    rw [← ih]
    exact h _ _ (fo_inv hQ hs n) (by omega)
/-- the search over numbers that hold all that saves something -/
def sgQ (gn : Nat → Nat) (s : CS) : Prop := ∀ u, gn u ≤ s.1
theorem sg1_le (gn : Nat → Nat) (s : CS) (v : Nat) : s.1 ≤ (sg1 gn s v).1 ∧ gn v ≤ (sg1 gn s v).1 := by
  unfold sg1
  split
  · rename_i h
    exact ⟨Nat.le_of_lt h, Nat.le_refl _⟩
  · rename_i h
    exact ⟨Nat.le_refl _, by omega⟩
theorem sg2_le (gn : Nat → Nat) (g2 : Nat → Nat → Nat) (v : Nat) (s : CS) (w : Nat) : s.1 ≤ (sg2 gn g2 v s w).1 := by
  unfold sg2
  split
  · rename_i h
    exact Nat.le_of_lt h.2.2
  · exact Nat.le_refl _
theorem sg2_Q {gn : Nat → Nat} {g2 : Nat → Nat → Nat} {v : Nat} (s : CS) (w : Nat) (h : sgQ gn s) : sgQ gn (sg2 gn g2 v s w) := fun u => Nat.le_trans (h u) (sg2_le gn g2 v s w)
theorem fo1_ge (gn : Nat → Nat) (s : CS) : ∀ n v, v < n → gn v ≤ (fo (sg1 gn) s n).1
  | 0, v, h => absurd h (Nat.not_lt_zero v)
  | n + 1, v, h => by
    show gn v ≤ (sg1 gn (fo (sg1 gn) s n) n).1
    obtain ⟨h1, h2⟩ := sg1_le gn (fo (sg1 gn) s n) n
    rcases Nat.lt_or_ge v n with g | g
    · exact Nat.le_trans (fo1_ge gn s n v g) h1
    · have e : v = n := by omega
      subst e
      exact h2
theorem sch_enum {gn : Nat → Nat} {g2 : Nat → Nat → Nat} {N : Nat} {e : Nat → Nat} {n k : Nat} (hinc : ∀ i j, i < j → j < n → e i < e j) (hN : ∀ i, i < n → e i < N) (h0 : ∀ u, (∀ i, i < n → e i ≠ u) → gn u = 0) (hz : ∀ u, N ≤ u → gn u = 0) :
    sch gn g2 N k = if k = 1 then fo (fun s i => sg1 gn s (e i)) (0, 0, 0, 0) n else fo (fun s i => fo (fun s j => sg2 gn g2 (e i) s (e j)) s n) (fo (fun s i => sg1 gn s (e i)) (0, 0, 0, 0) n) n := by
  have e1 : fo (sg1 gn) (0, 0, 0, 0) N = fo (fun s i => sg1 gn s (e i)) (0, 0, 0, 0) n := fo_all (Q := fun _ => True) (fun _ _ _ => trivial) trivial hinc hN (fun s u _ hu => by
    unfold sg1
    rw [h0 u hu]
    exact if_neg (Nat.not_lt_zero _))
  have hQ : sgQ gn (fo (sg1 gn) (0, 0, 0, 0) N) := fun u => by
    rcases Nat.lt_or_ge u N with g | g
    · exact fo1_ge gn _ N u g
    · rw [hz u g]; exact Nat.zero_le _
  have hin : ∀ v s, sgQ gn s → fo (sg2 gn g2 v) s N = fo (fun s j => sg2 gn g2 v s (e j)) s n := fun v s hs => fo_all (Q := sgQ gn) (fun s u h => sg2_Q s u h) hs hinc hN (fun s u hs hu => by
    unfold sg2
    rw [h0 u hu]
    exact if_neg (fun h => by have := hs v; omega))
  unfold sch
  rw [← e1]
  by_cases hk : k = 1
  · rw [if_pos hk, if_pos hk]
  · rw [if_neg hk, if_neg hk]
    have hQ2 : ∀ (s : CS) (v : Nat), sgQ gn s → sgQ gn (fo (sg2 gn g2 v) s N) := fun s v hs => fo_inv (Q := sgQ gn) (fun s u h => sg2_Q s u h) hs N
    have e2 := fo_all (f := fun s v => fo (sg2 gn g2 v) s N) (Q := sgQ gn) hQ2 hQ hinc hN (fun s u hs hu => by
      have h4 : ∀ m, fo (sg2 gn g2 u) s m = s := fun m => by
        induction m with
        | zero => rfl
        | succ m ih =>
          show sg2 gn g2 u (fo (sg2 gn g2 u) s m) m = s
          rw [ih]
          unfold sg2
          rw [h0 u hu]
          exact if_neg (fun h => by have := hs m; omega)
      exact h4 N)
    rw [e2]
    exact fo_congr (Q := sgQ gn) (fun s i hs => hQ2 s (e i) hs) hQ (fun s i hs _ => hin (e i) s hs)
noncomputable def chS (σ : AIn) (k way : Int32) : CS := sch (gn σ way) (g2 σ way) 83521 (nv k)
noncomputable def ch_ans (σ : AIn) (k b : Int32) : Int32 := cif (k = nI 1 ∨ k = nI 2) (nI (pl σ (if b = 0 then nI 0 else nI 1) - (chS σ k (if b = 0 then nI 0 else nI 1)).1)) (-1)
def ch_row (σ : AIn) (s : CS) : AIn := va_up (va_up σ 24 (upd (σ 24) 0 (nI s.2.1))) 25 (fun j => if j < 5 * s.2.1 then rw2 s.2.2.1 s.2.2.2 j else σ 25 j)
noncomputable def ch_op (σ : AIn) (k b : Int32) : AIn := cif (k = nI 1 ∨ k = nI 2) (ch_row σ (chS σ k (if b = 0 then nI 0 else nI 1))) σ
theorem win_ok {σ : AIn} (h : iP σ) {v : Nat} (hv : win σ v) : wOk v := by
  obtain ⟨p, q, L, h1, h2, h3⟩ := hv
  refine ⟨kd σ p q, L, h2.1, fun k hk => ?_, h3⟩
  have b := h.np.2
  have h4 := h2.2.1
  have h5 := (h.2.2.1 p (q + k) (by omega) (by omega)).1.2
  rw [← Nat.add_assoc] at h5
  exact h5
theorem gn_0 {σ : AIn} {way : Int32} {v : Nat} (h : ¬ win σ v) : gn σ way v = 0 := cif_f h
