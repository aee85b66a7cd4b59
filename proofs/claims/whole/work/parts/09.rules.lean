/-! rules over ints that are numbers; answers of calls -/
theorem kc_m1 : Int32.ofInt (-1) = (-1) := by decide
theorem kc_0 : Int32.ofInt 0 = nI 0 := by decide
theorem kc_1 : Int32.ofInt 1 = nI 1 := by decide
theorem kc_2 : Int32.ofInt 2 = nI 2 := by decide
theorem kc_3 : Int32.ofInt 3 = nI 3 := by decide
theorem kc_4 : Int32.ofInt 4 = nI 4 := by decide
theorem kc_5 : Int32.ofInt 5 = nI 5 := by decide
def po_i (f : Int32 → ASh → AIn → APt → Prop) : APo := fun r sh I P => ∃ v, r = some v ∧ f v sh I P
def po_v (f : ASh → AIn → APt → Prop) : APo := fun r sh I P => r = none ∧ f sh I P
section AMN
variable {mi : MI} {post : APo} {fr lo c0 s0 pc : Nat} {lv : List (Option Value)} {st : List Value} {sh : ASh} {I : AIn} {P : APt}
theorem am_ki {f : Int32 → ASh → AIn → APt → Prop} {fr lo c0 s0 pc : Nat} (k : ∀ v sh' I' P', f v sh' I' P' → am_R mi post fr lo c0 s0 pc lv (.int v :: st) sh' I' P') : ∀ r sh' I' P', po_i f r sh' I' P' → am_R mi post fr lo c0 s0 pc lv ((r.map Value.int).toList ++ st) sh' I' P' := by
  rintro r sh' I' P' ⟨v, rfl, h⟩
  exact k v sh' I' P' h
theorem am_kv {f : ASh → AIn → APt → Prop} {fr lo c0 s0 pc : Nat} (k : ∀ sh' I' P', f sh' I' P' → am_R mi post fr lo c0 s0 pc lv st sh' I' P') : ∀ r sh' I' P', po_v f r sh' I' P' → am_R mi post fr lo c0 s0 pc lv ((r.map Value.int).toList ++ st) sh' I' P' := by
  rintro r sh' I' P' ⟨rfl, h⟩
  exact k sh' I' P' h
theorem am_mono {post' : APo} (h : am_R mi post fr lo c0 s0 pc lv st sh I P) (hp : ∀ r sh' I' P', post r sh' I' P' → post' r sh' I' P') : am_R mi post' fr lo c0 s0 pc lv st sh I P := by
  intro l p e R s m args below meth c D t A sh0 ad0 ad mc ms H locs cells slots ls C hc hs X T hT XS
  obtain ⟨u, h1, o, h2, h3, ⟨⟨r, ad', sh', I', P', g1, g2, g3⟩, g4⟩, h5⟩ := h l p e R s m args below meth c D t A sh0 ad0 ad mc ms H locs cells slots ls C hc hs X T hT XS
  exact ⟨u, h1, o, h2, h3, ⟨⟨r, ad', sh', I', P', g1, hp r sh' I' P' g2, g3⟩, g4⟩, h5⟩
theorem r_iaddN {a b : Nat} (d : decode mi.2.1 pc = .ok (.iadd, 1)) (k : am_R mi post fr lo c0 s0 (pc + 1) lv (.int (nI (a + b)) :: st) sh I P) : am_R mi post fr lo c0 s0 pc lv (.int (nI b) :: .int (nI a) :: st) sh I P := r_iadd d (by rw [nI_add]; exact k)
theorem r_imulN {a b : Nat} (d : decode mi.2.1 pc = .ok (.imul, 1)) (k : am_R mi post fr lo c0 s0 (pc + 1) lv (.int (nI (a * b)) :: st) sh I P) : am_R mi post fr lo c0 s0 pc lv (.int (nI b) :: .int (nI a) :: st) sh I P := r_imul d (by rw [pk_mul]; exact k)
theorem r_isubN {a b : Nat} (d : decode mi.2.1 pc = .ok (.isub, 1)) (h : b ≤ a) (k : am_R mi post fr lo c0 s0 (pc + 1) lv (.int (nI (a - b)) :: st) sh I P) : am_R mi post fr lo c0 s0 pc lv (.int (nI b) :: .int (nI a) :: st) sh I P := r_isub d (by rw [pk_sub h]; exact k)
theorem r_iincN {j a : Nat} {n : Int} (d : decode mi.2.1 pc = .ok (.iinc j n, 3)) (h : lv[j]? = some (some (.int (nI a)))) (hn : Int32.ofInt n = nI 1) (k : am_R mi post fr lo c0 s0 (pc + 3) (lv.set j (some (.int (nI (a + 1))))) st sh I P) : am_R mi post fr lo c0 s0 pc lv st sh I P := r_iinc d h (by rw [hn, nI_add]) k
theorem r_iincM {j a : Nat} {n : Int} (d : decode mi.2.1 pc = .ok (.iinc j n, 3)) (h : lv[j]? = some (some (.int (nI (a + 1))))) (hn : Int32.ofInt n = -1) (k : am_R mi post fr lo c0 s0 (pc + 3) (lv.set j (some (.int (nI a)))) st sh I P) : am_R mi post fr lo c0 s0 pc lv st sh I P := r_iinc d h (by rw [hn]; exact pk_m1 a) k
theorem r_icmp_eqN {a b : Nat} {off : Int} (tgt : Nat) (d : decode mi.2.1 pc = .ok (.if_icmp .eq off, 3)) (ht : (pc : Int) + off = (tgt : Int)) (ha : a < 2147483648) (hb : b < 2147483648) (k1 : a = b → am_R mi post fr lo c0 s0 tgt lv st sh I P) (k2 : ¬ a = b → am_R mi post fr lo c0 s0 (pc + 3) lv st sh I P) : am_R mi post fr lo c0 s0 pc lv (.int (nI b) :: .int (nI a) :: st) sh I P :=
  r_icmp_eq tgt d ht (fun h => k1 ((nI_eq ha hb).mp h)) (fun h => k2 (fun e => h ((nI_eq ha hb).mpr e)))
theorem r_icmp_neN {a b : Nat} {off : Int} (tgt : Nat) (d : decode mi.2.1 pc = .ok (.if_icmp .ne off, 3)) (ht : (pc : Int) + off = (tgt : Int)) (ha : a < 2147483648) (hb : b < 2147483648) (k1 : ¬ a = b → am_R mi post fr lo c0 s0 tgt lv st sh I P) (k2 : a = b → am_R mi post fr lo c0 s0 (pc + 3) lv st sh I P) : am_R mi post fr lo c0 s0 pc lv (.int (nI b) :: .int (nI a) :: st) sh I P :=
  r_icmp_ne tgt d ht (fun h => k1 (fun e => h ((nI_eq ha hb).mpr e))) (fun h => k2 ((nI_eq ha hb).mp h))
theorem r_icmp_ltN {a b : Nat} {off : Int} (tgt : Nat) (d : decode mi.2.1 pc = .ok (.if_icmp .lt off, 3)) (ht : (pc : Int) + off = (tgt : Int)) (ha : a < 2147483648) (hb : b < 2147483648) (k1 : a < b → am_R mi post fr lo c0 s0 tgt lv st sh I P) (k2 : ¬ a < b → am_R mi post fr lo c0 s0 (pc + 3) lv st sh I P) : am_R mi post fr lo c0 s0 pc lv (.int (nI b) :: .int (nI a) :: st) sh I P :=
  r_icmp_lt tgt d ht (fun h => k1 ((nI_ltI ha hb).mp h)) (fun h => k2 (fun e => h ((nI_ltI ha hb).mpr e)))
theorem r_icmp_geN {a b : Nat} {off : Int} (tgt : Nat) (d : decode mi.2.1 pc = .ok (.if_icmp .ge off, 3)) (ht : (pc : Int) + off = (tgt : Int)) (ha : a < 2147483648) (hb : b < 2147483648) (k1 : b ≤ a → am_R mi post fr lo c0 s0 tgt lv st sh I P) (k2 : ¬ b ≤ a → am_R mi post fr lo c0 s0 (pc + 3) lv st sh I P) : am_R mi post fr lo c0 s0 pc lv (.int (nI b) :: .int (nI a) :: st) sh I P :=
  r_icmp_ge tgt d ht (fun h => k1 ((nI_leI hb ha).mp h)) (fun h => k2 (fun e => h ((nI_leI hb ha).mpr e)))
theorem r_icmp_gtN {a b : Nat} {off : Int} (tgt : Nat) (d : decode mi.2.1 pc = .ok (.if_icmp .gt off, 3)) (ht : (pc : Int) + off = (tgt : Int)) (ha : a < 2147483648) (hb : b < 2147483648) (k1 : b < a → am_R mi post fr lo c0 s0 tgt lv st sh I P) (k2 : ¬ b < a → am_R mi post fr lo c0 s0 (pc + 3) lv st sh I P) : am_R mi post fr lo c0 s0 pc lv (.int (nI b) :: .int (nI a) :: st) sh I P :=
  r_icmp_gt tgt d ht (fun h => k1 ((nI_ltI hb ha).mp h)) (fun h => k2 (fun e => h ((nI_ltI hb ha).mpr e)))
theorem r_icmp_leN {a b : Nat} {off : Int} (tgt : Nat) (d : decode mi.2.1 pc = .ok (.if_icmp .le off, 3)) (ht : (pc : Int) + off = (tgt : Int)) (ha : a < 2147483648) (hb : b < 2147483648) (k1 : a ≤ b → am_R mi post fr lo c0 s0 tgt lv st sh I P) (k2 : ¬ a ≤ b → am_R mi post fr lo c0 s0 (pc + 3) lv st sh I P) : am_R mi post fr lo c0 s0 pc lv (.int (nI b) :: .int (nI a) :: st) sh I P :=
  r_icmp_le tgt d ht (fun h => k1 ((nI_leI ha hb).mp h)) (fun h => k2 (fun e => h ((nI_leI ha hb).mpr e)))
theorem r_if_eqN {a : Nat} {off : Int} (tgt : Nat) (d : decode mi.2.1 pc = .ok (.ifCond .eq off, 3)) (ht : (pc : Int) + off = (tgt : Int)) (ha : a < 2147483648) (k1 : a = 0 → am_R mi post fr lo c0 s0 tgt lv st sh I P) (k2 : ¬ a = 0 → am_R mi post fr lo c0 s0 (pc + 3) lv st sh I P) : am_R mi post fr lo c0 s0 pc lv (.int (nI a) :: st) sh I P :=
  r_if_eq tgt d ht (fun h => k1 ((nI_eq ha (show (0 : Nat) < 2147483648 by decide)).mp h)) (fun h => k2 (fun e => h ((nI_eq ha (show (0 : Nat) < 2147483648 by decide)).mpr e)))
theorem r_if_neN {a : Nat} {off : Int} (tgt : Nat) (d : decode mi.2.1 pc = .ok (.ifCond .ne off, 3)) (ht : (pc : Int) + off = (tgt : Int)) (ha : a < 2147483648) (k1 : ¬ a = 0 → am_R mi post fr lo c0 s0 tgt lv st sh I P) (k2 : a = 0 → am_R mi post fr lo c0 s0 (pc + 3) lv st sh I P) : am_R mi post fr lo c0 s0 pc lv (.int (nI a) :: st) sh I P :=
  r_if_ne tgt d ht (fun h => k1 (fun e => h ((nI_eq ha (show (0 : Nat) < 2147483648 by decide)).mpr e))) (fun h => k2 ((nI_eq ha (show (0 : Nat) < 2147483648 by decide)).mp h))
theorem r_if_ltN {a : Nat} {off : Int} (tgt : Nat) (d : decode mi.2.1 pc = .ok (.ifCond .lt off, 3)) (ht : (pc : Int) + off = (tgt : Int)) (ha : a < 2147483648) (k1 : a < 0 → am_R mi post fr lo c0 s0 tgt lv st sh I P) (k2 : ¬ a < 0 → am_R mi post fr lo c0 s0 (pc + 3) lv st sh I P) : am_R mi post fr lo c0 s0 pc lv (.int (nI a) :: st) sh I P :=
  r_if_lt tgt d ht (fun h => k1 ((nI_ltI ha (show (0 : Nat) < 2147483648 by decide)).mp h)) (fun h => k2 (fun e => h ((nI_ltI ha (show (0 : Nat) < 2147483648 by decide)).mpr e)))
theorem r_if_geN {a : Nat} {off : Int} (tgt : Nat) (d : decode mi.2.1 pc = .ok (.ifCond .ge off, 3)) (ht : (pc : Int) + off = (tgt : Int)) (ha : a < 2147483648) (k1 : 0 ≤ a → am_R mi post fr lo c0 s0 tgt lv st sh I P) (k2 : ¬ 0 ≤ a → am_R mi post fr lo c0 s0 (pc + 3) lv st sh I P) : am_R mi post fr lo c0 s0 pc lv (.int (nI a) :: st) sh I P :=
  r_if_ge tgt d ht (fun h => k1 ((nI_leI (show (0 : Nat) < 2147483648 by decide) ha).mp h)) (fun h => k2 (fun e => h ((nI_leI (show (0 : Nat) < 2147483648 by decide) ha).mpr e)))
theorem r_if_gtN {a : Nat} {off : Int} (tgt : Nat) (d : decode mi.2.1 pc = .ok (.ifCond .gt off, 3)) (ht : (pc : Int) + off = (tgt : Int)) (ha : a < 2147483648) (k1 : 0 < a → am_R mi post fr lo c0 s0 tgt lv st sh I P) (k2 : ¬ 0 < a → am_R mi post fr lo c0 s0 (pc + 3) lv st sh I P) : am_R mi post fr lo c0 s0 pc lv (.int (nI a) :: st) sh I P :=
  r_if_gt tgt d ht (fun h => k1 ((nI_ltI (show (0 : Nat) < 2147483648 by decide) ha).mp h)) (fun h => k2 (fun e => h ((nI_ltI (show (0 : Nat) < 2147483648 by decide) ha).mpr e)))
theorem r_if_leN {a : Nat} {off : Int} (tgt : Nat) (d : decode mi.2.1 pc = .ok (.ifCond .le off, 3)) (ht : (pc : Int) + off = (tgt : Int)) (ha : a < 2147483648) (k1 : a ≤ 0 → am_R mi post fr lo c0 s0 tgt lv st sh I P) (k2 : ¬ a ≤ 0 → am_R mi post fr lo c0 s0 (pc + 3) lv st sh I P) : am_R mi post fr lo c0 s0 pc lv (.int (nI a) :: st) sh I P :=
  r_if_le tgt d ht (fun h => k1 ((nI_leI ha (show (0 : Nat) < 2147483648 by decide)).mp h)) (fun h => k2 (fun e => h ((nI_leI ha (show (0 : Nat) < 2147483648 by decide)).mpr e)))
end AMN
/-! the fixed shape: the reference at 0 .. 47, the system at 60 .. 137 -/
def sh_m : Nat → Option (Nat × Nat) := fun k => match k with
  | 0 => some (1, 9)
  | 1 => some (2, 4)
  | 2 => some (2, 12)
  | 3 => some (2, 480)
  | 4 => some (2, 480)
  | 5 => some (2, 480)
  | 6 => some (2, 4)
  | 7 => some (2, 120)
  | 8 => some (2, 4)
  | 9 => some (2, 160)
  | 10 => some (2, 160)
  | 11 => some (2, 4)
  | 12 => some (2, 480)
  | 13 => some (2, 4)
  | 14 => some (2, 320)
  | 15 => some (2, 4)
  | 16 => some (2, 4)
  | 17 => some (2, 4)
  | 18 => some (2, 4)
  | 19 => some (2, 4)
  | 20 => some (2, 96)
  | 21 => some (2, 4)
  | 22 => some (2, 160)
  | 23 => some (2, 32)
  | 24 => some (2, 4)
  | 25 => some (2, 60)
  | 26 => some (2, 4)
  | 27 => some (2, 640)
  | 29 => some (2, 30)
  | 30 => some (3, 41)
  | 31 => some (2, 41)
  | 32 => some (2, 40)
  | 33 => some (2, 40)
  | 34 => some (2, 40)
  | 35 => some (3, 41)
  | 36 => some (2, 360)
  | 37 => some (2, 360)
  | 41 => some (2, 2)
  | 42 => some (2, 2)
  | 43 => some (2, 40)
  | 44 => some (2, 40)
  | 47 => some (3, 3)
  | _ => none
def pt_m : Nat → Nat → Option Nat := fun k f => match k with
  | 0 => (match f with | 1 => some 1 | 2 => some 2 | 3 => some 3 | 4 => some 4 | 5 => some 5 | 6 => some 6 | 7 => some 7 | 8 => some 8 | 9 => some 9 | 10 => some 10 | 11 => some 11 | 12 => some 12 | 13 => some 13 | 14 => some 14 | 15 => some 15 | 16 => some 16 | 17 => some 17 | 18 => some 18 | 19 => some 19 | 20 => some 20 | 21 => some 21 | 22 => some 22 | 23 => some 23 | 24 => some 24 | 25 => some 25 | 26 => some 26 | 27 => some 27 | 29 => some 29 | 30 => some 30 | 31 => some 31 | 32 => some 32 | 33 => some 33 | 34 => some 34 | 35 => some 35 | 36 => some 36 | 37 => some 37 | 41 => some 41 | 42 => some 42 | 43 => some 43 | 44 => some 44 | 47 => some 47 | _ => none)
  | _ => none
def sh_c : Nat → Option (Nat × Nat) := fun k => match k with
  | 60 => some (1, 8)
  | 61 => some (5, 3)
  | 62 => some (1, 7)
  | 63 => some (2, 40)
  | 64 => some (2, 40)
  | 65 => some (2, 41)
  | 66 => some (1, 0)
  | 67 => some (2, 360)
  | 68 => some (2, 360)
  | 69 => some (2, 360)
  | 70 => some (2, 361)
  | 71 => some (2, 360)
  | 72 => some (2, 360)
  | 73 => some (2, 360)
  | 74 => some (2, 360)
  | 75 => some (2, 360)
  | 76 => some (2, 360)
  | 100 => some (1, 5)
  | 101 => some (4, 3)
  | 102 => some (1, 2)
  | 103 => some (2, 40)
  | 104 => some (2, 40)
  | 105 => some (2, 40)
  | 106 => some (2, 40)
  | 107 => some (1, 2)
  | 108 => some (2, 40)
  | 109 => some (2, 40)
  | 110 => some (2, 40)
  | 111 => some (2, 40)
  | 112 => some (1, 2)
  | 113 => some (2, 40)
  | 114 => some (2, 40)
  | 115 => some (2, 40)
  | 116 => some (2, 40)
  | 117 => some (1, 3)
  | 118 => some (2, 6)
  | 119 => some (1, 1)
  | 120 => some (1, 2)
  | 121 => some (2, 40)
  | 122 => some (2, 40)
  | 123 => some (2, 40)
  | 124 => some (2, 40)
  | 125 => some (2, 40)
  | 126 => some (2, 40)
  | 127 => some (2, 40)
  | 128 => some (2, 80)
  | 129 => some (2, 40)
  | 130 => some (1, 4)
  | 131 => some (2, 24)
  | 132 => some (2, 40)
  | 133 => some (2, 8)
  | 134 => some (1, 3)
  | 135 => some (2, 6)
  | 136 => some (1, 6)
  | 137 => some (2, 160)
  | _ => none
def pt_c : Nat → Nat → Option Nat := fun k f => match k with
  | 60 => (match f with | 0 => some 100 | 1 => some 61 | 2 => some 62 | 3 => some 66 | _ => none)
  | 62 => (match f with | 0 => some 63 | 1 => some 64 | 2 => some 65 | _ => none)
  | 66 => (match f with | 1 => some 67 | 2 => some 68 | 3 => some 69 | 4 => some 70 | 6 => some 71 | 7 => some 72 | 8 => some 73 | 9 => some 74 | 10 => some 75 | 11 => some 76 | _ => none)
  | 100 => (match f with | 1 => some 101 | 2 => some 117 | 3 => some 119 | 4 => some 130 | 6 => some 134 | 7 => some 136 | _ => none)
  | 101 => (match f with | 0 => some 102 | 1 => some 107 | 2 => some 112 | _ => none)
  | 102 => (match f with | 1 => some 103 | 2 => some 104 | 3 => some 105 | 4 => some 106 | _ => none)
  | 107 => (match f with | 1 => some 108 | 2 => some 109 | 3 => some 110 | 4 => some 111 | _ => none)
  | 112 => (match f with | 1 => some 113 | 2 => some 114 | 3 => some 115 | 4 => some 116 | _ => none)
  | 117 => (match f with | 1 => some 118 | _ => none)
  | 119 => (match f with | 1 => some 120 | 3 => some 125 | 4 => some 126 | 5 => some 127 | 7 => some 128 | 8 => some 129 | _ => none)
  | 120 => (match f with | 1 => some 121 | 2 => some 122 | 3 => some 123 | 4 => some 124 | _ => none)
  | 130 => (match f with | 5 => some 131 | 7 => some 132 | 8 => some 133 | _ => none)
  | 134 => (match f with | 1 => some 135 | _ => none)
  | 136 => (match f with | 1 => some 137 | _ => none)
  | _ => none
def St_m (sh : ASh) (P : APt) : Prop := (∀ k q, sh_m k = some q → sh k = q) ∧ ∀ k f z, pt_m k f = some z → P k f = some z
def St_c (sh : ASh) (P : APt) : Prop := (∀ k q, sh_c k = some q → sh k = q) ∧ ∀ k f z, pt_c k f = some z → P k f = some z
