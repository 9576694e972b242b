/-! texts -/
def dgt (lo hi : Nat) (c : Int32) : Bool := decide (48 + (lo : Int) ≤ c.toInt ∧ c.toInt ≤ 48 + (hi : Int))
def dv (c : Int32) : Nat := (c.toInt - 48).toNat
def kd (c : Int32) : Nat := if c = nI 112 then 0 else if c = nI 114 then 1 else 2
def isK (c : Int32) : Prop := c = nI 112 ∨ c = nI 114 ∨ c = nI 98
theorem sub48 (c : Int32) : (c - nI 48).toInt = if c.toInt < -2147483600 then c.toInt + 4294967248 else c.toInt - 48 := by
  have h1 : -2147483648 ≤ c.toInt := Int32.le_toInt c
  have h2 : c.toInt < 2147483648 := Int32.toInt_lt c
  have h3 : (nI 48).toInt = 48 := by decide
  rw [Int32.toInt_sub, h3, Int.bmod_def]
  split <;> split <;> omega
theorem dg_iff {lo hi : Nat} {c : Int32} (hl : lo ≤ 9) (hh : hi ≤ 9) : (¬ c - nI 48 < nI lo ∧ c - nI 48 ≤ nI hi) ↔ dgt lo hi c = true := by
  have h1 : -2147483648 ≤ c.toInt := Int32.le_toInt c
  have h2 : c.toInt < 2147483648 := Int32.toInt_lt c
  unfold dgt
  rw [decide_eq_true_eq, Int32.lt_iff_toInt_lt, Int32.le_iff_toInt_le, sub48, nI_toInt (by omega), nI_toInt (by omega)]
  split <;> omega
theorem dg_mod {lo hi : Nat} {c : Int32} (hl : lo ≤ 9) (hh : hi ≤ 9) : (¬ c < nI (48 + lo) ∧ c ≤ nI (48 + hi)) ↔ dgt lo hi c = true := by
  unfold dgt
  rw [decide_eq_true_eq, Int32.lt_iff_toInt_lt, Int32.le_iff_toInt_le, nI_toInt (by omega), nI_toInt (by omega)]
  omega
theorem dg_v {lo hi : Nat} {c : Int32} (hh : hi ≤ 9) (h : dgt lo hi c = true) : c - nI 48 = nI (dv c) ∧ lo ≤ dv c ∧ dv c ≤ hi := by
  have h0 := of_decide_eq_true h
  have h2 : dv c ≤ hi := by unfold dv; omega
  refine ⟨Int32.toInt_inj.mp ?_, by unfold dv; omega, h2⟩
  rw [sub48, nI_toInt (by omega)]
  unfold dv
  split <;> omega
def Nx (tx : Nat → Int32) : Nat := dv (tx 1)
def tl (N : Nat) : Nat := 3 + N * (N + 2)
/-- whether a code may stand at place j behind the head of a text of N people -/
def vhi (N j : Nat) (c : Int32) : Bool :=
  if tl N ≤ j then false
  else if (j - 3) % (N + 2) = 0 then decide (c = nI 44)
  else if (j - 3) % (N + 2) = 1 then decide (c = nI 112 ∨ c = nI 114 ∨ c = nI 98)
  else dgt 0 (if (j - 3) / (N + 2) = (j - 3) % (N + 2) - 2 then 0 else 9) c
def vcd (tx : Nat → Int32) (j : Nat) : Bool :=
  if j = 0 then decide (tx 0 = nI 108) else if j = 1 then dgt 2 6 (tx 1) else if j = 2 then dgt 0 9 (tx 2) else vhi (Nx tx) j (tx j)
def ffs (P : Nat → Bool) : Nat → Nat
  | 0 => 0
  | n + 1 => if ffs P n = n ∧ P n = true then n + 1 else ffs P n
theorem ffs_le (P : Nat → Bool) : ∀ n, ffs P n ≤ n
  | 0 => Nat.le_refl _
  | n + 1 => by
    have h := ffs_le P n
    show (if ffs P n = n ∧ P n = true then n + 1 else ffs P n) ≤ n + 1
    split
    · exact Nat.le_refl _
    · exact Nat.le_succ_of_le h
theorem ffs_all {P : Nat → Bool} : ∀ {n : Nat}, (∀ i, i < n → P i = true) → ffs P n = n
  | 0, _ => rfl
  | n + 1, h => if_pos ⟨ffs_all (fun i hi => h i (by omega)), h n (by omega)⟩
theorem ffs_stop {P : Nat → Bool} {j : Nat} (h : ∀ i, i < j → P i = true) (hj : P j = false) : ∀ {n : Nat}, j ≤ n → ffs P n = j
  | 0, q => by rw [show j = 0 by omega]; rfl
  | n + 1, q => by
    rcases Nat.lt_or_ge n j with z | z
    · rw [show j = n + 1 by omega] at h ⊢
      exact ffs_all h
    · have ih := ffs_stop h hj (n := n) z
      show (if _ then _ else _) = _
      rw [ih]
      refine if_neg (fun w => ?_)
      rw [← w.1, hj] at w
      cases w.2
/-- how many people are known behind j codes -/
def eN (tx : Nat → Int32) (j : Nat) : Nat := if j ≤ 1 then 0 else Nx tx
/-- what is held behind j codes of a text, all as they should be -/
def TxI (tx : Nat → Int32) (j : Nat) (vN vB : Int32) (kf : Nat → Int32) (pf : Nat → Nat → Int32) : Prop :=
  vN = nI (eN tx j) ∧ (2 ≤ j → 2 ≤ Nx tx ∧ Nx tx ≤ 6) ∧ (3 ≤ j → vB = nI (dv (tx 2)) ∧ dv (tx 2) ≤ 9) ∧
  (∀ a, a < Nx tx → 3 + a * (Nx tx + 2) + 1 < j → kf a = nI (kd (tx (3 + a * (Nx tx + 2) + 1)))) ∧
  ∀ a, a < Nx tx → ∀ b, b < Nx tx → 3 + a * (Nx tx + 2) + 2 + b < j → pf a b = nI (dv (tx (3 + a * (Nx tx + 2) + 2 + b))) ∧ (dv (tx (3 + a * (Nx tx + 2) + 2 + b)) ≤ if a = b then 0 else 9)
theorem bN_c {P Q : Prop} [Decidable P] [Decidable Q] (h : P ↔ Q) : bN P = bN Q := by
  by_cases q : Q
  · rw [bN_y q, bN_y (h.mpr q)]
  · rw [bN_n q, bN_n (fun z => q (h.mp z))]
theorem rv_c {P Q : Prop} [Decidable P] [Decidable Q] (h : P ↔ Q) : (some (Value.int (nI (bN P))) : Option Value) = some (.int (nI (bN Q))) := by rw [bN_c h]
theorem Ct.map {l : Launch} {y : MethodName} {wl : List Cond} {rm : Room} {D : va_G} {cy : Nat → ClassId} {av : List Value} {wc : va_W} {S S' : Type} {post : S → Prop} {rv : S → Option Value} {w1 : S → va_W} {post' : S' → Prop} {rv' : S' → Option Value} {w1' : S' → va_W} (h : Ct l y wl rm D cy av wc post rv w1) (f : S → S') (hf : ∀ u, post u → post' (f u) ∧ rv u = rv' (f u) ∧ w1 u = w1' (f u)) : Ct l y wl rm D cy av wc post' rv' w1' := by
  intro sz p e ha hc hk s m args below hfr happ hP hK
  obtain ⟨n, o, a1, a2, a3, ⟨⟨u, q1, q2, q3, q4⟩, q5⟩, hL⟩ := h sz p e ha hc hk s m args below hfr happ hP hK
  obtain ⟨z1, z2, z3⟩ := hf u q2
  exact ⟨n, o, a1, a2, a3, ⟨⟨f u, by rw [q1, z2], z1, by rw [← z3]; exact q3, by rw [← z3]; exact q4⟩, q5⟩, hL⟩
theorem row_lt {N j : Nat} (hj : j < tl N) (h3 : 3 ≤ j) (hN : 0 < N) : (j - 3) / (N + 2) < N := by
  unfold tl at hj
  apply Nat.div_lt_of_lt_mul
  rw [Nat.mul_comm]
  omega
theorem j_eq {N j : Nat} (h3 : 3 ≤ j) : j = 3 + (j - 3) / (N + 2) * (N + 2) + (j - 3) % (N + 2) := by
  have h := Nat.div_add_mod (j - 3) (N + 2)
  rw [Nat.mul_comm] at h
  omega
