def bN (P : Prop) [Decidable P] : Nat := if P then 1 else 0
theorem bN_y {P : Prop} [Decidable P] (h : P) : bN P = 1 := if_pos h
theorem bN_n {P : Prop} [Decidable P] (h : ¬ P) : bN P = 0 := if_neg h
theorem bN_lt (P : Prop) [Decidable P] : bN P < 2 ^ 31 := by unfold bN; split <;> decide
theorem bN_0 {P : Prop} [Decidable P] : bN P = 0 ↔ ¬ P := by
  unfold bN
  split
  · next h => exact ⟨fun e => by omega, fun e => absurd h e⟩
  · next h => exact ⟨fun _ => h, fun _ => rfl⟩
theorem bN_1 {P : Prop} [Decidable P] : bN P ≠ 0 ↔ P := by
  unfold bN
  split
  · next h => exact ⟨fun _ => h, fun _ => by omega⟩
  · next h => exact ⟨fun e => absurd rfl e, fun e => absurd e h⟩
theorem ret_y {P : Prop} [Decidable P] (h : P) : (some (Value.int (nI (bN P))) : Option Value) = some (.int (nI 1)) := by rw [bN_y h]
theorem ret_n {P : Prop} [Decidable P] (h : ¬ P) : (some (Value.int (nI (bN P))) : Option Value) = some (.int (nI 0)) := by rw [bN_n h]
/-! sheets -/
def wS (h c : Nat) (cy : Nat → ClassId) (ln la : Int32) (cf : Nat → Int32) : va_W := [(h, .inr (4, [.ref c, .int ln, .int la])), (c, .inl (cy 0, 60, .inl cf))]
def cut (lane : Int32) (v : Int32) : Int32 := if lane = 0 then v.toInt8.toInt32 else if lane = nI 1 then v.toInt16.toInt32 else v
/-! the trail, bodies -/
def wTr (t : Nat) (v : Int32) : va_W := [(t, .inr (6, [.int v]))]
def tr (v : Int32) (m : Nat) : Int32 := nI 31 * v + nI m
/-! readings -/
def wR (h d e g : Nat) (cy : Nat → ClassId) (ct : Int32) (df mf gf : Nat → Int32) : va_W := [(h, .inr (2, [.ref d, .ref e, .ref g, .int ct])), (d, .inl (cy 0, 8, .inl df)), (e, .inl (cy 0, 8, .inl mf)), (g, .inl (cy 0, 8, .inl gf))]
/-- c readings: behind rd j dusks the lamp rl j has the lighter ra j -/
def Rg (N c : Nat) (rd rl : Nat → Nat) (ra : Nat → Option Nat) (df mf gf : Nat → Int32) : Prop := c ≤ 8 ∧ ∀ j, j < c → (df j = nI (rd j) ∧ rd j ≤ 10) ∧ (mf j = nI (rl j) ∧ rl j < N) ∧ gf j = lI (ra j) ∧ ∀ a, ra j = some a → a < N
def allB (P : Nat → Bool) : Nat → Bool
  | 0 => true
  | n + 1 => allB P n && P n
theorem allB_i {P : Nat → Bool} : ∀ {n : Nat}, allB P n = true ↔ ∀ i, i < n → P i = true
  | 0 => ⟨fun _ i h => absurd h (Nat.not_lt_zero i), fun _ => rfl⟩
  | n + 1 => by
    show (allB P n && P n) = true ↔ _
    rw [Bool.and_eq_true, allB_i]
    refine ⟨fun h i hi => ?_, fun h => ⟨fun i hi => h i (by omega), h n (by omega)⟩⟩
    rcases Nat.lt_or_ge i n with q | q
    · exact h.1 i q
    · rw [show i = n by omega]; exact h.2
theorem allB_f {P : Nat → Bool} {n i : Nat} (hi : i < n) (h : P i = false) : allB P n = false := by
  cases e : allB P n with
  | false => rfl
  | true => rw [allB_i.mp e i hi] at h; cases h
/-- what the readings say of dusk t, of the pence p then -/
def soP (N t : Nat) (k : Nat → Nat) (p : Nat → Nat → Nat) (rd rl : Nat → Nat) (ra : Nat → Option Nat) : Nat → Bool := fun j => decide (rd j = t → lg N k p (rl j) = ra j)
def so1 (N t c : Nat) (k : Nat → Nat) (p : Nat → Nat → Nat) (rd rl : Nat → Nat) (ra : Nat → Option Nat) : Bool := allB (soP N t k p rd rl ra) c
def soT (N B c : Nat) (k : Nat → Nat) (p : Nat → Nat → Nat) (rd rl : Nat → Nat) (ra : Nat → Option Nat) : Nat → Bool := allB (fun t => so1 N t c k (dks N B k t p) rd rl ra)
/-- one more than the latest dusk -/
def lst (rd : Nat → Nat) : Nat → Nat
  | 0 => 0
  | c + 1 => max (lst rd c) (rd c + 1)
theorem lst_le {rd : Nat → Nat} : ∀ {c : Nat}, (∀ j, j < c → rd j ≤ 10) → lst rd c ≤ 11
  | 0, _ => Nat.zero_le _
  | c + 1, h => Nat.max_le.mpr ⟨lst_le (fun j hj => h j (by omega)), by have := h c (by omega); omega⟩
theorem lst_ge {rd : Nat → Nat} : ∀ {c j : Nat}, j < c → rd j < lst rd c
  | 0, j, h => absurd h (Nat.not_lt_zero j)
  | c + 1, j, h => by
    show _ < max (lst rd c) (rd c + 1)
    rcases Nat.lt_or_ge j c with q | q
    · exact Nat.lt_of_lt_of_le (lst_ge q) (Nat.le_max_left _ _)
    · rw [show j = c by omega]; exact Nat.lt_of_lt_of_le (Nat.lt_succ_self _) (Nat.le_max_right _ _)
theorem soT_11 {N B c : Nat} {k : Nat → Nat} {p : Nat → Nat → Nat} {rd rl : Nat → Nat} {ra : Nat → Option Nat} (h : ∀ j, j < c → rd j ≤ 10) : soT N B c k p rd rl ra (lst rd c) = soT N B c k p rd rl ra 11 := by
  have e : soT N B c k p rd rl ra (lst rd c) = true ↔ soT N B c k p rd rl ra 11 = true := by
    unfold soT
    rw [allB_i, allB_i]
    refine ⟨fun q t ht => ?_, fun q t ht => q t (Nat.lt_of_lt_of_le ht (lst_le h))⟩
    rcases Nat.lt_or_ge t (lst rd c) with z | z
    · exact q t z
    · refine allB_i.mpr (fun j hj => decide_eq_true (fun w => ?_))
      have := lst_ge (rd := rd) hj
      omega
  cases e1 : soT N B c k p rd rl ra (lst rd c) with
  | true => exact (e.mp e1).symm
  | false =>
    cases e2 : soT N B c k p rd rl ra 11 with
    | false => rfl
    | true => rw [e.mpr e2] at e1; cases e1
theorem ml_0 : (-1 : Int32) = nI 0 - nI 1 := by decide
theorem ml_s {m t : Nat} (hm : m ≤ 11) (ht : t ≤ 10) : (if nI m - nI 1 < nI t then nI t else nI m - nI 1) = nI (max m (t + 1)) - nI 1 := by
  rcases Nat.eq_zero_or_pos m with e | e
  · subst e
    have h : nI 0 - nI 1 < nI t := by
      have h1 : (nI 0 - nI 1).toInt = -1 := by decide
      rw [Int32.lt_iff_toInt_lt, h1, nI_toInt (by omega)]
      omega
    rw [if_pos h, Nat.max_eq_right (Nat.zero_le _), pk_sub (by omega)]
    rfl
  · rw [pk_sub e, mx_n (by omega) (by omega), pk_sub (Nat.le_trans e (Nat.le_max_left _ _))]
    congr 1
    rcases Nat.lt_or_ge (m - 1) t with q | q
    · rw [Nat.max_eq_right (by omega), Nat.max_eq_right (by omega)]; omega
    · rw [Nat.max_eq_left (by omega), Nat.max_eq_left (by omega)]
