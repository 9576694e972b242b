/-! numbers -/
theorem nI_inc (a : Nat) : nI a + Int32.ofInt 1 = nI (a + 1) := nI_1 a
theorem nI_dec {a : Nat} (h : 0 < a) : nI a + Int32.ofInt (-1) = nI (a - 1) := sb_m1 h
theorem sm_31 : ∀ n, n < 32 → ((nI n &&& 31).toBitVec.smod 32).toNat = n := by decide +kernel
theorem p2_lt {b : Nat} (h : b < 31) : 2 ^ b < 2 ^ 31 := Nat.pow_lt_pow_right (by decide) h
theorem sh_l {b : Nat} (h : b < 31) : nI 1 <<< (nI b &&& 31) = nI (2 ^ b) := by
  have h2 := p2_lt h
  have h3 := pk_shlN (n := 1) (nI b &&& 31) b (sm_31 b (by omega)) (by omega)
  rw [Nat.one_mul] at h3
  exact h3
theorem sh_r {x b : Nat} (hx : x < 2 ^ 31) (hb : b < 32) : nI x >>> (nI b &&& 31) = nI (x / 2 ^ b) := pk_shrN hx _ b (sm_31 b hb)
theorem nn_and (a b : Nat) : nI a &&& nI b = nI (a &&& b) := by
  apply Int32.toBitVec_inj.1
  show BitVec.ofNat 32 a &&& BitVec.ofNat 32 b = BitVec.ofNat 32 (a &&& b)
  apply BitVec.eq_of_getLsbD_eq
  intro i hi
  simp [hi]
theorem nn_or (a b : Nat) : nI a ||| nI b = nI (a ||| b) := by
  apply Int32.toBitVec_inj.1
  show BitVec.ofNat 32 a ||| BitVec.ofNat 32 b = BitVec.ofNat 32 (a ||| b)
  apply BitVec.eq_of_getLsbD_eq
  intro i hi
  simp [hi]
theorem an_1 (x : Nat) : nI x &&& nI 1 = nI (x % 2) := by rw [nn_and, Nat.and_one_is_mod]
theorem or_2 {s i : Nat} (h : s < 2 ^ i) : nI s ||| nI (2 ^ i) = nI (s + 2 ^ i) := by
  rw [nn_or, Nat.or_comm]
  have h2 := Nat.two_pow_add_eq_or_of_lt h 1
  rw [Nat.mul_one] at h2
  rw [← h2, Nat.add_comm]
/-! the town's arithmetic -/
def wt (k p : Nat) : Nat := if k = 0 then p else if k = 1 then (if p = 0 then 0 else p + 1) else 2 * p
theorem wt_le {k p : Nat} (h : p ≤ 9) : wt k p ≤ 18 := by unfold wt; split <;> (try split) <;> (try split) <;> omega
theorem wt_0 {k p : Nat} : wt k p = 0 ↔ p = 0 := by unfold wt; split <;> (try split) <;> (try split) <;> omega
def wo (w : Nat → Nat) (o : Option Nat) : Nat := match o with
  | none => 0
  | some a => w a
def lgt (w : Nat → Nat) : Nat → Option Nat
  | 0 => none
  | n + 1 => if wo w (lgt w n) < w n then some n else lgt w n
def mst (w : Nat → Nat) (n : Nat) : Nat := wo w (lgt w n)
def lI (o : Option Nat) : Int32 := match o with
  | none => -9
  | some a => nI a
theorem lgt_y {w : Nat → Nat} {n : Nat} (h : mst w n < w n) : lgt w (n + 1) = some n := if_pos h
theorem lgt_n {w : Nat → Nat} {n : Nat} (h : w n ≤ mst w n) : lgt w (n + 1) = lgt w n := if_neg (Nat.not_lt.mpr h)
theorem mst_y {w : Nat → Nat} {n : Nat} (h : mst w n < w n) : mst w (n + 1) = w n := by unfold mst; rw [lgt_y h]; rfl
theorem mst_n {w : Nat → Nat} {n : Nat} (h : w n ≤ mst w n) : mst w (n + 1) = mst w n := by unfold mst; rw [lgt_n h]
theorem lgt_lt {w : Nat → Nat} : ∀ {n a : Nat}, lgt w n = some a → a < n
  | 0, a, h => by cases h
  | n + 1, a, h => by
    by_cases c : mst w n < w n
    · rw [lgt_y c] at h; cases h; omega
    · rw [lgt_n (Nat.not_lt.mp c)] at h; exact Nat.lt_succ_of_lt (lgt_lt h)
theorem lgt_pos {w : Nat → Nat} : ∀ {n a : Nat}, lgt w n = some a → 0 < w a
  | 0, a, h => by cases h
  | n + 1, a, h => by
    by_cases c : mst w n < w n
    · rw [lgt_y c] at h; cases h; omega
    · rw [lgt_n (Nat.not_lt.mp c)] at h; exact lgt_pos h
theorem lgt_cong {w v : Nat → Nat} : ∀ {n : Nat}, (∀ a, a < n → w a = v a) → lgt w n = lgt v n
  | 0, _ => rfl
  | n + 1, h => by
    have h1 := lgt_cong (n := n) (fun a ha => h a (by omega))
    have h2 : mst w n = mst v n := by
      unfold mst
      rw [h1]
      cases e : lgt v n with
      | none => rfl
      | some a => exact h a (Nat.lt_succ_of_lt (lgt_lt e))
    have h3 := h n (by omega)
    by_cases c : mst v n < v n
    · rw [lgt_y c, lgt_y (by omega)]
    · rw [lgt_n (Nat.not_lt.mp c), lgt_n (by omega), h1]
theorem mst_le {w : Nat → Nat} {c : Nat} (n : Nat) (h : ∀ a, a < n → w a ≤ c) : mst w n ≤ c := by
  unfold mst
  cases e : lgt w n with
  | none => exact Nat.zero_le _
  | some a => exact h a (lgt_lt e)
theorem lI_eq {o : Option Nat} {q : Nat} (h : ∀ a, o = some a → a < 2 ^ 31) (hq : q < 2 ^ 31) : lI o = nI q ↔ o = some q := by
  cases o with
  | none =>
    refine ⟨fun e => ?_, fun e => by cases e⟩
    have e1 : (-9 : Int32).toInt = (nI q).toInt := congrArg Int32.toInt e
    rw [nI_toInt hq] at e1
    have e2 : (-9 : Int32).toInt = -9 := by decide
    omega
  | some a =>
    refine ⟨fun e => ?_, fun e => by cases e; rfl⟩
    rw [(nI_eq (h a rfl) hq).mp e]
theorem lI_none {o : Option Nat} (h : ∀ a, o = some a → a < 2 ^ 31) : lI o = -9 ↔ o = none := by
  cases o with
  | none => exact ⟨fun _ => rfl, fun _ => rfl⟩
  | some a =>
    refine ⟨fun e => ?_, fun e => by cases e⟩
    have e1 : (nI a).toInt = (-9 : Int32).toInt := congrArg Int32.toInt e
    rw [nI_toInt (h a rfl)] at e1
    have e2 : (-9 : Int32).toInt = -9 := by decide
    omega
/-- sets told as bits -/
def bset (P : Nat → Bool) : Nat → Nat
  | 0 => 0
  | n + 1 => bset P n + (if P n then 2 ^ n else 0)
theorem bset_y {P : Nat → Bool} {n : Nat} (h : P n = true) : bset P (n + 1) = bset P n + 2 ^ n := by show bset P n + _ = _; rw [if_pos h]
theorem bset_n {P : Nat → Bool} {n : Nat} (h : P n = false) : bset P (n + 1) = bset P n := by show bset P n + _ = _; rw [if_neg (by rw [h]; decide)]; rfl
theorem bset_lt (P : Nat → Bool) : ∀ n, bset P n < 2 ^ n
  | 0 => by show 0 < 1; decide
  | n + 1 => by
    have h := bset_lt P n
    have e : 2 ^ (n + 1) = 2 ^ n + 2 ^ n := by rw [Nat.pow_succ]; omega
    show bset P n + _ < _
    split <;> omega
theorem bset_le6 (P : Nat → Bool) {n : Nat} (h : n ≤ 6) : bset P n < 64 := Nat.lt_of_lt_of_le (bset_lt P n) (Nat.pow_le_pow_right (by decide) h)
def bitP (s : Nat) : Nat → Bool := fun b => decide (s / 2 ^ b % 2 = 1)
theorem bit_hi {s n i : Nat} (h : s < 2 ^ n) (hi : n ≤ i) : bitP s i = false := by
  have h2 : 2 ^ n ≤ 2 ^ i := Nat.pow_le_pow_right (by decide) hi
  unfold bitP
  rw [Nat.div_eq_of_lt (Nat.lt_of_lt_of_le h h2)]
  decide
theorem bset_bit (P : Nat → Bool) : ∀ n i, i < n → bitP (bset P n) i = P i
  | 0, i, h => by omega
  | n + 1, i, h => by
    rcases Nat.lt_or_ge i n with q | q
    · have ih := bset_bit P n i q
      cases e : P n with
      | false => rw [bset_n e]; exact ih
      | true =>
        rw [bset_y e, ← ih]
        unfold bitP
        have e2 : 2 ^ n = 2 ^ i * (2 * 2 ^ (n - i - 1)) := by
          rw [← Nat.mul_assoc, ← Nat.pow_succ, ← Nat.pow_add]
          congr 1
          omega
        rw [e2, Nat.add_mul_div_left _ _ (Nat.two_pow_pos i), Nat.add_mul_mod_self_left]
    · have e0 : i = n := by omega
      subst e0
      have hl := bset_lt P i
      cases e : P i with
      | false => rw [bset_n e]; exact bit_hi hl (Nat.le_refl _)
      | true =>
        rw [bset_y e]
        unfold bitP
        rw [Nat.add_div_right _ (Nat.two_pow_pos i), Nat.div_eq_of_lt hl]
        decide
theorem bset_cong {P Q : Nat → Bool} : ∀ {n : Nat}, (∀ i, i < n → P i = Q i) → bset P n = bset Q n
  | 0, _ => rfl
  | n + 1, h => by
    show bset P n + _ = bset Q n + _
    rw [bset_cong (fun i hi => h i (by omega)), h n (by omega)]
/-- steps -/
def dn (P : Nat → Bool) (q : Nat) : Nat → Nat
  | 0 => 0
  | n + 1 => if P n = true then max (dn P q n) (q - n) else dn P q n
def upp (P : Nat → Bool) (q : Nat) : Nat → Nat
  | 0 => 0
  | n + 1 => if P n = true then max (upp P q n) (n - q) else upp P q n
def stp (P : Nat → Bool) (q n : Nat) : Nat := dn P q n + upp P q n + min (dn P q n) (upp P q n)
theorem dn_y {P : Nat → Bool} {q n : Nat} (h : P n = true) : dn P q (n + 1) = max (dn P q n) (q - n) := if_pos h
theorem dn_n {P : Nat → Bool} {q n : Nat} (h : P n = false) : dn P q (n + 1) = dn P q n := if_neg (by rw [h]; decide)
theorem upp_y {P : Nat → Bool} {q n : Nat} (h : P n = true) : upp P q (n + 1) = max (upp P q n) (n - q) := if_pos h
theorem upp_n {P : Nat → Bool} {q n : Nat} (h : P n = false) : upp P q (n + 1) = upp P q n := if_neg (by rw [h]; decide)
theorem dn_le (P : Nat → Bool) (q : Nat) : ∀ n, dn P q n ≤ q
  | 0 => Nat.zero_le _
  | n + 1 => by
    have h := dn_le P q n
    show (if _ then _ else _) ≤ _
    split
    · exact Nat.max_le.mpr ⟨h, by omega⟩
    · exact h
theorem upp_le (P : Nat → Bool) (q : Nat) : ∀ n, upp P q n ≤ n
  | 0 => Nat.zero_le _
  | n + 1 => by
    have h := upp_le P q n
    show (if _ then _ else _) ≤ _
    split
    · exact Nat.max_le.mpr ⟨by omega, by omega⟩
    · omega
theorem stp_hi {P : Nat → Bool} {q n : Nat} : ∀ {m : Nat}, (∀ i, n ≤ i → P i = false) → stp P q (n + m) = stp P q n
  | 0, _ => rfl
  | m + 1, h => by
    have ih := stp_hi (P := P) (q := q) (n := n) (m := m) h
    have hf := h (n + m) (Nat.le_add_right _ _)
    unfold stp at ih ⊢
    rw [← Nat.add_assoc, dn_n hf, upp_n hf]
    exact ih
/-- who lights which lamp, rounds, dusks -/
def wF (k : Nat → Nat) (p : Nat → Nat → Nat) (b : Nat) : Nat → Nat := fun a => wt (k a) (p a b)
def lg (N : Nat) (k : Nat → Nat) (p : Nat → Nat → Nat) (b : Nat) : Option Nat := lgt (wF k p b) N
def wL (k : Nat → Nat) (p : Nat → Nat → Nat) (b L : Nat) : Nat → Nat := fun a => if L / 2 ^ a % 2 = 1 then 0 else wt (k a) (p a b)
theorem wL_0 (k : Nat → Nat) (p : Nat → Nat → Nat) (b : Nat) : wL k p b 0 = wF k p b := by
  funext a
  unfold wL wF
  rw [Nat.zero_div, if_neg (by decide)]
def rnd (N : Nat) (k : Nat → Nat) (p : Nat → Nat → Nat) (q : Nat) : Nat := bset (fun b => lg N k p b == some q) N
def litS (N : Nat) (k : Nat → Nat) (p : Nat → Nat → Nat) : Nat := bset (fun b => (lg N k p b).isSome) N
def sps (N : Nat) (k : Nat → Nat) (p : Nat → Nat → Nat) (q : Nat) : Nat := stp (bitP (rnd N k p q)) q N
def dk (N B : Nat) (k : Nat → Nat) (p : Nat → Nat → Nat) : Nat → Nat → Nat := fun a b => if lg N k p b = some a then (if sps N k p a ≤ B then p a b - 1 else min 9 (2 * p a b)) else p a b
def dks (N B : Nat) (k : Nat → Nat) : Nat → (Nat → Nat → Nat) → Nat → Nat → Nat
  | 0, p => p
  | n + 1, p => dk N B k (dks N B k n p)
def psum (p : Nat → Nat → Nat) (a : Nat) : Nat → Nat
  | 0 => 0
  | n + 1 => psum p a n + p a n
/-- the arrays hold the town -/
def Ag (N : Nat) (k : Nat → Nat) (p : Nat → Nat → Nat) (kf : Nat → Int32) (pf : Nat → Nat → Int32) : Prop := N ≤ 6 ∧ (∀ a, a < N → kf a = nI (k a) ∧ k a ≤ 2) ∧ ∀ a, a < N → p a a = 0 ∧ ∀ b, b < N → pf a b = nI (p a b) ∧ p a b ≤ 9
section AG
variable {N B : Nat} {k : Nat → Nat} {p : Nat → Nat → Nat} {kf : Nat → Int32} {pf : Nat → Nat → Int32}
theorem Ag.n (h : Ag N k p kf pf) : N ≤ 6 := h.1
theorem Ag.kk (h : Ag N k p kf pf) {a : Nat} (ha : a < N) : kf a = nI (k a) := (h.2.1 a ha).1
theorem Ag.k2 (h : Ag N k p kf pf) {a : Nat} (ha : a < N) : k a ≤ 2 := (h.2.1 a ha).2
theorem Ag.pp (h : Ag N k p kf pf) {a b : Nat} (ha : a < N) (hb : b < N) : pf a b = nI (p a b) := ((h.2.2 a ha).2 b hb).1
theorem Ag.p9 (h : Ag N k p kf pf) {a b : Nat} (ha : a < N) (hb : b < N) : p a b ≤ 9 := ((h.2.2 a ha).2 b hb).2
theorem Ag.p0 (h : Ag N k p kf pf) {a : Nat} (ha : a < N) : p a a = 0 := (h.2.2 a ha).1
theorem Ag.w (h : Ag N k p kf pf) {a b : Nat} (ha : a < N) (hb : b < N) : wt (k a) (p a b) ≤ 18 := wt_le (h.p9 ha hb)
theorem Ag.m (h : Ag N k p kf pf) {b L i : Nat} (hb : b < N) (hi : i ≤ N) : mst (wL k p b L) i ≤ 18 := mst_le i (fun a ha => by
  unfold wL
  split
  · exact Nat.zero_le _
  · exact h.w (by omega) hb)
theorem lg_lt {b a : Nat} (h : lg N k p b = some a) : a < N := lgt_lt h
theorem lg_31 (hN : N ≤ 6) {b : Nat} : ∀ a, lg N k p b = some a → a < 2 ^ 31 := fun a h => by have := lgt_lt h; omega
theorem dk9 (h : Ag N k p kf pf) {a b : Nat} (ha : a < N) (hb : b < N) : dk N B k p a b ≤ 9 := by
  have h9 := h.p9 ha hb
  unfold dk
  split <;> (try split) <;> omega
theorem dk0 (h : Ag N k p kf pf) {a : Nat} (ha : a < N) : dk N B k p a a = 0 := by
  have h9 := h.p0 ha
  unfold dk
  split <;> (try split) <;> omega
theorem rnd_lt (hN : N ≤ 6) (q : Nat) : rnd N k p q < 64 := bset_le6 _ hN
theorem rnd_ltN (q : Nat) : rnd N k p q < 2 ^ N := bset_lt _ _
theorem sps_6 (hN : N ≤ 6) (q : Nat) : stp (bitP (rnd N k p q)) q 6 = sps N k p q := by
  have h := stp_hi (P := bitP (rnd N k p q)) (q := q) (n := N) (m := 6 - N) (fun i hi => bit_hi (rnd_ltN q) hi)
  rw [show N + (6 - N) = 6 by omega] at h
  exact h
theorem sps_le (hN : N ≤ 6) {q : Nat} (hq : q < 6) : sps N k p q ≤ 18 := by
  unfold sps stp
  have h1 := dn_le (bitP (rnd N k p q)) q N
  have h2 := upp_le (bitP (rnd N k p q)) q N
  omega
end AG
/-- two indices -/
def updR (pf : Nat → Nat → Int32) (i : Nat) (g : Nat → Int32) : Nat → Nat → Int32 := fun k => if k = i then g else pf k
/-! the worlds -/
abbrev rr (f : Nat → Option Nat) : (Nat → Int32) ⊕ (Nat → Int64) ⊕ (Nat → UInt32) ⊕ (Nat → UInt64) ⊕ (Nat → Option Nat) := .inr (.inr (.inr (.inr f)))
def wT (a : Nat → Nat) (cy : Nat → ClassId) (vN vB : Int32) (kf : Nat → Int32) (pf : Nat → Nat → Int32) (lf tf : Nat → Int32) : va_W :=
  [(a 0, .inr (5, [.ref (a 1), .ref (a 2), .ref (a 3), .ref (a 4), .ref (a 5), .int vN, .int vB])), (a 1, .inl (cy 2, 3, rr (fun i => if i < 3 then some (a (6 + i)) else none))), (a 2, .inl (cy 0, 6, .inl kf)), (a 3, .inl (cy 4, 6, rr (fun i => if i < 6 then some (a (9 + i)) else none))), (a 4, .inl (cy 0, 6, .inl lf)), (a 5, .inl (cy 1, 6, .inl tf)), (a 6, .inr (1, [])), (a 7, .inr (3, [])), (a 8, .inr (0, [])),
   (a 9, .inl (cy 0, 6, .inl (pf 0))), (a 10, .inl (cy 0, 6, .inl (pf 1))), (a 11, .inl (cy 0, 6, .inl (pf 2))), (a 12, .inl (cy 0, 6, .inl (pf 3))), (a 13, .inl (cy 0, 6, .inl (pf 4))), (a 14, .inl (cy 0, 6, .inl (pf 5)))]
theorem lt6 {P : Nat → Prop} (h0 : P 0) (h1 : P 1) (h2 : P 2) (h3 : P 3) (h4 : P 4) (h5 : P 5) {i : Nat} (hi : i < 6) : P i := by
  match i, hi with
  | 0, _ => exact h0
  | 1, _ => exact h1
  | 2, _ => exact h2
  | 3, _ => exact h3
  | 4, _ => exact h4
  | 5, _ => exact h5
  | n + 6, h => omega
theorem wT_row {a : Nat → Nat} {cy : Nat → ClassId} {vN vB : Int32} {kf : Nat → Int32} {pf : Nat → Nat → Int32} {lf tf : Nat → Int32} {i : Nat} (hi : i < 6) : (wT a cy vN vB kf pf lf tf)[9 + i]? = some (a (9 + i), .inl (cy 0, 6, .inl (pf i))) := lt6 (P := fun i => (wT a cy vN vB kf pf lf tf)[9 + i]? = some (a (9 + i), .inl (cy 0, 6, .inl (pf i)))) rfl rfl rfl rfl rfl rfl hi
theorem wT_set {a : Nat → Nat} {cy : Nat → ClassId} {vN vB : Int32} {kf : Nat → Int32} {pf : Nat → Nat → Int32} {lf tf : Nat → Int32} {i : Nat} {g : Nat → Int32} (hi : i < 6) : (wT a cy vN vB kf pf lf tf).set (9 + i) (a (9 + i), .inl (cy 0, 6, .inl g)) = wT a cy vN vB kf (updR pf i g) lf tf := lt6 (P := fun i => (wT a cy vN vB kf pf lf tf).set (9 + i) (a (9 + i), .inl (cy 0, 6, .inl g)) = wT a cy vN vB kf (updR pf i g) lf tf) rfl rfl rfl rfl rfl rfl hi
theorem wT_out {a : Nat → Nat} {i : Nat} (hi : i < 6) : (if i < 6 then some (a (9 + i)) else none) = some (a (9 + i)) := if_pos hi
