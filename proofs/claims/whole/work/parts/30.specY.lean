theorem isP_y {n : Nat} {x : Int32} (hn : n < 2 ^ 31) (h1 : ¬ x < 0) (h2 : ¬ nI n ≤ x) : (pOf n x).isSome = true := by
  rw [Int32.lt_iff_toInt_lt] at h1
  rw [Int32.le_iff_toInt_le, nI_toInt hn] at h2
  exact pOf_i.mpr ⟨by have : (0 : Int32).toInt = 0 := rfl; omega, by omega⟩
theorem isP_1 {n : Nat} {x : Int32} (h1 : x < 0) : ¬ (pOf n x).isSome = true := by
  rw [Int32.lt_iff_toInt_lt] at h1
  rw [pOf_i]
  have : (0 : Int32).toInt = 0 := rfl
  omega
theorem isP_2 {n : Nat} {x : Int32} (hn : n < 2 ^ 31) (h2 : nI n ≤ x) : ¬ (pOf n x).isSome = true := by
  rw [Int32.le_iff_toInt_le, nI_toInt hn] at h2
  rw [pOf_i]
  omega
theorem isW_y {m : Nat} {x : Int32} (hm : m < 2 ^ 30) (h1 : ¬ x < 0) (h2 : ¬ nI m < x) : (pOf (m + 1) x).isSome = true := by
  rw [Int32.lt_iff_toInt_lt] at h1
  rw [Int32.lt_iff_toInt_lt, nI_toInt (by omega)] at h2
  exact pOf_i.mpr ⟨by have : (0 : Int32).toInt = 0 := rfl; omega, by omega⟩
theorem isW_2 {m : Nat} {x : Int32} (hm : m < 2 ^ 30) (h2 : nI m < x) : ¬ (pOf (m + 1) x).isSome = true := by
  rw [Int32.lt_iff_toInt_lt, nI_toInt (by omega)] at h2
  rw [pOf_i]
  omega
theorem pI {n j : Nat} (hj : j < n) (hn : n ≤ 2 ^ 30) : pOf n (nI j) = some j := pOf_nI hj (by omega)
theorem pY {n : Nat} {x : Int32} (hn : n ≤ 2 ^ 30) (h : (pOf n x).isSome = true) : ∃ j, j < n ∧ x = nI j := pOf_y (by omega) h
theorem tb_n {m : Nat} {x : Int32} (h : x.toInt < 0 ∨ (m : Int) < x.toInt) : pOf (m + 1) x = none := pOf_n (fun z => by rw [pOf_i] at z; omega)
theorem tb_y {m : Nat} {x : Int32} (hm : m + 1 ≤ 2 ^ 30) (h1 : ¬ x.toInt < 0) (h2 : ¬ (m : Int) < x.toInt) : ∃ j, j < m + 1 ∧ x = nI j := pY hm (pOf_i.mpr ⟨by omega, by omega⟩)
theorem litS_lt {N : Nat} {k : Nat → Nat} {p : Nat → Nat → Nat} (hN : N ≤ 6) : litS N k p < 64 := bset_le6 _ hN
theorem hst_le {N : Nat} {k : Nat → Nat} {p : Nat → Nat → Nat} (hN : N ≤ 6) : ∀ {i : Nat}, i ≤ 6 → hst N k p i ≤ 18
  | 0, _ => Nat.zero_le _
  | i + 1, h => Nat.max_le.mpr ⟨hst_le hN (by omega), sps_le hN (by omega)⟩
section RGA
variable {N c : Nat} {rd rl : Nat → Nat} {ra : Nat → Option Nat} {df mf gf : Nat → Int32}
theorem Rg.add (h : Rg N c rd rl ra df mf gf) {t b : Nat} {z : Option Nat} {x : Int32} (hc : c < 8) (ht : t ≤ 10) (hb : b < N) (hz : ∀ a, z = some a → a < N) (hx : x = lI z) : Rg N (c + 1) (upN rd c t) (upN rl c b) (upO ra c z) (upd df c (nI t)) (upd mf c (nI b)) (upd gf c x) := by
  refine ⟨by omega, fun j hj => ?_⟩
  by_cases e : j = c
  · subst e
    unfold upN upO
    rw [pk_us, pk_us, pk_us, if_pos rfl, if_pos rfl, if_pos rfl]
    exact ⟨⟨rfl, ht⟩, ⟨rfl, hb⟩, hx, hz⟩
  · unfold upN upO
    rw [pk_un e, pk_un e, pk_un e, if_neg e, if_neg e, if_neg e]
    exact h.2 j (by omega)
theorem Rg.sub (h : Rg N c rd rl ra df mf gf) {m : Nat} (hm : m ≤ c) : Rg N m rd rl ra df mf gf := ⟨by have := h.1; omega, fun j hj => h.2 j (by omega)⟩
end RGA
theorem aOf_y {N a : Nat} (ha : a < N) (hN : N ≤ 2 ^ 30) : aOf N (nI a) = some (some a) := by
  unfold aOf
  rw [if_neg (fun z => by have e : (nI a).toInt = -9 := by rw [z]; rfl
                          rw [nI_toInt (by omega)] at e; omega), pI ha hN]
theorem aOf_9 {N : Nat} : aOf N (-9) = some none := if_pos rfl
theorem aOf_n {N : Nat} {a : Int32} (h : ¬ a = -9) (h2 : pOf N a = none) : aOf N a = none := by
  unfold aOf
  rw [if_neg h, h2]
