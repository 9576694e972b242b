theorem lI_inj {o o' : Option Nat} (h : ∀ a, o = some a → a < 2 ^ 31) (h' : ∀ a, o' = some a → a < 2 ^ 31) (e : lI o = lI o') : o = o' := by
  cases o' with
  | none => exact (lI_none h).mp e
  | some a => exact (lI_eq h (h' a rfl)).mp e
theorem gt_m {L t : Nat} (hL : L ≤ 11) (ht : t ≤ 11) : nI L - nI 1 < nI t ↔ L ≤ t := by
  have h : (nI L - nI 1).toInt = (L : Int) - 1 := pk_sub_toInt (by omega) (by decide)
  rw [Int32.lt_iff_toInt_lt, h, nI_toInt (by omega)]
  omega
theorem dks_p {N B t : Nat} {k : Nat → Nat} {p : Nat → Nat → Nat} (h : 0 < t) : dk N B k (dks N B k (t - 1) p) = dks N B k t p := by
  match t, h with
  | t + 1, _ => rfl
section RGS
variable {N c : Nat} {rd rl : Nat → Nat} {ra : Nat → Option Nat} {df mf gf : Nat → Int32} {j : Nat}
theorem Rg.d (h : Rg N c rd rl ra df mf gf) (hj : j < c) : df j = nI (rd j) := (h.2 j hj).1.1
theorem Rg.d10 (h : Rg N c rd rl ra df mf gf) (hj : j < c) : rd j ≤ 10 := (h.2 j hj).1.2
theorem Rg.m (h : Rg N c rd rl ra df mf gf) (hj : j < c) : mf j = nI (rl j) := (h.2 j hj).2.1.1
theorem Rg.mN (h : Rg N c rd rl ra df mf gf) (hj : j < c) : rl j < N := (h.2 j hj).2.1.2
theorem Rg.g (h : Rg N c rd rl ra df mf gf) (hj : j < c) : gf j = lI (ra j) := (h.2 j hj).2.2.1
theorem Rg.gN (h : Rg N c rd rl ra df mf gf) (hj : j < c) {a : Nat} (e : ra j = some a) : a < N := (h.2 j hj).2.2.2 a e
end RGS
