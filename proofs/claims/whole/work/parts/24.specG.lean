theorem tl_le {N : Nat} (h : N ≤ 6) : tl N ≤ 51 := by
  have h1 : N * (N + 2) ≤ 6 * 8 := Nat.mul_le_mul h (by omega)
  unfold tl
  omega
theorem narB (P : Prop) [Decidable P] : narrow .boolean (.int (nI (bN P))) = .int (nI (bN P)) := by
  by_cases h : P
  · rw [bN_y h]; rfl
  · rw [bN_n h]; rfl
theorem vhi_o {N j : Nat} {c : Int32} (h : tl N ≤ j) : vhi N j c = false := if_pos h
theorem vhi_0 {N j : Nat} {c : Int32} (h : j < tl N) (h0 : (j - 3) % (N + 2) = 0) : vhi N j c = decide (c = nI 44) := by unfold vhi; rw [if_neg (by omega), if_pos h0]
theorem vhi_1 {N j : Nat} {c : Int32} (h : j < tl N) (h1 : (j - 3) % (N + 2) = 1) : vhi N j c = decide (c = nI 112 ∨ c = nI 114 ∨ c = nI 98) := by unfold vhi; rw [if_neg (by omega), if_neg (by omega), if_pos h1]
theorem vhi_2 {N j : Nat} {c : Int32} (h : j < tl N) (h0 : (j - 3) % (N + 2) ≠ 0) (h1 : (j - 3) % (N + 2) ≠ 1) : vhi N j c = dgt 0 (if (j - 3) / (N + 2) = (j - 3) % (N + 2) - 2 then 0 else 9) c := by unfold vhi; rw [if_neg (by omega), if_neg h0, if_neg h1]
theorem pos_uq {N j a c : Nat} (hc : c < N + 2) (h : 3 + a * (N + 2) + c = j) : (j - 3) / (N + 2) = a ∧ (j - 3) % (N + 2) = c := by
  subst h
  rw [show 3 + a * (N + 2) + c - 3 = c + a * (N + 2) by omega]
  rw [Nat.add_mul_div_right _ _ (by omega), Nat.add_mul_mod_self_right, Nat.div_eq_of_lt hc, Nat.mod_eq_of_lt hc, Nat.zero_add]
  exact ⟨rfl, rfl⟩
/-- what is held behind a code at place j -/
def hiP (N j : Nat) (d : Int32) (kf : Nat → Int32) (pf : Nat → Nat → Int32) (u : (Nat → Int32) × (Nat → Nat → Int32)) : Prop :=
  vhi N j d = true → ((j - 3) % (N + 2) = 0 → u = (kf, pf)) ∧ ((j - 3) % (N + 2) = 1 → u = (upd kf ((j - 3) / (N + 2)) (nI (kd d)), pf)) ∧ (2 ≤ (j - 3) % (N + 2) → u = (kf, updR pf ((j - 3) / (N + 2)) (upd (pf ((j - 3) / (N + 2))) ((j - 3) % (N + 2) - 2) (d - nI 48))))
theorem dg_cases (q r : Nat) (c : Int32) : (¬ c - nI 48 < nI 0 ∧ c - nI 48 ≤ nI (if q = r then 0 else 9)) ↔ dgt 0 (if q = r then 0 else 9) c = true := dg_iff (by decide) (by split <;> decide)
