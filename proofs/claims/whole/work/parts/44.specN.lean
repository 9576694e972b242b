theorem soT_t {N B c t : Nat} {k : Nat → Nat} {p : Nat → Nat → Nat} {rd rl : Nat → Nat} {ra : Nat → Option Nat} (ht : t ≤ 11) (h : ¬ soT N B c k p rd rl ra t = true) : ¬ soT N B c k p rd rl ra 11 = true := fun z => h (allB_i.mpr (fun i hi => allB_i.mp z i (by omega)))
theorem allB_s {P : Nat → Bool} {n : Nat} : allB P (n + 1) = (allB P n && P n) := rfl
theorem two_n {N : Nat} {x y : Int32} (hN : N ≤ 6) (h : ¬ ((pOf N x).isSome = true ∧ (pOf N y).isSome = true ∧ ¬ x = y)) : pOf N x = none ∨ (∃ a, pOf N x = some a ∧ pOf N y = none) ∨ ∃ a, pOf N x = some a ∧ pOf N y = some a := by
  cases e : pOf N x with
  | none => exact Or.inl rfl
  | some a =>
    cases e2 : pOf N y with
    | none => exact Or.inr (Or.inl ⟨a, rfl, rfl⟩)
    | some b =>
      refine Or.inr (Or.inr ⟨a, rfl, ?_⟩)
      have z1 := (pOf_s (by omega)).mp e
      have z2 := (pOf_s (by omega)).mp e2
      by_cases z : x = y
      · have z3 : nI a = nI b := by rw [← z1.2, ← z2.2, z]
        rw [(nI_eq (by omega) (by omega)).mp z3]
      · exact absurd ⟨by rw [e]; rfl, by rw [e2]; rfl, z⟩ h
