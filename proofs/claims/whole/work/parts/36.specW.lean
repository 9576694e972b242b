theorem fb_holes : ∀ (m n : Nat) (f : Nat → Nat), (∀ i, i < n → f i < m) → (∀ i j, i < j → j < n → f i ≠ f j) → n ≤ m := by
  intro m
  induction m with
  | zero =>
    intro n f h1 _
    rcases Nat.eq_zero_or_pos n with h | h
    · omega
    · exact absurd (h1 0 h) (Nat.not_lt_zero _)
  | succ m ih =>
    intro n f h1 h2
    by_cases hx : ∃ i, i < n ∧ f i = m
    · obtain ⟨a, ha, hfa⟩ := hx
      have hg := ih (n - 1) (fun i => if i < a then f i else f (i + 1)) (by
        intro i hi
        by_cases q : i < a
        · simp only [if_pos q]
          have b1 := h1 i (by omega)
          have b2 := h2 i a q ha
          omega
        · simp only [if_neg q]
          have b1 := h1 (i + 1) (by omega)
          have b2 := h2 a (i + 1) (by omega) (by omega)
          omega) (by
        intro i j hij hj
        by_cases q : i < a
        · by_cases r : j < a
          · simp only [if_pos q, if_pos r]
            exact h2 i j hij (by omega)
          · simp only [if_pos q, if_neg r]
            exact h2 i (j + 1) (by omega) (by omega)
        · have r : ¬ j < a := by omega
          simp only [if_neg q, if_neg r]
          exact h2 (i + 1) (j + 1) (by omega) (by omega))
      omega
    · have hg := ih n f (fun i hi => by
        have b1 := h1 i hi
        have b2 : f i ≠ m := fun e => hx ⟨i, hi, e⟩
        omega) h2
      omega
/-- two of them in one place -/
theorem fb_twice {m n : Nat} {f : Nat → Nat} (h : ∀ i, i < n → f i < m) (hm : m < n) : ∃ i j, i < j ∧ j < n ∧ f i = f j := by
  refine Classical.byContradiction fun hx => ?_
  have := fb_holes m n f h (fun i j hij hj e => hx ⟨i, j, hij, hj, e⟩)
  omega
/-! rings -/
section RING
variable {N : Nat} {k : Nat → Nat} {p : Nat → Nat → Nat}
theorem goL_add (b m : Nat) : ∀ n, goL N k p b (m + n) = (goL N k p b m).bind (fun a => goL N k p a n)
  | 0 => by
    show goL N k p b m = _
    cases goL N k p b m <;> rfl
  | n + 1 => by
    show (goL N k p b (m + n)).bind (lg N k p) = _
    rw [goL_add b m n]
    cases goL N k p b m <;> rfl
theorem goL_none {b m n : Nat} (h : goL N k p b m = none) (hn : m ≤ n) : goL N k p b n = none := by
  rw [show n = m + (n - m) by omega, goL_add, h]
  rfl
theorem goL_lt {b : Nat} (hb : b < N) : ∀ {n a : Nat}, goL N k p b n = some a → a < N
  | 0, a, h => by cases h; exact hb
  | n + 1, a, h => by
    have h : (goL N k p b n).bind (lg N k p) = some a := h
    cases e : goL N k p b n with
    | none => rw [e] at h; cases h
    | some c => rw [e] at h; exact lg_lt h
theorem goL_per {x d : Nat} (h : goL N k p x d = some x) : ∀ t, goL N k p x (t * d) = some x
  | 0 => by rw [Nat.zero_mul]; rfl
  | t + 1 => by rw [Nat.succ_mul, goL_add, goL_per h t]; exact h
/-- behind N goes one is where people come again -/
theorem goL_cyc {b : Nat} (hb : b < N) {a : Nat} (h : goL N k p b N = some a) (n : Nat) : ∃ c, goL N k p a n = some c := by
  have some' : ∀ i, i ≤ N → ∃ c, goL N k p b i = some c := fun i hi => by
    cases e : goL N k p b i with
    | none => rw [goL_none e hi] at h; cases h
    | some c => exact ⟨c, rfl⟩
  obtain ⟨i, j, hij, hj, hf⟩ := fb_twice (m := N) (n := N + 1) (f := fun i => (goL N k p b i).getD 0) (fun i hi => by
    obtain ⟨c, hc⟩ := some' i (by omega)
    show (goL N k p b i).getD 0 < N
    rw [hc]
    exact goL_lt hb hc) (Nat.lt_succ_self N)
  obtain ⟨x, hx⟩ := some' i (by omega)
  obtain ⟨y, hy⟩ := some' j (by omega)
  have hf : (goL N k p b i).getD 0 = (goL N k p b j).getD 0 := hf
  rw [hx, hy] at hf
  have exy : x = y := hf
  subst exy
  have hp : goL N k p x (j - i) = some x := by
    have z := goL_add (N := N) (k := k) (p := p) b i (j - i)
    rw [show i + (j - i) = j by omega, hy, hx] at z
    exact z.symm
  have big : ∃ c, goL N k p b (N + n) = some c := by
    cases e : goL N k p b (N + n) with
    | some c => exact ⟨c, rfl⟩
    | none =>
      have z := goL_per hp (N + n)
      have w := goL_add (N := N) (k := k) (p := p) b i ((N + n) * (j - i))
      have hge : N + n ≤ (N + n) * (j - i) := Nat.le_mul_of_pos_right _ (by omega)
      rw [goL_none e (by omega), hx] at w
      have w : none = goL N k p x ((N + n) * (j - i)) := w
      rw [z] at w
      cases w
  obtain ⟨c, hc⟩ := big
  rw [goL_add, h] at hc
  exact ⟨c, hc⟩
theorem orb_s {b n a : Nat} (h : goL N k p b n = some a) : orb N k p b (n + 1) = orb N k p b n ||| 2 ^ a := by
  show orb N k p b n ||| _ = _
  rw [h]
theorem orb_lt {b : Nat} (hN : N ≤ 6) (hb : b < N) : ∀ n, orb N k p b n < 64
  | 0 => by show 0 < 64; decide
  | n + 1 => by
    have ih := orb_lt hN hb n
    cases e : goL N k p b n with
    | none =>
      have e2 : orb N k p b (n + 1) = orb N k p b n := by show orb N k p b n ||| _ = _; rw [e]; exact Nat.or_zero _
      rw [e2]; exact ih
    | some a =>
      rw [orb_s e]
      have ha := goL_lt hb e
      have h2 : 2 ^ a < 2 ^ 6 := Nat.pow_lt_pow_right (by decide) (by omega)
      exact Nat.or_lt_two_pow (n := 6) ih h2
end RING
/-! odds -/
theorem oIn_i : ∀ x, x < 64 → ∀ O, O < 64 → ((nI x &&& (nI O ^^^ (-1))) = 0 ↔ oIn O x = true) := by decide +kernel
theorem o_pow : ∀ O, O < 64 → ∃ e, e < 7 ∧ cntB (oIn O) 64 = 2 ^ e := by decide +kernel
theorem cntB_y {P : Nat → Bool} {n : Nat} (h : P n = true) : cntB P (n + 1) = cntB P n + 1 := by show cntB P n + _ = _; rw [if_pos h]
theorem cntB_n {P : Nat → Bool} {n : Nat} (h : P n = false) : cntB P (n + 1) = cntB P n := by show cntB P n + _ = _; rw [if_neg (by rw [h]; decide)]; rfl
theorem cntB_le {P : Nat → Bool} : ∀ n, cntB P n ≤ n
  | 0 => Nat.le_refl _
  | n + 1 => by
    have h := cntB_le (P := P) n
    show cntB P n + (if P n then 1 else 0) ≤ n + 1
    split <;> omega
/-- halved t times -/
theorem half_end {U L u l t e : Nat} (hL : L = 2 ^ e) (he : e ≤ 6) (hu : u * 2 ^ t = U) (hl : l * 2 ^ t = L) (ht : t ≤ 6) (hx : t = 6 ∨ l ≤ 1 ∨ u % 2 ≠ 0) : U / Nat.gcd U L = u ∧ L / Nat.gcd U L = l := by
  have h2t : 0 < 2 ^ t := Nat.two_pow_pos t
  have hl0 : 0 < l := by
    rcases Nat.eq_zero_or_pos l with z | z
    · rw [z, Nat.zero_mul] at hl
      have := Nat.two_pow_pos e
      omega
    · exact z
  have hg : Nat.gcd u l = 1 := by
    have lp : l = 2 ^ (e - t) := by
      have hte : t ≤ e := by
        rcases Nat.lt_or_ge e t with q | q
        · have h3 : 2 ^ e < 2 ^ t := Nat.pow_lt_pow_right (by decide) q
          have h4 : 2 ^ t ≤ l * 2 ^ t := Nat.le_mul_of_pos_left _ hl0
          omega
        · exact q
      have h5 : 2 ^ (e - t) * 2 ^ t = 2 ^ e := by rw [← Nat.pow_add]; congr 1; omega
      exact Nat.eq_of_mul_eq_mul_right h2t (by rw [hl, hL, h5])
    rcases hx with z | z | z
    · have hle : e - t = 0 := by omega
      rw [lp, hle]
      exact Nat.gcd_one_right u
    · rw [show l = 1 by omega]
      exact Nat.gcd_one_right u
    · rw [lp]
      have hc : Nat.Coprime u 2 := by
        unfold Nat.Coprime
        rw [Nat.gcd_comm, Nat.gcd_rec, show u % 2 = 1 by omega]
        decide
      exact Nat.Coprime.pow_right (e - t) hc
  have hgg : Nat.gcd U L = 2 ^ t := by
    rw [← hu, ← hl, Nat.gcd_mul_right, hg, Nat.one_mul]
  rw [hgg, ← hu, ← hl, Nat.mul_div_cancel _ h2t, Nat.mul_div_cancel _ h2t]
  exact ⟨rfl, rfl⟩
theorem half_s {U u t : Nat} (hu : u * 2 ^ t = U) (h : u % 2 = 0) : u / 2 * 2 ^ (t + 1) = U := by
  rw [Nat.pow_succ, Nat.mul_comm (2 ^ t) 2, ← Nat.mul_assoc, show u / 2 * 2 = u by omega]
  exact hu
theorem half_l {L l t e : Nat} (hL : L = 2 ^ e) (hl : l * 2 ^ t = L) (h1 : 1 < l) : l % 2 = 0 := by
  have h2t : 0 < 2 ^ t := Nat.two_pow_pos t
  have hte : t < e := by
    rcases Nat.lt_or_ge t e with q | q
    · exact q
    · have h3 : 2 ^ e ≤ 2 ^ t := Nat.pow_le_pow_right (by decide) q
      have h4 : 2 * 2 ^ t ≤ l * 2 ^ t := Nat.mul_le_mul_right _ h1
      omega
  have h5 : 2 ^ (e - t) * 2 ^ t = 2 ^ e := by rw [← Nat.pow_add]; congr 1; omega
  have lp : l = 2 ^ (e - t) := Nat.eq_of_mul_eq_mul_right h2t (by rw [hl, hL, h5])
  rw [lp, show e - t = (e - t - 1) + 1 by omega, Nat.pow_succ]
  exact Nat.mul_mod_left _ _
