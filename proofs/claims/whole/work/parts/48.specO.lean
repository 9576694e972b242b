section AGNM
variable {hs : Nat → Bool} {sl sa : Nat → Nat} {q v : Nat} {i n : Int32}
theorem agn_le : agn hs sl sa q v i n ≤ 4 := by
  unfold agn
  split
  · decide
  · split
    · decide
    · split
      · decide
      · split <;> decide
theorem agn_inv (h : agn hs sl sa q v i n = 0) : hs q = true ∧ sa q = v ∧ (0 ≤ i.toInt ∧ i.toInt ≤ sl q ∧ 0 ≤ n.toInt ∧ n.toInt ≤ sl q - i.toInt) := by
  unfold agn at h
  split at h
  · omega
  · next h1 =>
    split at h
    · omega
    · next h2 =>
      split at h
      · omega
      · next h3 =>
        split at h
        · omega
        · next h4 =>
          have h2 : hs q = true := by cases e : hs q with
            | true => rfl
            | false => exact absurd e h2
          refine ⟨h2, Classical.byContradiction (fun z => h1 ⟨h2, z⟩), ?_⟩
          omega
end AGNM
/-! walks -/
def wkT (s : Nat) (d : Nat → Nat) (j : Nat) : Int32 := if wkL s d j = 0 then nI (ffs (fun t => decide (wkL s d t ≠ 0)) j) else -9
section WKT
variable {s j : Nat} {d : Nat → Nat}
theorem wkT_a (hb : wkL s d j / 2 ^ d j % 2 = 1) (h0 : wkL s d (j + 1) = 0) : wkT s d (j + 1) = nI (j + 1) := by
  have hne : wkL s d j ≠ 0 := fun z => by rw [z, Nat.zero_div] at hb; omega
  unfold wkT
  have hall : ∀ i, i < j + 1 → (fun t => decide (wkL s d t ≠ 0)) i = true := fun i hi => decide_eq_true (fun z => hne (wkL_0 z (by omega)))
  rw [if_pos h0, ffs_all hall]
theorem wkT_b (hb : wkL s d j / 2 ^ d j % 2 = 1) (h0 : ¬ wkL s d (j + 1) = 0) : wkT s d (j + 1) = wkT s d j := by
  have hne : wkL s d j ≠ 0 := fun z => by rw [z, Nat.zero_div] at hb; omega
  unfold wkT
  rw [if_neg h0, if_neg hne]
theorem wkL_c (hb : ¬ wkL s d j / 2 ^ d j % 2 = 1) : wkL s d (j + 1) = wkL s d j := if_neg hb
theorem wkT_c (hb : ¬ wkL s d j / 2 ^ d j % 2 = 1) : wkT s d (j + 1) = wkT s d j := by
  unfold wkT
  rw [wkL_c hb]
  by_cases h : wkL s d j = 0
  · rw [if_pos h, if_pos h]
    have e : ffs (fun t => decide (wkL s d t ≠ 0)) (j + 1) = ffs (fun t => decide (wkL s d t ≠ 0)) j := if_neg (fun z => (of_decide_eq_true z.2 : wkL s d j ≠ 0) h)
    rw [e]
  · rw [if_neg h, if_neg h]
theorem wkT_0y (h : s = 0) : wkT s d 0 = nI 0 := if_pos h
theorem wkT_0n (h : ¬ s = 0) : wkT s d 0 = -9 := if_neg h
end WKT
/-! odds -/
def pX (p : Nat → Nat → Nat) (b x : Nat) : Nat → Nat → Nat := fun a c => if c = b then (if x / 2 ^ a % 2 = 1 then 0 else p a b) else p a c
theorem lg_pX {N b x : Nat} {k : Nat → Nat} {p : Nat → Nat → Nat} : lg N k (pX p b x) b = lgt (wL k p b x) N := lgt_cong (fun a _ => by
  unfold wF pX wL
  rw [if_pos rfl]
  split
  · exact wt_0.mpr rfl
  · rfl)
theorem ag_pX {N b x : Nat} {k : Nat → Nat} {p : Nat → Nat → Nat} {kf f f2 : Nat → Int32} (h : Ag N k p kf (PF f)) (hb : b < N) (h1 : ∀ a, a < N → f2 (6 * a + b) = if x / 2 ^ a % 2 = 1 then nI 0 else nI (p a b)) (h2 : ∀ j, j < 36 → j % 6 ≠ b → f2 j = f j) : Ag N k (pX p b x) kf (PF f2) := by
  have hN := h.1
  refine ⟨h.1, h.2.1, fun a ha => ⟨?_, fun c hc => ?_⟩⟩
  · unfold pX
    split
    · next e => split; rfl; rw [← e]; exact h.p0 ha
    · exact h.p0 ha
  · unfold pX
    by_cases e : c = b
    · subst e
      rw [if_pos rfl]
      refine ⟨?_, ?_⟩
      · show f2 (6 * a + c) = _
        rw [h1 a ha]
        split <;> rfl
      · split
        · exact Nat.zero_le _
        · exact h.p9 ha hb
    · rw [if_neg e]
      refine ⟨?_, h.p9 ha hc⟩
      show f2 (6 * a + c) = _
      rw [h2 _ (by omega) (by omega)]
      exact h.pp ha hc
theorem cntB_hi2 {P : Nat → Bool} {n : Nat} : ∀ {m : Nat}, n ≤ m → (∀ i, n ≤ i → i < m → P i = false) → cntB P m = cntB P n
  | 0, h, _ => by rw [show n = 0 by omega]
  | m + 1, h, hf => by
    rcases Nat.lt_or_ge m n with w | w
    · rw [show n = m + 1 by omega]
    · rw [cntB_n (hf m w (by omega))]
      exact cntB_hi2 w (fun i h1 h2 => hf i h1 (by omega))
theorem oIn_hi : ∀ N, N < 7 → ∀ O, O < 2 ^ N → ∀ x, x < 64 → 2 ^ N ≤ x → oIn O x = false := by
  intro N hN O hO x hx hx2
  have key : ∃ b, N ≤ b ∧ b < 6 ∧ bitP x b = true := by
    refine Classical.byContradiction (fun z => ?_)
    have h0 : ∀ b, N ≤ b → Nat.testBit x b = false := fun b hb => by
      rcases Nat.lt_or_ge b 6 with w | w
      · cases e : Nat.testBit x b with
        | false => rfl
        | true => exact absurd ⟨b, hb, w, decide_eq_true (bit_tb.mpr e)⟩ z
      · exact Nat.testBit_lt_two_pow (Nat.lt_of_lt_of_le hx (show 2 ^ 6 ≤ 2 ^ b from Nat.pow_le_pow_right (by decide) w))
    have h1 : x < 2 ^ N := Nat.lt_pow_two_of_testBit x h0
    omega
  obtain ⟨b, h1, h2, h3⟩ := key
  exact allB_f h2 (by show (!(bitP x b) || bitP O b) = false; rw [h3, bit_hi hO h1]; rfl)
theorem cnt_in {N O : Nat} (hN : N ≤ 6) (hO : O < 2 ^ N) : cntB (oIn O) 64 = cntB (oIn O) (2 ^ N) := cntB_hi2 (show 2 ^ N ≤ 2 ^ 6 from Nat.pow_le_pow_right (by decide) hN) (fun i h1 h2 => oIn_hi N (by omega) O hO i h2 h1)
theorem cnt_ye {N O b a : Nat} {k : Nat → Nat} {p : Nat → Nat → Nat} (hN : N ≤ 6) (hO : O < 2 ^ N) : cntB (oYes N O k p b a) 64 = cntB (oYes N O k p b a) (2 ^ N) := cntB_hi2 (show 2 ^ N ≤ 2 ^ 6 from Nat.pow_le_pow_right (by decide) hN) (fun i h1 h2 => by
  show (oIn O i && _) = false
  rw [oIn_hi N (by omega) O hO i h2 h1]
  rfl)
theorem pw6 {N : Nat} (hN : N ≤ 6) : 2 ^ N ≤ 64 := show 2 ^ N ≤ 2 ^ 6 from Nat.pow_le_pow_right (by decide) hN
theorem cnt_in0 {O : Nat} (hO : O < 64) : 0 < cntB (oIn O) 64 := by
  obtain ⟨e, _, h⟩ := o_pow O hO
  rw [h]
  exact Nat.two_pow_pos e
theorem cut_3 {s : Nat} {v : Int32} (hs : s < 2 ^ 31) : (s = 0 → cut (nI s) v = v.toInt8.toInt32) ∧ (s = 1 → cut (nI s) v = v.toInt16.toInt32) ∧ (¬ s = 0 → ¬ s = 1 → cut (nI s) v = v) := by
  refine ⟨fun h => ?_, fun h => ?_, fun h0 h1 => ?_⟩
  · subst h; exact if_pos rfl
  · subst h; unfold cut; rw [if_neg (by decide), if_pos rfl]
  · unfold cut
    rw [if_neg (show ¬ nI s = 0 from fun z => h0 ((nI_eq (b := 0) hs (by decide)).mp z)), if_neg (fun z => h1 ((nI_eq hs (by decide)).mp z))]
