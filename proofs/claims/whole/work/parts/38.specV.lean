/-! walks -/
theorem clr_i : ∀ s, s < 64 → ∀ x, x < 6 → nI s &&& (nI (2 ^ x) ^^^ (-1)) = nI (clr s x) := by decide +kernel
theorem clr_lt {s x : Nat} (h : s < 64) : clr s x < 64 := by
  unfold clr
  split
  · exact Nat.lt_of_le_of_lt (Nat.sub_le _ _) h
  · exact h
theorem clr_0 (x : Nat) : clr 0 x = 0 := by
  unfold clr
  split
  · exact Nat.zero_sub _
  · rfl
theorem wkL_lt {s : Nat} {d : Nat → Nat} (h : s < 64) : ∀ n, wkL s d n < 64
  | 0 => h
  | n + 1 => clr_lt (wkL_lt h n)
theorem wkL_0 {s : Nat} {d : Nat → Nat} {m : Nat} (h : wkL s d m = 0) : ∀ {n : Nat}, m ≤ n → wkL s d n = 0
  | 0, z => by rw [show m = 0 by omega] at h; exact h
  | n + 1, z => by
    rcases Nat.lt_or_ge n m with q | q
    · rw [show n + 1 = m by omega]; exact h
    · show clr (wkL s d n) (d n) = 0
      rw [wkL_0 h q, clr_0]
theorem ab_n {a b : Nat} (ha : a < 2 ^ 30) (hb : b < 2 ^ 30) : (if 0 ≤ nI a - nI b then nI a - nI b else 0 - (nI a - nI b)) = nI (if a < b then b - a else a - b) := by
  have z : (0 : Int32).toInt = 0 := rfl
  have h := pk_sub_toInt ha hb
  rcases Nat.lt_or_ge a b with q | q
  · rw [if_pos q, if_neg (fun e => by rw [Int32.le_iff_toInt_le, h, z] at e; omega)]
    have e : 0 - (nI a - nI b) = nI b - nI a := by
      apply Int32.toInt_inj.mp
      rw [Int32.toInt_sub, h, z, pk_sub_toInt hb ha, Int.bmod_def]
      split <;> omega
    rw [e]
    exact pk_sub (by omega)
  · have e : 0 ≤ nI a - nI b := by rw [Int32.le_iff_toInt_le, h, z]; omega
    rw [if_pos e, if_neg (Nat.not_lt.mpr q)]
    exact pk_sub q
def pvD (d : Nat → Nat) (q j : Nat) : Nat := if j = 0 then q else d (j - 1)
theorem wkS_s {d : Nat → Nat} {q j : Nat} : wkS d q (j + 1) = wkS d q j + (if d j < pvD d q j then pvD d q j - d j else d j - pvD d q j) := rfl
theorem pvD_s {d : Nat → Nat} {q j : Nat} : pvD d q (j + 1) = d j := rfl
theorem pvD_lt {d : Nat → Nat} {q j m : Nat} (hq : q < 6) (hd : ∀ i, i < m → d i < 6) (hj : j ≤ m) : pvD d q j < 6 := by
  unfold pvD
  split
  · exact hq
  · exact hd _ (by omega)
theorem wkS_le {d : Nat → Nat} {q m : Nat} (hq : q < 6) (hd : ∀ i, i < m → d i < 6) : ∀ {j : Nat}, j ≤ m → wkS d q j ≤ 6 * j
  | 0, _ => Nat.zero_le _
  | j + 1, h => by
    have ih := wkS_le hq hd (j := j) (by omega)
    have h1 := pvD_lt (j := j) hq hd (by omega)
    have h2 := hd j (by omega)
    rw [wkS_s]
    split <;> omega
theorem ffs_cong {P Q : Nat → Bool} : ∀ {n : Nat}, (∀ i, i < n → P i = Q i) → ffs P n = ffs Q n
  | 0, _ => rfl
  | n + 1, h => by
    show (if _ then _ else _) = (if _ then _ else _)
    rw [ffs_cong (fun i hi => h i (by omega)), h n (by omega)]
theorem vcd_cong {tx ty : Nat → Int32} {w : Nat} (h : ∀ j, j < w → tx j = ty j) : ∀ j, j < w → vcd tx j = vcd ty j := fun j hj => by
  have e : ∀ i, i ≤ j → tx i = ty i := fun i hi => h i (by omega)
  unfold vcd
  by_cases h0 : j = 0
  · rw [if_pos h0, if_pos h0, e 0 (Nat.zero_le _)]
  · by_cases h1 : j = 1
    · rw [if_neg h0, if_neg h0, if_pos h1, if_pos h1, e 1 (by omega)]
    · have en : Nx tx = Nx ty := by unfold Nx; rw [e 1 (by omega)]
      by_cases h2 : j = 2
      · rw [if_neg h0, if_neg h0, if_neg h1, if_neg h1, if_pos h2, if_pos h2, e 2 (by omega)]
      · rw [if_neg h0, if_neg h0, if_neg h1, if_neg h1, if_neg h2, if_neg h2, en, e j (Nat.le_refl _)]
theorem suc_cong {tx ty : Nat → Int32} {w : Nat} (h : ∀ j, j < w → tx j = ty j) : (ffs (vcd tx) w = w ∧ tl (Nx tx) ≤ w) ↔ (ffs (vcd ty) w = w ∧ tl (Nx ty) ≤ w) := by
  rw [ffs_cong (vcd_cong h)]
  rcases Nat.lt_or_ge w 2 with q | q
  · constructor <;> intro z <;> have z2 := z.2 <;> unfold tl at z2 <;> omega
  · have en : Nx tx = Nx ty := by unfold Nx; rw [h 1 (by omega)]
    rw [en]
theorem rs_y {P : Prop} [Decidable P] {f : Nat} (hf : f < 2 ^ 31) (h : (if P then (-9 : Int32) else nI f) = -9) : P := by
  by_cases p : P
  · exact p
  · rw [if_neg p] at h
    have e : (nI f).toInt = -9 := by rw [h]; rfl
    rw [nI_toInt hf] at e
    omega
theorem rs_n {P : Prop} [Decidable P] {f : Nat} (h : ¬ (if P then (-9 : Int32) else nI f) = -9) : ¬ P := fun p => h (if_pos p)
theorem kd_le (c : Int32) : kd c ≤ 2 := by unfold kd; split <;> (try split) <;> decide
theorem TxI.ag {tx ty : Nat → Int32} {w : Nat} {vN vB : Int32} {kf : Nat → Int32} {pf : Nat → Nat → Int32} (h : ∀ j, j < w → tx j = ty j) (hI : TxI tx w vN vB kf pf) (hs : tl (Nx tx) ≤ w) : (vN = nI (Nx ty) ∧ vB = nI (dv (ty 2)) ∧ dv (ty 2) ≤ 9 ∧ 2 ≤ Nx ty) ∧ Ag (Nx ty) (xK ty) (xPn ty) kf pf := by
  obtain ⟨h1, h2, h3, h4, h5⟩ := hI
  have hw : 3 ≤ w := by unfold tl at hs; omega
  have en : Nx ty = Nx tx := by unfold Nx; rw [h 1 (by omega)]
  have hN := h2 (by omega)
  have hb := h3 hw
  rw [h 2 (by omega)] at hb
  rw [en]
  refine ⟨⟨by rw [h1, eN_hi (by omega)], hb.1, hb.2, hN.1⟩, hN.2, fun a ha => ?_, fun a ha => ?_⟩
  · have hm : (a + 1) * (Nx tx + 2) ≤ Nx tx * (Nx tx + 2) := Nat.mul_le_mul_right _ ha
    have hx : (a + 1) * (Nx tx + 2) = a * (Nx tx + 2) + (Nx tx + 2) := Nat.succ_mul _ _
    have hp : 3 + a * (Nx tx + 2) + 1 < w := by unfold tl at hs; omega
    refine ⟨?_, kd_le _⟩
    show _ = nI (kd (ty (3 + a * (Nx ty + 2) + 1)))
    rw [en, ← h _ hp]
    exact h4 a ha hp
  · have hm : (a + 1) * (Nx tx + 2) ≤ Nx tx * (Nx tx + 2) := Nat.mul_le_mul_right _ ha
    have hx : (a + 1) * (Nx tx + 2) = a * (Nx tx + 2) + (Nx tx + 2) := Nat.succ_mul _ _
    have key : ∀ b, b < Nx tx → pf a b = nI (xPn ty a b) ∧ xPn ty a b ≤ if a = b then 0 else 9 := fun b hb2 => by
      have hp : 3 + a * (Nx tx + 2) + 2 + b < w := by unfold tl at hs; omega
      show _ = nI (dv (ty (3 + a * (Nx ty + 2) + 2 + b))) ∧ dv (ty (3 + a * (Nx ty + 2) + 2 + b)) ≤ _
      rw [en, ← h _ hp]
      exact h5 a ha b hb2 hp
    refine ⟨?_, fun b hb2 => ⟨(key b hb2).1, ?_⟩⟩
    · have z := (key a ha).2
      rw [if_pos rfl] at z
      omega
    · have z := (key b hb2).2
      split at z <;> omega
section AGN
variable {hs : Nat → Bool} {sl sa : Nat → Nat} {q v : Nat} {i n : Int32}
theorem agn_2 (h1 : hs q = true) (h2 : ¬ sa q = v) : agn hs sl sa q v i n = 2 := if_pos ⟨h1, h2⟩
theorem agn_1 (h1 : hs q = false) : agn hs sl sa q v i n = 1 := by unfold agn; rw [if_neg (fun z => by rw [h1] at z; cases z.1), if_pos h1]
theorem agn_4 (h1 : hs q = true) (h2 : sa q = v) (h3 : n.toInt < 0) : agn hs sl sa q v i n = 4 := by unfold agn; rw [if_neg (fun z => z.2 h2), if_neg (by rw [h1]; decide), if_pos h3]
theorem agn_3 (h1 : hs q = true) (h2 : sa q = v) (h3 : ¬ n.toInt < 0) (h4 : ¬ (0 ≤ i.toInt ∧ i.toInt ≤ sl q ∧ 0 ≤ n.toInt ∧ n.toInt ≤ sl q - i.toInt)) : agn hs sl sa q v i n = 3 := by unfold agn; rw [if_neg (fun z => z.2 h2), if_neg (by rw [h1]; decide), if_neg h3, if_pos (by omega)]
theorem agn_0 (h1 : hs q = true) (h2 : sa q = v) (h4 : 0 ≤ i.toInt ∧ i.toInt ≤ sl q ∧ 0 ≤ n.toInt ∧ n.toInt ≤ sl q - i.toInt) : agn hs sl sa q v i n = 0 := by unfold agn; rw [if_neg (fun z => z.2 h2), if_neg (by rw [h1]; decide), if_neg (by omega), if_neg (by omega)]
theorem ge0 {n : Int32} (h : 0 ≤ n) : ¬ n.toInt < 0 := by rw [Int32.le_iff_toInt_le] at h; have z : (0 : Int32).toInt = 0 := rfl; omega
theorem lt0 {n : Int32} (h : ¬ 0 ≤ n) : n.toInt < 0 := by rw [Int32.le_iff_toInt_le] at h; have z : (0 : Int32).toInt = 0 := rfl; omega
end AGN
theorem dOf_s {N : Nat} {x : Int32} (hN : N ≤ 6) (h : (pOf N x).isSome = true) : x = nI (dOf N x) ∧ dOf N x < N := by
  cases e : pOf N x with
  | none => rw [e] at h; cases h
  | some j =>
    have z := (pOf_s (by omega)).mp e
    unfold dOf
    rw [e]
    exact ⟨z.2, z.1⟩
