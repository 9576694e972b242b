/-! texts, as the reference reads them -/
/-- the reading ends at place j, not as it should -/
def Fl (tx : Nat → Int32) (w j : Nat) : Prop := j ≤ w ∧ (∀ q, q < j → vcd tx q = true) ∧ (j < w → vcd tx j = false) ∧ (j = w → w < tl (Nx tx))
theorem fl_ffs {tx : Nat → Int32} {w j : Nat} (h : Fl tx w j) : ffs (vcd tx) w = j ∧ ¬ (ffs (vcd tx) w = w ∧ tl (Nx tx) ≤ w) := by
  obtain ⟨h1, h2, h3, h4⟩ := h
  have e : ffs (vcd tx) w = j := by
    rcases Nat.lt_or_ge j w with q | q
    · exact ffs_stop h2 (h3 q) h1
    · have ej : j = w := by omega
      rw [ej] at h2 ⊢
      exact ffs_all h2
  refine ⟨e, fun z => ?_⟩
  rw [e] at z
  have := h4 z.1
  omega
theorem txi_cg {tx : Nat → Int32} {j : Nat} {vN vB : Int32} {kf : Nat → Int32} {pf pf' : Nat → Nat → Int32} (h : TxI tx j vN vB kf pf) (h2 : 2 ≤ j) (hp : ∀ a b, a < 6 → b < 6 → pf' a b = pf a b) : TxI tx j vN vB kf pf' := by
  have hN := h.2.1 h2
  exact ⟨h.1, h.2.1, h.2.2.1, h.2.2.2.1, fun a ha b hb z => by rw [hp a b (by omega) (by omega)]; exact h.2.2.2.2 a ha b hb z⟩
section RDP
variable {tx : Nat → Int32} {N a j : Nat} {vN vB : Int32} {kf rp : Nat → Int32} {w : Nat}
theorem rw_lt (ha : a < N) : 3 + a * (N + 2) + (N + 2) ≤ tl N := by
  have h : (a + 1) * (N + 2) ≤ N * (N + 2) := Nat.mul_le_mul_right _ ha
  rw [Nat.succ_mul] at h
  unfold tl
  omega
theorem all_s (h : ∀ q, q < j → vcd tx q = true) (hj : vcd tx j = true) : ∀ q, q < j + 1 → vcd tx q = true := fun q hq => by
  rcases Nat.lt_or_ge q j with z | z
  · exact h q z
  · rw [show q = j by omega]; exact hj
/-- the comma before one person -/
theorem vc_c (hN : Nx tx = N) (hj : j = 3 + a * (N + 2)) (ha : a < N) : vcd tx j = decide (tx j = nI 44) := by
  have hl := rw_lt ha
  have e := pos_uq (N := N) (a := a) (c := 0) (j := j) (by omega) (by omega)
  rw [vcd_hi (by omega), hN, vhi_0 (by omega) e.2]
theorem vc_k (hN : Nx tx = N) (hj : j = 3 + a * (N + 2) + 1) (ha : a < N) : vcd tx j = decide (tx j = nI 112 ∨ tx j = nI 114 ∨ tx j = nI 98) := by
  have hl := rw_lt ha
  have e := pos_uq (N := N) (a := a) (c := 1) (j := j) (by omega) (by omega)
  rw [vcd_hi (by omega), hN, vhi_1 (by omega) e.2]
theorem vc_p {b : Nat} (hN : Nx tx = N) (hj : j = 3 + a * (N + 2) + 2 + b) (ha : a < N) (hb : b < N) : vcd tx j = dgt 0 (if b = a then 0 else 9) (tx j) := by
  have hl := rw_lt ha
  have e := pos_uq (N := N) (a := a) (c := 2 + b) (j := j) (by omega) (by omega)
  rw [vcd_hi (by omega), hN, vhi_2 (by omega) (by omega) (by omega), e.1, e.2, show 2 + b - 2 = b by omega]
  by_cases z : b = a
  · rw [if_pos z, if_pos z.symm]
  · rw [if_neg z, if_neg (fun y => z y.symm)]
theorem tx_c (hI : TxI tx j vN vB kf (PF rp)) (hN : Nx tx = N) (hj : j = 3 + a * (N + 2)) (ha : a < N) (hv : vcd tx j = true) : TxI tx (j + 1) vN vB kf (PF rp) := by
  have e := pos_uq (N := N) (a := a) (c := 0) (j := j) (by omega) (by omega)
  refine TxI_3 (u := (kf, PF rp)) (by omega) hI (by rw [← vcd_hi (by omega)]; exact hv) (fun _ => ?_)
  rw [hN, e.2]
  exact ⟨fun _ => rfl, fun z => by omega, fun z => by omega⟩
theorem tx_k {v : Nat} (hI : TxI tx j vN vB kf (PF rp)) (hN : Nx tx = N) (hj : j = 3 + a * (N + 2) + 1) (ha : a < N) (hv : vcd tx j = true) (hk : kd (tx j) = v) : TxI tx (j + 1) vN vB (upd kf a (nI v)) (PF rp) := by
  have e := pos_uq (N := N) (a := a) (c := 1) (j := j) (by omega) (by omega)
  refine TxI_3 (u := (upd kf a (nI v), PF rp)) (by omega) hI (by rw [← vcd_hi (by omega)]; exact hv) (fun _ => ?_)
  rw [hN, e.2, e.1, hk]
  exact ⟨fun z => by omega, fun _ => rfl, fun z => by omega⟩
theorem tx_p {b : Nat} (hI : TxI tx j vN vB kf (PF rp)) (hN : Nx tx = N) (h6 : N ≤ 6) (hj : j = 3 + a * (N + 2) + 2 + b) (ha : a < N) (hb : b < N) (hv : vcd tx j = true) : TxI tx (j + 1) vN vB kf (PF (upd rp (6 * a + b) (nI (dv (tx j))))) := by
  have e := pos_uq (N := N) (a := a) (c := 2 + b) (j := j) (by omega) (by omega)
  have hd := hv
  rw [vc_p hN hj ha hb] at hd
  have hdv := (dg_v (by split <;> decide) hd).1
  have h := TxI_3 (u := (kf, updR (PF rp) a (upd (PF rp a) b (tx j - nI 48)))) (by omega) hI (by rw [← vcd_hi (by omega)]; exact hv) (fun _ => by
    rw [hN, e.2, e.1, show 2 + b - 2 = b by omega]
    exact ⟨fun z => by omega, fun z => by omega, fun _ => rfl⟩)
  refine txi_cg h (by omega) (fun x y hx hy => ?_)
  show upd rp (6 * a + b) (nI (dv (tx j))) (6 * x + y) = updR (PF rp) a (upd (PF rp a) b (tx j - nI 48)) x y
  rw [hdv]
  by_cases e1 : x = a
  · subst e1
    rw [updR_s]
    by_cases e2 : y = b
    · subst e2; rw [pk_us, pk_us]
    · rw [pk_un (by omega), pk_un e2]
  · rw [updR_n e1, pk_un (by omega)]
end RDP
theorem dg_ne {P : Prop} [Decidable P] {x : Nat} (h : ¬ (if P then nI x else (-9 : Int32)) = -9) : P := by
  by_cases p : P
  · exact p
  · rw [if_neg p] at h; exact absurd rfl h
theorem dg_eq {P : Prop} [Decidable P] {x : Nat} (hx : P → x < 2 ^ 31) (h : (if P then nI x else (-9 : Int32)) = -9) : ¬ P := fun p => by
  rw [if_pos p] at h
  exact m9_ne (hx p) h
theorem dv_lt {lo hi : Nat} {c : Int32} (hh : hi ≤ 9) (h : dgt lo hi c = true) : dv c < 2 ^ 31 := by
  have := (dg_v hh h).2.2
  omega
theorem fl_at {tx : Nat → Int32} {w j : Nat} (h1 : j ≤ w) (h2 : ∀ q, q < j → vcd tx q = true) (h3 : j < w → vcd tx j = false) (h4 : j < tl (Nx tx)) : Fl tx w j := ⟨h1, h2, h3, fun z => by omega⟩
theorem kd_p {c : Int32} (h : c = nI 112) : kd c = 0 := if_pos h
theorem kd_r {c : Int32} (h1 : ¬ c = nI 112) (h : c = nI 114) : kd c = 1 := by unfold kd; rw [if_neg h1, if_pos h]
theorem kd_b {c : Int32} (h1 : ¬ c = nI 112) (h2 : ¬ c = nI 114) : kd c = 2 := by unfold kd; rw [if_neg h1, if_neg h2]
theorem tl_0 {N : Nat} : 2 < tl N := by unfold tl; omega
