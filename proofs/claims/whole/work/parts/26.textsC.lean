theorem vcd_hi {tx : Nat → Int32} {j : Nat} (h : 3 ≤ j) : vcd tx j = vhi (Nx tx) j (tx j) := by unfold vcd; rw [if_neg (by omega), if_neg (by omega), if_neg (by omega)]
theorem eN_hi {tx : Nat → Int32} {j : Nat} (h : 2 ≤ j) : eN tx j = Nx tx := if_neg (by omega)
theorem TxI_0 {tx : Nat → Int32} {vN vB : Int32} {kf : Nat → Int32} {pf : Nat → Nat → Int32} (h : TxI tx 0 vN vB kf pf) : TxI tx 1 vN vB kf pf := ⟨h.1, fun z => by omega, fun z => by omega, fun a _ z => by omega, fun a _ b _ z => by omega⟩
theorem TxI_1 {tx : Nat → Int32} {vN vB : Int32} {kf : Nat → Int32} {pf : Nat → Nat → Int32} (h : TxI tx 1 vN vB kf pf) (hv : dgt 2 6 (tx 1) = true) : TxI tx 2 (tx 1 - nI 48) vB kf pf := by
  obtain ⟨e, h1, h2⟩ := dg_v (by decide) hv
  exact ⟨e, fun _ => ⟨h1, h2⟩, fun z => by omega, fun a _ z => by omega, fun a _ b _ z => by omega⟩
theorem TxI_2 {tx : Nat → Int32} {vN vB : Int32} {kf : Nat → Int32} {pf : Nat → Nat → Int32} (h : TxI tx 2 vN vB kf pf) (hv : dgt 0 9 (tx 2) = true) : TxI tx 3 vN (tx 2 - nI 48) kf pf := by
  obtain ⟨e, -, h2⟩ := dg_v (by decide) hv
  exact ⟨h.1, fun _ => h.2.1 (by decide), fun _ => ⟨e, h2⟩, fun a _ z => by omega, fun a _ b _ z => by omega⟩
theorem TxI_3 {tx : Nat → Int32} {j : Nat} {vN vB : Int32} {kf : Nat → Int32} {pf : Nat → Nat → Int32} {u : (Nat → Int32) × (Nat → Nat → Int32)} (hj : 3 ≤ j) (h : TxI tx j vN vB kf pf) (hv : vhi (Nx tx) j (tx j) = true) (hu : hiP (Nx tx) j (tx j) kf pf u) : TxI tx (j + 1) vN vB u.1 u.2 := by
  obtain ⟨h1, h2, h3, h4, h5⟩ := h
  obtain ⟨u0, u1, u2⟩ := hu hv
  have hN := h2 (by omega)
  have hlt : j < tl (Nx tx) := by
    rcases Nat.lt_or_ge j (tl (Nx tx)) with q | q
    · exact q
    · rw [vhi_o q] at hv; cases hv
  have hr : (j - 3) % (Nx tx + 2) < Nx tx + 2 := Nat.mod_lt _ (by omega)
  have hje := j_eq (N := Nx tx) hj
  refine ⟨by rw [h1, eN_hi (by omega), eN_hi (by omega)], fun _ => hN, fun _ => h3 hj, ?_, ?_⟩
  · intro a ha z
    rcases Nat.lt_or_ge (3 + a * (Nx tx + 2) + 1) j with q | q
    · have old := h4 a ha q
      rcases Nat.lt_trichotomy ((j - 3) % (Nx tx + 2)) 1 with w | w | w
      · rw [u0 (by omega)]; exact old
      · rw [u1 w]
        show upd kf _ _ a = _
        rw [pk_un (fun e => by rw [← e, w] at hje; omega)]
        exact old
      · rw [u2 (by omega)]; exact old
    · have e := pos_uq (N := Nx tx) (a := a) (c := 1) (j := j) (by omega) (by omega)
      rw [u1 e.2, e.1, show 3 + a * (Nx tx + 2) + 1 = j by omega]
      exact pk_us
  · intro a ha b hb z
    rcases Nat.lt_or_ge (3 + a * (Nx tx + 2) + 2 + b) j with q | q
    · have old := h5 a ha b hb q
      rcases Nat.lt_trichotomy ((j - 3) % (Nx tx + 2)) 1 with w | w | w
      · rw [u0 (by omega)]; exact old
      · rw [u1 w]; exact old
      · rw [u2 (by omega)]
        refine ⟨?_, old.2⟩
        show updR pf _ _ a b = _
        by_cases ea : a = (j - 3) / (Nx tx + 2)
        · rw [← ea, updR_s, pk_un (fun e => by rw [← ea] at hje; omega)]
          exact old.1
        · rw [updR_n ea]
          exact old.1
    · have e := pos_uq (N := Nx tx) (a := a) (c := 2 + b) (j := j) (by omega) (by omega)
      have hv2 := hv
      rw [vhi_2 hlt (by omega) (by omega), e.1, e.2, show 2 + b - 2 = b by omega] at hv2
      have hd := dg_v (by split <;> decide) hv2
      rw [u2 (by omega), e.1, e.2, show 3 + a * (Nx tx + 2) + 2 + b = j by omega, show 2 + b - 2 = b by omega]
      refine ⟨?_, hd.2.2⟩
      show updR pf _ _ a b = _
      rw [updR_s, pk_us]
      exact hd.1
abbrev TxS : Type := Int32 × Int32 × (Nat → Int32) × (Nat → Nat → Int32)
set_option maxHeartbeats 1000000 in
theorem c_X5_takesCode {l : Launch} {D : va_G} {cy : Nat → ClassId} (a : Nat → Nat) (vN vB : Int32) (kf : Nat → Int32) (pf : Nat → Nat → Int32) (lf tf : Nat → Int32) (tx : Nat → Int32) (j : Nat) (hj : j ≤ 60) (hI : TxI tx j vN vB kf pf) : Ct l yX5_takesCode wsX5_takesCode ({ frames := 1, cells := 0, slots := 0, locals := 24 }) D cy [.ref (a 0), .int (nI j), .int (tx j)] (wT a cy vN vB kf pf lf tf) (fun u : TxS => vcd tx j = true → TxI tx (j + 1) u.1 u.2.1 u.2.2.1 u.2.2.2) (fun _ => some (.int (nI (bN (vcd tx j = true))))) (fun u => wT a cy u.1 u.2.1 u.2.2.1 u.2.2.2 lf tf) := by
  match j, hj, hI with
  | 0, _, hI => exact (c_takesCode0 a vN vB kf pf lf tf (tx 0)).map (fun _ => (vN, vB, kf, pf)) (fun _ _ => ⟨fun _ => TxI_0 hI, rv_c (by show _ ↔ decide (tx 0 = nI 108) = true; rw [decide_eq_true_eq]), rfl⟩)
  | 1, _, hI => exact (c_takesCode1 a vN vB kf pf lf tf (tx 1)).map (fun _ => (if (¬ tx 1 - nI 48 < nI 2 ∧ tx 1 - nI 48 ≤ nI 6) then tx 1 - nI 48 else vN, vB, kf, pf)) (fun _ _ => ⟨fun z => by
      have z : dgt 2 6 (tx 1) = true := z
      rw [if_pos ((dg_iff (by decide) (by decide)).mpr z)]
      exact TxI_1 hI z, rv_c (dg_iff (by decide) (by decide)), rfl⟩)
  | 2, _, hI => exact (c_takesCode2 a vN vB kf pf lf tf (tx 2)).map (fun _ => (vN, if (¬ tx 2 - nI 48 < nI 0 ∧ tx 2 - nI 48 ≤ nI 9) then tx 2 - nI 48 else vB, kf, pf)) (fun _ _ => ⟨fun z => by
      have z : dgt 0 9 (tx 2) = true := z
      rw [if_pos ((dg_iff (by decide) (by decide)).mpr z)]
      exact TxI_2 hI z, rv_c (dg_iff (by decide) (by decide)), rfl⟩)
  | j + 3, hj, hI =>
    have hN := hI.2.1 (by omega)
    have e : vN = nI (Nx tx) := by rw [hI.1, eN_hi (by omega)]
    have h := c_takesCode3 (l := l) (D := D) (cy := cy) a vB kf pf lf tf (Nx tx) (j + 3) (tx (j + 3)) (by omega) hN.2 (by omega) hj
    rw [← e] at h
    exact h.map (fun u => (vN, vB, u.1, u.2)) (fun u hu => ⟨fun z => TxI_3 (by omega) hI (by rw [← vcd_hi (by omega)]; exact z) hu, by rw [vcd_hi (by omega)], rfl⟩)
theorem tl_e {tx : Nat → Int32} {w : Nat} : tl (eN tx w) ≤ w ↔ tl (Nx tx) ≤ w := by
  rcases Nat.lt_or_ge w 2 with h | h
  · have e : eN tx w = 0 := if_pos (by omega)
    rw [e]
    unfold tl
    constructor <;> intro z <;> omega
  · rw [eN_hi h]
theorem rt_y {tx : Nat → Int32} {j w : Nat} (hj : j = w) (h : ∀ q, q < j → vcd tx q = true) (hc : tl (eN tx j) ≤ w) : (some (Value.int (if ffs (vcd tx) w = w ∧ tl (Nx tx) ≤ w then -9 else nI (ffs (vcd tx) w))) : Option Value) = some (.int (-9)) := by
  subst hj
  rw [if_pos ⟨ffs_all h, tl_e.mp hc⟩]
theorem rt_n {tx : Nat → Int32} {j w : Nat} (hj : j = w) (h : ∀ q, q < j → vcd tx q = true) (hc : w < tl (eN tx j)) : (some (Value.int (if ffs (vcd tx) w = w ∧ tl (Nx tx) ≤ w then -9 else nI (ffs (vcd tx) w))) : Option Value) = some (.int (nI w)) := by
  subst hj
  rw [if_neg (fun z => by have := tl_e.mpr z.2; omega), ffs_all h]
theorem rt_s {tx : Nat → Int32} {j w : Nat} (hj : j < w) (h : ∀ q, q < j → vcd tx q = true) (hc : ¬ vcd tx j = true) : ffs (vcd tx) w = j ∧ (some (Value.int (if ffs (vcd tx) w = w ∧ tl (Nx tx) ≤ w then -9 else nI (ffs (vcd tx) w))) : Option Value) = some (.int (nI j)) := by
  have e := ffs_stop (n := w) h (Bool.eq_false_iff.mpr hc) (by omega)
  refine ⟨e, ?_⟩
  rw [if_neg (fun z => by omega), e]
