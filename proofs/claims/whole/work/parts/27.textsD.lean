set_option maxHeartbeats 4000000 in
set_option maxRecDepth 20000 in
theorem c_X5_readText {l : Launch} {D : va_G} {cy : Nat → ClassId} (a : Nat → Nat) (vN vB : Int32) (kf : Nat → Int32) (pf : Nat → Nat → Int32) (lf tf : Nat → Int32) (h c m : Nat) (la : Int32) (cf : Nat → Int32) (i0 w : Nat) (hm : m ≤ 60) (hw : i0 + w ≤ m) : Ct l yX5_readText wsX5_readText ({ frames := 2, cells := 0, slots := 0, locals := 49 }) D cy [.ref (a 0), .ref h, .int (nI i0), .int (nI w)] (wT a cy vN vB kf pf lf tf ++ wS h c cy (nI m) la cf) (fun u : TxS => ffs (vcd (fun q => cf (i0 + q))) w = w ∧ tl (Nx (fun q => cf (i0 + q))) ≤ w → TxI (fun q => cf (i0 + q)) w u.1 u.2.1 u.2.2.1 u.2.2.2) (fun _ => some (.int (if ffs (vcd (fun q => cf (i0 + q))) w = w ∧ tl (Nx (fun q => cf (i0 + q))) ≤ w then -9 else nI (ffs (vcd (fun q => cf (i0 + q))) w)))) (fun u => wT a cy u.1 u.2.1 u.2.2.1 u.2.2.2 lf tf ++ wS h c cy (nI m) la cf) := by
  refine Ct.of (cc := cX5_readText) (nL := 5) (ret := (some .int)) rfl (by decide) ⟨rfl, rfl⟩ (Nat.le_of_ble_eq_true rfl) ?_
  intro X C E
  have C : Cx X l D cy cX5_readText 5 wsX5_readText RX5 ({ frames := 2, cells := 0, slots := 0, locals := 49 }) := C
  have mh0 : ∀ w ∈ u_ws RX5 TX5 7, w ∈ wsX5_readText := by decide +kernel
  have mh1 : Cond.fieldLink RX5 40 RX5 (TX5 5).2.1 (TX5 5).2.2.1 ∈ wsX5_readText := by decide +kernel
  show J X (wT a cy vN vB kf pf lf tf ++ wS h c cy (nI m) la cf) 0 [(0, .ref (a 0)), (1, .ref h), (2, .int (nI i0)), (3, .int (nI w))] []
  refine j_aload_n C 0 dX5_readText_0 rfl rfl ?_
  refine j_iconst (v := nI 0) C dX5_readText_1 (by decide) ?_
  refine j_put (ws' := wT a cy (nI 0) vB kf pf lf tf ++ wS h c cy (nI m) la cf) C mh0 5 mh1 tyX5 tyX5_ok nmX5 0 rfl rfl (by decide) rfl rfl (by decide +kernel) (Nat.le_of_ble_eq_true rfl) rfl dX5_readText_2 ?_
  refine j_iconst (v := nI 0) C dX5_readText_5 (by decide) ?_
  refine j_istore (lv' := [(4, .int (nI 0)), (0, .ref (a 0)), (1, .ref h), (2, .int (nI i0)), (3, .int (nI w))]) C dX5_readText_6 (by decide) rfl ?_
  refine J.sub [1, 2, 3, 4, 0] rfl ?_
  have L8 : ∀ (n : Nat) (j : Nat) (vN1 vB1 : Int32) (kf1 : Nat → Int32) (pf1 : Nat → Nat → Int32), w - j < n → j ≤ w → (∀ q, q < j → vcd (fun q => cf (i0 + q)) q = true) → TxI (fun q => cf (i0 + q)) j vN1 vB1 kf1 pf1 → J X (wT a cy vN1 vB1 kf1 pf1 lf tf ++ wS h c cy (nI m) la cf) 8 [(0, .ref (a 0)), (1, .ref h), (2, .int (nI i0)), (3, .int (nI w)), (4, .int (nI j))] [] := by
    intro n
    induction n with
    | zero => intro j vN1 vB1 kf1 pf1 hm; exact absurd hm (Nat.not_lt_zero _)
    | succ n ih8 =>
      intro j vN1 vB1 kf1 pf1 h8_0 h8_1 h8_2 h8_3
      refine j_iload C 4 dX5_readText_8 rfl ?_
      refine j_iload_n C 3 dX5_readText_10 rfl rfl ?_
      refine j_icmp_geN (tgt := 40) C dX5_readText_11 (by decide) (by omega) (by omega) (fun c11 => ?_) (fun c11 => ?_)
      · refine j_iload_n C 3 dX5_readText_40 rfl rfl ?_
        refine j_aload_n C 0 dX5_readText_41 rfl rfl ?_
        have hvN := h8_3.1
        subst hvN
        refine j_callV (As := []) (rest := [.int (nI w)]) C (c_X5_textLength a vB1 kf1 pf1 lf tf (eN (fun q => cf (i0 + q)) j)) gX5_readText_X5_textLength rfl 0 rfl (by decide +kernel) (by decide) [] (wS h c cy (nI m) la cf) rfl 0 rfl rfl (Nat.le_of_ble_eq_true rfl) dX5_readText_42 rfl (fun _ _ => ?_)
        have htl : tl (eN (fun q => cf (i0 + q)) j) ≤ 51 := tl_le (by unfold eN; split; exact Nat.zero_le _; exact (h8_3.2.1 (by omega)).2)
        show J X (wT a cy (nI (eN (fun q => cf (i0 + q)) j)) vB1 kf1 pf1 lf tf ++ wS h c cy (nI m) la cf) 45 [(0, .ref (a 0)), (1, .ref h), (2, .int (nI i0)), (3, .int (nI w)), (4, .int (nI j))] [.int (nI (tl (eN (fun q => cf (i0 + q)) j))), .int (nI w)]
        refine j_icmp_geN (tgt := 52) C dX5_readText_45 (by decide) (by omega) (by omega) (fun c45 => ?_) (fun c45 => ?_)
        · refine j_bipush (v := (-9)) C dX5_readText_52 (by decide) ?_
          exact j_iret C E dX5_readText_54 (nI (eN (fun q => cf (i0 + q)) j), vB1, kf1, pf1) (fun z => by rw [show w = j by omega]; exact h8_3) (by first | exact rt_y (by omega) h8_2 c45 | exact rt_n (by omega) h8_2 c45) rfl
        · refine j_iload_n C 3 dX5_readText_48 rfl rfl ?_
          refine j_goto (tgt := 54) C dX5_readText_49 (by decide) ?_
          exact j_iret C E dX5_readText_54 (nI (eN (fun q => cf (i0 + q)) j), vB1, kf1, pf1) (fun z => by rw [show w = j by omega]; exact h8_3) (by first | exact rt_y (by omega) h8_2 c45 | exact rt_n (by omega) h8_2 c45) rfl
      · refine j_aload_n C 0 dX5_readText_14 rfl rfl ?_
        refine j_iload C 4 dX5_readText_15 rfl ?_
        refine j_aload_n C 1 dX5_readText_17 rfl rfl ?_
        refine j_iload_n C 2 dX5_readText_18 rfl rfl ?_
        refine j_iload C 4 dX5_readText_19 rfl ?_
        refine j_iadd (v := nI (i0 + j)) C dX5_readText_21 (nI_add _ _) ?_
        refine j_callV (As := [.int (nI (i0 + j))]) (rest := [.int (nI j), .ref (a 0)]) C (c_X4_valueAt h c m la cf (i0 + j) hm (by omega)) gX5_readText_X4_valueAt rfl 1 rfl (by decide +kernel) (by decide) (wT a cy vN1 vB1 kf1 pf1 lf tf) [] rfl 0 rfl rfl (Nat.le_of_ble_eq_true rfl) dX5_readText_22 rfl (fun _ _ => ?_)
        show J X (wT a cy vN1 vB1 kf1 pf1 lf tf ++ wS h c cy (nI m) la cf) 25 [(0, .ref (a 0)), (1, .ref h), (2, .int (nI i0)), (3, .int (nI w)), (4, .int (nI j))] [.int ((fun q => cf (i0 + q)) j), .int (nI j), .ref (a 0)]
        refine j_callV (As := [.int (nI j), .int ((fun q => cf (i0 + q)) j)]) (rest := []) C (c_X5_takesCode a vN1 vB1 kf1 pf1 lf tf (fun q => cf (i0 + q)) j (by omega) h8_3) gX5_readText_X5_takesCode rfl 2 rfl (by decide +kernel) (by decide) [] (wS h c cy (nI m) la cf) rfl 0 rfl rfl (Nat.le_of_ble_eq_true rfl) dX5_readText_25 rfl (fun u hu => ?_)
        show J X (wT a cy u.1 u.2.1 u.2.2.1 u.2.2.2 lf tf ++ wS h c cy (nI m) la cf) 28 [(0, .ref (a 0)), (1, .ref h), (2, .int (nI i0)), (3, .int (nI w)), (4, .int (nI j))] [.int (nI (bN (vcd (fun q => cf (i0 + q)) j = true)))]
        refine j_if_neN (tgt := 34) C dX5_readText_28 (by decide) (bN_lt _) (fun c28 => ?_) (fun c28 => ?_)
        · have c28 := bN_1.mp c28
          refine j_iinc (v := nI (j + 1)) (lv' := [(4, .int (nI (j + 1))), (0, .ref (a 0)), (1, .ref h), (2, .int (nI i0)), (3, .int (nI w))]) C 4 dX5_readText_34 rfl (nI_inc j) (by decide) rfl ?_
          refine j_goto (tgt := 8) C dX5_readText_37 (by decide) ?_
          refine J.sub [1, 2, 3, 4, 0] rfl ?_
          have e := ih8 (j + 1) u.1 u.2.1 u.2.2.1 u.2.2.2 (by omega) (by omega) (fun q hq => by rcases Nat.lt_or_ge q j with z | z; exact h8_2 q z; rw [show q = j by omega]; exact c28) (hu c28)
          exact e
        · have c28 := bN_0.mp c28
          refine j_iload C 4 dX5_readText_31 rfl ?_
          exact j_iret C E dX5_readText_33 (u.1, u.2.1, u.2.2.1, u.2.2.2) (fun z => by have e := (rt_s (w := w) (by omega) h8_2 c28).1; omega) (rt_s (by omega) h8_2 c28).2 rfl
  have e := L8 (w + 1) 0 (nI 0) vB kf pf (by omega) (by omega) (fun q hq => by omega) ⟨rfl, fun z => by omega, fun z => by omega, fun a _ z => by omega, fun a _ b _ z => by omega⟩
  exact e
