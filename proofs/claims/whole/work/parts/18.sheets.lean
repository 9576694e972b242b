set_option maxHeartbeats 4000000 in
set_option maxRecDepth 20000 in
theorem c_X4_hasNothing {l : Launch} {D : va_G} {cy : Nat → ClassId} (h c : Nat) (ln la : Int32) (cf : Nat → Int32)  : Ct l yX4_hasNothing wsX4_hasNothing ({ frames := 0, cells := 0, slots := 0, locals := 0 }) D cy [.ref h] (wS h c cy ln la cf) (fun _ : Unit => True) (fun _ => some (.int (nI (bN (ln = -1))))) (fun _ => wS h c cy ln la cf) := by
  refine Ct.of (cc := cX4_hasNothing) (nL := 1) (ret := (some .boolean)) rfl (by decide) ⟨rfl, rfl⟩ (Nat.le_of_ble_eq_true rfl) ?_
  intro X C E
  have C : Cx X l D cy cX4_hasNothing 1 wsX4_hasNothing RX4 ({ frames := 0, cells := 0, slots := 0, locals := 0 }) := C
  have mh0 : ∀ w ∈ u_ws RX4 TX4 3, w ∈ wsX4_hasNothing := by decide +kernel
  have mh1 : Cond.fieldLink RX4 15 RX4 (TX4 1).2.1 (TX4 1).2.2.1 ∈ wsX4_hasNothing := by decide +kernel
  show J X (wS h c cy ln la cf) 0 [(0, .ref h)] []
  refine j_aload_n C 0 dX4_hasNothing_0 rfl rfl ?_
  refine j_get C mh0 1 mh1 0 rfl rfl (by decide) rfl rfl dX4_hasNothing_1 ?_
  refine j_iconst (v := (-1)) C dX4_hasNothing_4 (by decide) ?_
  refine j_icmp_ne (tgt := 12) C dX4_hasNothing_5 (by decide) (fun c5 => ?_) (fun c5 => ?_)
  · refine j_iconst (v := nI 0) C dX4_hasNothing_12 (by decide) ?_
    exact j_zret C E dX4_hasNothing_13 rfl () trivial (by first | exact ret_y c5 | exact ret_n c5) rfl
  · refine j_iconst (v := nI 1) C dX4_hasNothing_8 (by decide) ?_
    refine j_goto (tgt := 13) C dX4_hasNothing_9 (by decide) ?_
    exact j_zret C E dX4_hasNothing_13 rfl () trivial (by first | exact ret_y c5 | exact ret_n c5) rfl
set_option maxHeartbeats 4000000 in
set_option maxRecDepth 20000 in
theorem c_X4_loseRow {l : Launch} {D : va_G} {cy : Nat → ClassId} (h c : Nat) (ln la : Int32) (cf : Nat → Int32)  : Ct l yX4_loseRow wsX4_loseRow ({ frames := 0, cells := 0, slots := 0, locals := 0 }) D cy [.ref h] (wS h c cy ln la cf) (fun _ : Unit => True) (fun _ => none) (fun _ => wS h c cy (-1) la cf) := by
  refine Ct.of (cc := cX4_loseRow) (nL := 1) (ret := none) rfl (by decide) ⟨rfl, rfl⟩ (Nat.le_of_ble_eq_true rfl) ?_
  intro X C E
  have C : Cx X l D cy cX4_loseRow 1 wsX4_loseRow RX4 ({ frames := 0, cells := 0, slots := 0, locals := 0 }) := C
  have mh0 : ∀ w ∈ u_ws RX4 TX4 3, w ∈ wsX4_loseRow := by decide +kernel
  have mh1 : Cond.fieldLink RX4 15 RX4 (TX4 1).2.1 (TX4 1).2.2.1 ∈ wsX4_loseRow := by decide +kernel
  show J X (wS h c cy ln la cf) 0 [(0, .ref h)] []
  refine j_aload_n C 0 dX4_loseRow_0 rfl rfl ?_
  refine j_iconst (v := (-1)) C dX4_loseRow_1 (by decide) ?_
  refine j_put (ws' := wS h c cy ((-1)) la cf) C mh0 1 mh1 tyX4 tyX4_ok nmX4 0 rfl rfl (by decide) rfl rfl (by decide +kernel) (Nat.le_of_ble_eq_true rfl) rfl dX4_loseRow_2 ?_
  exact j_vret C E dX4_loseRow_5 () trivial rfl rfl
set_option maxHeartbeats 4000000 in
set_option maxRecDepth 20000 in
theorem c_X4_isOfLane {l : Launch} {D : va_G} {cy : Nat → ClassId} (h c : Nat) (ln la : Int32) (cf : Nat → Int32) (w : Int32)  : Ct l yX4_isOfLane wsX4_isOfLane ({ frames := 1, cells := 0, slots := 0, locals := 20 }) D cy [.ref h, .int w] (wS h c cy ln la cf) (fun _ : Unit => True) (fun _ => some (.int (nI (bN (ln = -1 ∨ la = w))))) (fun _ => wS h c cy ln la cf) := by
  refine Ct.of (cc := cX4_isOfLane) (nL := 2) (ret := (some .boolean)) rfl (by decide) ⟨rfl, rfl⟩ (Nat.le_of_ble_eq_true rfl) ?_
  intro X C E
  have C : Cx X l D cy cX4_isOfLane 2 wsX4_isOfLane RX4 ({ frames := 1, cells := 0, slots := 0, locals := 20 }) := C
  have mh0 : ∀ w ∈ u_ws RX4 TX4 3, w ∈ wsX4_isOfLane := by decide +kernel
  have mh1 : Cond.fieldLink RX4 19 RX4 (TX4 2).2.1 (TX4 2).2.2.1 ∈ wsX4_isOfLane := by decide +kernel
  show J X (wS h c cy ln la cf) 0 [(0, .ref h), (1, .int w)] []
  refine j_aload_n C 0 dX4_isOfLane_0 rfl rfl ?_
  refine j_callV0 (As := []) (rest := []) C (c_X4_hasNothing h c ln la cf) gX4_isOfLane_X4_hasNothing rfl 0 rfl (by decide +kernel) (by decide) 0 rfl rfl (Nat.le_of_ble_eq_true rfl) dX4_isOfLane_1 rfl (fun _ _ => ?_)
  show J X (wS h c cy ln la cf) 4 [(0, .ref h), (1, .int w)] [.int (nI (bN (ln = -1)))]
  refine j_if_neN (tgt := 15) C dX4_isOfLane_4 (by decide) (bN_lt _) (fun c4 => ?_) (fun c4 => ?_)
  · have c4 := bN_1.mp c4
    refine j_iconst (v := nI 1) C dX4_isOfLane_15 (by decide) ?_
    refine j_goto (tgt := 20) C dX4_isOfLane_16 (by decide) ?_
    exact j_zret C E dX4_isOfLane_20 rfl () trivial (by first | exact ret_y (Or.inl c4) | exact ret_y (Or.inr c12) | exact ret_n (fun z => z.elim c4 c12)) rfl
  · have c4 := bN_0.mp c4
    refine j_aload_n C 0 dX4_isOfLane_7 rfl rfl ?_
    refine j_get C mh0 2 mh1 0 rfl rfl (by decide) rfl rfl dX4_isOfLane_8 ?_
    refine j_iload_n C 1 dX4_isOfLane_11 rfl rfl ?_
    refine j_icmp_ne (tgt := 19) C dX4_isOfLane_12 (by decide) (fun c12 => ?_) (fun c12 => ?_)
    · refine j_iconst (v := nI 0) C dX4_isOfLane_19 (by decide) ?_
      exact j_zret C E dX4_isOfLane_20 rfl () trivial (by first | exact ret_y (Or.inl c4) | exact ret_y (Or.inr c12) | exact ret_n (fun z => z.elim c4 c12)) rfl
    · refine j_iconst (v := nI 1) C dX4_isOfLane_15 (by decide) ?_
      refine j_goto (tgt := 20) C dX4_isOfLane_16 (by decide) ?_
      exact j_zret C E dX4_isOfLane_20 rfl () trivial (by first | exact ret_y (Or.inl c4) | exact ret_y (Or.inr c12) | exact ret_n (fun z => z.elim c4 c12)) rfl
set_option maxHeartbeats 4000000 in
set_option maxRecDepth 20000 in
theorem c_X4_hasCell {l : Launch} {D : va_G} {cy : Nat → ClassId} (h c : Nat) (ln la : Int32) (cf : Nat → Int32) (i : Int32)  : Ct l yX4_hasCell wsX4_hasCell ({ frames := 0, cells := 0, slots := 0, locals := 0 }) D cy [.ref h, .int i] (wS h c cy ln la cf) (fun _ : Unit => True) (fun _ => some (.int (nI (bN (¬ i < 0 ∧ ¬ ln ≤ i))))) (fun _ => wS h c cy ln la cf) := by
  refine Ct.of (cc := cX4_hasCell) (nL := 2) (ret := (some .boolean)) rfl (by decide) ⟨rfl, rfl⟩ (Nat.le_of_ble_eq_true rfl) ?_
  intro X C E
  have C : Cx X l D cy cX4_hasCell 2 wsX4_hasCell RX4 ({ frames := 0, cells := 0, slots := 0, locals := 0 }) := C
  have mh0 : ∀ w ∈ u_ws RX4 TX4 3, w ∈ wsX4_hasCell := by decide +kernel
  have mh1 : Cond.fieldLink RX4 15 RX4 (TX4 1).2.1 (TX4 1).2.2.1 ∈ wsX4_hasCell := by decide +kernel
  show J X (wS h c cy ln la cf) 0 [(0, .ref h), (1, .int i)] []
  refine j_iload_n C 1 dX4_hasCell_0 rfl rfl ?_
  refine j_if_lt (tgt := 16) C dX4_hasCell_1 (by decide) (fun c1 => ?_) (fun c1 => ?_)
  · refine j_iconst (v := nI 0) C dX4_hasCell_16 (by decide) ?_
    exact j_zret C E dX4_hasCell_17 rfl () trivial (by first | exact ret_y ⟨c1, c9⟩ | exact ret_n (fun z => z.1 c1) | exact ret_n (fun z => z.2 c9)) rfl
  · refine j_iload_n C 1 dX4_hasCell_4 rfl rfl ?_
    refine j_aload_n C 0 dX4_hasCell_5 rfl rfl ?_
    refine j_get C mh0 1 mh1 0 rfl rfl (by decide) rfl rfl dX4_hasCell_6 ?_
    refine j_icmp_ge (tgt := 16) C dX4_hasCell_9 (by decide) (fun c9 => ?_) (fun c9 => ?_)
    · refine j_iconst (v := nI 0) C dX4_hasCell_16 (by decide) ?_
      exact j_zret C E dX4_hasCell_17 rfl () trivial (by first | exact ret_y ⟨c1, c9⟩ | exact ret_n (fun z => z.1 c1) | exact ret_n (fun z => z.2 c9)) rfl
    · refine j_iconst (v := nI 1) C dX4_hasCell_12 (by decide) ?_
      refine j_goto (tgt := 17) C dX4_hasCell_13 (by decide) ?_
      exact j_zret C E dX4_hasCell_17 rfl () trivial (by first | exact ret_y ⟨c1, c9⟩ | exact ret_n (fun z => z.1 c1) | exact ret_n (fun z => z.2 c9)) rfl
set_option maxHeartbeats 4000000 in
set_option maxRecDepth 20000 in
theorem c_X4_hasCells {l : Launch} {D : va_G} {cy : Nat → ClassId} (h c : Nat) (ln la : Int32) (cf : Nat → Int32) (i m : Int32)  : Ct l yX4_hasCells wsX4_hasCells ({ frames := 0, cells := 0, slots := 0, locals := 0 }) D cy [.ref h, .int i, .int m] (wS h c cy ln la cf) (fun _ : Unit => True) (fun _ => some (.int (nI (bN (¬ i < 0 ∧ ¬ ln < i ∧ ¬ m < 0 ∧ ¬ ln - i < m))))) (fun _ => wS h c cy ln la cf) := by
  refine Ct.of (cc := cX4_hasCells) (nL := 3) (ret := (some .boolean)) rfl (by decide) ⟨rfl, rfl⟩ (Nat.le_of_ble_eq_true rfl) ?_
  intro X C E
  have C : Cx X l D cy cX4_hasCells 3 wsX4_hasCells RX4 ({ frames := 0, cells := 0, slots := 0, locals := 0 }) := C
  have mh0 : ∀ w ∈ u_ws RX4 TX4 3, w ∈ wsX4_hasCells := by decide +kernel
  have mh1 : Cond.fieldLink RX4 15 RX4 (TX4 1).2.1 (TX4 1).2.2.1 ∈ wsX4_hasCells := by decide +kernel
  show J X (wS h c cy ln la cf) 0 [(0, .ref h), (1, .int i), (2, .int m)] []
  refine j_iload_n C 1 dX4_hasCells_0 rfl rfl ?_
  refine j_if_lt (tgt := 30) C dX4_hasCells_1 (by decide) (fun c1 => ?_) (fun c1 => ?_)
  · refine j_iconst (v := nI 0) C dX4_hasCells_30 (by decide) ?_
    exact j_zret C E dX4_hasCells_31 rfl () trivial (by first | exact ret_y ⟨c1, c9, c13, c23⟩ | exact ret_n (fun z => z.1 c1) | exact ret_n (fun z => z.2.1 c9) | exact ret_n (fun z => z.2.2.1 c13) | exact ret_n (fun z => z.2.2.2 c23)) rfl
  · refine j_iload_n C 1 dX4_hasCells_4 rfl rfl ?_
    refine j_aload_n C 0 dX4_hasCells_5 rfl rfl ?_
    refine j_get C mh0 1 mh1 0 rfl rfl (by decide) rfl rfl dX4_hasCells_6 ?_
    refine j_icmp_gt (tgt := 30) C dX4_hasCells_9 (by decide) (fun c9 => ?_) (fun c9 => ?_)
    · refine j_iconst (v := nI 0) C dX4_hasCells_30 (by decide) ?_
      exact j_zret C E dX4_hasCells_31 rfl () trivial (by first | exact ret_y ⟨c1, c9, c13, c23⟩ | exact ret_n (fun z => z.1 c1) | exact ret_n (fun z => z.2.1 c9) | exact ret_n (fun z => z.2.2.1 c13) | exact ret_n (fun z => z.2.2.2 c23)) rfl
    · refine j_iload_n C 2 dX4_hasCells_12 rfl rfl ?_
      refine j_if_lt (tgt := 30) C dX4_hasCells_13 (by decide) (fun c13 => ?_) (fun c13 => ?_)
      · refine j_iconst (v := nI 0) C dX4_hasCells_30 (by decide) ?_
        exact j_zret C E dX4_hasCells_31 rfl () trivial (by first | exact ret_y ⟨c1, c9, c13, c23⟩ | exact ret_n (fun z => z.1 c1) | exact ret_n (fun z => z.2.1 c9) | exact ret_n (fun z => z.2.2.1 c13) | exact ret_n (fun z => z.2.2.2 c23)) rfl
      · refine j_iload_n C 2 dX4_hasCells_16 rfl rfl ?_
        refine j_aload_n C 0 dX4_hasCells_17 rfl rfl ?_
        refine j_get C mh0 1 mh1 0 rfl rfl (by decide) rfl rfl dX4_hasCells_18 ?_
        refine j_iload_n C 1 dX4_hasCells_21 rfl rfl ?_
        refine j_isub (v := ln - i) C dX4_hasCells_22 rfl ?_
        refine j_icmp_gt (tgt := 30) C dX4_hasCells_23 (by decide) (fun c23 => ?_) (fun c23 => ?_)
        · refine j_iconst (v := nI 0) C dX4_hasCells_30 (by decide) ?_
          exact j_zret C E dX4_hasCells_31 rfl () trivial (by first | exact ret_y ⟨c1, c9, c13, c23⟩ | exact ret_n (fun z => z.1 c1) | exact ret_n (fun z => z.2.1 c9) | exact ret_n (fun z => z.2.2.1 c13) | exact ret_n (fun z => z.2.2.2 c23)) rfl
        · refine j_iconst (v := nI 1) C dX4_hasCells_26 (by decide) ?_
          refine j_goto (tgt := 31) C dX4_hasCells_27 (by decide) ?_
          exact j_zret C E dX4_hasCells_31 rfl () trivial (by first | exact ret_y ⟨c1, c9, c13, c23⟩ | exact ret_n (fun z => z.1 c1) | exact ret_n (fun z => z.2.1 c9) | exact ret_n (fun z => z.2.2.1 c13) | exact ret_n (fun z => z.2.2.2 c23)) rfl
set_option maxHeartbeats 4000000 in
set_option maxRecDepth 20000 in
theorem c_X4_valueAt {l : Launch} {D : va_G} {cy : Nat → ClassId} (h c m : Nat) (la : Int32) (cf : Nat → Int32) (j : Nat) (hm : m ≤ 60) (hj : j < m) : Ct l yX4_valueAt wsX4_valueAt ({ frames := 1, cells := 0, slots := 0, locals := 21 }) D cy [.ref h, .int (nI j)] (wS h c cy (nI m) la cf) (fun _ : Unit => True) (fun _ => some (.int (cf j))) (fun _ => wS h c cy (nI m) la cf) := by
  refine Ct.of (cc := cX4_valueAt) (nL := 2) (ret := (some .int)) rfl (by decide) ⟨rfl, rfl⟩ (Nat.le_of_ble_eq_true rfl) ?_
  intro X C E
  have C : Cx X l D cy cX4_valueAt 2 wsX4_valueAt RX4 ({ frames := 1, cells := 0, slots := 0, locals := 21 }) := C
  have mh0 : ∀ w ∈ u_ws RX4 TX4 3, w ∈ wsX4_valueAt := by decide +kernel
  have mh1 : Cond.fieldLink RX4 9 RX4 (TX4 0).2.1 (TX4 0).2.2.1 ∈ wsX4_valueAt := by decide +kernel
  have hok : ¬ nI j < 0 ∧ ¬ nI m ≤ nI j := ⟨nI_pos (by omega), nI_ge hj (by omega)⟩
  show J X (wS h c cy (nI m) la cf) 0 [(0, .ref h), (1, .int (nI j))] []
  refine j_aload_n C 0 dX4_valueAt_0 rfl rfl ?_
  refine j_iload_n C 1 dX4_valueAt_1 rfl rfl ?_
  refine j_callV0 (As := [.int (nI j)]) (rest := []) C (c_X4_hasCell h c (nI m) la cf (nI j)) gX4_valueAt_X4_hasCell rfl 1 rfl (by decide +kernel) (by decide) 0 rfl rfl (Nat.le_of_ble_eq_true rfl) dX4_valueAt_2 rfl (fun _ _ => ?_)
  show J X (wS h c cy (nI m) la cf) 5 [(0, .ref h), (1, .int (nI j))] [.int (nI (bN (¬ nI j < 0 ∧ ¬ nI m ≤ nI j)))]
  refine j_if_eqN (tgt := 17) C dX4_valueAt_5 (by decide) (bN_lt _) (fun c5 => ?_) (fun c5 => ?_)
  · exact absurd hok (bN_0.mp c5)
  · have c5 := bN_1.mp c5
    refine j_aload_n C 0 dX4_valueAt_8 rfl rfl ?_
    refine j_get C mh0 0 mh1 0 rfl rfl (by decide) rfl rfl dX4_valueAt_9 ?_
    refine j_iload_n C 1 dX4_valueAt_12 rfl rfl ?_
    refine j_iald (v := cf j) C 1 rfl (by omega) (by decide) rfl dX4_valueAt_13 ?_
    refine j_goto (tgt := 18) C dX4_valueAt_14 (by decide) ?_
    exact j_iret C E dX4_valueAt_18 () trivial rfl rfl
set_option maxHeartbeats 4000000 in
set_option maxRecDepth 20000 in
theorem c_X4_setCut {l : Launch} {D : va_G} {cy : Nat → ClassId} (h c m : Nat) (la : Int32) (cf : Nat → Int32) (j : Nat) (v : Int32) (hm : m ≤ 60) (hj : j < m) : Ct l yX4_setCut wsX4_setCut ({ frames := 1, cells := 0, slots := 0, locals := 21 }) D cy [.ref h, .int (nI j), .int v] (wS h c cy (nI m) la cf) (fun _ : Unit => True) (fun _ => none) (fun _ => wS h c cy (nI m) la (upd cf j (cut la v))) := by
  refine Ct.of (cc := cX4_setCut) (nL := 3) (ret := none) rfl (by decide) ⟨rfl, rfl⟩ (Nat.le_of_ble_eq_true rfl) ?_
  intro X C E
  have C : Cx X l D cy cX4_setCut 3 wsX4_setCut RX4 ({ frames := 1, cells := 0, slots := 0, locals := 21 }) := C
  have mh0 : ∀ w ∈ u_ws RX4 TX4 3, w ∈ wsX4_setCut := by decide +kernel
  have mh1 : Cond.fieldLink RX4 9 RX4 (TX4 0).2.1 (TX4 0).2.2.1 ∈ wsX4_setCut := by decide +kernel
  have mh2 : Cond.fieldLink RX4 19 RX4 (TX4 2).2.1 (TX4 2).2.2.1 ∈ wsX4_setCut := by decide +kernel
  have hok : ¬ nI j < 0 ∧ ¬ nI m ≤ nI j := ⟨nI_pos (by omega), nI_ge hj (by omega)⟩
  show J X (wS h c cy (nI m) la cf) 0 [(0, .ref h), (1, .int (nI j)), (2, .int v)] []
  refine j_aload_n C 0 dX4_setCut_0 rfl rfl ?_
  refine j_iload_n C 1 dX4_setCut_1 rfl rfl ?_
  refine j_callV0 (As := [.int (nI j)]) (rest := []) C (c_X4_hasCell h c (nI m) la cf (nI j)) gX4_setCut_X4_hasCell rfl 1 rfl (by decide +kernel) (by decide) 0 rfl rfl (Nat.le_of_ble_eq_true rfl) dX4_setCut_2 rfl (fun _ _ => ?_)
  show J X (wS h c cy (nI m) la cf) 5 [(0, .ref h), (1, .int (nI j)), (2, .int v)] [.int (nI (bN (¬ nI j < 0 ∧ ¬ nI m ≤ nI j)))]
  refine j_if_neN (tgt := 9) C dX4_setCut_5 (by decide) (bN_lt _) (fun c5 => ?_) (fun c5 => ?_)
  · have c5 := bN_1.mp c5
    refine j_aload_n C 0 dX4_setCut_9 rfl rfl ?_
    refine j_get C mh0 0 mh1 0 rfl rfl (by decide) rfl rfl dX4_setCut_10 ?_
    refine j_iload_n C 1 dX4_setCut_13 rfl rfl ?_
    refine j_aload_n C 0 dX4_setCut_14 rfl rfl ?_
    refine j_get C mh0 2 mh2 0 rfl rfl (by decide) rfl rfl dX4_setCut_15 ?_
    refine j_if_ne (tgt := 26) C dX4_setCut_18 (by decide) (fun c18 => ?_) (fun c18 => ?_)
    · refine j_aload_n C 0 dX4_setCut_26 rfl rfl ?_
      refine j_get C mh0 2 mh2 0 rfl rfl (by decide) rfl rfl dX4_setCut_27 ?_
      refine j_iconst (v := nI 1) C dX4_setCut_30 (by decide) ?_
      refine j_icmp_ne (tgt := 39) C dX4_setCut_31 (by decide) (fun c31 => ?_) (fun c31 => ?_)
      · refine j_iload_n C 2 dX4_setCut_39 rfl rfl ?_
        refine j_iast (ws' := wS h c cy (nI m) la (upd cf j (v))) C 1 rfl (by omega) (by decide) rfl dX4_setCut_40 ?_
        exact j_vret C E dX4_setCut_41 () trivial rfl (by unfold cut; first | rw [if_pos c18] | (rw [if_neg c18, if_pos c31]; done) | (rw [if_neg c18, if_neg c31]; done))
      · refine j_iload_n C 2 dX4_setCut_34 rfl rfl ?_
        refine j_i2s (v := v.toInt16.toInt32) C dX4_setCut_35 rfl ?_
        refine j_goto (tgt := 40) C dX4_setCut_36 (by decide) ?_
        refine j_iast (ws' := wS h c cy (nI m) la (upd cf j (v.toInt16.toInt32))) C 1 rfl (by omega) (by decide) rfl dX4_setCut_40 ?_
        exact j_vret C E dX4_setCut_41 () trivial rfl (by unfold cut; first | rw [if_pos c18] | (rw [if_neg c18, if_pos c31]; done) | (rw [if_neg c18, if_neg c31]; done))
    · refine j_iload_n C 2 dX4_setCut_21 rfl rfl ?_
      refine j_i2b (v := v.toInt8.toInt32) C dX4_setCut_22 rfl ?_
      refine j_goto (tgt := 40) C dX4_setCut_23 (by decide) ?_
      refine j_iast (ws' := wS h c cy (nI m) la (upd cf j (v.toInt8.toInt32))) C 1 rfl (by omega) (by decide) rfl dX4_setCut_40 ?_
      exact j_vret C E dX4_setCut_41 () trivial rfl (by unfold cut; first | rw [if_pos c18] | (rw [if_neg c18, if_pos c31]; done) | (rw [if_neg c18, if_neg c31]; done))
  · exact absurd hok (bN_0.mp c5)
set_option maxHeartbeats 4000000 in
set_option maxRecDepth 20000 in
theorem c_X4_renew {l : Launch} {D : va_G} {cy : Nat → ClassId} (h c : Nat) (ln la : Int32) (cf : Nat → Int32) (w : Int32) (m : Nat) (hm : m ≤ 60) : Ct l yX4_renew wsX4_renew ({ frames := 1, cells := 0, slots := 0, locals := 15 }) D cy [.ref h, .int w, .int (nI m)] (wS h c cy ln la cf) (fun _ : Unit => True) (fun _ => none) (fun _ => wS h c cy (nI m) w (fil (fun _ => nI 0) cf 60)) := by
  refine Ct.of (cc := cX4_renew) (nL := 4) (ret := none) rfl (by decide) ⟨rfl, rfl⟩ (Nat.le_of_ble_eq_true rfl) ?_
  intro X C E
  have C : Cx X l D cy cX4_renew 4 wsX4_renew RX4 ({ frames := 1, cells := 0, slots := 0, locals := 15 }) := C
  have mh0 : ∀ w ∈ u_ws RX4 TX4 3, w ∈ wsX4_renew := by decide +kernel
  have mh1 : Cond.fieldLink RX4 19 RX4 (TX4 2).2.1 (TX4 2).2.2.1 ∈ wsX4_renew := by decide +kernel
  have mh2 : Cond.methodLink RX4 22 Lib.Math.min.name ∈ wsX4_renew := by decide +kernel
  have mh3 : Cond.static Lib.Math.min.name ∈ wsX4_renew := by decide +kernel
  have mh4 : Cond.initialized "java/lang/Math" ∈ wsX4_renew := by decide +kernel
  have mh5 : Cond.code Lib.Math.min.name Lib.Math.min.code 2 (some .int) ∈ wsX4_renew := by decide +kernel
  have mh6 : Cond.methodLink RX4 28 Lib.Math.max.name ∈ wsX4_renew := by decide +kernel
  have mh7 : Cond.static Lib.Math.max.name ∈ wsX4_renew := by decide +kernel
  have mh8 : Cond.code Lib.Math.max.name Lib.Math.max.code 2 (some .int) ∈ wsX4_renew := by decide +kernel
  have mh9 : Cond.fieldLink RX4 15 RX4 (TX4 1).2.1 (TX4 1).2.2.1 ∈ wsX4_renew := by decide +kernel
  have mh10 : Cond.fieldLink RX4 9 RX4 (TX4 0).2.1 (TX4 0).2.2.1 ∈ wsX4_renew := by decide +kernel
  show J X (wS h c cy ln la cf) 0 [(0, .ref h), (1, .int w), (2, .int (nI m))] []
  refine j_aload_n C 0 dX4_renew_0 rfl rfl ?_
  refine j_iload_n C 1 dX4_renew_1 rfl rfl ?_
  refine j_put (ws' := wS h c cy ln w cf) C mh0 2 mh1 tyX4 tyX4_ok nmX4 0 rfl rfl (by decide) rfl rfl (by decide +kernel) (Nat.le_of_ble_eq_true rfl) rfl dX4_renew_2 ?_
  refine j_aload_n C 0 dX4_renew_5 rfl rfl ?_
  refine j_iconst (v := nI 0) C dX4_renew_6 (by decide) ?_
  refine j_iload_n C 2 dX4_renew_7 rfl rfl ?_
  refine j_bipush (v := nI 60) C dX4_renew_8 (by decide) ?_
  refine j_mmin (v := nI (min m 60)) (rest := [.int (nI 0), .ref h]) C mh2 mh3 mh4 mh5 ⟨by decide, Nat.le_of_ble_eq_true rfl⟩ (mn_n (by omega) (by omega)) dX4_renew_10 ?_
  refine j_mmax (v := nI m) (rest := [.ref h]) C mh6 mh7 mh4 mh8 ⟨by decide, Nat.le_of_ble_eq_true rfl⟩ (by rw [mx_n (by omega) (by omega), Nat.max_eq_right (Nat.zero_le _), Nat.min_eq_left hm]) dX4_renew_13 ?_
  refine j_put (ws' := wS h c cy (nI m) w cf) C mh0 1 mh9 tyX4 tyX4_ok nmX4 0 rfl rfl (by decide) rfl rfl (by decide +kernel) (Nat.le_of_ble_eq_true rfl) rfl dX4_renew_16 ?_
  refine j_iconst (v := nI 0) C dX4_renew_19 (by decide) ?_
  refine j_istore_n (lv' := [(3, .int (nI 0)), (0, .ref h), (1, .int w), (2, .int (nI m))]) C dX4_renew_20 rfl (by decide) rfl ?_
  refine J.sub [1, 0] rfl ?_
  have L21 : ∀ (n : Nat) (i : Nat), 60 - i < n → i ≤ 60 → J X (wS h c cy (nI m) w (fil (fun _ => nI 0) cf i)) 21 [(0, .ref h), (3, .int (nI i))] [] := by
    intro n
    induction n with
    | zero => intro i hm; exact absurd hm (Nat.not_lt_zero _)
    | succ n ih21 =>
      intro i h21_0 h21_1
      refine j_iload_n C 1 dX4_renew_21 rfl rfl ?_
      refine j_bipush (v := nI 60) C dX4_renew_22 (by decide) ?_
      refine j_icmp_geN (tgt := 40) C dX4_renew_24 (by decide) (by omega) (by omega) (fun c24 => ?_) (fun c24 => ?_)
      · exact j_vret C E dX4_renew_40 () trivial rfl (by rw [show i = 60 by omega])
      · refine j_aload_n C 0 dX4_renew_27 rfl rfl ?_
        refine j_get C mh0 0 mh10 0 rfl rfl (by decide) rfl rfl dX4_renew_28 ?_
        refine j_iload_n C 1 dX4_renew_31 rfl rfl ?_
        refine j_iconst (v := nI 0) C dX4_renew_32 (by decide) ?_
        refine j_iast (ws' := wS h c cy (nI m) w (upd (fil (fun _ => nI 0) cf i) i (nI 0))) C 1 rfl (by omega) (by decide) rfl dX4_renew_33 ?_
        refine j_iinc (v := nI (i + 1)) (lv' := [(3, .int (nI (i + 1))), (0, .ref h)]) C 1 dX4_renew_34 rfl (nI_inc i) (by decide) rfl ?_
        refine j_goto (tgt := 21) C dX4_renew_37 (by decide) ?_
        refine J.sub [1, 0] rfl ?_
        have e := ih21 (i + 1) (by omega) (by omega)
        rw [← fil_s] at e
        exact e
  have e := L21 61 0 (by omega) (by omega)
  rw [fil_0] at e
  exact e
