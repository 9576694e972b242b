set_option maxHeartbeats 4000000 in
set_option maxRecDepth 20000 in
theorem c_X8_within {l : Launch} {D : va_G} {cy : Nat → ClassId} (x lo hi : Int32)  : Ct l yX8_within wsX8_within ({ frames := 0, cells := 0, slots := 0, locals := 0 }) D cy [.int x, .int lo, .int hi] (([] : va_W) ) (fun _ : Unit => True) (fun _ => some (.int (nI (bN (¬ x < lo ∧ x ≤ hi))))) (fun _ => []) := by
  refine Ct.of (cc := cX8_within) (nL := 3) (ret := (some .boolean)) rfl (by decide) ⟨rfl, rfl⟩ (Nat.le_of_ble_eq_true rfl) ?_
  intro X C E
  have C : Cx X l D cy cX8_within 3 wsX8_within RX8 ({ frames := 0, cells := 0, slots := 0, locals := 0 }) := C
  show J X (([] : va_W) ) 0 [(0, .int x), (1, .int lo), (2, .int hi)] []
  refine j_iload_n C 0 dX8_within_0 rfl rfl ?_
  refine j_iload_n C 1 dX8_within_1 rfl rfl ?_
  refine j_icmp_lt (tgt := 14) C dX8_within_2 (by decide) (fun c2 => ?_) (fun c2 => ?_)
  · refine j_iconst (v := nI 0) C dX8_within_14 (by decide) ?_
    exact j_zret C E dX8_within_15 rfl () trivial (by first | exact ret_y ⟨c2, Int32.not_lt.mp c7⟩ | exact ret_n (fun z => z.1 c2) | exact ret_n (fun z => Int32.not_lt.mpr z.2 c7)) rfl
  · refine j_iload_n C 0 dX8_within_5 rfl rfl ?_
    refine j_iload_n C 2 dX8_within_6 rfl rfl ?_
    refine j_icmp_gt (tgt := 14) C dX8_within_7 (by decide) (fun c7 => ?_) (fun c7 => ?_)
    · refine j_iconst (v := nI 0) C dX8_within_14 (by decide) ?_
      exact j_zret C E dX8_within_15 rfl () trivial (by first | exact ret_y ⟨c2, Int32.not_lt.mp c7⟩ | exact ret_n (fun z => z.1 c2) | exact ret_n (fun z => Int32.not_lt.mpr z.2 c7)) rfl
    · refine j_iconst (v := nI 1) C dX8_within_10 (by decide) ?_
      refine j_goto (tgt := 15) C dX8_within_11 (by decide) ?_
      exact j_zret C E dX8_within_15 rfl () trivial (by first | exact ret_y ⟨c2, Int32.not_lt.mp c7⟩ | exact ret_n (fun z => z.1 c2) | exact ret_n (fun z => Int32.not_lt.mpr z.2 c7)) rfl
theorem c_X8_withinP {l : Launch} {D : va_G} {cy : Nat → ClassId} (x : Int32) (m : Nat) (hm : m < 2 ^ 30) : Ct l yX8_within wsX8_within ({ frames := 0, cells := 0, slots := 0, locals := 0 }) D cy [.int x, .int (nI 0), .int (nI m)] [] (fun _ : Unit => True) (fun _ => some (.int (nI (bN ((pOf (m + 1) x).isSome = true))))) (fun _ => []) := (c_X8_within (l := l) (D := D) (cy := cy) x (nI 0) (nI m)).map (fun u => u) (fun _ _ => ⟨trivial, rv_c (wi_p hm), rfl⟩)
set_option maxHeartbeats 4000000 in
set_option maxRecDepth 20000 in
theorem c_X8_isSheet {l : Launch} {D : va_G} {cy : Nat → ClassId} (x : Int32)  : Ct l yX8_isSheet wsX8_isSheet ({ frames := 1, cells := 0, slots := 0, locals := 22 }) D cy [.int x] (([] : va_W) ) (fun _ : Unit => True) (fun _ => some (.int (nI (bN ((pOf 4 x).isSome = true))))) (fun _ => []) := by
  refine Ct.of (cc := cX8_isSheet) (nL := 1) (ret := (some .boolean)) rfl (by decide) ⟨rfl, rfl⟩ (Nat.le_of_ble_eq_true rfl) ?_
  intro X C E
  have C : Cx X l D cy cX8_isSheet 1 wsX8_isSheet RX8 ({ frames := 1, cells := 0, slots := 0, locals := 22 }) := C
  show J X (([] : va_W) ) 0 [(0, .int x)] []
  refine j_iload_n C 0 dX8_isSheet_0 rfl rfl ?_
  refine j_iconst (v := nI 0) C dX8_isSheet_1 (by decide) ?_
  refine j_iconst (v := nI 3) C dX8_isSheet_2 (by decide) ?_
  refine j_callP (As := [.int x, .int (nI 0), .int (nI 3)]) (rest := []) C (c_X8_withinP (x) 3 (by omega)) gX8_isSheet_X8_within rfl 3 rfl (by decide +kernel) (by decide) (Nat.le_of_ble_eq_true rfl) dX8_isSheet_3 rfl (fun _ _ => ?_)
  show J X (([] : va_W) ) 6 [(0, .int x)] [.int (nI (bN ((pOf 4 (x)).isSome = true)))]
  exact j_zret C E dX8_isSheet_6 (narB _) () trivial rfl rfl
set_option maxHeartbeats 4000000 in
set_option maxRecDepth 20000 in
theorem c_X8_isSort {l : Launch} {D : va_G} {cy : Nat → ClassId} (x : Int32)  : Ct l yX8_isSort wsX8_isSort ({ frames := 1, cells := 0, slots := 0, locals := 22 }) D cy [.int x] (([] : va_W) ) (fun _ : Unit => True) (fun _ => some (.int (nI (bN ((pOf 3 x).isSome = true))))) (fun _ => []) := by
  refine Ct.of (cc := cX8_isSort) (nL := 1) (ret := (some .boolean)) rfl (by decide) ⟨rfl, rfl⟩ (Nat.le_of_ble_eq_true rfl) ?_
  intro X C E
  have C : Cx X l D cy cX8_isSort 1 wsX8_isSort RX8 ({ frames := 1, cells := 0, slots := 0, locals := 22 }) := C
  show J X (([] : va_W) ) 0 [(0, .int x)] []
  refine j_iload_n C 0 dX8_isSort_0 rfl rfl ?_
  refine j_iconst (v := nI 0) C dX8_isSort_1 (by decide) ?_
  refine j_iconst (v := nI 2) C dX8_isSort_2 (by decide) ?_
  refine j_callP (As := [.int x, .int (nI 0), .int (nI 2)]) (rest := []) C (c_X8_withinP (x) 2 (by omega)) gX8_isSort_X8_within rfl 3 rfl (by decide +kernel) (by decide) (Nat.le_of_ble_eq_true rfl) dX8_isSort_3 rfl (fun _ _ => ?_)
  show J X (([] : va_W) ) 6 [(0, .int x)] [.int (nI (bN ((pOf 3 (x)).isSome = true)))]
  exact j_zret C E dX8_isSort_6 (narB _) () trivial rfl rfl
set_option maxHeartbeats 4000000 in
set_option maxRecDepth 20000 in
theorem c_X8_spot {l : Launch} {D : va_G} {cy : Nat → ClassId} (x y : Nat)  : Ct l yX8_spot wsX8_spot ({ frames := 0, cells := 0, slots := 0, locals := 0 }) D cy [.int (nI x), .int (nI y)] (([] : va_W) ) (fun _ : Unit => True) (fun _ => some (.int (nI (6 * x + y)))) (fun _ => []) := by
  refine Ct.of (cc := cX8_spot) (nL := 2) (ret := (some .int)) rfl (by decide) ⟨rfl, rfl⟩ (Nat.le_of_ble_eq_true rfl) ?_
  intro X C E
  have C : Cx X l D cy cX8_spot 2 wsX8_spot RX8 ({ frames := 0, cells := 0, slots := 0, locals := 0 }) := C
  show J X (([] : va_W) ) 0 [(0, .int (nI x)), (1, .int (nI y))] []
  refine j_bipush (v := nI 6) C dX8_spot_0 (by decide) ?_
  refine j_iload_n C 0 dX8_spot_2 rfl rfl ?_
  refine j_imul (v := nI (6 * x)) C dX8_spot_3 (pk_mul _ _) ?_
  refine j_iload_n C 1 dX8_spot_4 rfl rfl ?_
  refine j_iadd (v := nI ((6 * x) + y)) C dX8_spot_5 (nI_add _ _) ?_
  exact j_iret C E dX8_spot_6 () trivial rfl rfl
set_option maxHeartbeats 4000000 in
set_option maxRecDepth 20000 in
theorem c_X8_fails {l : Launch} {D : va_G} {cy : Nat → ClassId} (mm : Nat → Nat) (fl tv : Int32) (so sg ce : Nat → Int32) (N B : Nat) (kf pf : Nat → Int32) (vat vrm vrb : Int32) (rk rp lf tf kp : Nat → Int32) (c : Nat) (df mf gf : Nat → Int32) (f : Nat)  : Ct l yX8_fails wsX8_fails ({ frames := 0, cells := 0, slots := 0, locals := 0 }) D cy [.ref (mm 0), .int (nI f)] (wM mm cy fl tv so sg ce (nI N) (nI B) kf pf vat vrm vrb rk rp lf tf kp (nI c) df mf gf) (fun _ : Unit => True) (fun _ => some (.int ((-10) - nI f))) (fun _ => wM mm cy (nI f) tv so sg ce (nI N) (nI B) kf pf vat vrm vrb rk rp lf tf kp (nI c) df mf gf) := by
  refine Ct.of (cc := cX8_fails) (nL := 2) (ret := (some .int)) rfl (by decide) ⟨rfl, rfl⟩ (Nat.le_of_ble_eq_true rfl) ?_
  intro X C E
  have C : Cx X l D cy cX8_fails 2 wsX8_fails RX8 ({ frames := 0, cells := 0, slots := 0, locals := 0 }) := C
  have mh0 : ∀ w ∈ u_ws RX8 TX8 21, w ∈ wsX8_fails := by decide +kernel
  have mh1 : Cond.fieldLink RX8 50 RX8 (TX8 0).2.1 (TX8 0).2.2.1 ∈ wsX8_fails := by decide +kernel
  show J X (wM mm cy fl tv so sg ce (nI N) (nI B) kf pf vat vrm vrb rk rp lf tf kp (nI c) df mf gf) 0 [(0, .ref (mm 0)), (1, .int (nI f))] []
  refine j_aload_n C 0 dX8_fails_0 rfl rfl ?_
  refine j_iload_n C 1 dX8_fails_1 rfl rfl ?_
  refine j_put (ws' := wM mm cy (nI f) tv so sg ce (nI N) (nI B) kf pf vat vrm vrb rk rp lf tf kp (nI c) df mf gf) C mh0 0 mh1 tyX8 tyX8_ok nmX8 0 rfl rfl (by decide) rfl rfl (by decide +kernel) (Nat.le_of_ble_eq_true rfl) rfl dX8_fails_2 ?_
  refine j_bipush (v := (-10)) C dX8_fails_5 (by decide) ?_
  refine j_iload_n C 1 dX8_fails_7 rfl rfl ?_
  refine j_isub (v := ((-10)) - (nI f)) C dX8_fails_8 rfl ?_
  exact j_iret C E dX8_fails_9 () trivial rfl rfl
set_option maxHeartbeats 4000000 in
set_option maxRecDepth 20000 in
theorem c_X8_lost {l : Launch} {D : va_G} {cy : Nat → ClassId} (mm : Nat → Nat) (fl tv : Int32) (so sg ce : Nat → Int32) (N B : Nat) (kf pf : Nat → Int32) (vat vrm vrb : Int32) (rk rp lf tf kp : Nat → Int32) (c : Nat) (df mf gf : Nat → Int32) (f : Nat)  : Ct l yX8_lost wsX8_lost ({ frames := 0, cells := 0, slots := 0, locals := 0 }) D cy [.ref (mm 0), .int (nI f)] (wM mm cy fl tv so sg ce (nI N) (nI B) kf pf vat vrm vrb rk rp lf tf kp (nI c) df mf gf) (fun _ : Unit => True) (fun _ => some (.long lostV)) (fun _ => wM mm cy (nI f) tv so sg ce (nI N) (nI B) kf pf vat vrm vrb rk rp lf tf kp (nI c) df mf gf) := by
  refine Ct.of (cc := cX8_lost) (nL := 2) (ret := (some .long)) rfl (by decide) ⟨rfl, rfl⟩ (Nat.le_of_ble_eq_true rfl) ?_
  intro X C E
  have C : Cx X l D cy cX8_lost 2 wsX8_lost RX8 ({ frames := 0, cells := 0, slots := 0, locals := 0 }) := C
  have mh0 : ∀ w ∈ u_ws RX8 TX8 21, w ∈ wsX8_lost := by decide +kernel
  have mh1 : Cond.fieldLink RX8 50 RX8 (TX8 0).2.1 (TX8 0).2.2.1 ∈ wsX8_lost := by decide +kernel
  have mh2 : Cond.constantLong RX8 54 lostV ∈ wsX8_lost := by decide +kernel
  show J X (wM mm cy fl tv so sg ce (nI N) (nI B) kf pf vat vrm vrb rk rp lf tf kp (nI c) df mf gf) 0 [(0, .ref (mm 0)), (1, .int (nI f))] []
  refine j_aload_n C 0 dX8_lost_0 rfl rfl ?_
  refine j_iload_n C 1 dX8_lost_1 rfl rfl ?_
  refine j_put (ws' := wM mm cy (nI f) tv so sg ce (nI N) (nI B) kf pf vat vrm vrb rk rp lf tf kp (nI c) df mf gf) C mh0 0 mh1 tyX8 tyX8_ok nmX8 0 rfl rfl (by decide) rfl rfl (by decide +kernel) (Nat.le_of_ble_eq_true rfl) rfl dX8_lost_2 ?_
  refine j_ldc2 (v := lostV) C mh2 dX8_lost_5 ?_
  exact j_lret C E dX8_lost_8 () trivial rfl rfl
set_option maxHeartbeats 4000000 in
set_option maxRecDepth 20000 in
theorem c_X8_isPerson {l : Launch} {D : va_G} {cy : Nat → ClassId} (mm : Nat → Nat) (fl tv : Int32) (so sg ce : Nat → Int32) (N B : Nat) (kf pf : Nat → Int32) (vat vrm vrb : Int32) (rk rp lf tf kp : Nat → Int32) (c : Nat) (df mf gf : Nat → Int32) (x : Int32) (hN : N ≤ 6) : Ct l yX8_isPerson wsX8_isPerson ({ frames := 0, cells := 0, slots := 0, locals := 0 }) D cy [.ref (mm 0), .int x] (wM mm cy fl tv so sg ce (nI N) (nI B) kf pf vat vrm vrb rk rp lf tf kp (nI c) df mf gf) (fun _ : Unit => True) (fun _ => some (.int (nI (bN ((pOf N x).isSome = true))))) (fun _ => wM mm cy fl tv so sg ce (nI N) (nI B) kf pf vat vrm vrb rk rp lf tf kp (nI c) df mf gf) := by
  refine Ct.of (cc := cX8_isPerson) (nL := 2) (ret := (some .boolean)) rfl (by decide) ⟨rfl, rfl⟩ (Nat.le_of_ble_eq_true rfl) ?_
  intro X C E
  have C : Cx X l D cy cX8_isPerson 2 wsX8_isPerson RX8 ({ frames := 0, cells := 0, slots := 0, locals := 0 }) := C
  have mh0 : ∀ w ∈ u_ws RX8 TX8 21, w ∈ wsX8_isPerson := by decide +kernel
  have mh1 : Cond.fieldLink RX8 60 RX8 (TX8 5).2.1 (TX8 5).2.2.1 ∈ wsX8_isPerson := by decide +kernel
  show J X (wM mm cy fl tv so sg ce (nI N) (nI B) kf pf vat vrm vrb rk rp lf tf kp (nI c) df mf gf) 0 [(0, .ref (mm 0)), (1, .int x)] []
  refine j_iload_n C 1 dX8_isPerson_0 rfl rfl ?_
  refine j_if_lt (tgt := 16) C dX8_isPerson_1 (by decide) (fun c1 => ?_) (fun c1 => ?_)
  · refine j_iconst (v := nI 0) C dX8_isPerson_16 (by decide) ?_
    exact j_zret C E dX8_isPerson_17 rfl () trivial (by first | exact ret_y (isP_y (by omega) c1 c9) | exact ret_n (isP_1 c1) | exact ret_n (isP_2 (by omega) c9)) rfl
  · refine j_iload_n C 1 dX8_isPerson_4 rfl rfl ?_
    refine j_aload_n C 0 dX8_isPerson_5 rfl rfl ?_
    refine j_get C mh0 5 mh1 0 rfl rfl (by decide) rfl rfl dX8_isPerson_6 ?_
    refine j_icmp_ge (tgt := 16) C dX8_isPerson_9 (by decide) (fun c9 => ?_) (fun c9 => ?_)
    · refine j_iconst (v := nI 0) C dX8_isPerson_16 (by decide) ?_
      exact j_zret C E dX8_isPerson_17 rfl () trivial (by first | exact ret_y (isP_y (by omega) c1 c9) | exact ret_n (isP_1 c1) | exact ret_n (isP_2 (by omega) c9)) rfl
    · refine j_iconst (v := nI 1) C dX8_isPerson_12 (by decide) ?_
      refine j_goto (tgt := 17) C dX8_isPerson_13 (by decide) ?_
      exact j_zret C E dX8_isPerson_17 rfl () trivial (by first | exact ret_y (isP_y (by omega) c1 c9) | exact ret_n (isP_1 c1) | exact ret_n (isP_2 (by omega) c9)) rfl
set_option maxHeartbeats 4000000 in
set_option maxRecDepth 20000 in
theorem c_X8_areTwo {l : Launch} {D : va_G} {cy : Nat → ClassId} (mm : Nat → Nat) (fl tv : Int32) (so sg ce : Nat → Int32) (N B : Nat) (kf pf : Nat → Int32) (vat vrm vrb : Int32) (rk rp lf tf kp : Nat → Int32) (c : Nat) (df mf gf : Nat → Int32) (x y : Int32) (hN : N ≤ 6) : Ct l yX8_areTwo wsX8_areTwo ({ frames := 1, cells := 0, slots := 0, locals := 21 }) D cy [.ref (mm 0), .int x, .int y] (wM mm cy fl tv so sg ce (nI N) (nI B) kf pf vat vrm vrb rk rp lf tf kp (nI c) df mf gf) (fun _ : Unit => True) (fun _ => some (.int (nI (bN ((pOf N x).isSome = true ∧ (pOf N y).isSome = true ∧ ¬ x = y))))) (fun _ => wM mm cy fl tv so sg ce (nI N) (nI B) kf pf vat vrm vrb rk rp lf tf kp (nI c) df mf gf) := by
  refine Ct.of (cc := cX8_areTwo) (nL := 3) (ret := (some .boolean)) rfl (by decide) ⟨rfl, rfl⟩ (Nat.le_of_ble_eq_true rfl) ?_
  intro X C E
  have C : Cx X l D cy cX8_areTwo 3 wsX8_areTwo RX8 ({ frames := 1, cells := 0, slots := 0, locals := 21 }) := C
  show J X (wM mm cy fl tv so sg ce (nI N) (nI B) kf pf vat vrm vrb rk rp lf tf kp (nI c) df mf gf) 0 [(0, .ref (mm 0)), (1, .int x), (2, .int y)] []
  refine j_aload_n C 0 dX8_areTwo_0 rfl rfl ?_
  refine j_iload_n C 1 dX8_areTwo_1 rfl rfl ?_
  refine j_callV0 (As := [.int x]) (rest := []) C (c_X8_isPerson mm fl tv so sg ce N B kf pf vat vrm vrb rk rp lf tf kp c df mf gf (x) hN) gX8_areTwo_X8_isPerson rfl 1 rfl (by decide +kernel) (by decide) 0 rfl rfl (Nat.le_of_ble_eq_true rfl) dX8_areTwo_2 rfl (fun _ _ => ?_)
  show J X (wM mm cy fl tv so sg ce (nI N) (nI B) kf pf vat vrm vrb rk rp lf tf kp (nI c) df mf gf) 5 [(0, .ref (mm 0)), (1, .int x), (2, .int y)] [.int (nI (bN ((pOf N (x)).isSome = true)))]
  refine j_if_eqN (tgt := 25) C dX8_areTwo_5 (by decide) (bN_lt _) (fun c5 => ?_) (fun c5 => ?_)
  · have c5 := bN_0.mp c5
    refine j_iconst (v := nI 0) C dX8_areTwo_25 (by decide) ?_
    exact j_zret C E dX8_areTwo_26 rfl () trivial (by first | exact ret_y ⟨c5, c13, c18⟩ | exact ret_n (fun z => c5 z.1) | exact ret_n (fun z => c13 z.2.1) | exact ret_n (fun z => z.2.2 c18)) rfl
  · have c5 := bN_1.mp c5
    refine j_aload_n C 0 dX8_areTwo_8 rfl rfl ?_
    refine j_iload_n C 2 dX8_areTwo_9 rfl rfl ?_
    refine j_callV0 (As := [.int y]) (rest := []) C (c_X8_isPerson mm fl tv so sg ce N B kf pf vat vrm vrb rk rp lf tf kp c df mf gf (y) hN) gX8_areTwo_X8_isPerson rfl 1 rfl (by decide +kernel) (by decide) 0 rfl rfl (Nat.le_of_ble_eq_true rfl) dX8_areTwo_10 rfl (fun _ _ => ?_)
    show J X (wM mm cy fl tv so sg ce (nI N) (nI B) kf pf vat vrm vrb rk rp lf tf kp (nI c) df mf gf) 13 [(0, .ref (mm 0)), (1, .int x), (2, .int y)] [.int (nI (bN ((pOf N (y)).isSome = true)))]
    refine j_if_eqN (tgt := 25) C dX8_areTwo_13 (by decide) (bN_lt _) (fun c13 => ?_) (fun c13 => ?_)
    · have c13 := bN_0.mp c13
      refine j_iconst (v := nI 0) C dX8_areTwo_25 (by decide) ?_
      exact j_zret C E dX8_areTwo_26 rfl () trivial (by first | exact ret_y ⟨c5, c13, c18⟩ | exact ret_n (fun z => c5 z.1) | exact ret_n (fun z => c13 z.2.1) | exact ret_n (fun z => z.2.2 c18)) rfl
    · have c13 := bN_1.mp c13
      refine j_iload_n C 1 dX8_areTwo_16 rfl rfl ?_
      refine j_iload_n C 2 dX8_areTwo_17 rfl rfl ?_
      refine j_icmp_eq (tgt := 25) C dX8_areTwo_18 (by decide) (fun c18 => ?_) (fun c18 => ?_)
      · refine j_iconst (v := nI 0) C dX8_areTwo_25 (by decide) ?_
        exact j_zret C E dX8_areTwo_26 rfl () trivial (by first | exact ret_y ⟨c5, c13, c18⟩ | exact ret_n (fun z => c5 z.1) | exact ret_n (fun z => c13 z.2.1) | exact ret_n (fun z => z.2.2 c18)) rfl
      · refine j_iconst (v := nI 1) C dX8_areTwo_21 (by decide) ?_
        refine j_goto (tgt := 26) C dX8_areTwo_22 (by decide) ?_
        exact j_zret C E dX8_areTwo_26 rfl () trivial (by first | exact ret_y ⟨c5, c13, c18⟩ | exact ret_n (fun z => c5 z.1) | exact ret_n (fun z => c13 z.2.1) | exact ret_n (fun z => z.2.2 c18)) rfl
set_option maxHeartbeats 4000000 in
set_option maxRecDepth 20000 in
theorem c_X8_begins {l : Launch} {D : va_G} {cy : Nat → ClassId} (mm : Nat → Nat) (fl tv : Int32) (so sg ce : Nat → Int32) (N B : Nat) (kf pf : Nat → Int32) (vat vrm vrb : Int32) (rk rp lf tf kp : Nat → Int32) (c : Nat) (df mf gf : Nat → Int32) (x : Nat)  : Ct l yX8_begins wsX8_begins ({ frames := 0, cells := 0, slots := 0, locals := 0 }) D cy [.ref (mm 0), .int (nI x)] (wM mm cy fl tv so sg ce (nI N) (nI B) kf pf vat vrm vrb rk rp lf tf kp (nI c) df mf gf) (fun _ : Unit => True) (fun _ => none) (fun _ => wM mm cy fl (tr tv x) so sg ce (nI N) (nI B) kf pf vat vrm vrb rk rp lf tf kp (nI c) df mf gf) := by
  refine Ct.of (cc := cX8_begins) (nL := 2) (ret := none) rfl (by decide) ⟨rfl, rfl⟩ (Nat.le_of_ble_eq_true rfl) ?_
  intro X C E
  have C : Cx X l D cy cX8_begins 2 wsX8_begins RX8 ({ frames := 0, cells := 0, slots := 0, locals := 0 }) := C
  have mh0 : ∀ w ∈ u_ws RX8 TX8 21, w ∈ wsX8_begins := by decide +kernel
  have mh1 : Cond.fieldLink RX8 163 RX8 (TX8 1).2.1 (TX8 1).2.2.1 ∈ wsX8_begins := by decide +kernel
  show J X (wM mm cy fl tv so sg ce (nI N) (nI B) kf pf vat vrm vrb rk rp lf tf kp (nI c) df mf gf) 0 [(0, .ref (mm 0)), (1, .int (nI x))] []
  refine j_aload_n C 0 dX8_begins_0 rfl rfl ?_
  refine j_bipush (v := nI 31) C dX8_begins_1 (by decide) ?_
  refine j_aload_n C 0 dX8_begins_3 rfl rfl ?_
  refine j_get C mh0 1 mh1 0 rfl rfl (by decide) rfl rfl dX8_begins_4 ?_
  refine j_imul (v := (nI 31) * tv) C dX8_begins_7 rfl ?_
  refine j_iload_n C 1 dX8_begins_8 rfl rfl ?_
  refine j_iadd (v := ((nI 31) * tv) + (nI x)) C dX8_begins_9 rfl ?_
  refine j_put (ws' := wM mm cy fl (((nI 31) * tv) + (nI x)) so sg ce (nI N) (nI B) kf pf vat vrm vrb rk rp lf tf kp (nI c) df mf gf) C mh0 1 mh1 tyX8 tyX8_ok nmX8 0 rfl rfl (by decide) rfl rfl (by decide +kernel) (Nat.le_of_ble_eq_true rfl) rfl dX8_begins_10 ?_
  exact j_vret C E dX8_begins_13 () trivial rfl rfl
set_option maxHeartbeats 4000000 in
set_option maxRecDepth 20000 in
theorem c_X8_weightOf {l : Launch} {D : va_G} {cy : Nat → ClassId} (mm : Nat → Nat) (fl tv : Int32) (so sg ce : Nat → Int32) (N B : Nat) (kf pf : Nat → Int32) (vat vrm vrb : Int32) (rk rp lf tf kp : Nat → Int32) (c : Nat) (df mf gf : Nat → Int32) (k : Nat → Nat) (p : Nat → Nat → Nat) (hT : Ag N k p kf (PF pf)) (x y : Nat) (hx : x < N) (hy : y < N) : Ct l yX8_weightOf wsX8_weightOf ({ frames := 1, cells := 0, slots := 0, locals := 21 }) D cy [.ref (mm 0), .int (nI x), .int (nI y)] (wM mm cy fl tv so sg ce (nI N) (nI B) kf pf vat vrm vrb rk rp lf tf kp (nI c) df mf gf) (fun _ : Unit => True) (fun _ => some (.int (nI (wt (k x) (p x y))))) (fun _ => wM mm cy fl tv so sg ce (nI N) (nI B) kf pf vat vrm vrb rk rp lf tf kp (nI c) df mf gf) := by
  refine Ct.of (cc := cX8_weightOf) (nL := 4) (ret := (some .int)) rfl (by decide) ⟨rfl, rfl⟩ (Nat.le_of_ble_eq_true rfl) ?_
  intro X C E
  have C : Cx X l D cy cX8_weightOf 4 wsX8_weightOf RX8 ({ frames := 1, cells := 0, slots := 0, locals := 21 }) := C
  have mh0 : ∀ w ∈ u_ws RX8 TX8 21, w ∈ wsX8_weightOf := by decide +kernel
  have mh1 : Cond.fieldLink RX8 22 RX8 (TX8 8).2.1 (TX8 8).2.2.1 ∈ wsX8_weightOf := by decide +kernel
  have mh2 : Cond.fieldLink RX8 19 RX8 (TX8 7).2.1 (TX8 7).2.2.1 ∈ wsX8_weightOf := by decide +kernel
  have hN := hT.n
  show J X (wM mm cy fl tv so sg ce (nI N) (nI B) kf pf vat vrm vrb rk rp lf tf kp (nI c) df mf gf) 0 [(0, .ref (mm 0)), (1, .int (nI x)), (2, .int (nI y))] []
  refine j_aload_n C 0 dX8_weightOf_0 rfl rfl ?_
  refine j_get C mh0 8 mh1 0 rfl rfl (by decide) rfl rfl dX8_weightOf_1 ?_
  refine j_iload_n C 1 dX8_weightOf_4 rfl rfl ?_
  refine j_iload_n C 2 dX8_weightOf_5 rfl rfl ?_
  refine j_callP (As := [.int (nI x), .int (nI y)]) (rest := [.ref (mm 5)]) C (c_X8_spot x y) gX8_weightOf_X8_spot rfl 2 rfl (by decide +kernel) (by decide) (Nat.le_of_ble_eq_true rfl) dX8_weightOf_6 rfl (fun _ _ => ?_)
  show J X (wM mm cy fl tv so sg ce (nI N) (nI B) kf pf vat vrm vrb rk rp lf tf kp (nI c) df mf gf) 9 [(0, .ref (mm 0)), (1, .int (nI x)), (2, .int (nI y))] [.int (nI (6 * x + y)), .ref (mm 5)]
  have := hT.p9 (a := x) (b := y) (by omega) (by omega)
  refine j_iald (v := nI (p x y)) C 5 rfl (by omega) (by decide) (hT.pp (a := x) (b := y) (by omega) (by omega)) dX8_weightOf_9 ?_
  refine j_istore_n (lv' := [(3, .int (nI (p x y))), (0, .ref (mm 0)), (1, .int (nI x)), (2, .int (nI y))]) C dX8_weightOf_10 rfl (by decide) rfl ?_
  refine j_aload_n C 1 dX8_weightOf_11 rfl rfl ?_
  refine j_get C mh0 7 mh2 0 rfl rfl (by decide) rfl rfl dX8_weightOf_12 ?_
  refine j_iload_n C 2 dX8_weightOf_15 rfl rfl ?_
  have := hT.k2 (a := x) (by omega)
  refine j_iald (v := nI (k x)) C 4 rfl (by omega) (by decide) (hT.kk (by omega)) dX8_weightOf_16 ?_
  refine j_if_eqN (tgt := 24) C dX8_weightOf_17 (by decide) (by omega) (fun c17 => ?_) (fun c17 => ?_)
  · refine j_iload_n C 0 dX8_weightOf_24 rfl rfl ?_
    refine j_goto (tgt := 47) C dX8_weightOf_25 (by decide) ?_
    exact j_iret C E dX8_weightOf_47 () trivial (by unfold wt; first | (rw [if_pos c17]; done) | (rw [c21]; split <;> (try split) <;> rfl) | (rw [if_neg c17, if_pos c35, if_neg c21]; done) | (rw [if_neg c17, if_neg c35]; done)) rfl
  · refine j_iload_n C 0 dX8_weightOf_20 rfl rfl ?_
    refine j_if_neN (tgt := 28) C dX8_weightOf_21 (by decide) (by omega) (fun c21 => ?_) (fun c21 => ?_)
    · refine j_aload_n C 1 dX8_weightOf_28 rfl rfl ?_
      refine j_get C mh0 7 mh2 0 rfl rfl (by decide) rfl rfl dX8_weightOf_29 ?_
      refine j_iload_n C 2 dX8_weightOf_32 rfl rfl ?_
      have := hT.k2 (a := x) (by omega)
      refine j_iald (v := nI (k x)) C 4 rfl (by omega) (by decide) (hT.kk (by omega)) dX8_weightOf_33 ?_
      refine j_iconst (v := nI 1) C dX8_weightOf_34 (by decide) ?_
      refine j_icmp_neN (tgt := 44) C dX8_weightOf_35 (by decide) (by omega) (by omega) (fun c35 => ?_) (fun c35 => ?_)
      · refine j_iconst (v := nI 2) C dX8_weightOf_44 (by decide) ?_
        refine j_iload_n C 0 dX8_weightOf_45 rfl rfl ?_
        refine j_imul (v := nI (2 * (p x y))) C dX8_weightOf_46 (pk_mul _ _) ?_
        exact j_iret C E dX8_weightOf_47 () trivial (by unfold wt; first | (rw [if_pos c17]; done) | (rw [c21]; split <;> (try split) <;> rfl) | (rw [if_neg c17, if_pos c35, if_neg c21]; done) | (rw [if_neg c17, if_neg c35]; done)) rfl
      · refine j_iload_n C 0 dX8_weightOf_38 rfl rfl ?_
        refine j_iconst (v := nI 1) C dX8_weightOf_39 (by decide) ?_
        refine j_iadd (v := nI ((p x y) + 1)) C dX8_weightOf_40 (nI_add _ _) ?_
        refine j_goto (tgt := 47) C dX8_weightOf_41 (by decide) ?_
        exact j_iret C E dX8_weightOf_47 () trivial (by unfold wt; first | (rw [if_pos c17]; done) | (rw [c21]; split <;> (try split) <;> rfl) | (rw [if_neg c17, if_pos c35, if_neg c21]; done) | (rw [if_neg c17, if_neg c35]; done)) rfl
    · refine j_iload_n C 0 dX8_weightOf_24 rfl rfl ?_
      refine j_goto (tgt := 47) C dX8_weightOf_25 (by decide) ?_
      exact j_iret C E dX8_weightOf_47 () trivial (by unfold wt; first | (rw [if_pos c17]; done) | (rw [c21]; split <;> (try split) <;> rfl) | (rw [if_neg c17, if_pos c35, if_neg c21]; done) | (rw [if_neg c17, if_neg c35]; done)) rfl
set_option maxHeartbeats 4000000 in
set_option maxRecDepth 20000 in
theorem c_X8_lighterOf {l : Launch} {D : va_G} {cy : Nat → ClassId} (mm : Nat → Nat) (fl tv : Int32) (so sg ce : Nat → Int32) (N B : Nat) (kf pf : Nat → Int32) (vat vrm vrb : Int32) (rk rp lf tf kp : Nat → Int32) (c : Nat) (df mf gf : Nat → Int32) (k : Nat → Nat) (p : Nat → Nat → Nat) (hT : Ag N k p kf (PF pf)) (b : Nat) (hb : b < N) : Ct l yX8_lighterOf wsX8_lighterOf ({ frames := 2, cells := 0, slots := 0, locals := 44 }) D cy [.ref (mm 0), .int (nI b)] (wM mm cy fl tv so sg ce (nI N) (nI B) kf pf vat vrm vrb rk rp lf tf kp (nI c) df mf gf) (fun _ : Unit => True) (fun _ => some (.int (lI (lg N k p b)))) (fun _ => wM mm cy fl tv so sg ce (nI N) (nI B) kf pf vat vrm vrb rk rp lf tf kp (nI c) df mf gf) := by
  refine Ct.of (cc := cX8_lighterOf) (nL := 4) (ret := (some .int)) rfl (by decide) ⟨rfl, rfl⟩ (Nat.le_of_ble_eq_true rfl) ?_
  intro X C E
  have C : Cx X l D cy cX8_lighterOf 4 wsX8_lighterOf RX8 ({ frames := 2, cells := 0, slots := 0, locals := 44 }) := C
  have mh0 : ∀ w ∈ u_ws RX8 TX8 21, w ∈ wsX8_lighterOf := by decide +kernel
  have mh1 : Cond.fieldLink RX8 60 RX8 (TX8 5).2.1 (TX8 5).2.2.1 ∈ wsX8_lighterOf := by decide +kernel
  have hN := hT.n
  show J X (wM mm cy fl tv so sg ce (nI N) (nI B) kf pf vat vrm vrb rk rp lf tf kp (nI c) df mf gf) 0 [(0, .ref (mm 0)), (1, .int (nI b))] []
  refine j_bipush (v := (-9)) C dX8_lighterOf_0 (by decide) ?_
  refine j_istore_n (lv' := [(2, .int ((-9))), (0, .ref (mm 0)), (1, .int (nI b))]) C dX8_lighterOf_2 rfl (by decide) rfl ?_
  refine j_iconst (v := nI 0) C dX8_lighterOf_3 (by decide) ?_
  refine j_istore_n (lv' := [(3, .int (nI 0)), (2, .int ((-9))), (0, .ref (mm 0)), (1, .int (nI b))]) C dX8_lighterOf_4 rfl (by decide) rfl ?_
  refine J.sub [2, 3, 1, 0] rfl ?_
  have L5 : ∀ (n : Nat) (i : Nat), N - i < n → i ≤ N → J X (wM mm cy fl tv so sg ce (nI N) (nI B) kf pf vat vrm vrb rk rp lf tf kp (nI c) df mf gf) 5 [(0, .ref (mm 0)), (1, .int (nI b)), (2, .int (lI (lgt (wF k p b) i))), (3, .int (nI i))] [] := by
    intro n
    induction n with
    | zero => intro i hm; exact absurd hm (Nat.not_lt_zero _)
    | succ n ih5 =>
      intro i h5_0 h5_1
      refine j_iload_n C 3 dX8_lighterOf_5 rfl rfl ?_
      refine j_aload_n C 0 dX8_lighterOf_6 rfl rfl ?_
      refine j_get C mh0 5 mh1 0 rfl rfl (by decide) rfl rfl dX8_lighterOf_7 ?_
      refine j_icmp_geN (tgt := 56) C dX8_lighterOf_10 (by decide) (by omega) (by omega) (fun c10 => ?_) (fun c10 => ?_)
      · refine j_iload_n C 2 dX8_lighterOf_56 rfl rfl ?_
        exact j_iret C E dX8_lighterOf_57 () trivial (by rw [show i = N by omega]; rfl) rfl
      · refine j_iload_n C 3 dX8_lighterOf_13 rfl rfl ?_
        refine j_iload_n C 1 dX8_lighterOf_14 rfl rfl ?_
        refine j_icmp_eqN (tgt := 50) C dX8_lighterOf_15 (by decide) (by omega) (by omega) (fun c15 => ?_) (fun c15 => ?_)
        · refine j_iinc (v := nI (i + 1)) (lv' := [(3, .int (nI (i + 1))), (0, .ref (mm 0)), (1, .int (nI b)), (2, .int (lI (lgt (wF k p b) i)))]) C 3 dX8_lighterOf_50 rfl (nI_inc i) (by decide) rfl ?_
          refine j_goto (tgt := 5) C dX8_lighterOf_53 (by decide) ?_
          refine J.sub [1, 2, 3, 0] rfl ?_
          have e := ih5 (i + 1) (by omega) (by omega)
          first
            | (rw [lgs_0 (w := (wF k p b)) (n := i) (by show wt (k i) (p i b) = 0; rw [c15, hT.p0 hb]; exact wt_0.mpr rfl)] at e; exact e)
            | (rw [lgs_0 (w := (wF k p b)) (n := i) (Nat.le_zero.mp c24)] at e; exact e)
            | (rw [lgs_1 (w := (wF k p b)) (n := i) hno c24] at e; exact e)
            | (rw [lgs_2 (w := (wF k p b)) (n := i) hq c45] at e; exact e)
            | (rw [lgs_3 (w := (wF k p b)) (n := i) hq c45] at e; exact e)
        · refine j_aload_n C 0 dX8_lighterOf_18 rfl rfl ?_
          refine j_iload_n C 3 dX8_lighterOf_19 rfl rfl ?_
          refine j_iload_n C 1 dX8_lighterOf_20 rfl rfl ?_
          refine j_callV0 (As := [.int (nI i), .int (nI b)]) (rest := []) C (c_X8_weightOf mm fl tv so sg ce N B kf pf vat vrm vrb rk rp lf tf kp c df mf gf k p hT i b (by omega) (by omega)) gX8_lighterOf_X8_weightOf rfl 2 rfl (by decide +kernel) (by decide) 0 rfl rfl (Nat.le_of_ble_eq_true rfl) dX8_lighterOf_21 rfl (fun _ _ => ?_)
          have := hT.w (a := i) (b := b) (by omega) (by omega)
          show J X (wM mm cy fl tv so sg ce (nI N) (nI B) kf pf vat vrm vrb rk rp lf tf kp (nI c) df mf gf) 24 [(0, .ref (mm 0)), (1, .int (nI b)), (2, .int (lI (lgt (wF k p b) i))), (3, .int (nI i))] [.int (nI (wt (k i) (p i b)))]
          refine j_if_leN (tgt := 50) C dX8_lighterOf_24 (by decide) (by omega) (fun c24 => ?_) (fun c24 => ?_)
          · refine j_iinc (v := nI (i + 1)) (lv' := [(3, .int (nI (i + 1))), (0, .ref (mm 0)), (1, .int (nI b)), (2, .int (lI (lgt (wF k p b) i)))]) C 3 dX8_lighterOf_50 rfl (nI_inc i) (by decide) rfl ?_
            refine j_goto (tgt := 5) C dX8_lighterOf_53 (by decide) ?_
            refine J.sub [1, 2, 3, 0] rfl ?_
            have e := ih5 (i + 1) (by omega) (by omega)
            first
              | (rw [lgs_0 (w := (wF k p b)) (n := i) (by show wt (k i) (p i b) = 0; rw [c15, hT.p0 hb]; exact wt_0.mpr rfl)] at e; exact e)
              | (rw [lgs_0 (w := (wF k p b)) (n := i) (Nat.le_zero.mp c24)] at e; exact e)
              | (rw [lgs_1 (w := (wF k p b)) (n := i) hno c24] at e; exact e)
              | (rw [lgs_2 (w := (wF k p b)) (n := i) hq c45] at e; exact e)
              | (rw [lgs_3 (w := (wF k p b)) (n := i) hq c45] at e; exact e)
          · refine j_iload_n C 2 dX8_lighterOf_27 rfl rfl ?_
            refine j_bipush (v := (-9)) C dX8_lighterOf_28 (by decide) ?_
            refine j_icmp_eq (tgt := 48) C dX8_lighterOf_30 (by decide) (fun c30 => ?_) (fun c30 => ?_)
            · have hno : lgt (wF k p b) i = none := (lI_none (lgt_31 (by omega))).mp c30
              refine j_iload_n C 3 dX8_lighterOf_48 rfl rfl ?_
              refine j_istore_n (lv' := [(2, .int (nI i)), (0, .ref (mm 0)), (1, .int (nI b)), (3, .int (nI i))]) C dX8_lighterOf_49 rfl (by decide) rfl ?_
              refine j_iinc (v := nI (i + 1)) (lv' := [(3, .int (nI (i + 1))), (2, .int (nI i)), (0, .ref (mm 0)), (1, .int (nI b))]) C 3 dX8_lighterOf_50 rfl (nI_inc i) (by decide) rfl ?_
              refine j_goto (tgt := 5) C dX8_lighterOf_53 (by decide) ?_
              refine J.sub [2, 3, 1, 0] rfl ?_
              have e := ih5 (i + 1) (by omega) (by omega)
              first
                | (rw [lgs_0 (w := (wF k p b)) (n := i) (by show wt (k i) (p i b) = 0; rw [c15, hT.p0 hb]; exact wt_0.mpr rfl)] at e; exact e)
                | (rw [lgs_0 (w := (wF k p b)) (n := i) (Nat.le_zero.mp c24)] at e; exact e)
                | (rw [lgs_1 (w := (wF k p b)) (n := i) hno c24] at e; exact e)
                | (rw [lgs_2 (w := (wF k p b)) (n := i) hq c45] at e; exact e)
                | (rw [lgs_3 (w := (wF k p b)) (n := i) hq c45] at e; exact e)
            · obtain ⟨q, hq⟩ := some_of c30
              have hqi := lgt_lt hq
              rw [hq]
              show J X (wM mm cy fl tv so sg ce (nI N) (nI B) kf pf vat vrm vrb rk rp lf tf kp (nI c) df mf gf) 33 [(0, .ref (mm 0)), (1, .int (nI b)), (2, .int (nI q)), (3, .int (nI i))] []
              refine j_aload_n C 0 dX8_lighterOf_33 rfl rfl ?_
              refine j_iload_n C 3 dX8_lighterOf_34 rfl rfl ?_
              refine j_iload_n C 1 dX8_lighterOf_35 rfl rfl ?_
              refine j_callV0 (As := [.int (nI i), .int (nI b)]) (rest := []) C (c_X8_weightOf mm fl tv so sg ce N B kf pf vat vrm vrb rk rp lf tf kp c df mf gf k p hT i b (by omega) (by omega)) gX8_lighterOf_X8_weightOf rfl 2 rfl (by decide +kernel) (by decide) 0 rfl rfl (Nat.le_of_ble_eq_true rfl) dX8_lighterOf_36 rfl (fun _ _ => ?_)
              have := hT.w (a := i) (b := b) (by omega) (by omega)
              show J X (wM mm cy fl tv so sg ce (nI N) (nI B) kf pf vat vrm vrb rk rp lf tf kp (nI c) df mf gf) 39 [(0, .ref (mm 0)), (1, .int (nI b)), (2, .int (nI q)), (3, .int (nI i))] [.int (nI (wt (k i) (p i b)))]
              refine j_aload_n C 0 dX8_lighterOf_39 rfl rfl ?_
              refine j_iload_n C 2 dX8_lighterOf_40 rfl rfl ?_
              refine j_iload_n C 1 dX8_lighterOf_41 rfl rfl ?_
              refine j_callV0 (As := [.int (nI q), .int (nI b)]) (rest := [.int (nI (wt (k i) (p i b)))]) C (c_X8_weightOf mm fl tv so sg ce N B kf pf vat vrm vrb rk rp lf tf kp c df mf gf k p hT q b (by omega) (by omega)) gX8_lighterOf_X8_weightOf rfl 2 rfl (by decide +kernel) (by decide) 0 rfl rfl (Nat.le_of_ble_eq_true rfl) dX8_lighterOf_42 rfl (fun _ _ => ?_)
              have := hT.w (a := q) (b := b) (by omega) (by omega)
              show J X (wM mm cy fl tv so sg ce (nI N) (nI B) kf pf vat vrm vrb rk rp lf tf kp (nI c) df mf gf) 45 [(0, .ref (mm 0)), (1, .int (nI b)), (2, .int (nI q)), (3, .int (nI i))] [.int (nI (wt (k q) (p q b))), .int (nI (wt (k i) (p i b)))]
              refine j_icmp_leN (tgt := 50) C dX8_lighterOf_45 (by decide) (by omega) (by omega) (fun c45 => ?_) (fun c45 => ?_)
              · refine j_iinc (v := nI (i + 1)) (lv' := [(3, .int (nI (i + 1))), (0, .ref (mm 0)), (1, .int (nI b)), (2, .int (nI q))]) C 3 dX8_lighterOf_50 rfl (nI_inc i) (by decide) rfl ?_
                refine j_goto (tgt := 5) C dX8_lighterOf_53 (by decide) ?_
                refine J.sub [1, 2, 3, 0] rfl ?_
                have e := ih5 (i + 1) (by omega) (by omega)
                first
                  | (rw [lgs_0 (w := (wF k p b)) (n := i) (by show wt (k i) (p i b) = 0; rw [c15, hT.p0 hb]; exact wt_0.mpr rfl)] at e; exact e)
                  | (rw [lgs_0 (w := (wF k p b)) (n := i) (Nat.le_zero.mp c24)] at e; exact e)
                  | (rw [lgs_1 (w := (wF k p b)) (n := i) hno c24] at e; exact e)
                  | (rw [lgs_2 (w := (wF k p b)) (n := i) hq c45] at e; exact e)
                  | (rw [lgs_3 (w := (wF k p b)) (n := i) hq c45] at e; exact e)
              · refine j_iload_n C 3 dX8_lighterOf_48 rfl rfl ?_
                refine j_istore_n (lv' := [(2, .int (nI i)), (0, .ref (mm 0)), (1, .int (nI b)), (3, .int (nI i))]) C dX8_lighterOf_49 rfl (by decide) rfl ?_
                refine j_iinc (v := nI (i + 1)) (lv' := [(3, .int (nI (i + 1))), (2, .int (nI i)), (0, .ref (mm 0)), (1, .int (nI b))]) C 3 dX8_lighterOf_50 rfl (nI_inc i) (by decide) rfl ?_
                refine j_goto (tgt := 5) C dX8_lighterOf_53 (by decide) ?_
                refine J.sub [2, 3, 1, 0] rfl ?_
                have e := ih5 (i + 1) (by omega) (by omega)
                first
                  | (rw [lgs_0 (w := (wF k p b)) (n := i) (by show wt (k i) (p i b) = 0; rw [c15, hT.p0 hb]; exact wt_0.mpr rfl)] at e; exact e)
                  | (rw [lgs_0 (w := (wF k p b)) (n := i) (Nat.le_zero.mp c24)] at e; exact e)
                  | (rw [lgs_1 (w := (wF k p b)) (n := i) hno c24] at e; exact e)
                  | (rw [lgs_2 (w := (wF k p b)) (n := i) hq c45] at e; exact e)
                  | (rw [lgs_3 (w := (wF k p b)) (n := i) hq c45] at e; exact e)
  have e := L5 (N + 1) 0 (by omega) (by omega)
  exact e
