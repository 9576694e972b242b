set_option maxHeartbeats 4000000 in
set_option maxRecDepth 20000 in
theorem c_X6_leave {l : Launch} {D : va_G} {cy : Nat → ClassId} (t : Nat) (v : Int32) (m : Nat)  : Ct l yX6_leave wsX6_leave ({ frames := 0, cells := 0, slots := 0, locals := 0 }) D cy [.ref t, .int (nI m)] (wTr t v) (fun _ : Unit => True) (fun _ => none) (fun _ => wTr t (tr v m)) := by
  refine Ct.of (cc := cX6_leave) (nL := 2) (ret := none) rfl (by decide) ⟨rfl, rfl⟩ (Nat.le_of_ble_eq_true rfl) ?_
  intro X C E
  have C : Cx X l D cy cX6_leave 2 wsX6_leave RX6 ({ frames := 0, cells := 0, slots := 0, locals := 0 }) := C
  have mh0 : ∀ w ∈ u_ws RX6 TX6 1, w ∈ wsX6_leave := by decide +kernel
  have mh1 : Cond.fieldLink RX6 7 RX6 (TX6 0).2.1 (TX6 0).2.2.1 ∈ wsX6_leave := by decide +kernel
  show J X (wTr t v) 0 [(0, .ref t), (1, .int (nI m))] []
  refine j_aload_n C 0 dX6_leave_0 rfl rfl ?_
  refine j_bipush (v := nI 31) C dX6_leave_1 (by decide) ?_
  refine j_aload_n C 0 dX6_leave_3 rfl rfl ?_
  refine j_get C mh0 0 mh1 0 rfl rfl (by decide) rfl rfl dX6_leave_4 ?_
  refine j_imul (v := (nI 31) * v) C dX6_leave_7 rfl ?_
  refine j_iload_n C 1 dX6_leave_8 rfl rfl ?_
  refine j_iadd (v := tr v m) C dX6_leave_9 rfl ?_
  refine j_put (ws' := wTr t (tr v m)) C mh0 0 mh1 tyX6 tyX6_ok nmX6 0 rfl rfl (by decide) rfl rfl (by decide +kernel) (Nat.le_of_ble_eq_true rfl) rfl dX6_leave_10 ?_
  exact j_vret C E dX6_leave_13 () trivial rfl rfl
set_option maxHeartbeats 4000000 in
set_option maxRecDepth 20000 in
theorem c_X1_plainTelling {l : Launch} {D : va_G} {cy : Nat → ClassId} (h ci t : Nat) (v : Int32) (x : Nat)  : Ct l yX1_plainTelling wsX1_plainTelling ({ frames := 1, cells := 0, slots := 0, locals := 21 }) D cy [.ref h, .int (nI x), .ref t] (wO h ci ++ wTr t v) (fun _ : Unit => True) (fun _ => some (.int (nI x))) (fun _ => wO h ci ++ wTr t (tr v 1)) := by
  refine Ct.of (cc := cX1_plainTelling) (nL := 3) (ret := (some .int)) rfl (by decide) ⟨rfl, rfl⟩ (Nat.le_of_ble_eq_true rfl) ?_
  intro X C E
  have C : Cx X l D cy cX1_plainTelling 3 wsX1_plainTelling RX1 ({ frames := 1, cells := 0, slots := 0, locals := 21 }) := C
  show J X (wO h ci ++ wTr t v) 0 [(0, .ref h), (1, .int (nI x)), (2, .ref t)] []
  refine j_aload_n C 2 dX1_plainTelling_0 rfl rfl ?_
  refine j_iconst (v := nI 1) C dX1_plainTelling_1 (by decide) ?_
  refine j_callV (As := [.int (nI 1)]) (rest := []) C (c_X6_leave t v 1) gX1_plainTelling_X6_leave rfl 1 rfl (by decide +kernel) (by decide) (wO h ci) [] rfl 0 rfl rfl (Nat.le_of_ble_eq_true rfl) dX1_plainTelling_2 rfl (fun _ _ => ?_)
  show J X (wO h ci ++ wTr t (tr v 1)) 5 [(0, .ref h), (1, .int (nI x)), (2, .ref t)] []
  refine j_iload_n C 1 dX1_plainTelling_5 rfl rfl ?_
  exact j_iret C E dX1_plainTelling_6 () trivial rfl rfl
set_option maxHeartbeats 4000000 in
set_option maxRecDepth 20000 in
theorem c_X1_hailing {l : Launch} {D : va_G} {cy : Nat → ClassId} (h ci t : Nat) (v : Int32) (x : Nat)  : Ct l yX1_hailing wsX1_hailing ({ frames := 1, cells := 0, slots := 0, locals := 21 }) D cy [.ref h, .int (nI x), .ref t] (wO h ci ++ wTr t v) (fun _ : Unit => True) (fun _ => some (.int (nI x))) (fun _ => wO h ci ++ wTr t (tr v 4)) := by
  refine Ct.of (cc := cX1_hailing) (nL := 3) (ret := (some .int)) rfl (by decide) ⟨rfl, rfl⟩ (Nat.le_of_ble_eq_true rfl) ?_
  intro X C E
  have C : Cx X l D cy cX1_hailing 3 wsX1_hailing RX1 ({ frames := 1, cells := 0, slots := 0, locals := 21 }) := C
  show J X (wO h ci ++ wTr t v) 0 [(0, .ref h), (1, .int (nI x)), (2, .ref t)] []
  refine j_aload_n C 2 dX1_hailing_0 rfl rfl ?_
  refine j_iconst (v := nI 4) C dX1_hailing_1 (by decide) ?_
  refine j_callV (As := [.int (nI 4)]) (rest := []) C (c_X6_leave t v 4) gX1_hailing_X6_leave rfl 1 rfl (by decide +kernel) (by decide) (wO h ci) [] rfl 0 rfl rfl (Nat.le_of_ble_eq_true rfl) dX1_hailing_2 rfl (fun _ _ => ?_)
  show J X (wO h ci ++ wTr t (tr v 4)) 5 [(0, .ref h), (1, .int (nI x)), (2, .ref t)] []
  refine j_iload_n C 1 dX1_hailing_5 rfl rfl ?_
  exact j_iret C E dX1_hailing_6 () trivial rfl rfl
set_option maxHeartbeats 4000000 in
set_option maxRecDepth 20000 in
theorem c_X0_hailing {l : Launch} {D : va_G} {cy : Nat → ClassId} (h t : Nat) (v : Int32) (x : Nat)  : Ct l yX0_hailing wsX0_hailing ({ frames := 1, cells := 0, slots := 0, locals := 21 }) D cy [.ref h, .int (nI x), .ref t] (wO h 0 ++ wTr t v) (fun _ : Unit => True) (fun _ => some (.int (nI 50))) (fun _ => wO h 0 ++ wTr t (tr v 5)) := by
  refine Ct.of (cc := cX0_hailing) (nL := 3) (ret := (some .int)) rfl (by decide) ⟨rfl, rfl⟩ (Nat.le_of_ble_eq_true rfl) ?_
  intro X C E
  have C : Cx X l D cy cX0_hailing 3 wsX0_hailing RX0 ({ frames := 1, cells := 0, slots := 0, locals := 21 }) := C
  show J X (wO h 0 ++ wTr t v) 0 [(0, .ref h), (1, .int (nI x)), (2, .ref t)] []
  refine j_aload_n C 2 dX0_hailing_0 rfl rfl ?_
  refine j_iconst (v := nI 5) C dX0_hailing_1 (by decide) ?_
  refine j_callV (As := [.int (nI 5)]) (rest := []) C (c_X6_leave t v 5) gX0_hailing_X6_leave rfl 1 rfl (by decide +kernel) (by decide) (wO h 0) [] rfl 0 rfl rfl (Nat.le_of_ble_eq_true rfl) dX0_hailing_2 rfl (fun _ _ => ?_)
  show J X (wO h 0 ++ wTr t (tr v 5)) 5 [(0, .ref h), (1, .int (nI x)), (2, .ref t)] []
  refine j_bipush (v := nI 50) C dX0_hailing_5 (by decide) ?_
  exact j_iret C E dX0_hailing_7 () trivial rfl rfl
set_option maxHeartbeats 4000000 in
set_option maxRecDepth 20000 in
theorem c_X1_telling {l : Launch} {D : va_G} {cy : Nat → ClassId} (h t : Nat) (v : Int32) (x : Nat)  : Ct l yX1_telling wsX1_telling ({ frames := 2, cells := 0, slots := 0, locals := 43 }) D cy [.ref h, .int (nI x), .ref t] (wO h 1 ++ wTr t v) (fun _ : Unit => True) (fun _ => some (.int (nI x))) (fun _ => wO h 1 ++ wTr t (tr v 1)) := by
  refine Ct.of (cc := cX1_telling) (nL := 3) (ret := (some .int)) rfl (by decide) ⟨rfl, rfl⟩ (Nat.le_of_ble_eq_true rfl) ?_
  intro X C E
  have C : Cx X l D cy cX1_telling 3 wsX1_telling RX1 ({ frames := 2, cells := 0, slots := 0, locals := 43 }) := C
  show J X (wO h 1 ++ wTr t v) 0 [(0, .ref h), (1, .int (nI x)), (2, .ref t)] []
  refine j_aload_n C 0 dX1_telling_0 rfl rfl ?_
  refine j_iload_n C 1 dX1_telling_1 rfl rfl ?_
  refine j_aload_n C 2 dX1_telling_2 rfl rfl ?_
  refine j_callV (As := [.int (nI x), .ref t]) (rest := []) C (c_X1_plainTelling h 1 t v x) gX1_telling_X1_plainTelling rfl 2 rfl (by decide +kernel) (by decide) [] [] rfl 0 rfl rfl (Nat.le_of_ble_eq_true rfl) dX1_telling_3 rfl (fun _ _ => ?_)
  show J X (wO h 1 ++ wTr t (tr v 1)) 6 [(0, .ref h), (1, .int (nI x)), (2, .ref t)] [.int (nI x)]
  exact j_iret C E dX1_telling_6 () trivial rfl rfl
set_option maxHeartbeats 4000000 in
set_option maxRecDepth 20000 in
theorem c_X3_telling {l : Launch} {D : va_G} {cy : Nat → ClassId} (h t : Nat) (v : Int32) (x : Nat)  : Ct l yX3_telling wsX3_telling ({ frames := 2, cells := 0, slots := 0, locals := 43 }) D cy [.ref h, .int (nI x), .ref t] (wO h 3 ++ wTr t v) (fun _ : Unit => True) (fun _ => some (.int (nI (x + 100)))) (fun _ => wO h 3 ++ wTr t (tr (tr v 2) 1)) := by
  refine Ct.of (cc := cX3_telling) (nL := 3) (ret := (some .int)) rfl (by decide) ⟨rfl, rfl⟩ (Nat.le_of_ble_eq_true rfl) ?_
  intro X C E
  have C : Cx X l D cy cX3_telling 3 wsX3_telling RX3 ({ frames := 2, cells := 0, slots := 0, locals := 43 }) := C
  show J X (wO h 3 ++ wTr t v) 0 [(0, .ref h), (1, .int (nI x)), (2, .ref t)] []
  refine j_aload_n C 2 dX3_telling_0 rfl rfl ?_
  refine j_iconst (v := nI 2) C dX3_telling_1 (by decide) ?_
  refine j_callV (As := [.int (nI 2)]) (rest := []) C (c_X6_leave t v 2) gX3_telling_X6_leave rfl 1 rfl (by decide +kernel) (by decide) (wO h 3) [] rfl 0 rfl rfl (Nat.le_of_ble_eq_true rfl) dX3_telling_2 rfl (fun _ _ => ?_)
  show J X (wO h 3 ++ wTr t (tr v 2)) 5 [(0, .ref h), (1, .int (nI x)), (2, .ref t)] []
  refine j_aload_n C 0 dX3_telling_5 rfl rfl ?_
  refine j_iload_n C 1 dX3_telling_6 rfl rfl ?_
  refine j_aload_n C 2 dX3_telling_7 rfl rfl ?_
  refine j_callU (As := [.int (nI x), .ref t]) (rest := []) C (c_X1_plainTelling h 3 t (tr v 2) x) gX3_telling_X1_plainTelling_u13X3 rfl rfl 2 rfl (by decide +kernel) (by decide) [] [] rfl 0 rfl rfl (Nat.le_of_ble_eq_true rfl) dX3_telling_8 rfl (fun _ _ => ?_)
  show J X (wO h 3 ++ wTr t (tr (tr v 2) 1)) 11 [(0, .ref h), (1, .int (nI x)), (2, .ref t)] [.int (nI x)]
  refine j_bipush (v := nI 100) C dX3_telling_11 (by decide) ?_
  refine j_iadd (v := nI (x + 100)) C dX3_telling_13 (nI_add _ _) ?_
  exact j_iret C E dX3_telling_14 () trivial rfl rfl
set_option maxHeartbeats 4000000 in
set_option maxRecDepth 20000 in
theorem c_X3_telling_0 {l : Launch} {D : va_G} {cy : Nat → ClassId} (h t : Nat) (v : Int32) (x : Nat)  : Ct l yX3_telling wsX3_telling ({ frames := 2, cells := 0, slots := 0, locals := 43 }) D cy [.ref h, .int (nI x), .ref t] (wO h 0 ++ wTr t v) (fun _ : Unit => True) (fun _ => some (.int (nI (x + 100)))) (fun _ => wO h 0 ++ wTr t (tr (tr v 2) 1)) := by
  refine Ct.of (cc := cX3_telling) (nL := 3) (ret := (some .int)) rfl (by decide) ⟨rfl, rfl⟩ (Nat.le_of_ble_eq_true rfl) ?_
  intro X C E
  have C : Cx X l D cy cX3_telling 3 wsX3_telling RX3 ({ frames := 2, cells := 0, slots := 0, locals := 43 }) := C
  show J X (wO h 0 ++ wTr t v) 0 [(0, .ref h), (1, .int (nI x)), (2, .ref t)] []
  refine j_aload_n C 2 dX3_telling_0 rfl rfl ?_
  refine j_iconst (v := nI 2) C dX3_telling_1 (by decide) ?_
  refine j_callV (As := [.int (nI 2)]) (rest := []) C (c_X6_leave t v 2) gX3_telling_X6_leave rfl 1 rfl (by decide +kernel) (by decide) (wO h 0) [] rfl 0 rfl rfl (Nat.le_of_ble_eq_true rfl) dX3_telling_2 rfl (fun _ _ => ?_)
  show J X (wO h 0 ++ wTr t (tr v 2)) 5 [(0, .ref h), (1, .int (nI x)), (2, .ref t)] []
  refine j_aload_n C 0 dX3_telling_5 rfl rfl ?_
  refine j_iload_n C 1 dX3_telling_6 rfl rfl ?_
  refine j_aload_n C 2 dX3_telling_7 rfl rfl ?_
  refine j_callU (As := [.int (nI x), .ref t]) (rest := []) C (c_X1_plainTelling h 0 t (tr v 2) x) gX3_telling_X1_plainTelling_u13X0 rfl rfl 2 rfl (by decide +kernel) (by decide) [] [] rfl 0 rfl rfl (Nat.le_of_ble_eq_true rfl) dX3_telling_8 rfl (fun _ _ => ?_)
  show J X (wO h 0 ++ wTr t (tr (tr v 2) 1)) 11 [(0, .ref h), (1, .int (nI x)), (2, .ref t)] [.int (nI x)]
  refine j_bipush (v := nI 100) C dX3_telling_11 (by decide) ?_
  refine j_iadd (v := nI (x + 100)) C dX3_telling_13 (nI_add _ _) ?_
  exact j_iret C E dX3_telling_14 () trivial rfl rfl
set_option maxHeartbeats 4000000 in
set_option maxRecDepth 20000 in
theorem c_X0_telling {l : Launch} {D : va_G} {cy : Nat → ClassId} (h t : Nat) (v : Int32) (x : Nat)  : Ct l yX0_telling wsX0_telling ({ frames := 3, cells := 0, slots := 0, locals := 65 }) D cy [.ref h, .int (nI x), .ref t] (wO h 0 ++ wTr t v) (fun _ : Unit => True) (fun _ => some (.int (nI (x + 100 + x)))) (fun _ => wO h 0 ++ wTr t (tr (tr (tr (tr v 3) 2) 1) 1)) := by
  refine Ct.of (cc := cX0_telling) (nL := 4) (ret := (some .int)) rfl (by decide) ⟨rfl, rfl⟩ (Nat.le_of_ble_eq_true rfl) ?_
  intro X C E
  have C : Cx X l D cy cX0_telling 4 wsX0_telling RX0 ({ frames := 3, cells := 0, slots := 0, locals := 65 }) := C
  show J X (wO h 0 ++ wTr t v) 0 [(0, .ref h), (1, .int (nI x)), (2, .ref t)] []
  refine j_aload_n C 2 dX0_telling_0 rfl rfl ?_
  refine j_iconst (v := nI 3) C dX0_telling_1 (by decide) ?_
  refine j_callV (As := [.int (nI 3)]) (rest := []) C (c_X6_leave t v 3) gX0_telling_X6_leave rfl 1 rfl (by decide +kernel) (by decide) (wO h 0) [] rfl 0 rfl rfl (Nat.le_of_ble_eq_true rfl) dX0_telling_2 rfl (fun _ _ => ?_)
  show J X (wO h 0 ++ wTr t (tr v 3)) 5 [(0, .ref h), (1, .int (nI x)), (2, .ref t)] []
  refine j_aload_n C 0 dX0_telling_5 rfl rfl ?_
  refine j_iload_n C 1 dX0_telling_6 rfl rfl ?_
  refine j_aload_n C 2 dX0_telling_7 rfl rfl ?_
  refine j_callSU (As := [.int (nI x), .ref t]) (rest := []) C (c_X3_telling_0 h t (tr v 3) x) gX0_telling_X3_telling_s13 rfl 2 rfl (by decide +kernel) (by decide) [] [] rfl 0 rfl rfl (Nat.le_of_ble_eq_true rfl) dX0_telling_8 rfl (fun _ _ => ?_)
  show J X (wO h 0 ++ wTr t (tr (tr (tr v 3) 2) 1)) 11 [(0, .ref h), (1, .int (nI x)), (2, .ref t)] [.int (nI (x + 100))]
  refine j_istore_n (lv' := [(3, .int (nI (x + 100))), (0, .ref h), (1, .int (nI x)), (2, .ref t)]) C dX0_telling_11 rfl (by decide) rfl ?_
  refine j_iload_n C 0 dX0_telling_12 rfl rfl ?_
  refine j_aload_n C 1 dX0_telling_13 rfl rfl ?_
  refine j_iload_n C 2 dX0_telling_14 rfl rfl ?_
  refine j_aload_n C 3 dX0_telling_15 rfl rfl ?_
  refine j_callU (As := [.int (nI x), .ref t]) (rest := [.int (nI (x + 100))]) C (c_X1_plainTelling h 0 t (tr (tr (tr v 3) 2) 1) x) gX0_telling_X1_plainTelling_u17X0 rfl rfl 2 rfl (by decide +kernel) (by decide) [] [] rfl 0 rfl rfl (Nat.le_of_ble_eq_true rfl) dX0_telling_16 rfl (fun _ _ => ?_)
  show J X (wO h 0 ++ wTr t (tr (tr (tr (tr v 3) 2) 1) 1)) 19 [(3, .int (nI (x + 100))), (0, .ref h), (1, .int (nI x)), (2, .ref t)] [.int (nI x), .int (nI (x + 100))]
  refine j_iadd (v := nI ((x + 100) + x)) C dX0_telling_19 (nI_add _ _) ?_
  exact j_iret C E dX0_telling_20 () trivial rfl rfl
