def wO (h ci : Nat) : va_W := [(h, .inr (ci, []))]
set_option maxHeartbeats 4000000 in
set_option maxRecDepth 20000 in
theorem c_X1_weigh {l : Launch} {D : va_G} {cy : Nat → ClassId} (h x : Nat) (hx : x ≤ 9) : Ct l yX1_weigh wsX1_weigh ({ frames := 0, cells := 0, slots := 0, locals := 0 }) D cy [.ref h, .int (nI x)] (wO h 1) (fun _ : Unit => True) (fun _ => some (.int (nI (wt 0 x)))) (fun _ => wO h 1) := by
  refine Ct.of (cc := cX1_weigh) (nL := 2) (ret := (some .int)) rfl (by decide) ⟨rfl, rfl⟩ (Nat.le_of_ble_eq_true rfl) ?_
  intro X C E
  have C : Cx X l D cy cX1_weigh 2 wsX1_weigh RX1 ({ frames := 0, cells := 0, slots := 0, locals := 0 }) := C
  show J X (wO h 1) 0 [(0, .ref h), (1, .int (nI x))] []
  refine j_iload_n C 1 dX1_weigh_0 rfl rfl ?_
  exact j_iret C E dX1_weigh_1 () trivial (by simp [wt]) rfl
set_option maxHeartbeats 4000000 in
set_option maxRecDepth 20000 in
theorem c_X3_weigh {l : Launch} {D : va_G} {cy : Nat → ClassId} (h x : Nat) (hx : x ≤ 9) : Ct l yX3_weigh wsX3_weigh ({ frames := 0, cells := 0, slots := 0, locals := 0 }) D cy [.ref h, .int (nI x)] (wO h 3) (fun _ : Unit => True) (fun _ => some (.int (nI (wt 1 x)))) (fun _ => wO h 3) := by
  refine Ct.of (cc := cX3_weigh) (nL := 2) (ret := (some .int)) rfl (by decide) ⟨rfl, rfl⟩ (Nat.le_of_ble_eq_true rfl) ?_
  intro X C E
  have C : Cx X l D cy cX3_weigh 2 wsX3_weigh RX3 ({ frames := 0, cells := 0, slots := 0, locals := 0 }) := C
  show J X (wO h 3) 0 [(0, .ref h), (1, .int (nI x))] []
  refine j_iload_n C 1 dX3_weigh_0 rfl rfl ?_
  refine j_if_leN (tgt := 10) C dX3_weigh_1 (by decide) (by omega) (fun c1 => ?_) (fun c1 => ?_)
  · refine j_iconst (v := nI 0) C dX3_weigh_10 (by decide) ?_
    exact j_iret C E dX3_weigh_11 () trivial (by simp [wt]; split <;> congr 1 <;> omega) rfl
  · refine j_iload_n C 1 dX3_weigh_4 rfl rfl ?_
    refine j_iconst (v := nI 1) C dX3_weigh_5 (by decide) ?_
    refine j_iadd (v := nI (x + 1)) C dX3_weigh_6 (nI_add _ _) ?_
    refine j_goto (tgt := 11) C dX3_weigh_7 (by decide) ?_
    exact j_iret C E dX3_weigh_11 () trivial (by simp [wt]; split <;> congr 1 <;> omega) rfl
set_option maxHeartbeats 4000000 in
set_option maxRecDepth 20000 in
theorem c_X0_weigh {l : Launch} {D : va_G} {cy : Nat → ClassId} (h x : Nat) (hx : x ≤ 9) : Ct l yX0_weigh wsX0_weigh ({ frames := 0, cells := 0, slots := 0, locals := 0 }) D cy [.ref h, .int (nI x)] (wO h 0) (fun _ : Unit => True) (fun _ => some (.int (nI (wt 2 x)))) (fun _ => wO h 0) := by
  refine Ct.of (cc := cX0_weigh) (nL := 2) (ret := (some .int)) rfl (by decide) ⟨rfl, rfl⟩ (Nat.le_of_ble_eq_true rfl) ?_
  intro X C E
  have C : Cx X l D cy cX0_weigh 2 wsX0_weigh RX0 ({ frames := 0, cells := 0, slots := 0, locals := 0 }) := C
  show J X (wO h 0) 0 [(0, .ref h), (1, .int (nI x))] []
  refine j_iconst (v := nI 2) C dX0_weigh_0 (by decide) ?_
  refine j_iload_n C 1 dX0_weigh_1 rfl rfl ?_
  refine j_imul (v := nI (2 * x)) C dX0_weigh_2 (pk_mul _ _) ?_
  exact j_iret C E dX0_weigh_3 () trivial (by simp [wt]) rfl
set_option maxHeartbeats 4000000 in
set_option maxRecDepth 20000 in
theorem c_X5_weightOf {l : Launch} {D : va_G} {cy : Nat → ClassId} (a : Nat → Nat) (N B : Nat) (kf : Nat → Int32) (pf : Nat → Nat → Int32) (lf tf : Nat → Int32) (k : Nat → Nat) (p : Nat → Nat → Nat) (hT : Ag N k p kf pf) (i j : Nat) (hi : i < N) (hj : j < N) : Ct l yX5_weightOf wsX5_weightOf ({ frames := 1, cells := 0, slots := 0, locals := 21 }) D cy [.ref (a 0), .int (nI i), .int (nI j)] (wT a cy (nI N) (nI B) kf pf lf tf) (fun _ : Unit => True) (fun _ => some (.int (nI (wt (k i) (p i j))))) (fun _ => wT a cy (nI N) (nI B) kf pf lf tf) := by
  refine Ct.of (cc := cX5_weightOf) (nL := 3) (ret := (some .int)) rfl (by decide) ⟨rfl, rfl⟩ (Nat.le_of_ble_eq_true rfl) ?_
  intro X C E
  have C : Cx X l D cy cX5_weightOf 3 wsX5_weightOf RX5 ({ frames := 1, cells := 0, slots := 0, locals := 21 }) := C
  have mh0 : ∀ w ∈ u_ws RX5 TX5 7, w ∈ wsX5_weightOf := by decide +kernel
  have mh1 : Cond.fieldLink RX5 18 RX5 (TX5 0).2.1 (TX5 0).2.2.1 ∈ wsX5_weightOf := by decide +kernel
  have mh2 : Cond.fieldLink RX5 24 RX5 (TX5 1).2.1 (TX5 1).2.2.1 ∈ wsX5_weightOf := by decide +kernel
  have mh3 : Cond.fieldLink RX5 30 RX5 (TX5 2).2.1 (TX5 2).2.2.1 ∈ wsX5_weightOf := by decide +kernel
  have mh4 : Cond.code ⟨"DebtLamps$Person", "weigh", "(I)I"⟩ cX1_weigh 2 (some .int) ∈ wsX5_weightOf := by decide +kernel
  have hN := hT.n
  show J X (wT a cy (nI N) (nI B) kf pf lf tf) 0 [(0, .ref (a 0)), (1, .int (nI i)), (2, .int (nI j))] []
  refine j_aload_n C 0 dX5_weightOf_0 rfl rfl ?_
  refine j_get C mh0 0 mh1 0 rfl rfl (by decide) rfl rfl dX5_weightOf_1 ?_
  refine j_aload_n C 0 dX5_weightOf_4 rfl rfl ?_
  refine j_get C mh0 1 mh2 0 rfl rfl (by decide) rfl rfl dX5_weightOf_5 ?_
  refine j_iload_n C 1 dX5_weightOf_8 rfl rfl ?_
  have := hT.k2 (a := i) (by omega)
  refine j_iald (v := nI (k i)) C 2 rfl (by omega) (by decide) (hT.kk (by omega)) dX5_weightOf_9 ?_
  refine j_aald (t0 := 2) (Cn := "DebtLamps$Person") (b := a (6 + (k i))) C 1 rfl rfl (by omega) (by decide) (if_pos (by omega)) dX5_weightOf_10 ?_
  refine j_aload_n C 0 dX5_weightOf_11 rfl rfl ?_
  refine j_get C mh0 2 mh3 0 rfl rfl (by decide) rfl rfl dX5_weightOf_12 ?_
  refine j_iload_n C 1 dX5_weightOf_15 rfl rfl ?_
  refine j_gald (b := a (9 + i)) C 3 rfl (by omega) (by decide) (wT_out (by omega)) dX5_weightOf_16 ?_
  refine j_iload_n C 2 dX5_weightOf_17 rfl rfl ?_
  have := hT.p9 (a := i) (b := j) (by omega) (by omega)
  refine j_iald (v := nI (p i j)) C (9 + i) (wT_row (by omega)) (by omega) (by decide) (hT.pp (by omega) (by omega)) dX5_weightOf_18 ?_
  have hk3 : k i = 0 ∨ k i = 1 ∨ k i = 2 := by omega
  rcases hk3 with e | e | e
  · rw [e]
    refine j_callV (As := [.int (nI (p i j))]) (rest := []) C (c_X1_weigh (a 6) (p i j) (by omega)) gX5_weightOf_X1_weigh rfl 1 rfl (by decide +kernel) (by decide) (List.take 6 (wT a cy (nI N) (nI B) kf pf lf tf)) (List.drop 7 (wT a cy (nI N) (nI B) kf pf lf tf)) rfl 0 rfl rfl (Nat.le_of_ble_eq_true rfl) dX5_weightOf_19 rfl (fun _ _ => ?_)
    show J X (wT a cy (nI N) (nI B) kf pf lf tf) 22 [(0, .ref (a 0)), (1, .int (nI i)), (2, .int (nI j))] [.int (nI (wt 0 (p i j)))]
    exact j_iret C E dX5_weightOf_22 () trivial (by rw [e]) rfl
  · rw [e]
    refine j_callO (b0 := cX1_weigh) (m0 := 2) (r0 := some .int) (As := [.int (nI (p i j))]) (rest := []) C (c_X3_weigh (a 7) (p i j) (by omega)) gX5_weightOf_X3_weigh_u75X3 rfl mh4 1 rfl (by decide +kernel) (by decide) (List.take 7 (wT a cy (nI N) (nI B) kf pf lf tf)) (List.drop 8 (wT a cy (nI N) (nI B) kf pf lf tf)) rfl 0 rfl rfl (Nat.le_of_ble_eq_true rfl) dX5_weightOf_19 rfl (fun _ _ => ?_)
    show J X (wT a cy (nI N) (nI B) kf pf lf tf) 22 [(0, .ref (a 0)), (1, .int (nI i)), (2, .int (nI j))] [.int (nI (wt 1 (p i j)))]
    exact j_iret C E dX5_weightOf_22 () trivial (by rw [e]) rfl
  · rw [e]
    refine j_callO (b0 := cX1_weigh) (m0 := 2) (r0 := some .int) (As := [.int (nI (p i j))]) (rest := []) C (c_X0_weigh (a 8) (p i j) (by omega)) gX5_weightOf_X0_weigh_u75X0 rfl mh4 1 rfl (by decide +kernel) (by decide) (List.take 8 (wT a cy (nI N) (nI B) kf pf lf tf)) (List.drop 9 (wT a cy (nI N) (nI B) kf pf lf tf)) rfl 0 rfl rfl (Nat.le_of_ble_eq_true rfl) dX5_weightOf_19 rfl (fun _ _ => ?_)
    show J X (wT a cy (nI N) (nI B) kf pf lf tf) 22 [(0, .ref (a 0)), (1, .int (nI i)), (2, .int (nI j))] [.int (nI (wt 2 (p i j)))]
    exact j_iret C E dX5_weightOf_22 () trivial (by rw [e]) rfl
