theorem ha_int (m : Nat) (cA : ClassId) : vp_cell cA (m, .inl (fun _ => 0)) = arrV cA m (fun _ => defaultValue .int) := rfl
theorem ha_boolean (m : Nat) (cA : ClassId) : vp_cell cA (m, .inl (fun _ => 0)) = arrV cA m (fun _ => defaultValue .boolean) := rfl
set_option maxHeartbeats 4000000 in
set_option maxRecDepth 20000 in
theorem c_X1_init {l : Launch} {D : va_G} {cy : Nat → ClassId} (h ci : Nat)  : CtN l yX1_init wsX1_init ({ frames := 1, cells := 0, slots := 0, locals := 12 }) D cy [.ref h] ([(h, .inr (ci, []))]) (fun _ : Unit => True) (fun _ => [(h, .inr (ci, []))]) := by
  refine CtN.of (cc := cX1_init) (nL := 1) rfl (by decide) (Nat.le_of_ble_eq_true rfl) ?_
  intro X C hin0 hO E
  have C : Cx X l D cy cX1_init 1 wsX1_init RX1 ({ frames := 1, cells := 0, slots := 0, locals := 12 }) := C
  have mh0 : Cond.methodLink RX1 1 objectInit ∈ wsX1_init := by decide +kernel
  have mh1 : Cond.instanceMethod objectInit ∈ wsX1_init := by decide +kernel
  have mh2 : Cond.code objectInit ⟨#[0xb1]⟩ 1 none ∈ wsX1_init := List.mem_cons_of_mem _ (by first | exact List.mem_of_getElem? (i := 2) rfl | exact List.mem_append_left _ (List.mem_of_getElem? (i := 2) rfl) | exact List.mem_of_getElem? (i := 5) rfl)
  have Ck := Cx.w (k := 0) (n := 0) C (by decide) (by decide)
  show J (xw X 0 0) ([(h, .inr (ci, []))]) 0 [(0, .ref h)] []
  refine j_aload_n Ck 0 dX1_init_0 rfl rfl ?_
  refine j_objInit C mh0 mh1 mh2 ⟨by decide, by decide⟩ dX1_init_1 ?_
  show J (xw X 0 0) ([(h, .inr (ci, []))]) 4 [(0, .ref h)] []
  exact j_vret Ck E dX1_init_4 () trivial rfl rfl
set_option maxHeartbeats 4000000 in
set_option maxRecDepth 20000 in
theorem c_X3_init {l : Launch} {D : va_G} {cy : Nat → ClassId} (h ci : Nat)  : CtN l yX3_init wsX3_init ({ frames := 2, cells := 0, slots := 0, locals := 32 }) D cy [.ref h] ([(h, .inr (ci, []))]) (fun _ : Unit => True) (fun _ => [(h, .inr (ci, []))]) := by
  refine CtN.of (cc := cX3_init) (nL := 1) rfl (by decide) (Nat.le_of_ble_eq_true rfl) ?_
  intro X C hin0 hO E
  have C : Cx X l D cy cX3_init 1 wsX3_init RX3 ({ frames := 2, cells := 0, slots := 0, locals := 32 }) := C
  have mh0 : (RX3, 1, yX1_init) ∈ nmL := by decide +kernel
  have mh1 : Cond.initialized yX1_init.cls ∈ wsX3_init := by decide +kernel
  have mh2 : Cond.instanceMethod yX1_init ∈ wsX3_init := by decide +kernel
  have Ck := Cx.w (k := 0) (n := 0) C (by decide) (by decide)
  show J (xw X 0 0) ([(h, .inr (ci, []))]) 0 [(0, .ref h)] []
  refine j_aload_n Ck 0 dX3_init_0 rfl rfl ?_
  refine j_callIN (rest := []) (k' := 0) (n' := 0) C hO (c_X1_init (h) ci) gX3_init_X1_init_n1 rfl mh0 mh1 mh2 (by decide +kernel) rfl rfl ⟨⟨by decide, by decide⟩, by decide, by decide⟩ (([] : va_W)) (([] : va_W)) rfl (Nat.le_of_ble_eq_true rfl) dX3_init_1 rfl (fun u1 hu1 => ?_)
  have Ck := Cx.w (k := 0) (n := 0) C (by decide) (by decide)
  show J (xw X 0 0) ([(h, .inr (ci, []))]) 4 [(0, .ref h)] []
  exact j_vret Ck E dX3_init_4 () trivial rfl rfl
set_option maxHeartbeats 4000000 in
set_option maxRecDepth 20000 in
theorem c_X0_init {l : Launch} {D : va_G} {cy : Nat → ClassId} (h ci : Nat)  : CtN l yX0_init wsX0_init ({ frames := 3, cells := 0, slots := 0, locals := 52 }) D cy [.ref h] ([(h, .inr (ci, []))]) (fun _ : Unit => True) (fun _ => [(h, .inr (ci, []))]) := by
  refine CtN.of (cc := cX0_init) (nL := 1) rfl (by decide) (Nat.le_of_ble_eq_true rfl) ?_
  intro X C hin0 hO E
  have C : Cx X l D cy cX0_init 1 wsX0_init RX0 ({ frames := 3, cells := 0, slots := 0, locals := 52 }) := C
  have mh0 : (RX0, 1, yX3_init) ∈ nmL := by decide +kernel
  have mh1 : Cond.initialized yX3_init.cls ∈ wsX0_init := by decide +kernel
  have mh2 : Cond.instanceMethod yX3_init ∈ wsX0_init := by decide +kernel
  have Ck := Cx.w (k := 0) (n := 0) C (by decide) (by decide)
  show J (xw X 0 0) ([(h, .inr (ci, []))]) 0 [(0, .ref h)] []
  refine j_aload_n Ck 0 dX0_init_0 rfl rfl ?_
  refine j_callIN (rest := []) (k' := 0) (n' := 0) C hO (c_X3_init (h) ci) gX0_init_X3_init_n1 rfl mh0 mh1 mh2 (by decide +kernel) rfl rfl ⟨⟨by decide, by decide⟩, by decide, by decide⟩ (([] : va_W)) (([] : va_W)) rfl (Nat.le_of_ble_eq_true rfl) dX0_init_1 rfl (fun u1 hu1 => ?_)
  have Ck := Cx.w (k := 0) (n := 0) C (by decide) (by decide)
  show J (xw X 0 0) ([(h, .inr (ci, []))]) 4 [(0, .ref h)] []
  exact j_vret Ck E dX0_init_4 () trivial rfl rfl
set_option maxHeartbeats 4000000 in
set_option maxRecDepth 20000 in
theorem c_X6_init {l : Launch} {D : va_G} {cy : Nat → ClassId} (h : Nat)  : CtN l yX6_init wsX6_init ({ frames := 1, cells := 0, slots := 0, locals := 12 }) D cy [.ref h] ([(h, .inr (6, [.int 0]))]) (fun _ : Unit => True) (fun _ => wTr h 0) := by
  refine CtN.of (cc := cX6_init) (nL := 1) rfl (by decide) (Nat.le_of_ble_eq_true rfl) ?_
  intro X C hin0 hO E
  have C : Cx X l D cy cX6_init 1 wsX6_init RX6 ({ frames := 1, cells := 0, slots := 0, locals := 12 }) := C
  have mh0 : Cond.methodLink RX6 1 objectInit ∈ wsX6_init := by decide +kernel
  have mh1 : Cond.instanceMethod objectInit ∈ wsX6_init := by decide +kernel
  have mh2 : Cond.code objectInit ⟨#[0xb1]⟩ 1 none ∈ wsX6_init := List.mem_cons_of_mem _ (by first | exact List.mem_of_getElem? (i := 2) rfl | exact List.mem_append_left _ (List.mem_of_getElem? (i := 2) rfl) | exact List.mem_of_getElem? (i := 5) rfl)
  have Ck := Cx.w (k := 0) (n := 0) C (by decide) (by decide)
  show J (xw X 0 0) ([(h, .inr (6, [.int 0]))]) 0 [(0, .ref h)] []
  refine j_aload_n Ck 0 dX6_init_0 rfl rfl ?_
  refine j_objInit C mh0 mh1 mh2 ⟨by decide, by decide⟩ dX6_init_1 ?_
  show J (xw X 0 0) ([(h, .inr (6, [.int 0]))]) 4 [(0, .ref h)] []
  exact j_vret Ck E dX6_init_4 () trivial rfl rfl
set_option maxHeartbeats 4000000 in
set_option maxRecDepth 20000 in
theorem c_X2_init {l : Launch} {D : va_G} {cy : Nat → ClassId} (h : Nat)  : CtN l yX2_init wsX2_init ({ frames := 1, cells := 3, slots := 24, locals := 12 }) D cy [.ref h] ([(h, .inr (2, [.null, .null, .null, .int 0]))]) (fun _ : Nat × Nat × Nat => True) (fun u => wR h u.1 u.2.1 u.2.2 cy 0 (fun _ => 0) (fun _ => 0) (fun _ => 0)) := by
  refine CtN.of (cc := cX2_init) (nL := 1) rfl (by decide) (Nat.le_of_ble_eq_true rfl) ?_
  intro X C hin0 hO E
  have C : Cx X l D cy cX2_init 1 wsX2_init RX2 ({ frames := 1, cells := 3, slots := 24, locals := 12 }) := C
  have mh0 : Cond.methodLink RX2 3 objectInit ∈ wsX2_init := by decide +kernel
  have mh1 : Cond.instanceMethod objectInit ∈ wsX2_init := by decide +kernel
  have mh2 : Cond.code objectInit ⟨#[0xb1]⟩ 1 none ∈ wsX2_init := List.mem_cons_of_mem _ (by first | exact List.mem_of_getElem? (i := 2) rfl | exact List.mem_append_left _ (List.mem_of_getElem? (i := 2) rfl) | exact List.mem_of_getElem? (i := 5) rfl)
  have mh3 : Cond.arrayClass .int ∈ wsX2_init := by decide +kernel
  have mh4 : ∀ w ∈ u_ws RX2 TX2 4, w ∈ wsX2_init := by decide +kernel
  have mh5 : Cond.fieldLink RX2 9 RX2 (TX2 0).2.1 (TX2 0).2.2.1 ∈ wsX2_init := by decide +kernel
  have mh6 : Cond.fieldLink RX2 15 RX2 (TX2 1).2.1 (TX2 1).2.2.1 ∈ wsX2_init := by decide +kernel
  have mh7 : Cond.fieldLink RX2 18 RX2 (TX2 2).2.1 (TX2 2).2.2.1 ∈ wsX2_init := by decide +kernel
  have Ck := Cx.w (k := 0) (n := 0) C (by decide) (by decide)
  show J (xw X 0 0) ([(h, .inr (2, [.null, .null, .null, .int 0]))]) 0 [(0, .ref h)] []
  refine j_aload_n Ck 0 dX2_init_0 rfl rfl ?_
  refine j_objInit C mh0 mh1 mh2 ⟨by decide, by decide⟩ dX2_init_1 ?_
  show J (xw X 0 0) ([(h, .inr (2, [.null, .null, .null, .int 0]))]) 4 [(0, .ref h)] []
  refine j_aload_n Ck 0 dX2_init_4 rfl rfl ?_
  refine j_bipush (v := nI 8) Ck dX2_init_5 (by decide) ?_
  refine j_newA (atype := .int) (ty := .int) (t := 0) (m := 8) (k' := 1) (n' := 8) C mh3 rfl rfl (ha_int 8) (by decide) (by decide) rfl rfl (by decide) (by decide) dX2_init_7 (fun q1 => ?_)
  have Ck := Cx.w (k := 1) (n := 8) C (by decide) (by decide)
  show J (xw X 1 8) ([(h, .inr (2, [.null, .null, .null, .int 0])), (q1, .inl (cy 0, 8, .inl (fun _ => 0)))]) 9 [(0, .ref h)] [.ref q1, .ref h]
  refine j_putF (ty := tyX2 0) (ws' := [(h, .inr (2, [.ref q1, .null, .null, .int 0])), (q1, .inl (cy 0, 8, .inl (fun _ => 0)))]) C hin0 mh4 0 mh5 tyX2 tyX2_ok nmX2 0 rfl rfl (by decide) (by decide +kernel) rfl (tyX2_ok 0 (by decide)) rfl rfl (Nat.le_of_ble_eq_true rfl) rfl dX2_init_9 ?_
  refine j_aload_n Ck 0 dX2_init_12 rfl rfl ?_
  refine j_bipush (v := nI 8) Ck dX2_init_13 (by decide) ?_
  refine j_newA (atype := .int) (ty := .int) (t := 0) (m := 8) (k' := 2) (n' := 16) C mh3 rfl rfl (ha_int 8) (by decide) (by decide) rfl rfl (by decide) (by decide) dX2_init_15 (fun q2 => ?_)
  have Ck := Cx.w (k := 2) (n := 16) C (by decide) (by decide)
  show J (xw X 2 16) ([(h, .inr (2, [.ref q1, .null, .null, .int 0])), (q1, .inl (cy 0, 8, .inl (fun _ => 0))), (q2, .inl (cy 0, 8, .inl (fun _ => 0)))]) 17 [(0, .ref h)] [.ref q2, .ref h]
  refine j_putF (ty := tyX2 1) (ws' := [(h, .inr (2, [.ref q1, .ref q2, .null, .int 0])), (q1, .inl (cy 0, 8, .inl (fun _ => 0))), (q2, .inl (cy 0, 8, .inl (fun _ => 0)))]) C hin0 mh4 1 mh6 tyX2 tyX2_ok nmX2 0 rfl rfl (by decide) (by decide +kernel) rfl (tyX2_ok 1 (by decide)) rfl rfl (Nat.le_of_ble_eq_true rfl) rfl dX2_init_17 ?_
  refine j_aload_n Ck 0 dX2_init_20 rfl rfl ?_
  refine j_bipush (v := nI 8) Ck dX2_init_21 (by decide) ?_
  refine j_newA (atype := .int) (ty := .int) (t := 0) (m := 8) (k' := 3) (n' := 24) C mh3 rfl rfl (ha_int 8) (by decide) (by decide) rfl rfl (by decide) (by decide) dX2_init_23 (fun q3 => ?_)
  have Ck := Cx.w (k := 3) (n := 24) C (by decide) (by decide)
  show J (xw X 3 24) ([(h, .inr (2, [.ref q1, .ref q2, .null, .int 0])), (q1, .inl (cy 0, 8, .inl (fun _ => 0))), (q2, .inl (cy 0, 8, .inl (fun _ => 0))), (q3, .inl (cy 0, 8, .inl (fun _ => 0)))]) 25 [(0, .ref h)] [.ref q3, .ref h]
  refine j_putF (ty := tyX2 2) (ws' := [(h, .inr (2, [.ref q1, .ref q2, .ref q3, .int 0])), (q1, .inl (cy 0, 8, .inl (fun _ => 0))), (q2, .inl (cy 0, 8, .inl (fun _ => 0))), (q3, .inl (cy 0, 8, .inl (fun _ => 0)))]) C hin0 mh4 2 mh7 tyX2 tyX2_ok nmX2 0 rfl rfl (by decide) (by decide +kernel) rfl (tyX2_ok 2 (by decide)) rfl rfl (Nat.le_of_ble_eq_true rfl) rfl dX2_init_25 ?_
  exact j_vret Ck E dX2_init_28 (q1, q2, q3) trivial rfl rfl
set_option maxHeartbeats 4000000 in
set_option maxRecDepth 20000 in
theorem c_X4_init {l : Launch} {D : va_G} {cy : Nat → ClassId} (h : Nat)  : CtN l yX4_init wsX4_init ({ frames := 1, cells := 1, slots := 60, locals := 12 }) D cy [.ref h] ([(h, .inr (4, [.null, .int 0, .int 0]))]) (fun _ : Nat => True) (fun u => wS h u cy (-1) 0 (fun _ => 0)) := by
  refine CtN.of (cc := cX4_init) (nL := 1) rfl (by decide) (Nat.le_of_ble_eq_true rfl) ?_
  intro X C hin0 hO E
  have C : Cx X l D cy cX4_init 1 wsX4_init RX4 ({ frames := 1, cells := 1, slots := 60, locals := 12 }) := C
  have mh0 : Cond.methodLink RX4 3 objectInit ∈ wsX4_init := by decide +kernel
  have mh1 : Cond.instanceMethod objectInit ∈ wsX4_init := by decide +kernel
  have mh2 : Cond.code objectInit ⟨#[0xb1]⟩ 1 none ∈ wsX4_init := List.mem_cons_of_mem _ (by first | exact List.mem_of_getElem? (i := 2) rfl | exact List.mem_append_left _ (List.mem_of_getElem? (i := 2) rfl) | exact List.mem_of_getElem? (i := 5) rfl)
  have mh3 : Cond.arrayClass .int ∈ wsX4_init := by decide +kernel
  have mh4 : ∀ w ∈ u_ws RX4 TX4 3, w ∈ wsX4_init := by decide +kernel
  have mh5 : Cond.fieldLink RX4 9 RX4 (TX4 0).2.1 (TX4 0).2.2.1 ∈ wsX4_init := by decide +kernel
  have mh6 : Cond.fieldLink RX4 15 RX4 (TX4 1).2.1 (TX4 1).2.2.1 ∈ wsX4_init := by decide +kernel
  have Ck := Cx.w (k := 0) (n := 0) C (by decide) (by decide)
  show J (xw X 0 0) ([(h, .inr (4, [.null, .int 0, .int 0]))]) 0 [(0, .ref h)] []
  refine j_aload_n Ck 0 dX4_init_0 rfl rfl ?_
  refine j_objInit C mh0 mh1 mh2 ⟨by decide, by decide⟩ dX4_init_1 ?_
  show J (xw X 0 0) ([(h, .inr (4, [.null, .int 0, .int 0]))]) 4 [(0, .ref h)] []
  refine j_aload_n Ck 0 dX4_init_4 rfl rfl ?_
  refine j_bipush (v := nI 60) Ck dX4_init_5 (by decide) ?_
  refine j_newA (atype := .int) (ty := .int) (t := 0) (m := 60) (k' := 1) (n' := 60) C mh3 rfl rfl (ha_int 60) (by decide) (by decide) rfl rfl (by decide) (by decide) dX4_init_7 (fun q1 => ?_)
  have Ck := Cx.w (k := 1) (n := 60) C (by decide) (by decide)
  show J (xw X 1 60) ([(h, .inr (4, [.null, .int 0, .int 0])), (q1, .inl (cy 0, 60, .inl (fun _ => 0)))]) 9 [(0, .ref h)] [.ref q1, .ref h]
  refine j_putF (ty := tyX4 0) (ws' := [(h, .inr (4, [.ref q1, .int 0, .int 0])), (q1, .inl (cy 0, 60, .inl (fun _ => 0)))]) C hin0 mh4 0 mh5 tyX4 tyX4_ok nmX4 0 rfl rfl (by decide) (by decide +kernel) rfl (tyX4_ok 0 (by decide)) rfl rfl (Nat.le_of_ble_eq_true rfl) rfl dX4_init_9 ?_
  refine j_aload_n Ck 0 dX4_init_12 rfl rfl ?_
  refine j_iconst (v := (-1)) Ck dX4_init_13 (by decide) ?_
  refine j_put (ws' := [(h, .inr (4, [.ref q1, .int ((-1)), .int 0])), (q1, .inl (cy 0, 60, .inl (fun _ => 0)))]) Ck mh4 1 mh6 tyX4 tyX4_ok nmX4 0 rfl rfl (by decide) rfl rfl (by decide +kernel) (Nat.le_of_ble_eq_true rfl) rfl dX4_init_14 ?_
  exact j_vret Ck E dX4_init_17 q1 trivial rfl rfl
set_option maxHeartbeats 4000000 in
set_option maxRecDepth 20000 in
theorem c_X5_init {l : Launch} {D : va_G} {cy : Nat → ClassId} (h : Nat)  : CtN l yX5_init wsX5_init ({ frames := 4, cells := 14, slots := 63, locals := 72 }) D cy [.ref h] ([(h, .inr (5, [.null, .null, .null, .null, .null, .int 0, .int 0]))]) (fun u : Nat → Nat => u 0 = h) (fun u => wT u cy 0 0 (fun _ => 0) (fun _ _ => 0) (fun _ => 0) (fun _ => 0)) := by
  refine CtN.of (cc := cX5_init) (nL := 1) rfl (by decide) (Nat.le_of_ble_eq_true rfl) ?_
  intro X C hin0 hO E
  have C : Cx X l D cy cX5_init 1 wsX5_init RX5 ({ frames := 4, cells := 14, slots := 63, locals := 72 }) := C
  have mh0 : Cond.methodLink RX5 3 objectInit ∈ wsX5_init := by decide +kernel
  have mh1 : Cond.instanceMethod objectInit ∈ wsX5_init := by decide +kernel
  have mh2 : Cond.code objectInit ⟨#[0xb1]⟩ 1 none ∈ wsX5_init := List.mem_cons_of_mem _ (by first | exact List.mem_of_getElem? (i := 2) rfl | exact List.mem_append_left _ (List.mem_of_getElem? (i := 2) rfl) | exact List.mem_of_getElem? (i := 5) rfl)
  have mh3 : Cond.classLink RX5 9 RX1 ∈ wsX5_init := by decide +kernel
  have mh4 : ∀ w ∈ u_ws RX1 TX1 0, w ∈ wsX5_init := by decide +kernel
  have mh5 : Cond.instantiable RX1 0 ∈ wsX5_init := by decide +kernel
  have mh6 : Cond.initialized RX1 ∈ wsX5_init := by decide +kernel
  have mh7 : (RX5, 11, yX1_init) ∈ nmL := by decide +kernel
  have mh8 : Cond.initialized yX1_init.cls ∈ wsX5_init := by decide +kernel
  have mh9 : Cond.instanceMethod yX1_init ∈ wsX5_init := by decide +kernel
  have mh10 : ∀ w ∈ u_ws RX3 TX3 0, w ∈ wsX5_init := by decide +kernel
  have mh11 : Cond.classLink RX5 12 RX3 ∈ wsX5_init := by decide +kernel
  have mh12 : Cond.instantiable RX3 0 ∈ wsX5_init := by decide +kernel
  have mh13 : Cond.initialized RX3 ∈ wsX5_init := by decide +kernel
  have mh14 : (RX5, 14, yX3_init) ∈ nmL := by decide +kernel
  have mh15 : Cond.initialized yX3_init.cls ∈ wsX5_init := by decide +kernel
  have mh16 : Cond.instanceMethod yX3_init ∈ wsX5_init := by decide +kernel
  have mh17 : ∀ w ∈ u_ws RX0 TX0 0, w ∈ wsX5_init := by decide +kernel
  have mh18 : Cond.classLink RX5 15 RX0 ∈ wsX5_init := by decide +kernel
  have mh19 : Cond.instantiable RX0 0 ∈ wsX5_init := by decide +kernel
  have mh20 : Cond.initialized RX0 ∈ wsX5_init := by decide +kernel
  have mh21 : (RX5, 17, yX0_init) ∈ nmL := by decide +kernel
  have mh22 : Cond.initialized yX0_init.cls ∈ wsX5_init := by decide +kernel
  have mh23 : Cond.instanceMethod yX0_init ∈ wsX5_init := by decide +kernel
  have mh24 : ∀ w ∈ u_ws RX5 TX5 7, w ∈ wsX5_init := by decide +kernel
  have mh25 : Cond.fieldLink RX5 18 RX5 (TX5 0).2.1 (TX5 0).2.2.1 ∈ wsX5_init := by decide +kernel
  have mh26 : Cond.arrayClass .int ∈ wsX5_init := by decide +kernel
  have mh27 : Cond.fieldLink RX5 24 RX5 (TX5 1).2.1 (TX5 1).2.2.1 ∈ wsX5_init := by decide +kernel
  have mh28 : Cond.classLink RX5 28 "[[I" ∈ wsX5_init := by decide +kernel
  have mh29 : Cond.fieldLink RX5 30 RX5 (TX5 2).2.1 (TX5 2).2.2.1 ∈ wsX5_init := by decide +kernel
  have mh30 : Cond.fieldLink RX5 33 RX5 (TX5 3).2.1 (TX5 3).2.2.1 ∈ wsX5_init := by decide +kernel
  have mh31 : Cond.arrayClass .boolean ∈ wsX5_init := by decide +kernel
  have mh32 : Cond.fieldLink RX5 36 RX5 (TX5 4).2.1 (TX5 4).2.2.1 ∈ wsX5_init := by decide +kernel
  have Ck := Cx.w (k := 0) (n := 0) C (by decide) (by decide)
  show J (xw X 0 0) ([(h, .inr (5, [.null, .null, .null, .null, .null, .int 0, .int 0]))]) 0 [(0, .ref h)] []
  refine j_aload_n Ck 0 dX5_init_0 rfl rfl ?_
  refine j_objInit C mh0 mh1 mh2 ⟨by decide, by decide⟩ dX5_init_1 ?_
  show J (xw X 0 0) ([(h, .inr (5, [.null, .null, .null, .null, .null, .int 0, .int 0]))]) 4 [(0, .ref h)] []
  refine j_aload_n Ck 0 dX5_init_4 rfl rfl ?_
  refine j_iconst (v := nI 3) Ck dX5_init_5 (by decide) ?_
  refine j_newQ (t := 2) (m := 3) (Cn := RX1) (k' := 1) (n' := 3) C hO.1.1 mh3 rfl (by decide) rfl rfl (by decide) (by decide) dX5_init_6 (fun q1 => ?_)
  have Ck := Cx.w (k := 1) (n := 3) C (by decide) (by decide)
  show J (xw X 1 3) ([(h, .inr (5, [.null, .null, .null, .null, .null, .int 0, .int 0])), (q1, .inl (cy 2, 3, rr (fun _ => none)))]) 9 [(0, .ref h)] [.ref q1, .ref h]
  refine j_dup Ck dX5_init_9 rfl ?_
  refine j_iconst (v := nI 0) Ck dX5_init_10 (by decide) ?_
  refine j_new (ci := 1) (fs := []) (k' := 2) (n' := 3) C mh4 tyX1 tyX1_ok mh3 mh5 mh6 rfl (fun j hj => absurd hj (Nat.not_lt_zero j)) rfl rfl (by decide) (by decide) dX5_init_11 (fun q2 => ?_)
  have Ck := Cx.w (k := 2) (n := 3) C (by decide) (by decide)
  show J (xw X 2 3) ([(h, .inr (5, [.null, .null, .null, .null, .null, .int 0, .int 0])), (q1, .inl (cy 2, 3, rr (fun _ => none))), (q2, .inr (1, []))]) 14 [(0, .ref h)] [.ref q2, .int (nI 0), .ref q1, .ref q1, .ref h]
  refine j_dup Ck dX5_init_14 rfl ?_
  refine j_callIN (rest := [.ref q2, .int (nI 0), .ref q1, .ref q1, .ref h]) (k' := 2) (n' := 3) C hO (c_X1_init (q2) 1) gX5_init_X1_init_n11 rfl mh7 mh8 mh9 (by decide +kernel) rfl rfl ⟨⟨by decide, by decide⟩, by decide, by decide⟩ ([(h, .inr (5, [.null, .null, .null, .null, .null, .int 0, .int 0])), (q1, .inl (cy 2, 3, rr (fun _ => none)))]) (([] : va_W)) rfl (Nat.le_of_ble_eq_true rfl) dX5_init_15 rfl (fun u3 hu3 => ?_)
  have Ck := Cx.w (k := 2) (n := 3) C (by decide) (by decide)
  show J (xw X 2 3) ([(h, .inr (5, [.null, .null, .null, .null, .null, .int 0, .int 0])), (q1, .inl (cy 2, 3, rr (fun _ => none))), (q2, .inr (1, []))]) 18 [(0, .ref h)] [.ref q2, .int (nI 0), .ref q1, .ref q1, .ref h]
  refine j_astq (t := 2) (ws' := [(h, .inr (5, [.null, .null, .null, .null, .null, .int 0, .int 0])), (q1, .inl (cy 2, 3, rr (va_up (fun _ => none) 0 (some (q2))))), (q2, .inr (1, []))]) C 1 2 rfl rfl rfl rfl (by decide) (by decide) rfl dX5_init_18 ?_
  refine j_dup Ck dX5_init_19 rfl ?_
  refine j_iconst (v := nI 1) Ck dX5_init_20 (by decide) ?_
  refine j_new (ci := 3) (fs := []) (k' := 3) (n' := 3) C mh10 tyX3 tyX3_ok mh11 mh12 mh13 rfl (fun j hj => absurd hj (Nat.not_lt_zero j)) rfl rfl (by decide) (by decide) dX5_init_21 (fun q4 => ?_)
  have Ck := Cx.w (k := 3) (n := 3) C (by decide) (by decide)
  show J (xw X 3 3) ([(h, .inr (5, [.null, .null, .null, .null, .null, .int 0, .int 0])), (q1, .inl (cy 2, 3, rr (va_up (fun _ => none) 0 (some (q2))))), (q2, .inr (1, [])), (q4, .inr (3, []))]) 24 [(0, .ref h)] [.ref q4, .int (nI 1), .ref q1, .ref q1, .ref h]
  refine j_dup Ck dX5_init_24 rfl ?_
  refine j_callIN (rest := [.ref q4, .int (nI 1), .ref q1, .ref q1, .ref h]) (k' := 3) (n' := 3) C hO (c_X3_init (q4) 3) gX5_init_X3_init_n14 rfl mh14 mh15 mh16 (by decide +kernel) rfl rfl ⟨⟨by decide, by decide⟩, by decide, by decide⟩ ([(h, .inr (5, [.null, .null, .null, .null, .null, .int 0, .int 0])), (q1, .inl (cy 2, 3, rr (va_up (fun _ => none) 0 (some (q2))))), (q2, .inr (1, []))]) (([] : va_W)) rfl (Nat.le_of_ble_eq_true rfl) dX5_init_25 rfl (fun u5 hu5 => ?_)
  have Ck := Cx.w (k := 3) (n := 3) C (by decide) (by decide)
  show J (xw X 3 3) ([(h, .inr (5, [.null, .null, .null, .null, .null, .int 0, .int 0])), (q1, .inl (cy 2, 3, rr (va_up (fun _ => none) 0 (some (q2))))), (q2, .inr (1, [])), (q4, .inr (3, []))]) 28 [(0, .ref h)] [.ref q4, .int (nI 1), .ref q1, .ref q1, .ref h]
  refine j_astO (t := 2) (E := "DebtLamps$Person") (ws' := [(h, .inr (5, [.null, .null, .null, .null, .null, .int 0, .int 0])), (q1, .inl (cy 2, 3, rr (va_up (va_up (fun _ => none) 0 (some (q2))) 1 (some (q4))))), (q2, .inr (1, [])), (q4, .inr (3, []))]) C hO.2.2.1 1 3 rfl rfl rfl rfl (by decide) (by decide) rfl dX5_init_28 ?_
  refine j_dup Ck dX5_init_29 rfl ?_
  refine j_iconst (v := nI 2) Ck dX5_init_30 (by decide) ?_
  refine j_new (ci := 0) (fs := []) (k' := 4) (n' := 3) C mh17 tyX0 tyX0_ok mh18 mh19 mh20 rfl (fun j hj => absurd hj (Nat.not_lt_zero j)) rfl rfl (by decide) (by decide) dX5_init_31 (fun q6 => ?_)
  have Ck := Cx.w (k := 4) (n := 3) C (by decide) (by decide)
  show J (xw X 4 3) ([(h, .inr (5, [.null, .null, .null, .null, .null, .int 0, .int 0])), (q1, .inl (cy 2, 3, rr (va_up (va_up (fun _ => none) 0 (some (q2))) 1 (some (q4))))), (q2, .inr (1, [])), (q4, .inr (3, [])), (q6, .inr (0, []))]) 34 [(0, .ref h)] [.ref q6, .int (nI 2), .ref q1, .ref q1, .ref h]
  refine j_dup Ck dX5_init_34 rfl ?_
  refine j_callIN (rest := [.ref q6, .int (nI 2), .ref q1, .ref q1, .ref h]) (k' := 4) (n' := 3) C hO (c_X0_init (q6) 0) gX5_init_X0_init_n17 rfl mh21 mh22 mh23 (by decide +kernel) rfl rfl ⟨⟨by decide, by decide⟩, by decide, by decide⟩ ([(h, .inr (5, [.null, .null, .null, .null, .null, .int 0, .int 0])), (q1, .inl (cy 2, 3, rr (va_up (va_up (fun _ => none) 0 (some (q2))) 1 (some (q4))))), (q2, .inr (1, [])), (q4, .inr (3, []))]) (([] : va_W)) rfl (Nat.le_of_ble_eq_true rfl) dX5_init_35 rfl (fun u7 hu7 => ?_)
  have Ck := Cx.w (k := 4) (n := 3) C (by decide) (by decide)
  show J (xw X 4 3) ([(h, .inr (5, [.null, .null, .null, .null, .null, .int 0, .int 0])), (q1, .inl (cy 2, 3, rr (va_up (va_up (fun _ => none) 0 (some (q2))) 1 (some (q4))))), (q2, .inr (1, [])), (q4, .inr (3, [])), (q6, .inr (0, []))]) 38 [(0, .ref h)] [.ref q6, .int (nI 2), .ref q1, .ref q1, .ref h]
  refine j_astO (t := 2) (E := "DebtLamps$Person") (ws' := [(h, .inr (5, [.null, .null, .null, .null, .null, .int 0, .int 0])), (q1, .inl (cy 2, 3, rr (va_up (va_up (va_up (fun _ => none) 0 (some (q2))) 1 (some (q4))) 2 (some (q6))))), (q2, .inr (1, [])), (q4, .inr (3, [])), (q6, .inr (0, []))]) C hO.2.2.2 1 4 rfl rfl rfl rfl (by decide) (by decide) rfl dX5_init_38 ?_
  refine j_putF (ty := tyX5 0) (ws' := [(h, .inr (5, [.ref q1, .null, .null, .null, .null, .int 0, .int 0])), (q1, .inl (cy 2, 3, rr (va_up (va_up (va_up (fun _ => none) 0 (some (q2))) 1 (some (q4))) 2 (some (q6))))), (q2, .inr (1, [])), (q4, .inr (3, [])), (q6, .inr (0, []))]) C hin0 mh24 0 mh25 tyX5 tyX5_ok nmX5 0 rfl rfl (by decide) (by decide +kernel) rfl (tyX5_ok 0 (by decide)) rfl rfl (Nat.le_of_ble_eq_true rfl) rfl dX5_init_39 ?_
  refine j_aload_n Ck 0 dX5_init_42 rfl rfl ?_
  refine j_bipush (v := nI 6) Ck dX5_init_43 (by decide) ?_
  refine j_newA (atype := .int) (ty := .int) (t := 0) (m := 6) (k' := 5) (n' := 9) C mh26 rfl rfl (ha_int 6) (by decide) (by decide) rfl rfl (by decide) (by decide) dX5_init_45 (fun q8 => ?_)
  have Ck := Cx.w (k := 5) (n := 9) C (by decide) (by decide)
  show J (xw X 5 9) ([(h, .inr (5, [.ref q1, .null, .null, .null, .null, .int 0, .int 0])), (q1, .inl (cy 2, 3, rr (va_up (va_up (va_up (fun _ => none) 0 (some (q2))) 1 (some (q4))) 2 (some (q6))))), (q2, .inr (1, [])), (q4, .inr (3, [])), (q6, .inr (0, [])), (q8, .inl (cy 0, 6, .inl (fun _ => 0)))]) 47 [(0, .ref h)] [.ref q8, .ref h]
  refine j_putF (ty := tyX5 1) (ws' := [(h, .inr (5, [.ref q1, .ref q8, .null, .null, .null, .int 0, .int 0])), (q1, .inl (cy 2, 3, rr (va_up (va_up (va_up (fun _ => none) 0 (some (q2))) 1 (some (q4))) 2 (some (q6))))), (q2, .inr (1, [])), (q4, .inr (3, [])), (q6, .inr (0, [])), (q8, .inl (cy 0, 6, .inl (fun _ => 0)))]) C hin0 mh24 1 mh27 tyX5 tyX5_ok nmX5 0 rfl rfl (by decide) (by decide +kernel) rfl (tyX5_ok 1 (by decide)) rfl rfl (Nat.le_of_ble_eq_true rfl) rfl dX5_init_47 ?_
  refine j_aload_n Ck 0 dX5_init_50 rfl rfl ?_
  refine j_bipush (v := nI 6) Ck dX5_init_51 (by decide) ?_
  refine j_bipush (v := nI 6) Ck dX5_init_53 (by decide) ?_
  refine j_mna (m1 := 6) (m2 := 6) (k' := 12) (n' := 51) C hO.2.1 mh28 mh26 (by decide) (by decide) rfl rfl (by decide) (by decide) dX5_init_55 (fun q9 r9 => ?_)
  have Ck := Cx.w (k := 12) (n := 51) C (by decide) (by decide)
  show J (xw X 12 51) ([(h, .inr (5, [.ref q1, .ref q8, .null, .null, .null, .int 0, .int 0])), (q1, .inl (cy 2, 3, rr (va_up (va_up (va_up (fun _ => none) 0 (some (q2))) 1 (some (q4))) 2 (some (q6))))), (q2, .inr (1, [])), (q4, .inr (3, [])), (q6, .inr (0, [])), (q8, .inl (cy 0, 6, .inl (fun _ => 0))), (q9, .inl (cy 4, 6, rr (fun i => if i < 6 then some (r9 i) else none))), (r9 0, .inl (cy 0, 6, .inl (fun _ => 0))), (r9 1, .inl (cy 0, 6, .inl (fun _ => 0))), (r9 2, .inl (cy 0, 6, .inl (fun _ => 0))), (r9 3, .inl (cy 0, 6, .inl (fun _ => 0))), (r9 4, .inl (cy 0, 6, .inl (fun _ => 0))), (r9 5, .inl (cy 0, 6, .inl (fun _ => 0)))]) 59 [(0, .ref h)] [.ref q9, .ref h]
  refine j_putF (ty := tyX5 2) (ws' := [(h, .inr (5, [.ref q1, .ref q8, .ref q9, .null, .null, .int 0, .int 0])), (q1, .inl (cy 2, 3, rr (va_up (va_up (va_up (fun _ => none) 0 (some (q2))) 1 (some (q4))) 2 (some (q6))))), (q2, .inr (1, [])), (q4, .inr (3, [])), (q6, .inr (0, [])), (q8, .inl (cy 0, 6, .inl (fun _ => 0))), (q9, .inl (cy 4, 6, rr (fun i => if i < 6 then some (r9 i) else none))), (r9 0, .inl (cy 0, 6, .inl (fun _ => 0))), (r9 1, .inl (cy 0, 6, .inl (fun _ => 0))), (r9 2, .inl (cy 0, 6, .inl (fun _ => 0))), (r9 3, .inl (cy 0, 6, .inl (fun _ => 0))), (r9 4, .inl (cy 0, 6, .inl (fun _ => 0))), (r9 5, .inl (cy 0, 6, .inl (fun _ => 0)))]) C hin0 mh24 2 mh29 tyX5 tyX5_ok nmX5 0 rfl rfl (by decide) (by decide +kernel) rfl (tyX5_ok 2 (by decide)) rfl rfl (Nat.le_of_ble_eq_true rfl) rfl dX5_init_59 ?_
  refine j_aload_n Ck 0 dX5_init_62 rfl rfl ?_
  refine j_bipush (v := nI 6) Ck dX5_init_63 (by decide) ?_
  refine j_newA (atype := .int) (ty := .int) (t := 0) (m := 6) (k' := 13) (n' := 57) C mh26 rfl rfl (ha_int 6) (by decide) (by decide) rfl rfl (by decide) (by decide) dX5_init_65 (fun q10 => ?_)
  have Ck := Cx.w (k := 13) (n := 57) C (by decide) (by decide)
  show J (xw X 13 57) ([(h, .inr (5, [.ref q1, .ref q8, .ref q9, .null, .null, .int 0, .int 0])), (q1, .inl (cy 2, 3, rr (va_up (va_up (va_up (fun _ => none) 0 (some (q2))) 1 (some (q4))) 2 (some (q6))))), (q2, .inr (1, [])), (q4, .inr (3, [])), (q6, .inr (0, [])), (q8, .inl (cy 0, 6, .inl (fun _ => 0))), (q9, .inl (cy 4, 6, rr (fun i => if i < 6 then some (r9 i) else none))), (r9 0, .inl (cy 0, 6, .inl (fun _ => 0))), (r9 1, .inl (cy 0, 6, .inl (fun _ => 0))), (r9 2, .inl (cy 0, 6, .inl (fun _ => 0))), (r9 3, .inl (cy 0, 6, .inl (fun _ => 0))), (r9 4, .inl (cy 0, 6, .inl (fun _ => 0))), (r9 5, .inl (cy 0, 6, .inl (fun _ => 0))), (q10, .inl (cy 0, 6, .inl (fun _ => 0)))]) 67 [(0, .ref h)] [.ref q10, .ref h]
  refine j_putF (ty := tyX5 3) (ws' := [(h, .inr (5, [.ref q1, .ref q8, .ref q9, .ref q10, .null, .int 0, .int 0])), (q1, .inl (cy 2, 3, rr (va_up (va_up (va_up (fun _ => none) 0 (some (q2))) 1 (some (q4))) 2 (some (q6))))), (q2, .inr (1, [])), (q4, .inr (3, [])), (q6, .inr (0, [])), (q8, .inl (cy 0, 6, .inl (fun _ => 0))), (q9, .inl (cy 4, 6, rr (fun i => if i < 6 then some (r9 i) else none))), (r9 0, .inl (cy 0, 6, .inl (fun _ => 0))), (r9 1, .inl (cy 0, 6, .inl (fun _ => 0))), (r9 2, .inl (cy 0, 6, .inl (fun _ => 0))), (r9 3, .inl (cy 0, 6, .inl (fun _ => 0))), (r9 4, .inl (cy 0, 6, .inl (fun _ => 0))), (r9 5, .inl (cy 0, 6, .inl (fun _ => 0))), (q10, .inl (cy 0, 6, .inl (fun _ => 0)))]) C hin0 mh24 3 mh30 tyX5 tyX5_ok nmX5 0 rfl rfl (by decide) (by decide +kernel) rfl (tyX5_ok 3 (by decide)) rfl rfl (Nat.le_of_ble_eq_true rfl) rfl dX5_init_67 ?_
  refine j_aload_n Ck 0 dX5_init_70 rfl rfl ?_
  refine j_bipush (v := nI 6) Ck dX5_init_71 (by decide) ?_
  refine j_newA (atype := .boolean) (ty := .boolean) (t := 1) (m := 6) (k' := 14) (n' := 63) C mh31 rfl rfl (ha_boolean 6) (by decide) (by decide) rfl rfl (by decide) (by decide) dX5_init_73 (fun q11 => ?_)
  have Ck := Cx.w (k := 14) (n := 63) C (by decide) (by decide)
  show J (xw X 14 63) ([(h, .inr (5, [.ref q1, .ref q8, .ref q9, .ref q10, .null, .int 0, .int 0])), (q1, .inl (cy 2, 3, rr (va_up (va_up (va_up (fun _ => none) 0 (some (q2))) 1 (some (q4))) 2 (some (q6))))), (q2, .inr (1, [])), (q4, .inr (3, [])), (q6, .inr (0, [])), (q8, .inl (cy 0, 6, .inl (fun _ => 0))), (q9, .inl (cy 4, 6, rr (fun i => if i < 6 then some (r9 i) else none))), (r9 0, .inl (cy 0, 6, .inl (fun _ => 0))), (r9 1, .inl (cy 0, 6, .inl (fun _ => 0))), (r9 2, .inl (cy 0, 6, .inl (fun _ => 0))), (r9 3, .inl (cy 0, 6, .inl (fun _ => 0))), (r9 4, .inl (cy 0, 6, .inl (fun _ => 0))), (r9 5, .inl (cy 0, 6, .inl (fun _ => 0))), (q10, .inl (cy 0, 6, .inl (fun _ => 0))), (q11, .inl (cy 1, 6, .inl (fun _ => 0)))]) 75 [(0, .ref h)] [.ref q11, .ref h]
  refine j_putF (ty := tyX5 4) (ws' := [(h, .inr (5, [.ref q1, .ref q8, .ref q9, .ref q10, .ref q11, .int 0, .int 0])), (q1, .inl (cy 2, 3, rr (va_up (va_up (va_up (fun _ => none) 0 (some (q2))) 1 (some (q4))) 2 (some (q6))))), (q2, .inr (1, [])), (q4, .inr (3, [])), (q6, .inr (0, [])), (q8, .inl (cy 0, 6, .inl (fun _ => 0))), (q9, .inl (cy 4, 6, rr (fun i => if i < 6 then some (r9 i) else none))), (r9 0, .inl (cy 0, 6, .inl (fun _ => 0))), (r9 1, .inl (cy 0, 6, .inl (fun _ => 0))), (r9 2, .inl (cy 0, 6, .inl (fun _ => 0))), (r9 3, .inl (cy 0, 6, .inl (fun _ => 0))), (r9 4, .inl (cy 0, 6, .inl (fun _ => 0))), (r9 5, .inl (cy 0, 6, .inl (fun _ => 0))), (q10, .inl (cy 0, 6, .inl (fun _ => 0))), (q11, .inl (cy 1, 6, .inl (fun _ => 0)))]) C hin0 mh24 4 mh32 tyX5 tyX5_ok nmX5 0 rfl rfl (by decide) (by decide +kernel) rfl (tyX5_ok 4 (by decide)) rfl rfl (Nat.le_of_ble_eq_true rfl) rfl dX5_init_75 ?_
  let u0 : Nat → Nat := fun i => [h, q1, q8, q9, q10, q11, q2, q4, q6, r9 0, r9 1, r9 2, r9 3, r9 4, r9 5].getD i 0
  have hb : (va_up (va_up (va_up (fun _ => none) 0 (some (q2))) 1 (some (q4))) 2 (some (q6))) = (fun i => if i < 3 then some (u0 (6 + i)) else none) := by funext i; match i with | 0 => rfl | 1 => rfl | 2 => rfl | i + 3 => rfl
  have hg : (fun i => if i < 6 then some (r9 i) else none) = (fun i => if i < 6 then some (u0 (9 + i)) else none) := by funext i; match i with | 0 => rfl | 1 => rfl | 2 => rfl | 3 => rfl | 4 => rfl | 5 => rfl | i + 6 => rfl
  rw [hb, hg]
  refine J.pick (ws' := wT u0 cy 0 0 (fun _ => 0) (fun _ _ => 0) (fun _ => 0) (fun _ => 0)) [0, 1, 5, 6, 13, 14, 2, 3, 4, 7, 8, 9, 10, 11, 12] (by decide) rfl ?_
  exact j_vret Ck E dX5_init_78 u0 rfl rfl rfl
set_option maxHeartbeats 4000000 in
set_option maxRecDepth 20000 in
theorem c_X7_init {l : Launch} {D : va_G} {cy : Nat → ClassId} (h : Nat)  : CtN l yX7_init wsX7_init ({ frames := 5, cells := 59, slots := 495, locals := 92 }) D cy [.ref h] ([(h, .inr (7, [.null, .null, .null, .null, .null, .null, .int 0]))]) (fun u : Nat → Nat → Nat => u 3 0 = h) (fun u => wX u cy (nI 0) (0, 0, (fun _ => 0), (fun _ _ => 0), (fun _ => 0), (fun _ => 0)) (0, 0, (fun _ => 0), (fun _ _ => 0), (fun _ => 0), (fun _ => 0)) (0, 0, (fun _ => 0), (fun _ _ => 0), (fun _ => 0), (fun _ => 0)) 0 (fun _ => 0) (fun _ => 0) (fun _ => 0) 0 (fun _ => -1) (fun _ => 0) (fun _ _ => 0)) := by
  refine CtN.of (cc := cX7_init) (nL := 1) rfl (by decide) (Nat.le_of_ble_eq_true rfl) ?_
  intro X C hin0 hO E
  have C : Cx X l D cy cX7_init 1 wsX7_init RX7 ({ frames := 5, cells := 59, slots := 495, locals := 92 }) := C
  have mh0 : Cond.methodLink RX7 3 objectInit ∈ wsX7_init := by decide +kernel
  have mh1 : Cond.instanceMethod objectInit ∈ wsX7_init := by decide +kernel
  have mh2 : Cond.code objectInit ⟨#[0xb1]⟩ 1 none ∈ wsX7_init := List.mem_cons_of_mem _ (by first | exact List.mem_of_getElem? (i := 2) rfl | exact List.mem_append_left _ (List.mem_of_getElem? (i := 2) rfl) | exact List.mem_of_getElem? (i := 5) rfl)
  have mh3 : ∀ w ∈ u_ws RX5 TX5 7, w ∈ wsX7_init := by decide +kernel
  have mh4 : Cond.classLink RX7 9 RX5 ∈ wsX7_init := by decide +kernel
  have mh5 : Cond.instantiable RX5 7 ∈ wsX7_init := by decide +kernel
  have mh6 : Cond.initialized RX5 ∈ wsX7_init := by decide +kernel
  have mh7 : (RX7, 11, yX5_init) ∈ nmL := by decide +kernel
  have mh8 : Cond.initialized yX5_init.cls ∈ wsX7_init := by decide +kernel
  have mh9 : Cond.instanceMethod yX5_init ∈ wsX7_init := by decide +kernel
  have mh10 : ∀ w ∈ u_ws RX7 TX7 7, w ∈ wsX7_init := by decide +kernel
  have mh11 : Cond.fieldLink RX7 12 RX7 (TX7 0).2.1 (TX7 0).2.2.1 ∈ wsX7_init := by decide +kernel
  have mh12 : Cond.fieldLink RX7 18 RX7 (TX7 1).2.1 (TX7 1).2.2.1 ∈ wsX7_init := by decide +kernel
  have mh13 : Cond.fieldLink RX7 21 RX7 (TX7 2).2.1 (TX7 2).2.2.1 ∈ wsX7_init := by decide +kernel
  have mh14 : ∀ w ∈ u_ws RX6 TX6 1, w ∈ wsX7_init := by decide +kernel
  have mh15 : Cond.classLink RX7 24 RX6 ∈ wsX7_init := by decide +kernel
  have mh16 : Cond.instantiable RX6 1 ∈ wsX7_init := by decide +kernel
  have mh17 : Cond.initialized RX6 ∈ wsX7_init := by decide +kernel
  have mh18 : (RX7, 26, yX6_init) ∈ nmL := by decide +kernel
  have mh19 : Cond.initialized yX6_init.cls ∈ wsX7_init := by decide +kernel
  have mh20 : Cond.instanceMethod yX6_init ∈ wsX7_init := by decide +kernel
  have mh21 : Cond.fieldLink RX7 27 RX7 (TX7 3).2.1 (TX7 3).2.2.1 ∈ wsX7_init := by decide +kernel
  have mh22 : ∀ w ∈ u_ws RX2 TX2 4, w ∈ wsX7_init := by decide +kernel
  have mh23 : Cond.classLink RX7 31 RX2 ∈ wsX7_init := by decide +kernel
  have mh24 : Cond.instantiable RX2 4 ∈ wsX7_init := by decide +kernel
  have mh25 : Cond.initialized RX2 ∈ wsX7_init := by decide +kernel
  have mh26 : (RX7, 33, yX2_init) ∈ nmL := by decide +kernel
  have mh27 : Cond.initialized yX2_init.cls ∈ wsX7_init := by decide +kernel
  have mh28 : Cond.instanceMethod yX2_init ∈ wsX7_init := by decide +kernel
  have mh29 : Cond.fieldLink RX7 34 RX7 (TX7 4).2.1 (TX7 4).2.2.1 ∈ wsX7_init := by decide +kernel
  have mh30 : Cond.classLink RX7 38 RX4 ∈ wsX7_init := by decide +kernel
  have mh31 : ∀ w ∈ u_ws RX4 TX4 3, w ∈ wsX7_init := by decide +kernel
  have mh32 : Cond.instantiable RX4 3 ∈ wsX7_init := by decide +kernel
  have mh33 : Cond.initialized RX4 ∈ wsX7_init := by decide +kernel
  have mh34 : (RX7, 40, yX4_init) ∈ nmL := by decide +kernel
  have mh35 : Cond.initialized yX4_init.cls ∈ wsX7_init := by decide +kernel
  have mh36 : Cond.instanceMethod yX4_init ∈ wsX7_init := by decide +kernel
  have mh37 : Cond.fieldLink RX7 41 RX7 (TX7 5).2.1 (TX7 5).2.2.1 ∈ wsX7_init := by decide +kernel
  have mh38 : Cond.fieldLink RX7 45 RX7 (TX7 6).2.1 (TX7 6).2.2.1 ∈ wsX7_init := by decide +kernel
  have Ck := Cx.w (k := 0) (n := 0) C (by decide) (by decide)
  show J (xw X 0 0) ([(h, .inr (7, [.null, .null, .null, .null, .null, .null, .int 0]))]) 0 [(0, .ref h)] []
  refine j_aload_n Ck 0 dX7_init_0 rfl rfl ?_
  refine j_objInit C mh0 mh1 mh2 ⟨by decide, by decide⟩ dX7_init_1 ?_
  show J (xw X 0 0) ([(h, .inr (7, [.null, .null, .null, .null, .null, .null, .int 0]))]) 4 [(0, .ref h)] []
  refine j_aload_n Ck 0 dX7_init_4 rfl rfl ?_
  refine j_new (ci := 5) (fs := [.null, .null, .null, .null, .null, .int 0, .int 0]) (k' := 1) (n' := 7) C mh3 tyX5 tyX5_ok mh4 mh5 mh6 rfl (fun j hj => by match j, hj with | 0, _ => rfl | 1, _ => rfl | 2, _ => rfl | 3, _ => rfl | 4, _ => rfl | 5, _ => rfl | 6, _ => rfl | z + 7, hz => exact absurd hz (by omega)) rfl rfl (by decide) (by decide) dX7_init_5 (fun q1 => ?_)
  have Ck := Cx.w (k := 1) (n := 7) C (by decide) (by decide)
  show J (xw X 1 7) ([(h, .inr (7, [.null, .null, .null, .null, .null, .null, .int 0])), (q1, .inr (5, [.null, .null, .null, .null, .null, .int 0, .int 0]))]) 8 [(0, .ref h)] [.ref q1, .ref h]
  refine j_dup Ck dX7_init_8 rfl ?_
  refine j_callIN (rest := [.ref q1, .ref h]) (k' := 15) (n' := 70) C hO (c_X5_init (q1)) gX7_init_X5_init_n11 rfl mh7 mh8 mh9 (by decide +kernel) rfl rfl ⟨⟨by decide, by decide⟩, by decide, by decide⟩ ([(h, .inr (7, [.null, .null, .null, .null, .null, .null, .int 0]))]) (([] : va_W)) rfl (Nat.le_of_ble_eq_true rfl) dX7_init_9 rfl (fun u2 hu2 => ?_)
  subst hu2
  have Ck := Cx.w (k := 15) (n := 70) C (by decide) (by decide)
  show J (xw X 15 70) ([(h, .inr (7, [.null, .null, .null, .null, .null, .null, .int 0]))] ++ (wT u2 cy 0 0 (fun _ => 0) (fun _ _ => 0) (fun _ => 0) (fun _ => 0))) 12 [(0, .ref h)] [.ref (u2 0), .ref h]
  refine j_putF (ty := tyX7 0) (ws' := [(h, .inr (7, [.ref (u2 0), .null, .null, .null, .null, .null, .int 0]))] ++ (wT u2 cy 0 0 (fun _ => 0) (fun _ _ => 0) (fun _ => 0) (fun _ => 0))) C hin0 mh10 0 mh11 tyX7 tyX7_ok nmX7 0 rfl rfl (by decide) (by decide +kernel) rfl (tyX7_ok 0 (by decide)) rfl rfl (Nat.le_of_ble_eq_true rfl) rfl dX7_init_12 ?_
  refine j_aload_n Ck 0 dX7_init_15 rfl rfl ?_
  refine j_new (ci := 5) (fs := [.null, .null, .null, .null, .null, .int 0, .int 0]) (k' := 16) (n' := 77) C mh3 tyX5 tyX5_ok mh4 mh5 mh6 rfl (fun j hj => by match j, hj with | 0, _ => rfl | 1, _ => rfl | 2, _ => rfl | 3, _ => rfl | 4, _ => rfl | 5, _ => rfl | 6, _ => rfl | z + 7, hz => exact absurd hz (by omega)) rfl rfl (by decide) (by decide) dX7_init_16 (fun q3 => ?_)
  have Ck := Cx.w (k := 16) (n := 77) C (by decide) (by decide)
  show J (xw X 16 77) ([(h, .inr (7, [.ref (u2 0), .null, .null, .null, .null, .null, .int 0]))] ++ (wT u2 cy 0 0 (fun _ => 0) (fun _ _ => 0) (fun _ => 0) (fun _ => 0) ++ ([(q3, .inr (5, [.null, .null, .null, .null, .null, .int 0, .int 0]))]))) 19 [(0, .ref h)] [.ref q3, .ref h]
  refine j_dup Ck dX7_init_19 rfl ?_
  refine j_callIN (rest := [.ref q3, .ref h]) (k' := 30) (n' := 140) C hO (c_X5_init (q3)) gX7_init_X5_init_n11 rfl mh7 mh8 mh9 (by decide +kernel) rfl rfl ⟨⟨by decide, by decide⟩, by decide, by decide⟩ ([(h, .inr (7, [.ref (u2 0), .null, .null, .null, .null, .null, .int 0]))] ++ (wT u2 cy 0 0 (fun _ => 0) (fun _ _ => 0) (fun _ => 0) (fun _ => 0))) (([] : va_W)) rfl (Nat.le_of_ble_eq_true rfl) dX7_init_20 rfl (fun u4 hu4 => ?_)
  subst hu4
  have Ck := Cx.w (k := 30) (n := 140) C (by decide) (by decide)
  show J (xw X 30 140) ([(h, .inr (7, [.ref (u2 0), .null, .null, .null, .null, .null, .int 0]))] ++ (wT u2 cy 0 0 (fun _ => 0) (fun _ _ => 0) (fun _ => 0) (fun _ => 0) ++ (wT u4 cy 0 0 (fun _ => 0) (fun _ _ => 0) (fun _ => 0) (fun _ => 0)))) 23 [(0, .ref h)] [.ref (u4 0), .ref h]
  refine j_putF (ty := tyX7 1) (ws' := [(h, .inr (7, [.ref (u2 0), .ref (u4 0), .null, .null, .null, .null, .int 0]))] ++ (wT u2 cy 0 0 (fun _ => 0) (fun _ _ => 0) (fun _ => 0) (fun _ => 0) ++ (wT u4 cy 0 0 (fun _ => 0) (fun _ _ => 0) (fun _ => 0) (fun _ => 0)))) C hin0 mh10 1 mh12 tyX7 tyX7_ok nmX7 0 rfl rfl (by decide) (by decide +kernel) rfl (tyX7_ok 1 (by decide)) rfl rfl (Nat.le_of_ble_eq_true rfl) rfl dX7_init_23 ?_
  refine j_aload_n Ck 0 dX7_init_26 rfl rfl ?_
  refine j_new (ci := 5) (fs := [.null, .null, .null, .null, .null, .int 0, .int 0]) (k' := 31) (n' := 147) C mh3 tyX5 tyX5_ok mh4 mh5 mh6 rfl (fun j hj => by match j, hj with | 0, _ => rfl | 1, _ => rfl | 2, _ => rfl | 3, _ => rfl | 4, _ => rfl | 5, _ => rfl | 6, _ => rfl | z + 7, hz => exact absurd hz (by omega)) rfl rfl (by decide) (by decide) dX7_init_27 (fun q5 => ?_)
  have Ck := Cx.w (k := 31) (n := 147) C (by decide) (by decide)
  show J (xw X 31 147) ([(h, .inr (7, [.ref (u2 0), .ref (u4 0), .null, .null, .null, .null, .int 0]))] ++ (wT u2 cy 0 0 (fun _ => 0) (fun _ _ => 0) (fun _ => 0) (fun _ => 0) ++ (wT u4 cy 0 0 (fun _ => 0) (fun _ _ => 0) (fun _ => 0) (fun _ => 0) ++ ([(q5, .inr (5, [.null, .null, .null, .null, .null, .int 0, .int 0]))])))) 30 [(0, .ref h)] [.ref q5, .ref h]
  refine j_dup Ck dX7_init_30 rfl ?_
  refine j_callIN (rest := [.ref q5, .ref h]) (k' := 45) (n' := 210) C hO (c_X5_init (q5)) gX7_init_X5_init_n11 rfl mh7 mh8 mh9 (by decide +kernel) rfl rfl ⟨⟨by decide, by decide⟩, by decide, by decide⟩ ([(h, .inr (7, [.ref (u2 0), .ref (u4 0), .null, .null, .null, .null, .int 0]))] ++ (wT u2 cy 0 0 (fun _ => 0) (fun _ _ => 0) (fun _ => 0) (fun _ => 0) ++ (wT u4 cy 0 0 (fun _ => 0) (fun _ _ => 0) (fun _ => 0) (fun _ => 0)))) (([] : va_W)) rfl (Nat.le_of_ble_eq_true rfl) dX7_init_31 rfl (fun u6 hu6 => ?_)
  subst hu6
  have Ck := Cx.w (k := 45) (n := 210) C (by decide) (by decide)
  show J (xw X 45 210) ([(h, .inr (7, [.ref (u2 0), .ref (u4 0), .null, .null, .null, .null, .int 0]))] ++ (wT u2 cy 0 0 (fun _ => 0) (fun _ _ => 0) (fun _ => 0) (fun _ => 0) ++ (wT u4 cy 0 0 (fun _ => 0) (fun _ _ => 0) (fun _ => 0) (fun _ => 0) ++ (wT u6 cy 0 0 (fun _ => 0) (fun _ _ => 0) (fun _ => 0) (fun _ => 0))))) 34 [(0, .ref h)] [.ref (u6 0), .ref h]
  refine j_putF (ty := tyX7 2) (ws' := [(h, .inr (7, [.ref (u2 0), .ref (u4 0), .ref (u6 0), .null, .null, .null, .int 0]))] ++ (wT u2 cy 0 0 (fun _ => 0) (fun _ _ => 0) (fun _ => 0) (fun _ => 0) ++ (wT u4 cy 0 0 (fun _ => 0) (fun _ _ => 0) (fun _ => 0) (fun _ => 0) ++ (wT u6 cy 0 0 (fun _ => 0) (fun _ _ => 0) (fun _ => 0) (fun _ => 0))))) C hin0 mh10 2 mh13 tyX7 tyX7_ok nmX7 0 rfl rfl (by decide) (by decide +kernel) rfl (tyX7_ok 2 (by decide)) rfl rfl (Nat.le_of_ble_eq_true rfl) rfl dX7_init_34 ?_
  refine j_aload_n Ck 0 dX7_init_37 rfl rfl ?_
  refine j_new (ci := 6) (fs := [.int 0]) (k' := 46) (n' := 211) C mh14 tyX6 tyX6_ok mh15 mh16 mh17 rfl (fun j hj => by match j, hj with | 0, _ => rfl | z + 1, hz => exact absurd hz (by omega)) rfl rfl (by decide) (by decide) dX7_init_38 (fun q7 => ?_)
  have Ck := Cx.w (k := 46) (n := 211) C (by decide) (by decide)
  show J (xw X 46 211) ([(h, .inr (7, [.ref (u2 0), .ref (u4 0), .ref (u6 0), .null, .null, .null, .int 0]))] ++ (wT u2 cy 0 0 (fun _ => 0) (fun _ _ => 0) (fun _ => 0) (fun _ => 0) ++ (wT u4 cy 0 0 (fun _ => 0) (fun _ _ => 0) (fun _ => 0) (fun _ => 0) ++ (wT u6 cy 0 0 (fun _ => 0) (fun _ _ => 0) (fun _ => 0) (fun _ => 0) ++ ([(q7, .inr (6, [.int 0]))]))))) 41 [(0, .ref h)] [.ref q7, .ref h]
  refine j_dup Ck dX7_init_41 rfl ?_
  refine j_callIN (rest := [.ref q7, .ref h]) (k' := 46) (n' := 211) C hO (c_X6_init (q7)) gX7_init_X6_init_n26 rfl mh18 mh19 mh20 (by decide +kernel) rfl rfl ⟨⟨by decide, by decide⟩, by decide, by decide⟩ ([(h, .inr (7, [.ref (u2 0), .ref (u4 0), .ref (u6 0), .null, .null, .null, .int 0]))] ++ (wT u2 cy 0 0 (fun _ => 0) (fun _ _ => 0) (fun _ => 0) (fun _ => 0) ++ (wT u4 cy 0 0 (fun _ => 0) (fun _ _ => 0) (fun _ => 0) (fun _ => 0) ++ (wT u6 cy 0 0 (fun _ => 0) (fun _ _ => 0) (fun _ => 0) (fun _ => 0))))) (([] : va_W)) rfl (Nat.le_of_ble_eq_true rfl) dX7_init_42 rfl (fun u8 hu8 => ?_)
  have Ck := Cx.w (k := 46) (n := 211) C (by decide) (by decide)
  show J (xw X 46 211) ([(h, .inr (7, [.ref (u2 0), .ref (u4 0), .ref (u6 0), .null, .null, .null, .int 0]))] ++ (wT u2 cy 0 0 (fun _ => 0) (fun _ _ => 0) (fun _ => 0) (fun _ => 0) ++ (wT u4 cy 0 0 (fun _ => 0) (fun _ _ => 0) (fun _ => 0) (fun _ => 0) ++ (wT u6 cy 0 0 (fun _ => 0) (fun _ _ => 0) (fun _ => 0) (fun _ => 0) ++ (wTr (q7) 0))))) 45 [(0, .ref h)] [.ref q7, .ref h]
  refine j_putF (ty := tyX7 3) (ws' := [(h, .inr (7, [.ref (u2 0), .ref (u4 0), .ref (u6 0), .ref q7, .null, .null, .int 0]))] ++ (wT u2 cy 0 0 (fun _ => 0) (fun _ _ => 0) (fun _ => 0) (fun _ => 0) ++ (wT u4 cy 0 0 (fun _ => 0) (fun _ _ => 0) (fun _ => 0) (fun _ => 0) ++ (wT u6 cy 0 0 (fun _ => 0) (fun _ _ => 0) (fun _ => 0) (fun _ => 0) ++ (wTr (q7) 0))))) C hin0 mh10 3 mh21 tyX7 tyX7_ok nmX7 0 rfl rfl (by decide) (by decide +kernel) rfl (tyX7_ok 3 (by decide)) rfl rfl (Nat.le_of_ble_eq_true rfl) rfl dX7_init_45 ?_
  refine j_aload_n Ck 0 dX7_init_48 rfl rfl ?_
  refine j_new (ci := 2) (fs := [.null, .null, .null, .int 0]) (k' := 47) (n' := 215) C mh22 tyX2 tyX2_ok mh23 mh24 mh25 rfl (fun j hj => by match j, hj with | 0, _ => rfl | 1, _ => rfl | 2, _ => rfl | 3, _ => rfl | z + 4, hz => exact absurd hz (by omega)) rfl rfl (by decide) (by decide) dX7_init_49 (fun q9 => ?_)
  have Ck := Cx.w (k := 47) (n := 215) C (by decide) (by decide)
  show J (xw X 47 215) ([(h, .inr (7, [.ref (u2 0), .ref (u4 0), .ref (u6 0), .ref q7, .null, .null, .int 0]))] ++ (wT u2 cy 0 0 (fun _ => 0) (fun _ _ => 0) (fun _ => 0) (fun _ => 0) ++ (wT u4 cy 0 0 (fun _ => 0) (fun _ _ => 0) (fun _ => 0) (fun _ => 0) ++ (wT u6 cy 0 0 (fun _ => 0) (fun _ _ => 0) (fun _ => 0) (fun _ => 0) ++ (wTr (q7) 0 ++ ([(q9, .inr (2, [.null, .null, .null, .int 0]))])))))) 52 [(0, .ref h)] [.ref q9, .ref h]
  refine j_dup Ck dX7_init_52 rfl ?_
  refine j_callIN (rest := [.ref q9, .ref h]) (k' := 50) (n' := 239) C hO (c_X2_init (q9)) gX7_init_X2_init_n33 rfl mh26 mh27 mh28 (by decide +kernel) rfl rfl ⟨⟨by decide, by decide⟩, by decide, by decide⟩ ([(h, .inr (7, [.ref (u2 0), .ref (u4 0), .ref (u6 0), .ref q7, .null, .null, .int 0]))] ++ (wT u2 cy 0 0 (fun _ => 0) (fun _ _ => 0) (fun _ => 0) (fun _ => 0) ++ (wT u4 cy 0 0 (fun _ => 0) (fun _ _ => 0) (fun _ => 0) (fun _ => 0) ++ (wT u6 cy 0 0 (fun _ => 0) (fun _ _ => 0) (fun _ => 0) (fun _ => 0) ++ (wTr (q7) 0))))) (([] : va_W)) rfl (Nat.le_of_ble_eq_true rfl) dX7_init_53 rfl (fun u10 hu10 => ?_)
  have Ck := Cx.w (k := 50) (n := 239) C (by decide) (by decide)
  show J (xw X 50 239) ([(h, .inr (7, [.ref (u2 0), .ref (u4 0), .ref (u6 0), .ref q7, .null, .null, .int 0]))] ++ (wT u2 cy 0 0 (fun _ => 0) (fun _ _ => 0) (fun _ => 0) (fun _ => 0) ++ (wT u4 cy 0 0 (fun _ => 0) (fun _ _ => 0) (fun _ => 0) (fun _ => 0) ++ (wT u6 cy 0 0 (fun _ => 0) (fun _ _ => 0) (fun _ => 0) (fun _ => 0) ++ (wTr (q7) 0 ++ (wR (q9) u10.1 u10.2.1 u10.2.2 cy 0 (fun _ => 0) (fun _ => 0) (fun _ => 0))))))) 56 [(0, .ref h)] [.ref q9, .ref h]
  refine j_putF (ty := tyX7 4) (ws' := [(h, .inr (7, [.ref (u2 0), .ref (u4 0), .ref (u6 0), .ref q7, .ref q9, .null, .int 0]))] ++ (wT u2 cy 0 0 (fun _ => 0) (fun _ _ => 0) (fun _ => 0) (fun _ => 0) ++ (wT u4 cy 0 0 (fun _ => 0) (fun _ _ => 0) (fun _ => 0) (fun _ => 0) ++ (wT u6 cy 0 0 (fun _ => 0) (fun _ _ => 0) (fun _ => 0) (fun _ => 0) ++ (wTr (q7) 0 ++ (wR (q9) u10.1 u10.2.1 u10.2.2 cy 0 (fun _ => 0) (fun _ => 0) (fun _ => 0))))))) C hin0 mh10 4 mh29 tyX7 tyX7_ok nmX7 0 rfl rfl (by decide) (by decide +kernel) rfl (tyX7_ok 4 (by decide)) rfl rfl (Nat.le_of_ble_eq_true rfl) rfl dX7_init_56 ?_
  refine j_aload_n Ck 0 dX7_init_59 rfl rfl ?_
  refine j_iconst (v := nI 4) Ck dX7_init_60 (by decide) ?_
  refine j_newQ (t := 3) (m := 4) (Cn := RX4) (k' := 51) (n' := 243) C hO.1.2 mh30 rfl (by decide) rfl rfl (by decide) (by decide) dX7_init_61 (fun q11 => ?_)
  have Ck := Cx.w (k := 51) (n := 243) C (by decide) (by decide)
  show J (xw X 51 243) ([(h, .inr (7, [.ref (u2 0), .ref (u4 0), .ref (u6 0), .ref q7, .ref q9, .null, .int 0]))] ++ (wT u2 cy 0 0 (fun _ => 0) (fun _ _ => 0) (fun _ => 0) (fun _ => 0) ++ (wT u4 cy 0 0 (fun _ => 0) (fun _ _ => 0) (fun _ => 0) (fun _ => 0) ++ (wT u6 cy 0 0 (fun _ => 0) (fun _ _ => 0) (fun _ => 0) (fun _ => 0) ++ (wTr (q7) 0 ++ (wR (q9) u10.1 u10.2.1 u10.2.2 cy 0 (fun _ => 0) (fun _ => 0) (fun _ => 0) ++ ([(q11, .inl (cy 3, 4, rr (fun _ => none)))]))))))) 64 [(0, .ref h)] [.ref q11, .ref h]
  refine j_dup Ck dX7_init_64 rfl ?_
  refine j_iconst (v := nI 0) Ck dX7_init_65 (by decide) ?_
  refine j_new (ci := 4) (fs := [.null, .int 0, .int 0]) (k' := 52) (n' := 246) C mh31 tyX4 tyX4_ok mh30 mh32 mh33 rfl (fun j hj => by match j, hj with | 0, _ => rfl | 1, _ => rfl | 2, _ => rfl | z + 3, hz => exact absurd hz (by omega)) rfl rfl (by decide) (by decide) dX7_init_66 (fun q12 => ?_)
  have Ck := Cx.w (k := 52) (n := 246) C (by decide) (by decide)
  show J (xw X 52 246) ([(h, .inr (7, [.ref (u2 0), .ref (u4 0), .ref (u6 0), .ref q7, .ref q9, .null, .int 0]))] ++ (wT u2 cy 0 0 (fun _ => 0) (fun _ _ => 0) (fun _ => 0) (fun _ => 0) ++ (wT u4 cy 0 0 (fun _ => 0) (fun _ _ => 0) (fun _ => 0) (fun _ => 0) ++ (wT u6 cy 0 0 (fun _ => 0) (fun _ _ => 0) (fun _ => 0) (fun _ => 0) ++ (wTr (q7) 0 ++ (wR (q9) u10.1 u10.2.1 u10.2.2 cy 0 (fun _ => 0) (fun _ => 0) (fun _ => 0) ++ ([(q11, .inl (cy 3, 4, rr (fun _ => none))), (q12, .inr (4, [.null, .int 0, .int 0]))]))))))) 69 [(0, .ref h)] [.ref q12, .int (nI 0), .ref q11, .ref q11, .ref h]
  refine j_dup Ck dX7_init_69 rfl ?_
  refine j_callIN (rest := [.ref q12, .int (nI 0), .ref q11, .ref q11, .ref h]) (k' := 53) (n' := 306) C hO (c_X4_init (q12)) gX7_init_X4_init_n40 rfl mh34 mh35 mh36 (by decide +kernel) rfl rfl ⟨⟨by decide, by decide⟩, by decide, by decide⟩ ([(h, .inr (7, [.ref (u2 0), .ref (u4 0), .ref (u6 0), .ref q7, .ref q9, .null, .int 0]))] ++ (wT u2 cy 0 0 (fun _ => 0) (fun _ _ => 0) (fun _ => 0) (fun _ => 0) ++ (wT u4 cy 0 0 (fun _ => 0) (fun _ _ => 0) (fun _ => 0) (fun _ => 0) ++ (wT u6 cy 0 0 (fun _ => 0) (fun _ _ => 0) (fun _ => 0) (fun _ => 0) ++ (wTr (q7) 0 ++ (wR (q9) u10.1 u10.2.1 u10.2.2 cy 0 (fun _ => 0) (fun _ => 0) (fun _ => 0) ++ ([(q11, .inl (cy 3, 4, rr (fun _ => none)))]))))))) (([] : va_W)) rfl (Nat.le_of_ble_eq_true rfl) dX7_init_70 rfl (fun u13 hu13 => ?_)
  have Ck := Cx.w (k := 53) (n := 306) C (by decide) (by decide)
  show J (xw X 53 306) ([(h, .inr (7, [.ref (u2 0), .ref (u4 0), .ref (u6 0), .ref q7, .ref q9, .null, .int 0]))] ++ (wT u2 cy 0 0 (fun _ => 0) (fun _ _ => 0) (fun _ => 0) (fun _ => 0) ++ (wT u4 cy 0 0 (fun _ => 0) (fun _ _ => 0) (fun _ => 0) (fun _ => 0) ++ (wT u6 cy 0 0 (fun _ => 0) (fun _ _ => 0) (fun _ => 0) (fun _ => 0) ++ (wTr (q7) 0 ++ (wR (q9) u10.1 u10.2.1 u10.2.2 cy 0 (fun _ => 0) (fun _ => 0) (fun _ => 0) ++ ([(q11, .inl (cy 3, 4, rr (fun _ => none)))] ++ (wS (q12) u13 cy (-1) 0 (fun _ => 0))))))))) 73 [(0, .ref h)] [.ref q12, .int (nI 0), .ref q11, .ref q11, .ref h]
  refine j_astq (t := 3) (ws' := [(h, .inr (7, [.ref (u2 0), .ref (u4 0), .ref (u6 0), .ref q7, .ref q9, .null, .int 0]))] ++ (wT u2 cy 0 0 (fun _ => 0) (fun _ _ => 0) (fun _ => 0) (fun _ => 0) ++ (wT u4 cy 0 0 (fun _ => 0) (fun _ _ => 0) (fun _ => 0) (fun _ => 0) ++ (wT u6 cy 0 0 (fun _ => 0) (fun _ _ => 0) (fun _ => 0) (fun _ => 0) ++ (wTr (q7) 0 ++ (wR (q9) u10.1 u10.2.1 u10.2.2 cy 0 (fun _ => 0) (fun _ => 0) (fun _ => 0) ++ ([(q11, .inl (cy 3, 4, rr (va_up (fun _ => none) 0 (some (q12)))))] ++ (wS (q12) u13 cy (-1) 0 (fun _ => 0))))))))) C 51 52 rfl rfl rfl rfl (by decide) (by decide) rfl dX7_init_73 ?_
  refine j_dup Ck dX7_init_74 rfl ?_
  refine j_iconst (v := nI 1) Ck dX7_init_75 (by decide) ?_
  refine j_new (ci := 4) (fs := [.null, .int 0, .int 0]) (k' := 54) (n' := 309) C mh31 tyX4 tyX4_ok mh30 mh32 mh33 rfl (fun j hj => by match j, hj with | 0, _ => rfl | 1, _ => rfl | 2, _ => rfl | z + 3, hz => exact absurd hz (by omega)) rfl rfl (by decide) (by decide) dX7_init_76 (fun q14 => ?_)
  have Ck := Cx.w (k := 54) (n := 309) C (by decide) (by decide)
  show J (xw X 54 309) ([(h, .inr (7, [.ref (u2 0), .ref (u4 0), .ref (u6 0), .ref q7, .ref q9, .null, .int 0]))] ++ (wT u2 cy 0 0 (fun _ => 0) (fun _ _ => 0) (fun _ => 0) (fun _ => 0) ++ (wT u4 cy 0 0 (fun _ => 0) (fun _ _ => 0) (fun _ => 0) (fun _ => 0) ++ (wT u6 cy 0 0 (fun _ => 0) (fun _ _ => 0) (fun _ => 0) (fun _ => 0) ++ (wTr (q7) 0 ++ (wR (q9) u10.1 u10.2.1 u10.2.2 cy 0 (fun _ => 0) (fun _ => 0) (fun _ => 0) ++ ([(q11, .inl (cy 3, 4, rr (va_up (fun _ => none) 0 (some (q12)))))] ++ (wS (q12) u13 cy (-1) 0 (fun _ => 0) ++ ([(q14, .inr (4, [.null, .int 0, .int 0]))]))))))))) 79 [(0, .ref h)] [.ref q14, .int (nI 1), .ref q11, .ref q11, .ref h]
  refine j_dup Ck dX7_init_79 rfl ?_
  refine j_callIN (rest := [.ref q14, .int (nI 1), .ref q11, .ref q11, .ref h]) (k' := 55) (n' := 369) C hO (c_X4_init (q14)) gX7_init_X4_init_n40 rfl mh34 mh35 mh36 (by decide +kernel) rfl rfl ⟨⟨by decide, by decide⟩, by decide, by decide⟩ ([(h, .inr (7, [.ref (u2 0), .ref (u4 0), .ref (u6 0), .ref q7, .ref q9, .null, .int 0]))] ++ (wT u2 cy 0 0 (fun _ => 0) (fun _ _ => 0) (fun _ => 0) (fun _ => 0) ++ (wT u4 cy 0 0 (fun _ => 0) (fun _ _ => 0) (fun _ => 0) (fun _ => 0) ++ (wT u6 cy 0 0 (fun _ => 0) (fun _ _ => 0) (fun _ => 0) (fun _ => 0) ++ (wTr (q7) 0 ++ (wR (q9) u10.1 u10.2.1 u10.2.2 cy 0 (fun _ => 0) (fun _ => 0) (fun _ => 0) ++ ([(q11, .inl (cy 3, 4, rr (va_up (fun _ => none) 0 (some (q12)))))] ++ (wS (q12) u13 cy (-1) 0 (fun _ => 0))))))))) (([] : va_W)) rfl (Nat.le_of_ble_eq_true rfl) dX7_init_80 rfl (fun u15 hu15 => ?_)
  have Ck := Cx.w (k := 55) (n := 369) C (by decide) (by decide)
  show J (xw X 55 369) ([(h, .inr (7, [.ref (u2 0), .ref (u4 0), .ref (u6 0), .ref q7, .ref q9, .null, .int 0]))] ++ (wT u2 cy 0 0 (fun _ => 0) (fun _ _ => 0) (fun _ => 0) (fun _ => 0) ++ (wT u4 cy 0 0 (fun _ => 0) (fun _ _ => 0) (fun _ => 0) (fun _ => 0) ++ (wT u6 cy 0 0 (fun _ => 0) (fun _ _ => 0) (fun _ => 0) (fun _ => 0) ++ (wTr (q7) 0 ++ (wR (q9) u10.1 u10.2.1 u10.2.2 cy 0 (fun _ => 0) (fun _ => 0) (fun _ => 0) ++ ([(q11, .inl (cy 3, 4, rr (va_up (fun _ => none) 0 (some (q12)))))] ++ (wS (q12) u13 cy (-1) 0 (fun _ => 0) ++ (wS (q14) u15 cy (-1) 0 (fun _ => 0)))))))))) 83 [(0, .ref h)] [.ref q14, .int (nI 1), .ref q11, .ref q11, .ref h]
  refine j_astq (t := 3) (ws' := [(h, .inr (7, [.ref (u2 0), .ref (u4 0), .ref (u6 0), .ref q7, .ref q9, .null, .int 0]))] ++ (wT u2 cy 0 0 (fun _ => 0) (fun _ _ => 0) (fun _ => 0) (fun _ => 0) ++ (wT u4 cy 0 0 (fun _ => 0) (fun _ _ => 0) (fun _ => 0) (fun _ => 0) ++ (wT u6 cy 0 0 (fun _ => 0) (fun _ _ => 0) (fun _ => 0) (fun _ => 0) ++ (wTr (q7) 0 ++ (wR (q9) u10.1 u10.2.1 u10.2.2 cy 0 (fun _ => 0) (fun _ => 0) (fun _ => 0) ++ ([(q11, .inl (cy 3, 4, rr (va_up (va_up (fun _ => none) 0 (some (q12))) 1 (some (q14)))))] ++ (wS (q12) u13 cy (-1) 0 (fun _ => 0) ++ (wS (q14) u15 cy (-1) 0 (fun _ => 0)))))))))) C 51 54 rfl rfl rfl rfl (by decide) (by decide) rfl dX7_init_83 ?_
  refine j_dup Ck dX7_init_84 rfl ?_
  refine j_iconst (v := nI 2) Ck dX7_init_85 (by decide) ?_
  refine j_new (ci := 4) (fs := [.null, .int 0, .int 0]) (k' := 56) (n' := 372) C mh31 tyX4 tyX4_ok mh30 mh32 mh33 rfl (fun j hj => by match j, hj with | 0, _ => rfl | 1, _ => rfl | 2, _ => rfl | z + 3, hz => exact absurd hz (by omega)) rfl rfl (by decide) (by decide) dX7_init_86 (fun q16 => ?_)
  have Ck := Cx.w (k := 56) (n := 372) C (by decide) (by decide)
  show J (xw X 56 372) ([(h, .inr (7, [.ref (u2 0), .ref (u4 0), .ref (u6 0), .ref q7, .ref q9, .null, .int 0]))] ++ (wT u2 cy 0 0 (fun _ => 0) (fun _ _ => 0) (fun _ => 0) (fun _ => 0) ++ (wT u4 cy 0 0 (fun _ => 0) (fun _ _ => 0) (fun _ => 0) (fun _ => 0) ++ (wT u6 cy 0 0 (fun _ => 0) (fun _ _ => 0) (fun _ => 0) (fun _ => 0) ++ (wTr (q7) 0 ++ (wR (q9) u10.1 u10.2.1 u10.2.2 cy 0 (fun _ => 0) (fun _ => 0) (fun _ => 0) ++ ([(q11, .inl (cy 3, 4, rr (va_up (va_up (fun _ => none) 0 (some (q12))) 1 (some (q14)))))] ++ (wS (q12) u13 cy (-1) 0 (fun _ => 0) ++ (wS (q14) u15 cy (-1) 0 (fun _ => 0) ++ ([(q16, .inr (4, [.null, .int 0, .int 0]))])))))))))) 89 [(0, .ref h)] [.ref q16, .int (nI 2), .ref q11, .ref q11, .ref h]
  refine j_dup Ck dX7_init_89 rfl ?_
  refine j_callIN (rest := [.ref q16, .int (nI 2), .ref q11, .ref q11, .ref h]) (k' := 57) (n' := 432) C hO (c_X4_init (q16)) gX7_init_X4_init_n40 rfl mh34 mh35 mh36 (by decide +kernel) rfl rfl ⟨⟨by decide, by decide⟩, by decide, by decide⟩ ([(h, .inr (7, [.ref (u2 0), .ref (u4 0), .ref (u6 0), .ref q7, .ref q9, .null, .int 0]))] ++ (wT u2 cy 0 0 (fun _ => 0) (fun _ _ => 0) (fun _ => 0) (fun _ => 0) ++ (wT u4 cy 0 0 (fun _ => 0) (fun _ _ => 0) (fun _ => 0) (fun _ => 0) ++ (wT u6 cy 0 0 (fun _ => 0) (fun _ _ => 0) (fun _ => 0) (fun _ => 0) ++ (wTr (q7) 0 ++ (wR (q9) u10.1 u10.2.1 u10.2.2 cy 0 (fun _ => 0) (fun _ => 0) (fun _ => 0) ++ ([(q11, .inl (cy 3, 4, rr (va_up (va_up (fun _ => none) 0 (some (q12))) 1 (some (q14)))))] ++ (wS (q12) u13 cy (-1) 0 (fun _ => 0) ++ (wS (q14) u15 cy (-1) 0 (fun _ => 0)))))))))) (([] : va_W)) rfl (Nat.le_of_ble_eq_true rfl) dX7_init_90 rfl (fun u17 hu17 => ?_)
  have Ck := Cx.w (k := 57) (n := 432) C (by decide) (by decide)
  show J (xw X 57 432) ([(h, .inr (7, [.ref (u2 0), .ref (u4 0), .ref (u6 0), .ref q7, .ref q9, .null, .int 0]))] ++ (wT u2 cy 0 0 (fun _ => 0) (fun _ _ => 0) (fun _ => 0) (fun _ => 0) ++ (wT u4 cy 0 0 (fun _ => 0) (fun _ _ => 0) (fun _ => 0) (fun _ => 0) ++ (wT u6 cy 0 0 (fun _ => 0) (fun _ _ => 0) (fun _ => 0) (fun _ => 0) ++ (wTr (q7) 0 ++ (wR (q9) u10.1 u10.2.1 u10.2.2 cy 0 (fun _ => 0) (fun _ => 0) (fun _ => 0) ++ ([(q11, .inl (cy 3, 4, rr (va_up (va_up (fun _ => none) 0 (some (q12))) 1 (some (q14)))))] ++ (wS (q12) u13 cy (-1) 0 (fun _ => 0) ++ (wS (q14) u15 cy (-1) 0 (fun _ => 0) ++ (wS (q16) u17 cy (-1) 0 (fun _ => 0))))))))))) 93 [(0, .ref h)] [.ref q16, .int (nI 2), .ref q11, .ref q11, .ref h]
  refine j_astq (t := 3) (ws' := [(h, .inr (7, [.ref (u2 0), .ref (u4 0), .ref (u6 0), .ref q7, .ref q9, .null, .int 0]))] ++ (wT u2 cy 0 0 (fun _ => 0) (fun _ _ => 0) (fun _ => 0) (fun _ => 0) ++ (wT u4 cy 0 0 (fun _ => 0) (fun _ _ => 0) (fun _ => 0) (fun _ => 0) ++ (wT u6 cy 0 0 (fun _ => 0) (fun _ _ => 0) (fun _ => 0) (fun _ => 0) ++ (wTr (q7) 0 ++ (wR (q9) u10.1 u10.2.1 u10.2.2 cy 0 (fun _ => 0) (fun _ => 0) (fun _ => 0) ++ ([(q11, .inl (cy 3, 4, rr (va_up (va_up (va_up (fun _ => none) 0 (some (q12))) 1 (some (q14))) 2 (some (q16)))))] ++ (wS (q12) u13 cy (-1) 0 (fun _ => 0) ++ (wS (q14) u15 cy (-1) 0 (fun _ => 0) ++ (wS (q16) u17 cy (-1) 0 (fun _ => 0))))))))))) C 51 56 rfl rfl rfl rfl (by decide) (by decide) rfl dX7_init_93 ?_
  refine j_dup Ck dX7_init_94 rfl ?_
  refine j_iconst (v := nI 3) Ck dX7_init_95 (by decide) ?_
  refine j_new (ci := 4) (fs := [.null, .int 0, .int 0]) (k' := 58) (n' := 435) C mh31 tyX4 tyX4_ok mh30 mh32 mh33 rfl (fun j hj => by match j, hj with | 0, _ => rfl | 1, _ => rfl | 2, _ => rfl | z + 3, hz => exact absurd hz (by omega)) rfl rfl (by decide) (by decide) dX7_init_96 (fun q18 => ?_)
  have Ck := Cx.w (k := 58) (n := 435) C (by decide) (by decide)
  show J (xw X 58 435) ([(h, .inr (7, [.ref (u2 0), .ref (u4 0), .ref (u6 0), .ref q7, .ref q9, .null, .int 0]))] ++ (wT u2 cy 0 0 (fun _ => 0) (fun _ _ => 0) (fun _ => 0) (fun _ => 0) ++ (wT u4 cy 0 0 (fun _ => 0) (fun _ _ => 0) (fun _ => 0) (fun _ => 0) ++ (wT u6 cy 0 0 (fun _ => 0) (fun _ _ => 0) (fun _ => 0) (fun _ => 0) ++ (wTr (q7) 0 ++ (wR (q9) u10.1 u10.2.1 u10.2.2 cy 0 (fun _ => 0) (fun _ => 0) (fun _ => 0) ++ ([(q11, .inl (cy 3, 4, rr (va_up (va_up (va_up (fun _ => none) 0 (some (q12))) 1 (some (q14))) 2 (some (q16)))))] ++ (wS (q12) u13 cy (-1) 0 (fun _ => 0) ++ (wS (q14) u15 cy (-1) 0 (fun _ => 0) ++ (wS (q16) u17 cy (-1) 0 (fun _ => 0) ++ ([(q18, .inr (4, [.null, .int 0, .int 0]))]))))))))))) 99 [(0, .ref h)] [.ref q18, .int (nI 3), .ref q11, .ref q11, .ref h]
  refine j_dup Ck dX7_init_99 rfl ?_
  refine j_callIN (rest := [.ref q18, .int (nI 3), .ref q11, .ref q11, .ref h]) (k' := 59) (n' := 495) C hO (c_X4_init (q18)) gX7_init_X4_init_n40 rfl mh34 mh35 mh36 (by decide +kernel) rfl rfl ⟨⟨by decide, by decide⟩, by decide, by decide⟩ ([(h, .inr (7, [.ref (u2 0), .ref (u4 0), .ref (u6 0), .ref q7, .ref q9, .null, .int 0]))] ++ (wT u2 cy 0 0 (fun _ => 0) (fun _ _ => 0) (fun _ => 0) (fun _ => 0) ++ (wT u4 cy 0 0 (fun _ => 0) (fun _ _ => 0) (fun _ => 0) (fun _ => 0) ++ (wT u6 cy 0 0 (fun _ => 0) (fun _ _ => 0) (fun _ => 0) (fun _ => 0) ++ (wTr (q7) 0 ++ (wR (q9) u10.1 u10.2.1 u10.2.2 cy 0 (fun _ => 0) (fun _ => 0) (fun _ => 0) ++ ([(q11, .inl (cy 3, 4, rr (va_up (va_up (va_up (fun _ => none) 0 (some (q12))) 1 (some (q14))) 2 (some (q16)))))] ++ (wS (q12) u13 cy (-1) 0 (fun _ => 0) ++ (wS (q14) u15 cy (-1) 0 (fun _ => 0) ++ (wS (q16) u17 cy (-1) 0 (fun _ => 0))))))))))) (([] : va_W)) rfl (Nat.le_of_ble_eq_true rfl) dX7_init_100 rfl (fun u19 hu19 => ?_)
  have Ck := Cx.w (k := 59) (n := 495) C (by decide) (by decide)
  show J (xw X 59 495) ([(h, .inr (7, [.ref (u2 0), .ref (u4 0), .ref (u6 0), .ref q7, .ref q9, .null, .int 0]))] ++ (wT u2 cy 0 0 (fun _ => 0) (fun _ _ => 0) (fun _ => 0) (fun _ => 0) ++ (wT u4 cy 0 0 (fun _ => 0) (fun _ _ => 0) (fun _ => 0) (fun _ => 0) ++ (wT u6 cy 0 0 (fun _ => 0) (fun _ _ => 0) (fun _ => 0) (fun _ => 0) ++ (wTr (q7) 0 ++ (wR (q9) u10.1 u10.2.1 u10.2.2 cy 0 (fun _ => 0) (fun _ => 0) (fun _ => 0) ++ ([(q11, .inl (cy 3, 4, rr (va_up (va_up (va_up (fun _ => none) 0 (some (q12))) 1 (some (q14))) 2 (some (q16)))))] ++ (wS (q12) u13 cy (-1) 0 (fun _ => 0) ++ (wS (q14) u15 cy (-1) 0 (fun _ => 0) ++ (wS (q16) u17 cy (-1) 0 (fun _ => 0) ++ (wS (q18) u19 cy (-1) 0 (fun _ => 0)))))))))))) 103 [(0, .ref h)] [.ref q18, .int (nI 3), .ref q11, .ref q11, .ref h]
  refine j_astq (t := 3) (ws' := [(h, .inr (7, [.ref (u2 0), .ref (u4 0), .ref (u6 0), .ref q7, .ref q9, .null, .int 0]))] ++ (wT u2 cy 0 0 (fun _ => 0) (fun _ _ => 0) (fun _ => 0) (fun _ => 0) ++ (wT u4 cy 0 0 (fun _ => 0) (fun _ _ => 0) (fun _ => 0) (fun _ => 0) ++ (wT u6 cy 0 0 (fun _ => 0) (fun _ _ => 0) (fun _ => 0) (fun _ => 0) ++ (wTr (q7) 0 ++ (wR (q9) u10.1 u10.2.1 u10.2.2 cy 0 (fun _ => 0) (fun _ => 0) (fun _ => 0) ++ ([(q11, .inl (cy 3, 4, rr (va_up (va_up (va_up (va_up (fun _ => none) 0 (some (q12))) 1 (some (q14))) 2 (some (q16))) 3 (some (q18)))))] ++ (wS (q12) u13 cy (-1) 0 (fun _ => 0) ++ (wS (q14) u15 cy (-1) 0 (fun _ => 0) ++ (wS (q16) u17 cy (-1) 0 (fun _ => 0) ++ (wS (q18) u19 cy (-1) 0 (fun _ => 0)))))))))))) C 51 58 rfl rfl rfl rfl (by decide) (by decide) rfl dX7_init_103 ?_
  refine j_putF (ty := tyX7 5) (ws' := [(h, .inr (7, [.ref (u2 0), .ref (u4 0), .ref (u6 0), .ref q7, .ref q9, .ref q11, .int 0]))] ++ (wT u2 cy 0 0 (fun _ => 0) (fun _ _ => 0) (fun _ => 0) (fun _ => 0) ++ (wT u4 cy 0 0 (fun _ => 0) (fun _ _ => 0) (fun _ => 0) (fun _ => 0) ++ (wT u6 cy 0 0 (fun _ => 0) (fun _ _ => 0) (fun _ => 0) (fun _ => 0) ++ (wTr (q7) 0 ++ (wR (q9) u10.1 u10.2.1 u10.2.2 cy 0 (fun _ => 0) (fun _ => 0) (fun _ => 0) ++ ([(q11, .inl (cy 3, 4, rr (va_up (va_up (va_up (va_up (fun _ => none) 0 (some (q12))) 1 (some (q14))) 2 (some (q16))) 3 (some (q18)))))] ++ (wS (q12) u13 cy (-1) 0 (fun _ => 0) ++ (wS (q14) u15 cy (-1) 0 (fun _ => 0) ++ (wS (q16) u17 cy (-1) 0 (fun _ => 0) ++ (wS (q18) u19 cy (-1) 0 (fun _ => 0)))))))))))) C hin0 mh10 5 mh37 tyX7 tyX7_ok nmX7 0 rfl rfl (by decide) (by decide +kernel) rfl (tyX7_ok 5 (by decide)) rfl rfl (Nat.le_of_ble_eq_true rfl) rfl dX7_init_104 ?_
  refine j_aload_n Ck 0 dX7_init_107 rfl rfl ?_
  refine j_iconst (v := nI 0) Ck dX7_init_108 (by decide) ?_
  refine j_put (ws' := [(h, .inr (7, [.ref (u2 0), .ref (u4 0), .ref (u6 0), .ref q7, .ref q9, .ref q11, .int (nI 0)]))] ++ (wT u2 cy 0 0 (fun _ => 0) (fun _ _ => 0) (fun _ => 0) (fun _ => 0) ++ (wT u4 cy 0 0 (fun _ => 0) (fun _ _ => 0) (fun _ => 0) (fun _ => 0) ++ (wT u6 cy 0 0 (fun _ => 0) (fun _ _ => 0) (fun _ => 0) (fun _ => 0) ++ (wTr (q7) 0 ++ (wR (q9) u10.1 u10.2.1 u10.2.2 cy 0 (fun _ => 0) (fun _ => 0) (fun _ => 0) ++ ([(q11, .inl (cy 3, 4, rr (va_up (va_up (va_up (va_up (fun _ => none) 0 (some (q12))) 1 (some (q14))) 2 (some (q16))) 3 (some (q18)))))] ++ (wS (q12) u13 cy (-1) 0 (fun _ => 0) ++ (wS (q14) u15 cy (-1) 0 (fun _ => 0) ++ (wS (q16) u17 cy (-1) 0 (fun _ => 0) ++ (wS (q18) u19 cy (-1) 0 (fun _ => 0)))))))))))) Ck mh10 6 mh38 tyX7 tyX7_ok nmX7 0 rfl rfl (by decide) rfl rfl (by decide +kernel) (Nat.le_of_ble_eq_true rfl) rfl dX7_init_109 ?_
  let u0 : Nat → Nat → Nat := fun i => match i with | 0 => u6 | 1 => u2 | 2 => u4 | 3 => fun j => [h, q9, u10.1, u10.2.1, u10.2.2, q7, q11].getD j 0 | 4 => fun j => [q12, q14, q16, q18].getD j 0 | _ => fun j => [u13, u15, u17, u19].getD j 0
  have hb : (va_up (va_up (va_up (va_up (fun _ => none) 0 (some (q12))) 1 (some (q14))) 2 (some (q16))) 3 (some (q18))) = (fun i => if i < 4 then some (u0 4 i) else none) := by funext i; match i with | 0 => rfl | 1 => rfl | 2 => rfl | 3 => rfl | i + 4 => rfl
  rw [hb]
  refine J.pick (ws' := wX u0 cy (nI 0) (0, 0, (fun _ => 0), (fun _ _ => 0), (fun _ => 0), (fun _ => 0)) (0, 0, (fun _ => 0), (fun _ _ => 0), (fun _ => 0), (fun _ => 0)) (0, 0, (fun _ => 0), (fun _ _ => 0), (fun _ => 0), (fun _ => 0)) 0 (fun _ => 0) (fun _ => 0) (fun _ => 0) 0 (fun _ => -1) (fun _ => 0) (fun _ _ => 0)) [0, 31, 32, 33, 34, 35, 36, 37, 38, 39, 40, 41, 42, 43, 44, 45, 1, 2, 3, 4, 5, 6, 7, 8, 9, 10, 11, 12, 13, 14, 15, 16, 17, 18, 19, 20, 21, 22, 23, 24, 25, 26, 27, 28, 29, 30, 47, 48, 49, 50, 46, 51, 52, 53, 54, 55, 56, 57, 58, 59] (by decide) rfl ?_
  exact j_vret Ck E dX7_init_112 u0 rfl rfl rfl
set_option maxHeartbeats 4000000 in
set_option maxRecDepth 20000 in
theorem c_X8_init {l : Launch} {D : va_G} {cy : Nat → ClassId} (h : Nat)  : CtN l yX8_init wsX8_init ({ frames := 1, cells := 13, slots := 404, locals := 12 }) D cy [.ref h] ([(h, .inr (8, [.int 0, .int 0, .null, .null, .null, .int 0, .int 0, .null, .null, .int 0, .int 0, .int 0, .null, .null, .null, .null, .null, .int 0, .null, .null, .null]))]) (fun u : Nat → Nat => u 0 = h) (fun u => wM u cy 0 0 (upd (upd (upd (upd (fun _ => 0) 0 ((-9))) 1 ((-9))) 2 ((-9))) 3 ((-9))) (fun _ => 0) (fun _ => 0) 0 0 (fun _ => 0) (fun _ => 0) 0 0 0 (fun _ => 0) (fun _ => 0) (fun _ => 0) (fun _ => 0) (fun _ => 0) 0 (fun _ => 0) (fun _ => 0) (fun _ => 0)) := by
  refine CtN.of (cc := cX8_init) (nL := 1) rfl (by decide) (Nat.le_of_ble_eq_true rfl) ?_
  intro X C hin0 hO E
  have C : Cx X l D cy cX8_init 1 wsX8_init RX8 ({ frames := 1, cells := 13, slots := 404, locals := 12 }) := C
  have mh0 : Cond.methodLink RX8 1 objectInit ∈ wsX8_init := by decide +kernel
  have mh1 : Cond.instanceMethod objectInit ∈ wsX8_init := by decide +kernel
  have mh2 : Cond.code objectInit ⟨#[0xb1]⟩ 1 none ∈ wsX8_init := List.mem_cons_of_mem _ (by first | exact List.mem_of_getElem? (i := 2) rfl | exact List.mem_append_left _ (List.mem_of_getElem? (i := 2) rfl) | exact List.mem_of_getElem? (i := 5) rfl)
  have mh3 : Cond.arrayClass .int ∈ wsX8_init := by decide +kernel
  have mh4 : ∀ w ∈ u_ws RX8 TX8 21, w ∈ wsX8_init := by decide +kernel
  have mh5 : Cond.fieldLink RX8 9 RX8 (TX8 2).2.1 (TX8 2).2.2.1 ∈ wsX8_init := by decide +kernel
  have mh6 : Cond.fieldLink RX8 13 RX8 (TX8 3).2.1 (TX8 3).2.2.1 ∈ wsX8_init := by decide +kernel
  have mh7 : Cond.fieldLink RX8 16 RX8 (TX8 4).2.1 (TX8 4).2.2.1 ∈ wsX8_init := by decide +kernel
  have mh8 : Cond.fieldLink RX8 19 RX8 (TX8 7).2.1 (TX8 7).2.2.1 ∈ wsX8_init := by decide +kernel
  have mh9 : Cond.fieldLink RX8 22 RX8 (TX8 8).2.1 (TX8 8).2.2.1 ∈ wsX8_init := by decide +kernel
  have mh10 : Cond.fieldLink RX8 25 RX8 (TX8 12).2.1 (TX8 12).2.2.1 ∈ wsX8_init := by decide +kernel
  have mh11 : Cond.fieldLink RX8 28 RX8 (TX8 13).2.1 (TX8 13).2.2.1 ∈ wsX8_init := by decide +kernel
  have mh12 : Cond.fieldLink RX8 31 RX8 (TX8 14).2.1 (TX8 14).2.2.1 ∈ wsX8_init := by decide +kernel
  have mh13 : Cond.arrayClass .boolean ∈ wsX8_init := by decide +kernel
  have mh14 : Cond.fieldLink RX8 34 RX8 (TX8 15).2.1 (TX8 15).2.2.1 ∈ wsX8_init := by decide +kernel
  have mh15 : Cond.fieldLink RX8 38 RX8 (TX8 16).2.1 (TX8 16).2.2.1 ∈ wsX8_init := by decide +kernel
  have mh16 : Cond.fieldLink RX8 41 RX8 (TX8 18).2.1 (TX8 18).2.2.1 ∈ wsX8_init := by decide +kernel
  have mh17 : Cond.fieldLink RX8 44 RX8 (TX8 19).2.1 (TX8 19).2.2.1 ∈ wsX8_init := by decide +kernel
  have mh18 : Cond.fieldLink RX8 47 RX8 (TX8 20).2.1 (TX8 20).2.2.1 ∈ wsX8_init := by decide +kernel
  have Ck := Cx.w (k := 0) (n := 0) C (by decide) (by decide)
  show J (xw X 0 0) ([(h, .inr (8, [.int 0, .int 0, .null, .null, .null, .int 0, .int 0, .null, .null, .int 0, .int 0, .int 0, .null, .null, .null, .null, .null, .int 0, .null, .null, .null]))]) 0 [(0, .ref h)] []
  refine j_aload_n Ck 0 dX8_init_0 rfl rfl ?_
  refine j_objInit C mh0 mh1 mh2 ⟨by decide, by decide⟩ dX8_init_1 ?_
  show J (xw X 0 0) ([(h, .inr (8, [.int 0, .int 0, .null, .null, .null, .int 0, .int 0, .null, .null, .int 0, .int 0, .int 0, .null, .null, .null, .null, .null, .int 0, .null, .null, .null]))]) 4 [(0, .ref h)] []
  refine j_aload_n Ck 0 dX8_init_4 rfl rfl ?_
  refine j_iconst (v := nI 4) Ck dX8_init_5 (by decide) ?_
  refine j_newA (atype := .int) (ty := .int) (t := 0) (m := 4) (k' := 1) (n' := 4) C mh3 rfl rfl (ha_int 4) (by decide) (by decide) rfl rfl (by decide) (by decide) dX8_init_6 (fun q1 => ?_)
  have Ck := Cx.w (k := 1) (n := 4) C (by decide) (by decide)
  show J (xw X 1 4) ([(h, .inr (8, [.int 0, .int 0, .null, .null, .null, .int 0, .int 0, .null, .null, .int 0, .int 0, .int 0, .null, .null, .null, .null, .null, .int 0, .null, .null, .null])), (q1, .inl (cy 0, 4, .inl (fun _ => 0)))]) 8 [(0, .ref h)] [.ref q1, .ref h]
  refine j_dup Ck dX8_init_8 rfl ?_
  refine j_iconst (v := nI 0) Ck dX8_init_9 (by decide) ?_
  refine j_bipush (v := (-9)) Ck dX8_init_10 (by decide) ?_
  refine j_iast (ws' := [(h, .inr (8, [.int 0, .int 0, .null, .null, .null, .int 0, .int 0, .null, .null, .int 0, .int 0, .int 0, .null, .null, .null, .null, .null, .int 0, .null, .null, .null])), (q1, .inl (cy 0, 4, .inl (upd (fun _ => 0) 0 ((-9)))))]) Ck 1 rfl (by decide) (by decide) rfl dX8_init_12 ?_
  refine j_dup Ck dX8_init_13 rfl ?_
  refine j_iconst (v := nI 1) Ck dX8_init_14 (by decide) ?_
  refine j_bipush (v := (-9)) Ck dX8_init_15 (by decide) ?_
  refine j_iast (ws' := [(h, .inr (8, [.int 0, .int 0, .null, .null, .null, .int 0, .int 0, .null, .null, .int 0, .int 0, .int 0, .null, .null, .null, .null, .null, .int 0, .null, .null, .null])), (q1, .inl (cy 0, 4, .inl (upd (upd (fun _ => 0) 0 ((-9))) 1 ((-9)))))]) Ck 1 rfl (by decide) (by decide) rfl dX8_init_17 ?_
  refine j_dup Ck dX8_init_18 rfl ?_
  refine j_iconst (v := nI 2) Ck dX8_init_19 (by decide) ?_
  refine j_bipush (v := (-9)) Ck dX8_init_20 (by decide) ?_
  refine j_iast (ws' := [(h, .inr (8, [.int 0, .int 0, .null, .null, .null, .int 0, .int 0, .null, .null, .int 0, .int 0, .int 0, .null, .null, .null, .null, .null, .int 0, .null, .null, .null])), (q1, .inl (cy 0, 4, .inl (upd (upd (upd (fun _ => 0) 0 ((-9))) 1 ((-9))) 2 ((-9)))))]) Ck 1 rfl (by decide) (by decide) rfl dX8_init_22 ?_
  refine j_dup Ck dX8_init_23 rfl ?_
  refine j_iconst (v := nI 3) Ck dX8_init_24 (by decide) ?_
  refine j_bipush (v := (-9)) Ck dX8_init_25 (by decide) ?_
  refine j_iast (ws' := [(h, .inr (8, [.int 0, .int 0, .null, .null, .null, .int 0, .int 0, .null, .null, .int 0, .int 0, .int 0, .null, .null, .null, .null, .null, .int 0, .null, .null, .null])), (q1, .inl (cy 0, 4, .inl (upd (upd (upd (upd (fun _ => 0) 0 ((-9))) 1 ((-9))) 2 ((-9))) 3 ((-9)))))]) Ck 1 rfl (by decide) (by decide) rfl dX8_init_27 ?_
  refine j_putF (ty := tyX8 2) (ws' := [(h, .inr (8, [.int 0, .int 0, .ref q1, .null, .null, .int 0, .int 0, .null, .null, .int 0, .int 0, .int 0, .null, .null, .null, .null, .null, .int 0, .null, .null, .null])), (q1, .inl (cy 0, 4, .inl (upd (upd (upd (upd (fun _ => 0) 0 ((-9))) 1 ((-9))) 2 ((-9))) 3 ((-9)))))]) C hin0 mh4 2 mh5 tyX8 tyX8_ok nmX8 0 rfl rfl (by decide) (by decide +kernel) rfl (tyX8_ok 2 (by decide)) rfl rfl (Nat.le_of_ble_eq_true rfl) rfl dX8_init_28 ?_
  refine j_aload_n Ck 0 dX8_init_31 rfl rfl ?_
  refine j_iconst (v := nI 4) Ck dX8_init_32 (by decide) ?_
  refine j_newA (atype := .int) (ty := .int) (t := 0) (m := 4) (k' := 2) (n' := 8) C mh3 rfl rfl (ha_int 4) (by decide) (by decide) rfl rfl (by decide) (by decide) dX8_init_33 (fun q2 => ?_)
  have Ck := Cx.w (k := 2) (n := 8) C (by decide) (by decide)
  show J (xw X 2 8) ([(h, .inr (8, [.int 0, .int 0, .ref q1, .null, .null, .int 0, .int 0, .null, .null, .int 0, .int 0, .int 0, .null, .null, .null, .null, .null, .int 0, .null, .null, .null])), (q1, .inl (cy 0, 4, .inl (upd (upd (upd (upd (fun _ => 0) 0 ((-9))) 1 ((-9))) 2 ((-9))) 3 ((-9))))), (q2, .inl (cy 0, 4, .inl (fun _ => 0)))]) 35 [(0, .ref h)] [.ref q2, .ref h]
  refine j_putF (ty := tyX8 3) (ws' := [(h, .inr (8, [.int 0, .int 0, .ref q1, .ref q2, .null, .int 0, .int 0, .null, .null, .int 0, .int 0, .int 0, .null, .null, .null, .null, .null, .int 0, .null, .null, .null])), (q1, .inl (cy 0, 4, .inl (upd (upd (upd (upd (fun _ => 0) 0 ((-9))) 1 ((-9))) 2 ((-9))) 3 ((-9))))), (q2, .inl (cy 0, 4, .inl (fun _ => 0)))]) C hin0 mh4 3 mh6 tyX8 tyX8_ok nmX8 0 rfl rfl (by decide) (by decide +kernel) rfl (tyX8_ok 3 (by decide)) rfl rfl (Nat.le_of_ble_eq_true rfl) rfl dX8_init_35 ?_
  refine j_aload_n Ck 0 dX8_init_38 rfl rfl ?_
  refine j_sipush (v := nI 240) Ck dX8_init_39 (by decide) ?_
  refine j_newA (atype := .int) (ty := .int) (t := 0) (m := 240) (k' := 3) (n' := 248) C mh3 rfl rfl (ha_int 240) (by decide) (by decide) rfl rfl (by decide) (by decide) dX8_init_42 (fun q3 => ?_)
  have Ck := Cx.w (k := 3) (n := 248) C (by decide) (by decide)
  show J (xw X 3 248) ([(h, .inr (8, [.int 0, .int 0, .ref q1, .ref q2, .null, .int 0, .int 0, .null, .null, .int 0, .int 0, .int 0, .null, .null, .null, .null, .null, .int 0, .null, .null, .null])), (q1, .inl (cy 0, 4, .inl (upd (upd (upd (upd (fun _ => 0) 0 ((-9))) 1 ((-9))) 2 ((-9))) 3 ((-9))))), (q2, .inl (cy 0, 4, .inl (fun _ => 0))), (q3, .inl (cy 0, 240, .inl (fun _ => 0)))]) 44 [(0, .ref h)] [.ref q3, .ref h]
  refine j_putF (ty := tyX8 4) (ws' := [(h, .inr (8, [.int 0, .int 0, .ref q1, .ref q2, .ref q3, .int 0, .int 0, .null, .null, .int 0, .int 0, .int 0, .null, .null, .null, .null, .null, .int 0, .null, .null, .null])), (q1, .inl (cy 0, 4, .inl (upd (upd (upd (upd (fun _ => 0) 0 ((-9))) 1 ((-9))) 2 ((-9))) 3 ((-9))))), (q2, .inl (cy 0, 4, .inl (fun _ => 0))), (q3, .inl (cy 0, 240, .inl (fun _ => 0)))]) C hin0 mh4 4 mh7 tyX8 tyX8_ok nmX8 0 rfl rfl (by decide) (by decide +kernel) rfl (tyX8_ok 4 (by decide)) rfl rfl (Nat.le_of_ble_eq_true rfl) rfl dX8_init_44 ?_
  refine j_aload_n Ck 0 dX8_init_47 rfl rfl ?_
  refine j_bipush (v := nI 6) Ck dX8_init_48 (by decide) ?_
  refine j_newA (atype := .int) (ty := .int) (t := 0) (m := 6) (k' := 4) (n' := 254) C mh3 rfl rfl (ha_int 6) (by decide) (by decide) rfl rfl (by decide) (by decide) dX8_init_50 (fun q4 => ?_)
  have Ck := Cx.w (k := 4) (n := 254) C (by decide) (by decide)
  show J (xw X 4 254) ([(h, .inr (8, [.int 0, .int 0, .ref q1, .ref q2, .ref q3, .int 0, .int 0, .null, .null, .int 0, .int 0, .int 0, .null, .null, .null, .null, .null, .int 0, .null, .null, .null])), (q1, .inl (cy 0, 4, .inl (upd (upd (upd (upd (fun _ => 0) 0 ((-9))) 1 ((-9))) 2 ((-9))) 3 ((-9))))), (q2, .inl (cy 0, 4, .inl (fun _ => 0))), (q3, .inl (cy 0, 240, .inl (fun _ => 0))), (q4, .inl (cy 0, 6, .inl (fun _ => 0)))]) 52 [(0, .ref h)] [.ref q4, .ref h]
  refine j_putF (ty := tyX8 7) (ws' := [(h, .inr (8, [.int 0, .int 0, .ref q1, .ref q2, .ref q3, .int 0, .int 0, .ref q4, .null, .int 0, .int 0, .int 0, .null, .null, .null, .null, .null, .int 0, .null, .null, .null])), (q1, .inl (cy 0, 4, .inl (upd (upd (upd (upd (fun _ => 0) 0 ((-9))) 1 ((-9))) 2 ((-9))) 3 ((-9))))), (q2, .inl (cy 0, 4, .inl (fun _ => 0))), (q3, .inl (cy 0, 240, .inl (fun _ => 0))), (q4, .inl (cy 0, 6, .inl (fun _ => 0)))]) C hin0 mh4 7 mh8 tyX8 tyX8_ok nmX8 0 rfl rfl (by decide) (by decide +kernel) rfl (tyX8_ok 7 (by decide)) rfl rfl (Nat.le_of_ble_eq_true rfl) rfl dX8_init_52 ?_
  refine j_aload_n Ck 0 dX8_init_55 rfl rfl ?_
  refine j_bipush (v := nI 36) Ck dX8_init_56 (by decide) ?_
  refine j_newA (atype := .int) (ty := .int) (t := 0) (m := 36) (k' := 5) (n' := 290) C mh3 rfl rfl (ha_int 36) (by decide) (by decide) rfl rfl (by decide) (by decide) dX8_init_58 (fun q5 => ?_)
  have Ck := Cx.w (k := 5) (n := 290) C (by decide) (by decide)
  show J (xw X 5 290) ([(h, .inr (8, [.int 0, .int 0, .ref q1, .ref q2, .ref q3, .int 0, .int 0, .ref q4, .null, .int 0, .int 0, .int 0, .null, .null, .null, .null, .null, .int 0, .null, .null, .null])), (q1, .inl (cy 0, 4, .inl (upd (upd (upd (upd (fun _ => 0) 0 ((-9))) 1 ((-9))) 2 ((-9))) 3 ((-9))))), (q2, .inl (cy 0, 4, .inl (fun _ => 0))), (q3, .inl (cy 0, 240, .inl (fun _ => 0))), (q4, .inl (cy 0, 6, .inl (fun _ => 0))), (q5, .inl (cy 0, 36, .inl (fun _ => 0)))]) 60 [(0, .ref h)] [.ref q5, .ref h]
  refine j_putF (ty := tyX8 8) (ws' := [(h, .inr (8, [.int 0, .int 0, .ref q1, .ref q2, .ref q3, .int 0, .int 0, .ref q4, .ref q5, .int 0, .int 0, .int 0, .null, .null, .null, .null, .null, .int 0, .null, .null, .null])), (q1, .inl (cy 0, 4, .inl (upd (upd (upd (upd (fun _ => 0) 0 ((-9))) 1 ((-9))) 2 ((-9))) 3 ((-9))))), (q2, .inl (cy 0, 4, .inl (fun _ => 0))), (q3, .inl (cy 0, 240, .inl (fun _ => 0))), (q4, .inl (cy 0, 6, .inl (fun _ => 0))), (q5, .inl (cy 0, 36, .inl (fun _ => 0)))]) C hin0 mh4 8 mh9 tyX8 tyX8_ok nmX8 0 rfl rfl (by decide) (by decide +kernel) rfl (tyX8_ok 8 (by decide)) rfl rfl (Nat.le_of_ble_eq_true rfl) rfl dX8_init_60 ?_
  refine j_aload_n Ck 0 dX8_init_63 rfl rfl ?_
  refine j_bipush (v := nI 6) Ck dX8_init_64 (by decide) ?_
  refine j_newA (atype := .int) (ty := .int) (t := 0) (m := 6) (k' := 6) (n' := 296) C mh3 rfl rfl (ha_int 6) (by decide) (by decide) rfl rfl (by decide) (by decide) dX8_init_66 (fun q6 => ?_)
  have Ck := Cx.w (k := 6) (n := 296) C (by decide) (by decide)
  show J (xw X 6 296) ([(h, .inr (8, [.int 0, .int 0, .ref q1, .ref q2, .ref q3, .int 0, .int 0, .ref q4, .ref q5, .int 0, .int 0, .int 0, .null, .null, .null, .null, .null, .int 0, .null, .null, .null])), (q1, .inl (cy 0, 4, .inl (upd (upd (upd (upd (fun _ => 0) 0 ((-9))) 1 ((-9))) 2 ((-9))) 3 ((-9))))), (q2, .inl (cy 0, 4, .inl (fun _ => 0))), (q3, .inl (cy 0, 240, .inl (fun _ => 0))), (q4, .inl (cy 0, 6, .inl (fun _ => 0))), (q5, .inl (cy 0, 36, .inl (fun _ => 0))), (q6, .inl (cy 0, 6, .inl (fun _ => 0)))]) 68 [(0, .ref h)] [.ref q6, .ref h]
  refine j_putF (ty := tyX8 12) (ws' := [(h, .inr (8, [.int 0, .int 0, .ref q1, .ref q2, .ref q3, .int 0, .int 0, .ref q4, .ref q5, .int 0, .int 0, .int 0, .ref q6, .null, .null, .null, .null, .int 0, .null, .null, .null])), (q1, .inl (cy 0, 4, .inl (upd (upd (upd (upd (fun _ => 0) 0 ((-9))) 1 ((-9))) 2 ((-9))) 3 ((-9))))), (q2, .inl (cy 0, 4, .inl (fun _ => 0))), (q3, .inl (cy 0, 240, .inl (fun _ => 0))), (q4, .inl (cy 0, 6, .inl (fun _ => 0))), (q5, .inl (cy 0, 36, .inl (fun _ => 0))), (q6, .inl (cy 0, 6, .inl (fun _ => 0)))]) C hin0 mh4 12 mh10 tyX8 tyX8_ok nmX8 0 rfl rfl (by decide) (by decide +kernel) rfl (tyX8_ok 12 (by decide)) rfl rfl (Nat.le_of_ble_eq_true rfl) rfl dX8_init_68 ?_
  refine j_aload_n Ck 0 dX8_init_71 rfl rfl ?_
  refine j_bipush (v := nI 36) Ck dX8_init_72 (by decide) ?_
  refine j_newA (atype := .int) (ty := .int) (t := 0) (m := 36) (k' := 7) (n' := 332) C mh3 rfl rfl (ha_int 36) (by decide) (by decide) rfl rfl (by decide) (by decide) dX8_init_74 (fun q7 => ?_)
  have Ck := Cx.w (k := 7) (n := 332) C (by decide) (by decide)
  show J (xw X 7 332) ([(h, .inr (8, [.int 0, .int 0, .ref q1, .ref q2, .ref q3, .int 0, .int 0, .ref q4, .ref q5, .int 0, .int 0, .int 0, .ref q6, .null, .null, .null, .null, .int 0, .null, .null, .null])), (q1, .inl (cy 0, 4, .inl (upd (upd (upd (upd (fun _ => 0) 0 ((-9))) 1 ((-9))) 2 ((-9))) 3 ((-9))))), (q2, .inl (cy 0, 4, .inl (fun _ => 0))), (q3, .inl (cy 0, 240, .inl (fun _ => 0))), (q4, .inl (cy 0, 6, .inl (fun _ => 0))), (q5, .inl (cy 0, 36, .inl (fun _ => 0))), (q6, .inl (cy 0, 6, .inl (fun _ => 0))), (q7, .inl (cy 0, 36, .inl (fun _ => 0)))]) 76 [(0, .ref h)] [.ref q7, .ref h]
  refine j_putF (ty := tyX8 13) (ws' := [(h, .inr (8, [.int 0, .int 0, .ref q1, .ref q2, .ref q3, .int 0, .int 0, .ref q4, .ref q5, .int 0, .int 0, .int 0, .ref q6, .ref q7, .null, .null, .null, .int 0, .null, .null, .null])), (q1, .inl (cy 0, 4, .inl (upd (upd (upd (upd (fun _ => 0) 0 ((-9))) 1 ((-9))) 2 ((-9))) 3 ((-9))))), (q2, .inl (cy 0, 4, .inl (fun _ => 0))), (q3, .inl (cy 0, 240, .inl (fun _ => 0))), (q4, .inl (cy 0, 6, .inl (fun _ => 0))), (q5, .inl (cy 0, 36, .inl (fun _ => 0))), (q6, .inl (cy 0, 6, .inl (fun _ => 0))), (q7, .inl (cy 0, 36, .inl (fun _ => 0)))]) C hin0 mh4 13 mh11 tyX8 tyX8_ok nmX8 0 rfl rfl (by decide) (by decide +kernel) rfl (tyX8_ok 13 (by decide)) rfl rfl (Nat.le_of_ble_eq_true rfl) rfl dX8_init_76 ?_
  refine j_aload_n Ck 0 dX8_init_79 rfl rfl ?_
  refine j_bipush (v := nI 6) Ck dX8_init_80 (by decide) ?_
  refine j_newA (atype := .int) (ty := .int) (t := 0) (m := 6) (k' := 8) (n' := 338) C mh3 rfl rfl (ha_int 6) (by decide) (by decide) rfl rfl (by decide) (by decide) dX8_init_82 (fun q8 => ?_)
  have Ck := Cx.w (k := 8) (n := 338) C (by decide) (by decide)
  show J (xw X 8 338) ([(h, .inr (8, [.int 0, .int 0, .ref q1, .ref q2, .ref q3, .int 0, .int 0, .ref q4, .ref q5, .int 0, .int 0, .int 0, .ref q6, .ref q7, .null, .null, .null, .int 0, .null, .null, .null])), (q1, .inl (cy 0, 4, .inl (upd (upd (upd (upd (fun _ => 0) 0 ((-9))) 1 ((-9))) 2 ((-9))) 3 ((-9))))), (q2, .inl (cy 0, 4, .inl (fun _ => 0))), (q3, .inl (cy 0, 240, .inl (fun _ => 0))), (q4, .inl (cy 0, 6, .inl (fun _ => 0))), (q5, .inl (cy 0, 36, .inl (fun _ => 0))), (q6, .inl (cy 0, 6, .inl (fun _ => 0))), (q7, .inl (cy 0, 36, .inl (fun _ => 0))), (q8, .inl (cy 0, 6, .inl (fun _ => 0)))]) 84 [(0, .ref h)] [.ref q8, .ref h]
  refine j_putF (ty := tyX8 14) (ws' := [(h, .inr (8, [.int 0, .int 0, .ref q1, .ref q2, .ref q3, .int 0, .int 0, .ref q4, .ref q5, .int 0, .int 0, .int 0, .ref q6, .ref q7, .ref q8, .null, .null, .int 0, .null, .null, .null])), (q1, .inl (cy 0, 4, .inl (upd (upd (upd (upd (fun _ => 0) 0 ((-9))) 1 ((-9))) 2 ((-9))) 3 ((-9))))), (q2, .inl (cy 0, 4, .inl (fun _ => 0))), (q3, .inl (cy 0, 240, .inl (fun _ => 0))), (q4, .inl (cy 0, 6, .inl (fun _ => 0))), (q5, .inl (cy 0, 36, .inl (fun _ => 0))), (q6, .inl (cy 0, 6, .inl (fun _ => 0))), (q7, .inl (cy 0, 36, .inl (fun _ => 0))), (q8, .inl (cy 0, 6, .inl (fun _ => 0)))]) C hin0 mh4 14 mh12 tyX8 tyX8_ok nmX8 0 rfl rfl (by decide) (by decide +kernel) rfl (tyX8_ok 14 (by decide)) rfl rfl (Nat.le_of_ble_eq_true rfl) rfl dX8_init_84 ?_
  refine j_aload_n Ck 0 dX8_init_87 rfl rfl ?_
  refine j_bipush (v := nI 6) Ck dX8_init_88 (by decide) ?_
  refine j_newA (atype := .boolean) (ty := .boolean) (t := 1) (m := 6) (k' := 9) (n' := 344) C mh13 rfl rfl (ha_boolean 6) (by decide) (by decide) rfl rfl (by decide) (by decide) dX8_init_90 (fun q9 => ?_)
  have Ck := Cx.w (k := 9) (n := 344) C (by decide) (by decide)
  show J (xw X 9 344) ([(h, .inr (8, [.int 0, .int 0, .ref q1, .ref q2, .ref q3, .int 0, .int 0, .ref q4, .ref q5, .int 0, .int 0, .int 0, .ref q6, .ref q7, .ref q8, .null, .null, .int 0, .null, .null, .null])), (q1, .inl (cy 0, 4, .inl (upd (upd (upd (upd (fun _ => 0) 0 ((-9))) 1 ((-9))) 2 ((-9))) 3 ((-9))))), (q2, .inl (cy 0, 4, .inl (fun _ => 0))), (q3, .inl (cy 0, 240, .inl (fun _ => 0))), (q4, .inl (cy 0, 6, .inl (fun _ => 0))), (q5, .inl (cy 0, 36, .inl (fun _ => 0))), (q6, .inl (cy 0, 6, .inl (fun _ => 0))), (q7, .inl (cy 0, 36, .inl (fun _ => 0))), (q8, .inl (cy 0, 6, .inl (fun _ => 0))), (q9, .inl (cy 1, 6, .inl (fun _ => 0)))]) 92 [(0, .ref h)] [.ref q9, .ref h]
  refine j_putF (ty := tyX8 15) (ws' := [(h, .inr (8, [.int 0, .int 0, .ref q1, .ref q2, .ref q3, .int 0, .int 0, .ref q4, .ref q5, .int 0, .int 0, .int 0, .ref q6, .ref q7, .ref q8, .ref q9, .null, .int 0, .null, .null, .null])), (q1, .inl (cy 0, 4, .inl (upd (upd (upd (upd (fun _ => 0) 0 ((-9))) 1 ((-9))) 2 ((-9))) 3 ((-9))))), (q2, .inl (cy 0, 4, .inl (fun _ => 0))), (q3, .inl (cy 0, 240, .inl (fun _ => 0))), (q4, .inl (cy 0, 6, .inl (fun _ => 0))), (q5, .inl (cy 0, 36, .inl (fun _ => 0))), (q6, .inl (cy 0, 6, .inl (fun _ => 0))), (q7, .inl (cy 0, 36, .inl (fun _ => 0))), (q8, .inl (cy 0, 6, .inl (fun _ => 0))), (q9, .inl (cy 1, 6, .inl (fun _ => 0)))]) C hin0 mh4 15 mh14 tyX8 tyX8_ok nmX8 0 rfl rfl (by decide) (by decide +kernel) rfl (tyX8_ok 15 (by decide)) rfl rfl (Nat.le_of_ble_eq_true rfl) rfl dX8_init_92 ?_
  refine j_aload_n Ck 0 dX8_init_95 rfl rfl ?_
  refine j_bipush (v := nI 36) Ck dX8_init_96 (by decide) ?_
  refine j_newA (atype := .int) (ty := .int) (t := 0) (m := 36) (k' := 10) (n' := 380) C mh3 rfl rfl (ha_int 36) (by decide) (by decide) rfl rfl (by decide) (by decide) dX8_init_98 (fun q10 => ?_)
  have Ck := Cx.w (k := 10) (n := 380) C (by decide) (by decide)
  show J (xw X 10 380) ([(h, .inr (8, [.int 0, .int 0, .ref q1, .ref q2, .ref q3, .int 0, .int 0, .ref q4, .ref q5, .int 0, .int 0, .int 0, .ref q6, .ref q7, .ref q8, .ref q9, .null, .int 0, .null, .null, .null])), (q1, .inl (cy 0, 4, .inl (upd (upd (upd (upd (fun _ => 0) 0 ((-9))) 1 ((-9))) 2 ((-9))) 3 ((-9))))), (q2, .inl (cy 0, 4, .inl (fun _ => 0))), (q3, .inl (cy 0, 240, .inl (fun _ => 0))), (q4, .inl (cy 0, 6, .inl (fun _ => 0))), (q5, .inl (cy 0, 36, .inl (fun _ => 0))), (q6, .inl (cy 0, 6, .inl (fun _ => 0))), (q7, .inl (cy 0, 36, .inl (fun _ => 0))), (q8, .inl (cy 0, 6, .inl (fun _ => 0))), (q9, .inl (cy 1, 6, .inl (fun _ => 0))), (q10, .inl (cy 0, 36, .inl (fun _ => 0)))]) 100 [(0, .ref h)] [.ref q10, .ref h]
  refine j_putF (ty := tyX8 16) (ws' := [(h, .inr (8, [.int 0, .int 0, .ref q1, .ref q2, .ref q3, .int 0, .int 0, .ref q4, .ref q5, .int 0, .int 0, .int 0, .ref q6, .ref q7, .ref q8, .ref q9, .ref q10, .int 0, .null, .null, .null])), (q1, .inl (cy 0, 4, .inl (upd (upd (upd (upd (fun _ => 0) 0 ((-9))) 1 ((-9))) 2 ((-9))) 3 ((-9))))), (q2, .inl (cy 0, 4, .inl (fun _ => 0))), (q3, .inl (cy 0, 240, .inl (fun _ => 0))), (q4, .inl (cy 0, 6, .inl (fun _ => 0))), (q5, .inl (cy 0, 36, .inl (fun _ => 0))), (q6, .inl (cy 0, 6, .inl (fun _ => 0))), (q7, .inl (cy 0, 36, .inl (fun _ => 0))), (q8, .inl (cy 0, 6, .inl (fun _ => 0))), (q9, .inl (cy 1, 6, .inl (fun _ => 0))), (q10, .inl (cy 0, 36, .inl (fun _ => 0)))]) C hin0 mh4 16 mh15 tyX8 tyX8_ok nmX8 0 rfl rfl (by decide) (by decide +kernel) rfl (tyX8_ok 16 (by decide)) rfl rfl (Nat.le_of_ble_eq_true rfl) rfl dX8_init_100 ?_
  refine j_aload_n Ck 0 dX8_init_103 rfl rfl ?_
  refine j_bipush (v := nI 8) Ck dX8_init_104 (by decide) ?_
  refine j_newA (atype := .int) (ty := .int) (t := 0) (m := 8) (k' := 11) (n' := 388) C mh3 rfl rfl (ha_int 8) (by decide) (by decide) rfl rfl (by decide) (by decide) dX8_init_106 (fun q11 => ?_)
  have Ck := Cx.w (k := 11) (n := 388) C (by decide) (by decide)
  show J (xw X 11 388) ([(h, .inr (8, [.int 0, .int 0, .ref q1, .ref q2, .ref q3, .int 0, .int 0, .ref q4, .ref q5, .int 0, .int 0, .int 0, .ref q6, .ref q7, .ref q8, .ref q9, .ref q10, .int 0, .null, .null, .null])), (q1, .inl (cy 0, 4, .inl (upd (upd (upd (upd (fun _ => 0) 0 ((-9))) 1 ((-9))) 2 ((-9))) 3 ((-9))))), (q2, .inl (cy 0, 4, .inl (fun _ => 0))), (q3, .inl (cy 0, 240, .inl (fun _ => 0))), (q4, .inl (cy 0, 6, .inl (fun _ => 0))), (q5, .inl (cy 0, 36, .inl (fun _ => 0))), (q6, .inl (cy 0, 6, .inl (fun _ => 0))), (q7, .inl (cy 0, 36, .inl (fun _ => 0))), (q8, .inl (cy 0, 6, .inl (fun _ => 0))), (q9, .inl (cy 1, 6, .inl (fun _ => 0))), (q10, .inl (cy 0, 36, .inl (fun _ => 0))), (q11, .inl (cy 0, 8, .inl (fun _ => 0)))]) 108 [(0, .ref h)] [.ref q11, .ref h]
  refine j_putF (ty := tyX8 18) (ws' := [(h, .inr (8, [.int 0, .int 0, .ref q1, .ref q2, .ref q3, .int 0, .int 0, .ref q4, .ref q5, .int 0, .int 0, .int 0, .ref q6, .ref q7, .ref q8, .ref q9, .ref q10, .int 0, .ref q11, .null, .null])), (q1, .inl (cy 0, 4, .inl (upd (upd (upd (upd (fun _ => 0) 0 ((-9))) 1 ((-9))) 2 ((-9))) 3 ((-9))))), (q2, .inl (cy 0, 4, .inl (fun _ => 0))), (q3, .inl (cy 0, 240, .inl (fun _ => 0))), (q4, .inl (cy 0, 6, .inl (fun _ => 0))), (q5, .inl (cy 0, 36, .inl (fun _ => 0))), (q6, .inl (cy 0, 6, .inl (fun _ => 0))), (q7, .inl (cy 0, 36, .inl (fun _ => 0))), (q8, .inl (cy 0, 6, .inl (fun _ => 0))), (q9, .inl (cy 1, 6, .inl (fun _ => 0))), (q10, .inl (cy 0, 36, .inl (fun _ => 0))), (q11, .inl (cy 0, 8, .inl (fun _ => 0)))]) C hin0 mh4 18 mh16 tyX8 tyX8_ok nmX8 0 rfl rfl (by decide) (by decide +kernel) rfl (tyX8_ok 18 (by decide)) rfl rfl (Nat.le_of_ble_eq_true rfl) rfl dX8_init_108 ?_
  refine j_aload_n Ck 0 dX8_init_111 rfl rfl ?_
  refine j_bipush (v := nI 8) Ck dX8_init_112 (by decide) ?_
  refine j_newA (atype := .int) (ty := .int) (t := 0) (m := 8) (k' := 12) (n' := 396) C mh3 rfl rfl (ha_int 8) (by decide) (by decide) rfl rfl (by decide) (by decide) dX8_init_114 (fun q12 => ?_)
  have Ck := Cx.w (k := 12) (n := 396) C (by decide) (by decide)
  show J (xw X 12 396) ([(h, .inr (8, [.int 0, .int 0, .ref q1, .ref q2, .ref q3, .int 0, .int 0, .ref q4, .ref q5, .int 0, .int 0, .int 0, .ref q6, .ref q7, .ref q8, .ref q9, .ref q10, .int 0, .ref q11, .null, .null])), (q1, .inl (cy 0, 4, .inl (upd (upd (upd (upd (fun _ => 0) 0 ((-9))) 1 ((-9))) 2 ((-9))) 3 ((-9))))), (q2, .inl (cy 0, 4, .inl (fun _ => 0))), (q3, .inl (cy 0, 240, .inl (fun _ => 0))), (q4, .inl (cy 0, 6, .inl (fun _ => 0))), (q5, .inl (cy 0, 36, .inl (fun _ => 0))), (q6, .inl (cy 0, 6, .inl (fun _ => 0))), (q7, .inl (cy 0, 36, .inl (fun _ => 0))), (q8, .inl (cy 0, 6, .inl (fun _ => 0))), (q9, .inl (cy 1, 6, .inl (fun _ => 0))), (q10, .inl (cy 0, 36, .inl (fun _ => 0))), (q11, .inl (cy 0, 8, .inl (fun _ => 0))), (q12, .inl (cy 0, 8, .inl (fun _ => 0)))]) 116 [(0, .ref h)] [.ref q12, .ref h]
  refine j_putF (ty := tyX8 19) (ws' := [(h, .inr (8, [.int 0, .int 0, .ref q1, .ref q2, .ref q3, .int 0, .int 0, .ref q4, .ref q5, .int 0, .int 0, .int 0, .ref q6, .ref q7, .ref q8, .ref q9, .ref q10, .int 0, .ref q11, .ref q12, .null])), (q1, .inl (cy 0, 4, .inl (upd (upd (upd (upd (fun _ => 0) 0 ((-9))) 1 ((-9))) 2 ((-9))) 3 ((-9))))), (q2, .inl (cy 0, 4, .inl (fun _ => 0))), (q3, .inl (cy 0, 240, .inl (fun _ => 0))), (q4, .inl (cy 0, 6, .inl (fun _ => 0))), (q5, .inl (cy 0, 36, .inl (fun _ => 0))), (q6, .inl (cy 0, 6, .inl (fun _ => 0))), (q7, .inl (cy 0, 36, .inl (fun _ => 0))), (q8, .inl (cy 0, 6, .inl (fun _ => 0))), (q9, .inl (cy 1, 6, .inl (fun _ => 0))), (q10, .inl (cy 0, 36, .inl (fun _ => 0))), (q11, .inl (cy 0, 8, .inl (fun _ => 0))), (q12, .inl (cy 0, 8, .inl (fun _ => 0)))]) C hin0 mh4 19 mh17 tyX8 tyX8_ok nmX8 0 rfl rfl (by decide) (by decide +kernel) rfl (tyX8_ok 19 (by decide)) rfl rfl (Nat.le_of_ble_eq_true rfl) rfl dX8_init_116 ?_
  refine j_aload_n Ck 0 dX8_init_119 rfl rfl ?_
  refine j_bipush (v := nI 8) Ck dX8_init_120 (by decide) ?_
  refine j_newA (atype := .int) (ty := .int) (t := 0) (m := 8) (k' := 13) (n' := 404) C mh3 rfl rfl (ha_int 8) (by decide) (by decide) rfl rfl (by decide) (by decide) dX8_init_122 (fun q13 => ?_)
  have Ck := Cx.w (k := 13) (n := 404) C (by decide) (by decide)
  show J (xw X 13 404) ([(h, .inr (8, [.int 0, .int 0, .ref q1, .ref q2, .ref q3, .int 0, .int 0, .ref q4, .ref q5, .int 0, .int 0, .int 0, .ref q6, .ref q7, .ref q8, .ref q9, .ref q10, .int 0, .ref q11, .ref q12, .null])), (q1, .inl (cy 0, 4, .inl (upd (upd (upd (upd (fun _ => 0) 0 ((-9))) 1 ((-9))) 2 ((-9))) 3 ((-9))))), (q2, .inl (cy 0, 4, .inl (fun _ => 0))), (q3, .inl (cy 0, 240, .inl (fun _ => 0))), (q4, .inl (cy 0, 6, .inl (fun _ => 0))), (q5, .inl (cy 0, 36, .inl (fun _ => 0))), (q6, .inl (cy 0, 6, .inl (fun _ => 0))), (q7, .inl (cy 0, 36, .inl (fun _ => 0))), (q8, .inl (cy 0, 6, .inl (fun _ => 0))), (q9, .inl (cy 1, 6, .inl (fun _ => 0))), (q10, .inl (cy 0, 36, .inl (fun _ => 0))), (q11, .inl (cy 0, 8, .inl (fun _ => 0))), (q12, .inl (cy 0, 8, .inl (fun _ => 0))), (q13, .inl (cy 0, 8, .inl (fun _ => 0)))]) 124 [(0, .ref h)] [.ref q13, .ref h]
  refine j_putF (ty := tyX8 20) (ws' := [(h, .inr (8, [.int 0, .int 0, .ref q1, .ref q2, .ref q3, .int 0, .int 0, .ref q4, .ref q5, .int 0, .int 0, .int 0, .ref q6, .ref q7, .ref q8, .ref q9, .ref q10, .int 0, .ref q11, .ref q12, .ref q13])), (q1, .inl (cy 0, 4, .inl (upd (upd (upd (upd (fun _ => 0) 0 ((-9))) 1 ((-9))) 2 ((-9))) 3 ((-9))))), (q2, .inl (cy 0, 4, .inl (fun _ => 0))), (q3, .inl (cy 0, 240, .inl (fun _ => 0))), (q4, .inl (cy 0, 6, .inl (fun _ => 0))), (q5, .inl (cy 0, 36, .inl (fun _ => 0))), (q6, .inl (cy 0, 6, .inl (fun _ => 0))), (q7, .inl (cy 0, 36, .inl (fun _ => 0))), (q8, .inl (cy 0, 6, .inl (fun _ => 0))), (q9, .inl (cy 1, 6, .inl (fun _ => 0))), (q10, .inl (cy 0, 36, .inl (fun _ => 0))), (q11, .inl (cy 0, 8, .inl (fun _ => 0))), (q12, .inl (cy 0, 8, .inl (fun _ => 0))), (q13, .inl (cy 0, 8, .inl (fun _ => 0)))]) C hin0 mh4 20 mh18 tyX8 tyX8_ok nmX8 0 rfl rfl (by decide) (by decide +kernel) rfl (tyX8_ok 20 (by decide)) rfl rfl (Nat.le_of_ble_eq_true rfl) rfl dX8_init_124 ?_
  let u0 : Nat → Nat := fun i => [h, q1, q2, q3, q4, q5, q6, q7, q8, q9, q10, q11, q12, q13].getD i 0
  exact j_vret Ck E dX8_init_127 u0 rfl rfl rfl
