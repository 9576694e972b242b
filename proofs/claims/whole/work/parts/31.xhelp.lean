set_option maxHeartbeats 4000000 in
set_option maxRecDepth 20000 in
theorem c_X7_isPerson {l : Launch} {D : va_G} {cy : Nat → ClassId} (A : Nat → Nat → Nat) (fl : Int32) (dT tT : TwS) (N B : Nat) (kf : Nat → Int32) (pf : Nat → Nat → Int32) (lf tf : Nat → Int32) (c : Nat) (df mf gf : Nat → Int32) (tv : Int32) (ln la : Nat → Int32) (cf : Nat → Nat → Int32) (x : Int32) (hN : N ≤ 6) : Ct l yX7_isPerson wsX7_isPerson ({ frames := 0, cells := 0, slots := 0, locals := 0 }) D cy [.ref (A 3 0), .int x] (wX A cy fl dT (nI N, nI B, kf, pf, lf, tf) tT (nI c) df mf gf tv ln la cf) (fun _ : Unit => True) (fun _ => some (.int (nI (bN ((pOf N x).isSome = true))))) (fun _ => wX A cy fl dT (nI N, nI B, kf, pf, lf, tf) tT (nI c) df mf gf tv ln la cf) := by
  refine Ct.of (cc := cX7_isPerson) (nL := 2) (ret := (some .boolean)) rfl (by decide) ⟨rfl, rfl⟩ (Nat.le_of_ble_eq_true rfl) ?_
  intro X C E
  have C : Cx X l D cy cX7_isPerson 2 wsX7_isPerson RX7 ({ frames := 0, cells := 0, slots := 0, locals := 0 }) := C
  have mh0 : ∀ w ∈ u_ws RX7 TX7 7, w ∈ wsX7_isPerson := by decide +kernel
  have mh1 : Cond.fieldLink RX7 12 RX7 (TX7 0).2.1 (TX7 0).2.2.1 ∈ wsX7_isPerson := by decide +kernel
  have mh2 : ∀ w ∈ u_ws RX5 TX5 7, w ∈ wsX7_isPerson := by decide +kernel
  show J X (wX A cy fl dT (nI N, nI B, kf, pf, lf, tf) tT (nI c) df mf gf tv ln la cf) 0 [(0, .ref (A 3 0)), (1, .int x)] []
  refine j_iload_n C 1 dX7_isPerson_0 rfl rfl ?_
  refine j_if_lt (tgt := 19) C dX7_isPerson_1 (by decide) (fun c1 => ?_) (fun c1 => ?_)
  · refine j_iconst (v := nI 0) C dX7_isPerson_19 (by decide) ?_
    exact j_zret C E dX7_isPerson_20 rfl () trivial (by first | exact ret_y (isP_y (by omega) c1 c12) | exact ret_n (isP_1 c1) | exact ret_n (isP_2 (by omega) c12)) rfl
  · refine j_iload_n C 1 dX7_isPerson_4 rfl rfl ?_
    refine j_aload_n C 0 dX7_isPerson_5 rfl rfl ?_
    refine j_get C mh0 0 mh1 0 rfl rfl (by decide) rfl rfl dX7_isPerson_6 ?_
    refine j_getN C mh2 5 (by decide +kernel) 16 rfl rfl (by decide) rfl rfl dX7_isPerson_9 ?_
    refine j_icmp_ge (tgt := 19) C dX7_isPerson_12 (by decide) (fun c12 => ?_) (fun c12 => ?_)
    · refine j_iconst (v := nI 0) C dX7_isPerson_19 (by decide) ?_
      exact j_zret C E dX7_isPerson_20 rfl () trivial (by first | exact ret_y (isP_y (by omega) c1 c12) | exact ret_n (isP_1 c1) | exact ret_n (isP_2 (by omega) c12)) rfl
    · refine j_iconst (v := nI 1) C dX7_isPerson_15 (by decide) ?_
      refine j_goto (tgt := 20) C dX7_isPerson_16 (by decide) ?_
      exact j_zret C E dX7_isPerson_20 rfl () trivial (by first | exact ret_y (isP_y (by omega) c1 c12) | exact ret_n (isP_1 c1) | exact ret_n (isP_2 (by omega) c12)) rfl
set_option maxHeartbeats 4000000 in
set_option maxRecDepth 20000 in
theorem c_X7_isSheet {l : Launch} {D : va_G} {cy : Nat → ClassId} (x : Int32)  : Ct l yX7_isSheet wsX7_isSheet ({ frames := 0, cells := 0, slots := 0, locals := 0 }) D cy [.int x] (([] : va_W) ) (fun _ : Unit => True) (fun _ => some (.int (nI (bN ((pOf 4 x).isSome = true))))) (fun _ => []) := by
  refine Ct.of (cc := cX7_isSheet) (nL := 1) (ret := (some .boolean)) rfl (by decide) ⟨rfl, rfl⟩ (Nat.le_of_ble_eq_true rfl) ?_
  intro X C E
  have C : Cx X l D cy cX7_isSheet 1 wsX7_isSheet RX7 ({ frames := 0, cells := 0, slots := 0, locals := 0 }) := C
  show J X (([] : va_W) ) 0 [(0, .int x)] []
  refine j_iload_n C 0 dX7_isSheet_0 rfl rfl ?_
  refine j_if_lt (tgt := 13) C dX7_isSheet_1 (by decide) (fun c1 => ?_) (fun c1 => ?_)
  · refine j_iconst (v := nI 0) C dX7_isSheet_13 (by decide) ?_
    exact j_zret C E dX7_isSheet_14 rfl () trivial (by first | exact ret_y (isP_y (by decide) c1 c6) | exact ret_n (isP_1 c1) | exact ret_n (isP_2 (by decide) c6)) rfl
  · refine j_iload_n C 0 dX7_isSheet_4 rfl rfl ?_
    refine j_iconst (v := nI 4) C dX7_isSheet_5 (by decide) ?_
    refine j_icmp_ge (tgt := 13) C dX7_isSheet_6 (by decide) (fun c6 => ?_) (fun c6 => ?_)
    · refine j_iconst (v := nI 0) C dX7_isSheet_13 (by decide) ?_
      exact j_zret C E dX7_isSheet_14 rfl () trivial (by first | exact ret_y (isP_y (by decide) c1 c6) | exact ret_n (isP_1 c1) | exact ret_n (isP_2 (by decide) c6)) rfl
    · refine j_iconst (v := nI 1) C dX7_isSheet_9 (by decide) ?_
      refine j_goto (tgt := 14) C dX7_isSheet_10 (by decide) ?_
      exact j_zret C E dX7_isSheet_14 rfl () trivial (by first | exact ret_y (isP_y (by decide) c1 c6) | exact ret_n (isP_1 c1) | exact ret_n (isP_2 (by decide) c6)) rfl
set_option maxHeartbeats 4000000 in
set_option maxRecDepth 20000 in
theorem c_X7_isWithin {l : Launch} {D : va_G} {cy : Nat → ClassId} (x : Int32) (m : Nat) (hm : m < 2 ^ 30) : Ct l yX7_isWithin wsX7_isWithin ({ frames := 0, cells := 0, slots := 0, locals := 0 }) D cy [.int x, .int (nI m)] (([] : va_W) ) (fun _ : Unit => True) (fun _ => some (.int (nI (bN ((pOf (m + 1) x).isSome = true))))) (fun _ => []) := by
  refine Ct.of (cc := cX7_isWithin) (nL := 2) (ret := (some .boolean)) rfl (by decide) ⟨rfl, rfl⟩ (Nat.le_of_ble_eq_true rfl) ?_
  intro X C E
  have C : Cx X l D cy cX7_isWithin 2 wsX7_isWithin RX7 ({ frames := 0, cells := 0, slots := 0, locals := 0 }) := C
  show J X (([] : va_W) ) 0 [(0, .int x), (1, .int (nI m))] []
  refine j_iload_n C 0 dX7_isWithin_0 rfl rfl ?_
  refine j_if_lt (tgt := 13) C dX7_isWithin_1 (by decide) (fun c1 => ?_) (fun c1 => ?_)
  · refine j_iconst (v := nI 0) C dX7_isWithin_13 (by decide) ?_
    exact j_zret C E dX7_isWithin_14 rfl () trivial (by first | exact ret_y (isW_y hm c1 c6) | exact ret_n (isP_1 c1) | exact ret_n (isW_2 hm c6)) rfl
  · refine j_iload_n C 0 dX7_isWithin_4 rfl rfl ?_
    refine j_iload_n C 1 dX7_isWithin_5 rfl rfl ?_
    refine j_icmp_gt (tgt := 13) C dX7_isWithin_6 (by decide) (fun c6 => ?_) (fun c6 => ?_)
    · refine j_iconst (v := nI 0) C dX7_isWithin_13 (by decide) ?_
      exact j_zret C E dX7_isWithin_14 rfl () trivial (by first | exact ret_y (isW_y hm c1 c6) | exact ret_n (isP_1 c1) | exact ret_n (isW_2 hm c6)) rfl
    · refine j_iconst (v := nI 1) C dX7_isWithin_9 (by decide) ?_
      refine j_goto (tgt := 14) C dX7_isWithin_10 (by decide) ?_
      exact j_zret C E dX7_isWithin_14 rfl () trivial (by first | exact ret_y (isW_y hm c1 c6) | exact ret_n (isP_1 c1) | exact ret_n (isW_2 hm c6)) rfl
set_option maxHeartbeats 4000000 in
set_option maxRecDepth 20000 in
theorem c_X7_hasTown {l : Launch} {D : va_G} {cy : Nat → ClassId} (A : Nat → Nat → Nat) (fl : Int32) (dT tT : TwS) (N B : Nat) (kf : Nat → Int32) (pf : Nat → Nat → Int32) (lf tf : Nat → Int32) (c : Nat) (df mf gf : Nat → Int32) (tv : Int32) (ln la : Nat → Int32) (cf : Nat → Nat → Int32) (hN : N ≤ 6) : Ct l yX7_hasTown wsX7_hasTown ({ frames := 0, cells := 0, slots := 0, locals := 0 }) D cy [.ref (A 3 0)] (wX A cy fl dT (nI N, nI B, kf, pf, lf, tf) tT (nI c) df mf gf tv ln la cf) (fun _ : Unit => True) (fun _ => some (.int (nI (bN (¬ N = 0))))) (fun _ => wX A cy fl dT (nI N, nI B, kf, pf, lf, tf) tT (nI c) df mf gf tv ln la cf) := by
  refine Ct.of (cc := cX7_hasTown) (nL := 1) (ret := (some .boolean)) rfl (by decide) ⟨rfl, rfl⟩ (Nat.le_of_ble_eq_true rfl) ?_
  intro X C E
  have C : Cx X l D cy cX7_hasTown 1 wsX7_hasTown RX7 ({ frames := 0, cells := 0, slots := 0, locals := 0 }) := C
  have mh0 : ∀ w ∈ u_ws RX7 TX7 7, w ∈ wsX7_hasTown := by decide +kernel
  have mh1 : Cond.fieldLink RX7 12 RX7 (TX7 0).2.1 (TX7 0).2.2.1 ∈ wsX7_hasTown := by decide +kernel
  have mh2 : ∀ w ∈ u_ws RX5 TX5 7, w ∈ wsX7_hasTown := by decide +kernel
  show J X (wX A cy fl dT (nI N, nI B, kf, pf, lf, tf) tT (nI c) df mf gf tv ln la cf) 0 [(0, .ref (A 3 0))] []
  refine j_aload_n C 0 dX7_hasTown_0 rfl rfl ?_
  refine j_get C mh0 0 mh1 0 rfl rfl (by decide) rfl rfl dX7_hasTown_1 ?_
  refine j_getN C mh2 5 (by decide +kernel) 16 rfl rfl (by decide) rfl rfl dX7_hasTown_4 ?_
  refine j_if_leN (tgt := 14) C dX7_hasTown_7 (by decide) (by omega) (fun c7 => ?_) (fun c7 => ?_)
  · refine j_iconst (v := nI 0) C dX7_hasTown_14 (by decide) ?_
    exact j_zret C E dX7_hasTown_15 rfl () trivial (by first | exact ret_y (by omega) | exact ret_n (by omega)) rfl
  · refine j_iconst (v := nI 1) C dX7_hasTown_10 (by decide) ?_
    refine j_goto (tgt := 15) C dX7_hasTown_11 (by decide) ?_
    exact j_zret C E dX7_hasTown_15 rfl () trivial (by first | exact ret_y (by omega) | exact ret_n (by omega)) rfl
set_option maxHeartbeats 4000000 in
set_option maxRecDepth 20000 in
theorem c_X7_faulted {l : Launch} {D : va_G} {cy : Nat → ClassId} (A : Nat → Nat → Nat) (fl : Int32) (dT tT : TwS) (N B : Nat) (kf : Nat → Int32) (pf : Nat → Nat → Int32) (lf tf : Nat → Int32) (c : Nat) (df mf gf : Nat → Int32) (tv : Int32) (ln la : Nat → Int32) (cf : Nat → Nat → Int32) (f : Nat)  : Ct l yX7_faulted wsX7_faulted ({ frames := 0, cells := 0, slots := 0, locals := 0 }) D cy [.ref (A 3 0), .int (nI f)] (wX A cy fl dT (nI N, nI B, kf, pf, lf, tf) tT (nI c) df mf gf tv ln la cf) (fun _ : Unit => True) (fun _ => some (.int ((-10) - nI f))) (fun _ => wX A cy (nI f) dT (nI N, nI B, kf, pf, lf, tf) tT (nI c) df mf gf tv ln la cf) := by
  refine Ct.of (cc := cX7_faulted) (nL := 2) (ret := (some .int)) rfl (by decide) ⟨rfl, rfl⟩ (Nat.le_of_ble_eq_true rfl) ?_
  intro X C E
  have C : Cx X l D cy cX7_faulted 2 wsX7_faulted RX7 ({ frames := 0, cells := 0, slots := 0, locals := 0 }) := C
  have mh0 : ∀ w ∈ u_ws RX7 TX7 7, w ∈ wsX7_faulted := by decide +kernel
  have mh1 : Cond.fieldLink RX7 45 RX7 (TX7 6).2.1 (TX7 6).2.2.1 ∈ wsX7_faulted := by decide +kernel
  show J X (wX A cy fl dT (nI N, nI B, kf, pf, lf, tf) tT (nI c) df mf gf tv ln la cf) 0 [(0, .ref (A 3 0)), (1, .int (nI f))] []
  refine j_aload_n C 0 dX7_faulted_0 rfl rfl ?_
  refine j_iload_n C 1 dX7_faulted_1 rfl rfl ?_
  refine j_put (ws' := wX A cy (nI f) dT (nI N, nI B, kf, pf, lf, tf) tT (nI c) df mf gf tv ln la cf) C mh0 6 mh1 tyX7 tyX7_ok nmX7 0 rfl rfl (by decide) rfl rfl (by decide +kernel) (Nat.le_of_ble_eq_true rfl) rfl dX7_faulted_2 ?_
  refine j_bipush (v := (-10)) C dX7_faulted_5 (by decide) ?_
  refine j_iload_n C 1 dX7_faulted_7 rfl rfl ?_
  refine j_isub (v := ((-10)) - (nI f)) C dX7_faulted_8 rfl ?_
  exact j_iret C E dX7_faulted_9 () trivial rfl rfl
