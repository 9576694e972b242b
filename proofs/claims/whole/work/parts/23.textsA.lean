set_option maxHeartbeats 4000000 in
set_option maxRecDepth 20000 in
theorem c_X5_textLength {l : Launch} {D : va_G} {cy : Nat → ClassId} (a : Nat → Nat) (vB : Int32) (kf : Nat → Int32) (pf : Nat → Nat → Int32) (lf tf : Nat → Int32) (N : Nat)  : Ct l yX5_textLength wsX5_textLength ({ frames := 0, cells := 0, slots := 0, locals := 0 }) D cy [.ref (a 0)] (wT a cy (nI N) vB kf pf lf tf) (fun _ : Unit => True) (fun _ => some (.int (nI (tl N)))) (fun _ => wT a cy (nI N) vB kf pf lf tf) := by
  refine Ct.of (cc := cX5_textLength) (nL := 1) (ret := (some .int)) rfl (by decide) ⟨rfl, rfl⟩ (Nat.le_of_ble_eq_true rfl) ?_
  intro X C E
  have C : Cx X l D cy cX5_textLength 1 wsX5_textLength RX5 ({ frames := 0, cells := 0, slots := 0, locals := 0 }) := C
  have mh0 : ∀ w ∈ u_ws RX5 TX5 7, w ∈ wsX5_textLength := by decide +kernel
  have mh1 : Cond.fieldLink RX5 40 RX5 (TX5 5).2.1 (TX5 5).2.2.1 ∈ wsX5_textLength := by decide +kernel
  show J X (wT a cy (nI N) vB kf pf lf tf) 0 [(0, .ref (a 0))] []
  refine j_iconst (v := nI 3) C dX5_textLength_0 (by decide) ?_
  refine j_aload_n C 0 dX5_textLength_1 rfl rfl ?_
  refine j_get C mh0 5 mh1 0 rfl rfl (by decide) rfl rfl dX5_textLength_2 ?_
  refine j_aload_n C 0 dX5_textLength_5 rfl rfl ?_
  refine j_get C mh0 5 mh1 0 rfl rfl (by decide) rfl rfl dX5_textLength_6 ?_
  refine j_iconst (v := nI 2) C dX5_textLength_9 (by decide) ?_
  refine j_iadd (v := nI (N + 2)) C dX5_textLength_10 (nI_add _ _) ?_
  refine j_imul (v := nI (N * (N + 2))) C dX5_textLength_11 (pk_mul _ _) ?_
  refine j_iadd (v := nI (3 + (N * (N + 2)))) C dX5_textLength_12 (nI_add _ _) ?_
  exact j_iret C E dX5_textLength_13 () trivial rfl rfl
set_option maxHeartbeats 4000000 in
set_option maxRecDepth 20000 in
theorem c_X5_takesPeople {l : Launch} {D : va_G} {cy : Nat → ClassId} (a : Nat → Nat) (vN vB : Int32) (kf : Nat → Int32) (pf : Nat → Nat → Int32) (lf tf : Nat → Int32) (d : Int32)  : Ct l yX5_takesPeople wsX5_takesPeople ({ frames := 0, cells := 0, slots := 0, locals := 0 }) D cy [.ref (a 0), .int d] (wT a cy vN vB kf pf lf tf) (fun _ : Unit => True) (fun _ => some (.int (nI (bN (¬ d < nI 2 ∧ d ≤ nI 6))))) (fun _ => wT a cy (if (¬ d < nI 2 ∧ d ≤ nI 6) then d else vN) vB kf pf lf tf) := by
  refine Ct.of (cc := cX5_takesPeople) (nL := 2) (ret := (some .boolean)) rfl (by decide) ⟨rfl, rfl⟩ (Nat.le_of_ble_eq_true rfl) ?_
  intro X C E
  have C : Cx X l D cy cX5_takesPeople 2 wsX5_takesPeople RX5 ({ frames := 0, cells := 0, slots := 0, locals := 0 }) := C
  have mh0 : ∀ w ∈ u_ws RX5 TX5 7, w ∈ wsX5_takesPeople := by decide +kernel
  have mh1 : Cond.fieldLink RX5 40 RX5 (TX5 5).2.1 (TX5 5).2.2.1 ∈ wsX5_takesPeople := by decide +kernel
  show J X (wT a cy vN vB kf pf lf tf) 0 [(0, .ref (a 0)), (1, .int d)] []
  refine j_iload_n C 1 dX5_takesPeople_0 rfl rfl ?_
  refine j_iconst (v := nI 2) C dX5_takesPeople_1 (by decide) ?_
  refine j_icmp_lt (tgt := 11) C dX5_takesPeople_2 (by decide) (fun c2 => ?_) (fun c2 => ?_)
  · refine j_iconst (v := nI 0) C dX5_takesPeople_11 (by decide) ?_
    exact j_zret C E dX5_takesPeople_12 rfl () trivial (by first | exact ret_n (fun z => z.1 c2) | exact ret_n (fun z => c8 z.2)) (by first | rw [if_neg (show ¬ (¬ d < nI 2 ∧ d ≤ nI 6) from fun z => z.1 c2)] | rw [if_neg (show ¬ (¬ d < nI 2 ∧ d ≤ nI 6) from fun z => c8 z.2)])
  · refine j_iload_n C 1 dX5_takesPeople_5 rfl rfl ?_
    refine j_bipush (v := nI 6) C dX5_takesPeople_6 (by decide) ?_
    refine j_icmp_le (tgt := 13) C dX5_takesPeople_8 (by decide) (fun c8 => ?_) (fun c8 => ?_)
    · refine j_aload_n C 0 dX5_takesPeople_13 rfl rfl ?_
      refine j_iload_n C 1 dX5_takesPeople_14 rfl rfl ?_
      refine j_put (ws' := wT a cy d vB kf pf lf tf) C mh0 5 mh1 tyX5 tyX5_ok nmX5 0 rfl rfl (by decide) rfl rfl (by decide +kernel) (Nat.le_of_ble_eq_true rfl) rfl dX5_takesPeople_15 ?_
      refine j_iconst (v := nI 1) C dX5_takesPeople_18 (by decide) ?_
      exact j_zret C E dX5_takesPeople_19 rfl () trivial (ret_y ⟨c2, c8⟩) (by rw [if_pos ⟨c2, c8⟩])
    · refine j_iconst (v := nI 0) C dX5_takesPeople_11 (by decide) ?_
      exact j_zret C E dX5_takesPeople_12 rfl () trivial (by first | exact ret_n (fun z => z.1 c2) | exact ret_n (fun z => c8 z.2)) (by first | rw [if_neg (show ¬ (¬ d < nI 2 ∧ d ≤ nI 6) from fun z => z.1 c2)] | rw [if_neg (show ¬ (¬ d < nI 2 ∧ d ≤ nI 6) from fun z => c8 z.2)])
set_option maxHeartbeats 4000000 in
set_option maxRecDepth 20000 in
theorem c_X5_takesBell {l : Launch} {D : va_G} {cy : Nat → ClassId} (a : Nat → Nat) (vN vB : Int32) (kf : Nat → Int32) (pf : Nat → Nat → Int32) (lf tf : Nat → Int32) (d : Int32)  : Ct l yX5_takesBell wsX5_takesBell ({ frames := 0, cells := 0, slots := 0, locals := 0 }) D cy [.ref (a 0), .int d] (wT a cy vN vB kf pf lf tf) (fun _ : Unit => True) (fun _ => some (.int (nI (bN (¬ d < nI 0 ∧ d ≤ nI 9))))) (fun _ => wT a cy vN (if (¬ d < nI 0 ∧ d ≤ nI 9) then d else vB) kf pf lf tf) := by
  refine Ct.of (cc := cX5_takesBell) (nL := 2) (ret := (some .boolean)) rfl (by decide) ⟨rfl, rfl⟩ (Nat.le_of_ble_eq_true rfl) ?_
  intro X C E
  have C : Cx X l D cy cX5_takesBell 2 wsX5_takesBell RX5 ({ frames := 0, cells := 0, slots := 0, locals := 0 }) := C
  have mh0 : ∀ w ∈ u_ws RX5 TX5 7, w ∈ wsX5_takesBell := by decide +kernel
  have mh1 : Cond.fieldLink RX5 44 RX5 (TX5 6).2.1 (TX5 6).2.2.1 ∈ wsX5_takesBell := by decide +kernel
  show J X (wT a cy vN vB kf pf lf tf) 0 [(0, .ref (a 0)), (1, .int d)] []
  refine j_iload_n C 1 dX5_takesBell_0 rfl rfl ?_
  refine j_if_lt (tgt := 10) C dX5_takesBell_1 (by decide) (fun c1 => ?_) (fun c1 => ?_)
  · refine j_iconst (v := nI 0) C dX5_takesBell_10 (by decide) ?_
    exact j_zret C E dX5_takesBell_11 rfl () trivial (by first | exact ret_n (fun z => z.1 c1) | exact ret_n (fun z => c7 z.2)) (by first | rw [if_neg (show ¬ (¬ d < nI 0 ∧ d ≤ nI 9) from fun z => z.1 c1)] | rw [if_neg (show ¬ (¬ d < nI 0 ∧ d ≤ nI 9) from fun z => c7 z.2)])
  · refine j_iload_n C 1 dX5_takesBell_4 rfl rfl ?_
    refine j_bipush (v := nI 9) C dX5_takesBell_5 (by decide) ?_
    refine j_icmp_le (tgt := 12) C dX5_takesBell_7 (by decide) (fun c7 => ?_) (fun c7 => ?_)
    · refine j_aload_n C 0 dX5_takesBell_12 rfl rfl ?_
      refine j_iload_n C 1 dX5_takesBell_13 rfl rfl ?_
      refine j_put (ws' := wT a cy vN d kf pf lf tf) C mh0 6 mh1 tyX5 tyX5_ok nmX5 0 rfl rfl (by decide) rfl rfl (by decide +kernel) (Nat.le_of_ble_eq_true rfl) rfl dX5_takesBell_14 ?_
      refine j_iconst (v := nI 1) C dX5_takesBell_17 (by decide) ?_
      exact j_zret C E dX5_takesBell_18 rfl () trivial (ret_y ⟨c1, c7⟩) (by rw [if_pos (show (¬ d < nI 0 ∧ d ≤ nI 9) from ⟨c1, c7⟩)])
    · refine j_iconst (v := nI 0) C dX5_takesBell_10 (by decide) ?_
      exact j_zret C E dX5_takesBell_11 rfl () trivial (by first | exact ret_n (fun z => z.1 c1) | exact ret_n (fun z => c7 z.2)) (by first | rw [if_neg (show ¬ (¬ d < nI 0 ∧ d ≤ nI 9) from fun z => z.1 c1)] | rw [if_neg (show ¬ (¬ d < nI 0 ∧ d ≤ nI 9) from fun z => c7 z.2)])
set_option maxHeartbeats 4000000 in
set_option maxRecDepth 20000 in
theorem c_X5_takesKind {l : Launch} {D : va_G} {cy : Nat → ClassId} (a : Nat → Nat) (vN vB : Int32) (kf : Nat → Int32) (pf : Nat → Nat → Int32) (lf tf : Nat → Int32) (x : Nat) (d : Int32) (hx : x < 6) : Ct l yX5_takesKind wsX5_takesKind ({ frames := 0, cells := 0, slots := 0, locals := 0 }) D cy [.ref (a 0), .int (nI x), .int d] (wT a cy vN vB kf pf lf tf) (fun _ : Unit => True) (fun _ => some (.int (nI (bN (d = nI 112 ∨ d = nI 114 ∨ d = nI 98))))) (fun _ => wT a cy vN vB (if (d = nI 112 ∨ d = nI 114 ∨ d = nI 98) then upd kf x (nI (kd d)) else kf) pf lf tf) := by
  refine Ct.of (cc := cX5_takesKind) (nL := 4) (ret := (some .boolean)) rfl (by decide) ⟨rfl, rfl⟩ (Nat.le_of_ble_eq_true rfl) ?_
  intro X C E
  have C : Cx X l D cy cX5_takesKind 4 wsX5_takesKind RX5 ({ frames := 0, cells := 0, slots := 0, locals := 0 }) := C
  have mh0 : ∀ w ∈ u_ws RX5 TX5 7, w ∈ wsX5_takesKind := by decide +kernel
  have mh1 : Cond.fieldLink RX5 24 RX5 (TX5 1).2.1 (TX5 1).2.2.1 ∈ wsX5_takesKind := by decide +kernel
  show J X (wT a cy vN vB kf pf lf tf) 0 [(0, .ref (a 0)), (1, .int (nI x)), (2, .int d)] []
  refine j_iload_n C 2 dX5_takesKind_0 rfl rfl ?_
  refine j_bipush (v := nI 112) C dX5_takesKind_1 (by decide) ?_
  refine j_icmp_ne (tgt := 10) C dX5_takesKind_3 (by decide) (fun c3 => ?_) (fun c3 => ?_)
  · refine j_iload_n C 2 dX5_takesKind_10 rfl rfl ?_
    refine j_bipush (v := nI 114) C dX5_takesKind_11 (by decide) ?_
    refine j_icmp_ne (tgt := 20) C dX5_takesKind_13 (by decide) (fun c13 => ?_) (fun c13 => ?_)
    · refine j_iload_n C 2 dX5_takesKind_20 rfl rfl ?_
      refine j_bipush (v := nI 98) C dX5_takesKind_21 (by decide) ?_
      refine j_icmp_ne (tgt := 30) C dX5_takesKind_23 (by decide) (fun c23 => ?_) (fun c23 => ?_)
      · refine j_bipush (v := (-9)) C dX5_takesKind_30 (by decide) ?_
        refine j_istore_n (lv' := [(3, .int ((-9))), (0, .ref (a 0)), (1, .int (nI x)), (2, .int d)]) C dX5_takesKind_32 rfl (by decide) rfl ?_
        refine j_iload_n C 0 dX5_takesKind_33 rfl rfl ?_
        refine j_bipush (v := (-9)) C dX5_takesKind_34 (by decide) ?_
        refine j_icmp_ne (tgt := 41) C dX5_takesKind_36 (by decide) (fun c36 => ?_) (fun c36 => ?_)
        · refine j_aload_n C 1 dX5_takesKind_41 rfl rfl ?_
          refine j_get C mh0 1 mh1 0 rfl rfl (by decide) rfl rfl dX5_takesKind_42 ?_
          refine j_iload_n C 2 dX5_takesKind_45 rfl rfl ?_
          refine j_iload_n C 0 dX5_takesKind_46 rfl rfl ?_
          refine j_iast (ws' := wT a cy vN vB (upd kf x ((-9))) pf lf tf) C 2 rfl (by omega) (by decide) rfl dX5_takesKind_47 ?_
          refine j_iconst (v := nI 1) C dX5_takesKind_48 (by decide) ?_
          exact j_zret C E dX5_takesKind_49 rfl () trivial (by first | exact absurd rfl c36 | exact ret_y (Or.inl c3) | exact ret_y (Or.inr (Or.inl c13)) | exact ret_y (Or.inr (Or.inr c23))) (by unfold kd; first | exact absurd rfl c36 | (rw [if_pos (Or.inl c3), if_pos c3]; done) | (rw [if_pos (Or.inr (Or.inl c13)), if_neg c3, if_pos c13]; done) | (rw [if_pos (Or.inr (Or.inr c23)), if_neg c3, if_neg c13]; done))
        · refine j_iconst (v := nI 0) C dX5_takesKind_39 (by decide) ?_
          exact j_zret C E dX5_takesKind_40 rfl () trivial (by first | exact absurd c36 (by decide) | exact ret_n (fun z => z.elim c3 (fun z => z.elim c13 c23))) (by first | exact absurd c36 (by decide) | rw [if_neg (show ¬ (d = nI 112 ∨ d = nI 114 ∨ d = nI 98) from fun z => z.elim c3 (fun z => z.elim c13 c23))])
      · refine j_iconst (v := nI 2) C dX5_takesKind_26 (by decide) ?_
        refine j_goto (tgt := 32) C dX5_takesKind_27 (by decide) ?_
        refine j_istore_n (lv' := [(3, .int (nI 2)), (0, .ref (a 0)), (1, .int (nI x)), (2, .int d)]) C dX5_takesKind_32 rfl (by decide) rfl ?_
        refine j_iload_n C 0 dX5_takesKind_33 rfl rfl ?_
        refine j_bipush (v := (-9)) C dX5_takesKind_34 (by decide) ?_
        refine j_icmp_ne (tgt := 41) C dX5_takesKind_36 (by decide) (fun c36 => ?_) (fun c36 => ?_)
        · refine j_aload_n C 1 dX5_takesKind_41 rfl rfl ?_
          refine j_get C mh0 1 mh1 0 rfl rfl (by decide) rfl rfl dX5_takesKind_42 ?_
          refine j_iload_n C 2 dX5_takesKind_45 rfl rfl ?_
          refine j_iload_n C 0 dX5_takesKind_46 rfl rfl ?_
          refine j_iast (ws' := wT a cy vN vB (upd kf x (nI 2)) pf lf tf) C 2 rfl (by omega) (by decide) rfl dX5_takesKind_47 ?_
          refine j_iconst (v := nI 1) C dX5_takesKind_48 (by decide) ?_
          exact j_zret C E dX5_takesKind_49 rfl () trivial (by first | exact absurd rfl c36 | exact ret_y (Or.inl c3) | exact ret_y (Or.inr (Or.inl c13)) | exact ret_y (Or.inr (Or.inr c23))) (by unfold kd; first | exact absurd rfl c36 | (rw [if_pos (Or.inl c3), if_pos c3]; done) | (rw [if_pos (Or.inr (Or.inl c13)), if_neg c3, if_pos c13]; done) | (rw [if_pos (Or.inr (Or.inr c23)), if_neg c3, if_neg c13]; done))
        · refine j_iconst (v := nI 0) C dX5_takesKind_39 (by decide) ?_
          exact j_zret C E dX5_takesKind_40 rfl () trivial (by first | exact absurd c36 (by decide) | exact ret_n (fun z => z.elim c3 (fun z => z.elim c13 c23))) (by first | exact absurd c36 (by decide) | rw [if_neg (show ¬ (d = nI 112 ∨ d = nI 114 ∨ d = nI 98) from fun z => z.elim c3 (fun z => z.elim c13 c23))])
    · refine j_iconst (v := nI 1) C dX5_takesKind_16 (by decide) ?_
      refine j_goto (tgt := 32) C dX5_takesKind_17 (by decide) ?_
      refine j_istore_n (lv' := [(3, .int (nI 1)), (0, .ref (a 0)), (1, .int (nI x)), (2, .int d)]) C dX5_takesKind_32 rfl (by decide) rfl ?_
      refine j_iload_n C 0 dX5_takesKind_33 rfl rfl ?_
      refine j_bipush (v := (-9)) C dX5_takesKind_34 (by decide) ?_
      refine j_icmp_ne (tgt := 41) C dX5_takesKind_36 (by decide) (fun c36 => ?_) (fun c36 => ?_)
      · refine j_aload_n C 1 dX5_takesKind_41 rfl rfl ?_
        refine j_get C mh0 1 mh1 0 rfl rfl (by decide) rfl rfl dX5_takesKind_42 ?_
        refine j_iload_n C 2 dX5_takesKind_45 rfl rfl ?_
        refine j_iload_n C 0 dX5_takesKind_46 rfl rfl ?_
        refine j_iast (ws' := wT a cy vN vB (upd kf x (nI 1)) pf lf tf) C 2 rfl (by omega) (by decide) rfl dX5_takesKind_47 ?_
        refine j_iconst (v := nI 1) C dX5_takesKind_48 (by decide) ?_
        exact j_zret C E dX5_takesKind_49 rfl () trivial (by first | exact absurd rfl c36 | exact ret_y (Or.inl c3) | exact ret_y (Or.inr (Or.inl c13)) | exact ret_y (Or.inr (Or.inr c23))) (by unfold kd; first | exact absurd rfl c36 | (rw [if_pos (Or.inl c3), if_pos c3]; done) | (rw [if_pos (Or.inr (Or.inl c13)), if_neg c3, if_pos c13]; done) | (rw [if_pos (Or.inr (Or.inr c23)), if_neg c3, if_neg c13]; done))
      · refine j_iconst (v := nI 0) C dX5_takesKind_39 (by decide) ?_
        exact j_zret C E dX5_takesKind_40 rfl () trivial (by first | exact absurd c36 (by decide) | exact ret_n (fun z => z.elim c3 (fun z => z.elim c13 c23))) (by first | exact absurd c36 (by decide) | rw [if_neg (show ¬ (d = nI 112 ∨ d = nI 114 ∨ d = nI 98) from fun z => z.elim c3 (fun z => z.elim c13 c23))])
  · refine j_iconst (v := nI 0) C dX5_takesKind_6 (by decide) ?_
    refine j_goto (tgt := 32) C dX5_takesKind_7 (by decide) ?_
    refine j_istore_n (lv' := [(3, .int (nI 0)), (0, .ref (a 0)), (1, .int (nI x)), (2, .int d)]) C dX5_takesKind_32 rfl (by decide) rfl ?_
    refine j_iload_n C 0 dX5_takesKind_33 rfl rfl ?_
    refine j_bipush (v := (-9)) C dX5_takesKind_34 (by decide) ?_
    refine j_icmp_ne (tgt := 41) C dX5_takesKind_36 (by decide) (fun c36 => ?_) (fun c36 => ?_)
    · refine j_aload_n C 1 dX5_takesKind_41 rfl rfl ?_
      refine j_get C mh0 1 mh1 0 rfl rfl (by decide) rfl rfl dX5_takesKind_42 ?_
      refine j_iload_n C 2 dX5_takesKind_45 rfl rfl ?_
      refine j_iload_n C 0 dX5_takesKind_46 rfl rfl ?_
      refine j_iast (ws' := wT a cy vN vB (upd kf x (nI 0)) pf lf tf) C 2 rfl (by omega) (by decide) rfl dX5_takesKind_47 ?_
      refine j_iconst (v := nI 1) C dX5_takesKind_48 (by decide) ?_
      exact j_zret C E dX5_takesKind_49 rfl () trivial (by first | exact absurd rfl c36 | exact ret_y (Or.inl c3) | exact ret_y (Or.inr (Or.inl c13)) | exact ret_y (Or.inr (Or.inr c23))) (by unfold kd; first | exact absurd rfl c36 | (rw [if_pos (Or.inl c3), if_pos c3]; done) | (rw [if_pos (Or.inr (Or.inl c13)), if_neg c3, if_pos c13]; done) | (rw [if_pos (Or.inr (Or.inr c23)), if_neg c3, if_neg c13]; done))
    · refine j_iconst (v := nI 0) C dX5_takesKind_39 (by decide) ?_
      exact j_zret C E dX5_takesKind_40 rfl () trivial (by first | exact absurd c36 (by decide) | exact ret_n (fun z => z.elim c3 (fun z => z.elim c13 c23))) (by first | exact absurd c36 (by decide) | rw [if_neg (show ¬ (d = nI 112 ∨ d = nI 114 ∨ d = nI 98) from fun z => z.elim c3 (fun z => z.elim c13 c23))])
set_option maxHeartbeats 4000000 in
set_option maxRecDepth 20000 in
theorem c_X5_takesPence {l : Launch} {D : va_G} {cy : Nat → ClassId} (a : Nat → Nat) (vN vB : Int32) (kf : Nat → Int32) (pf : Nat → Nat → Int32) (lf tf : Nat → Int32) (x y : Nat) (d : Int32) (hx : x < 6) (hy : y < 6) : Ct l yX5_takesPence wsX5_takesPence ({ frames := 0, cells := 0, slots := 0, locals := 0 }) D cy [.ref (a 0), .int (nI x), .int (nI y), .int d] (wT a cy vN vB kf pf lf tf) (fun _ : Unit => True) (fun _ => some (.int (nI (bN (¬ d < nI 0 ∧ d ≤ nI (if x = y then 0 else 9)))))) (fun _ => wT a cy vN vB kf (if (¬ d < nI 0 ∧ d ≤ nI (if x = y then 0 else 9)) then updR pf x (upd (pf x) y d) else pf) lf tf) := by
  refine Ct.of (cc := cX5_takesPence) (nL := 5) (ret := (some .boolean)) rfl (by decide) ⟨rfl, rfl⟩ (Nat.le_of_ble_eq_true rfl) ?_
  intro X C E
  have C : Cx X l D cy cX5_takesPence 5 wsX5_takesPence RX5 ({ frames := 0, cells := 0, slots := 0, locals := 0 }) := C
  have mh0 : ∀ w ∈ u_ws RX5 TX5 7, w ∈ wsX5_takesPence := by decide +kernel
  have mh1 : Cond.fieldLink RX5 30 RX5 (TX5 2).2.1 (TX5 2).2.2.1 ∈ wsX5_takesPence := by decide +kernel
  show J X (wT a cy vN vB kf pf lf tf) 0 [(0, .ref (a 0)), (1, .int (nI x)), (2, .int (nI y)), (3, .int d)] []
  refine j_iload_n C 1 dX5_takesPence_0 rfl rfl ?_
  refine j_iload_n C 2 dX5_takesPence_1 rfl rfl ?_
  refine j_icmp_neN (tgt := 9) C dX5_takesPence_2 (by decide) (by omega) (by omega) (fun c2 => ?_) (fun c2 => ?_)
  · rw [if_neg c2] at E
    refine j_bipush (v := nI 9) C dX5_takesPence_9 (by decide) ?_
    refine j_istore (lv' := [(4, .int (nI 9)), (0, .ref (a 0)), (1, .int (nI x)), (2, .int (nI y)), (3, .int d)]) C dX5_takesPence_11 (by decide) rfl ?_
    refine j_iload_n C 4 dX5_takesPence_13 rfl rfl ?_
    refine j_if_lt (tgt := 23) C dX5_takesPence_14 (by decide) (fun c14 => ?_) (fun c14 => ?_)
    · refine j_iconst (v := nI 0) C dX5_takesPence_23 (by decide) ?_
      exact j_zret C E dX5_takesPence_24 rfl () trivial (by first | exact ret_n (fun z => z.1 c14) | exact ret_n (fun z => c20 z.2)) (by first | rw [if_neg (show ¬ (¬ d < nI 0 ∧ d ≤ nI 0) from fun z => z.1 c14)] | rw [if_neg (show ¬ (¬ d < nI 0 ∧ d ≤ nI 0) from fun z => c20 z.2)] | rw [if_neg (show ¬ (¬ d < nI 0 ∧ d ≤ nI 9) from fun z => z.1 c14)] | rw [if_neg (show ¬ (¬ d < nI 0 ∧ d ≤ nI 9) from fun z => c20 z.2)])
    · refine j_iload_n C 4 dX5_takesPence_17 rfl rfl ?_
      refine j_iload C 0 dX5_takesPence_18 rfl ?_
      refine j_icmp_le (tgt := 25) C dX5_takesPence_20 (by decide) (fun c20 => ?_) (fun c20 => ?_)
      · refine j_aload_n C 1 dX5_takesPence_25 rfl rfl ?_
        refine j_get C mh0 2 mh1 0 rfl rfl (by decide) rfl rfl dX5_takesPence_26 ?_
        refine j_iload_n C 2 dX5_takesPence_29 rfl rfl ?_
        refine j_gald (b := a (9 + x)) C 3 rfl (by omega) (by decide) (wT_out (by omega)) dX5_takesPence_30 ?_
        refine j_iload_n C 3 dX5_takesPence_31 rfl rfl ?_
        refine j_iload_n C 4 dX5_takesPence_32 rfl rfl ?_
        refine j_iast (ws' := wT a cy vN vB kf (updR pf x (upd (pf x) y (d))) lf tf) C (9 + x) (wT_row (by omega)) (by omega) (by decide) (wT_set (by omega)) dX5_takesPence_33 ?_
        refine j_iconst (v := nI 1) C dX5_takesPence_34 (by decide) ?_
        exact j_zret C E dX5_takesPence_35 rfl () trivial (ret_y ⟨c14, c20⟩) (by first | rw [if_pos (show (¬ d < nI 0 ∧ d ≤ nI 0) from ⟨c14, c20⟩)] | rw [if_pos (show (¬ d < nI 0 ∧ d ≤ nI 9) from ⟨c14, c20⟩)])
      · refine j_iconst (v := nI 0) C dX5_takesPence_23 (by decide) ?_
        exact j_zret C E dX5_takesPence_24 rfl () trivial (by first | exact ret_n (fun z => z.1 c14) | exact ret_n (fun z => c20 z.2)) (by first | rw [if_neg (show ¬ (¬ d < nI 0 ∧ d ≤ nI 0) from fun z => z.1 c14)] | rw [if_neg (show ¬ (¬ d < nI 0 ∧ d ≤ nI 0) from fun z => c20 z.2)] | rw [if_neg (show ¬ (¬ d < nI 0 ∧ d ≤ nI 9) from fun z => z.1 c14)] | rw [if_neg (show ¬ (¬ d < nI 0 ∧ d ≤ nI 9) from fun z => c20 z.2)])
  · rw [if_pos c2] at E
    refine j_iconst (v := nI 0) C dX5_takesPence_5 (by decide) ?_
    refine j_goto (tgt := 11) C dX5_takesPence_6 (by decide) ?_
    refine j_istore (lv' := [(4, .int (nI 0)), (0, .ref (a 0)), (1, .int (nI x)), (2, .int (nI y)), (3, .int d)]) C dX5_takesPence_11 (by decide) rfl ?_
    refine j_iload_n C 4 dX5_takesPence_13 rfl rfl ?_
    refine j_if_lt (tgt := 23) C dX5_takesPence_14 (by decide) (fun c14 => ?_) (fun c14 => ?_)
    · refine j_iconst (v := nI 0) C dX5_takesPence_23 (by decide) ?_
      exact j_zret C E dX5_takesPence_24 rfl () trivial (by first | exact ret_n (fun z => z.1 c14) | exact ret_n (fun z => c20 z.2)) (by first | rw [if_neg (show ¬ (¬ d < nI 0 ∧ d ≤ nI 0) from fun z => z.1 c14)] | rw [if_neg (show ¬ (¬ d < nI 0 ∧ d ≤ nI 0) from fun z => c20 z.2)] | rw [if_neg (show ¬ (¬ d < nI 0 ∧ d ≤ nI 9) from fun z => z.1 c14)] | rw [if_neg (show ¬ (¬ d < nI 0 ∧ d ≤ nI 9) from fun z => c20 z.2)])
    · refine j_iload_n C 4 dX5_takesPence_17 rfl rfl ?_
      refine j_iload C 0 dX5_takesPence_18 rfl ?_
      refine j_icmp_le (tgt := 25) C dX5_takesPence_20 (by decide) (fun c20 => ?_) (fun c20 => ?_)
      · refine j_aload_n C 1 dX5_takesPence_25 rfl rfl ?_
        refine j_get C mh0 2 mh1 0 rfl rfl (by decide) rfl rfl dX5_takesPence_26 ?_
        refine j_iload_n C 2 dX5_takesPence_29 rfl rfl ?_
        refine j_gald (b := a (9 + x)) C 3 rfl (by omega) (by decide) (wT_out (by omega)) dX5_takesPence_30 ?_
        refine j_iload_n C 3 dX5_takesPence_31 rfl rfl ?_
        refine j_iload_n C 4 dX5_takesPence_32 rfl rfl ?_
        refine j_iast (ws' := wT a cy vN vB kf (updR pf x (upd (pf x) y (d))) lf tf) C (9 + x) (wT_row (by omega)) (by omega) (by decide) (wT_set (by omega)) dX5_takesPence_33 ?_
        refine j_iconst (v := nI 1) C dX5_takesPence_34 (by decide) ?_
        exact j_zret C E dX5_takesPence_35 rfl () trivial (ret_y ⟨c14, c20⟩) (by first | rw [if_pos (show (¬ d < nI 0 ∧ d ≤ nI 0) from ⟨c14, c20⟩)] | rw [if_pos (show (¬ d < nI 0 ∧ d ≤ nI 9) from ⟨c14, c20⟩)])
      · refine j_iconst (v := nI 0) C dX5_takesPence_23 (by decide) ?_
        exact j_zret C E dX5_takesPence_24 rfl () trivial (by first | exact ret_n (fun z => z.1 c14) | exact ret_n (fun z => c20 z.2)) (by first | rw [if_neg (show ¬ (¬ d < nI 0 ∧ d ≤ nI 0) from fun z => z.1 c14)] | rw [if_neg (show ¬ (¬ d < nI 0 ∧ d ≤ nI 0) from fun z => c20 z.2)] | rw [if_neg (show ¬ (¬ d < nI 0 ∧ d ≤ nI 9) from fun z => z.1 c14)] | rw [if_neg (show ¬ (¬ d < nI 0 ∧ d ≤ nI 9) from fun z => c20 z.2)])
