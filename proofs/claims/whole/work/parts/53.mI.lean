set_option maxHeartbeats 4000000 in
set_option maxRecDepth 20000 in
theorem c_X8_digit {l : Launch} {D : va_G} {cy : Nat → ClassId} (mm : Nat → Nat) (fl tv : Int32) (so sg ce : Nat → Int32) (N B : Nat) (kf pf : Nat → Int32) (vat vrm vrb : Int32) (rk rp lf tf kp : Nat → Int32) (c : Nat) (df mf gf : Nat → Int32) (t en lo hi : Nat) (hva : vat = nI t) (hen : en ≤ 240) (ht : t ≤ en) (hlo : lo ≤ 9) (hhi : hi ≤ 9) : Ct l yX8_digit wsX8_digit ({ frames := 1, cells := 0, slots := 0, locals := 22 }) D cy [.ref (mm 0), .int (nI en), .int (nI lo), .int (nI hi)] (wM mm cy fl tv so sg ce (nI N) (nI B) kf pf vat vrm vrb rk rp lf tf kp (nI c) df mf gf) (fun _ : Unit => True) (fun _ => some (.int (if t < en ∧ dgt lo hi (ce t) = true then nI (dv (ce t)) else -9))) (fun _ => wM mm cy fl tv so sg ce (nI N) (nI B) kf pf (if t < en ∧ dgt lo hi (ce t) = true then nI (t + 1) else nI t) vrm vrb rk rp lf tf kp (nI c) df mf gf) := by
  refine Ct.of (cc := cX8_digit) (nL := 4) (ret := (some .int)) rfl (by decide) ⟨rfl, rfl⟩ (Nat.le_of_ble_eq_true rfl) ?_
  intro X C E
  have C : Cx X l D cy cX8_digit 4 wsX8_digit RX8 ({ frames := 1, cells := 0, slots := 0, locals := 22 }) := C
  have mh0 : ∀ w ∈ u_ws RX8 TX8 21, w ∈ wsX8_digit := by decide +kernel
  have mh1 : Cond.fieldLink RX8 67 RX8 (TX8 9).2.1 (TX8 9).2.2.1 ∈ wsX8_digit := by decide +kernel
  have mh2 : Cond.fieldLink RX8 16 RX8 (TX8 4).2.1 (TX8 4).2.2.1 ∈ wsX8_digit := by decide +kernel
  subst hva
  show J X (wM mm cy fl tv so sg ce (nI N) (nI B) kf pf (nI t) vrm vrb rk rp lf tf kp (nI c) df mf gf) 0 [(0, .ref (mm 0)), (1, .int (nI en)), (2, .int (nI lo)), (3, .int (nI hi))] []
  refine j_aload_n C 0 dX8_digit_0 rfl rfl ?_
  refine j_get C mh0 9 mh1 0 rfl rfl (by decide) rfl rfl dX8_digit_1 ?_
  refine j_iload_n C 1 dX8_digit_4 rfl rfl ?_
  refine j_icmp_geN (tgt := 31) C dX8_digit_5 (by decide) (by omega) (by omega) (fun c5 => ?_) (fun c5 => ?_)
  · refine j_bipush (v := (-9)) C dX8_digit_31 (by decide) ?_
    exact j_iret C E dX8_digit_33 () trivial (by first | rw [if_neg (show ¬ (t < en ∧ dgt lo hi (ce t) = true) from fun z => by omega)] | rw [if_neg (show ¬ (t < en ∧ dgt lo hi (ce t) = true) from fun z => c28 ((dg_mod hlo hhi).mpr z.2))]) (by first | rw [if_neg (show ¬ (t < en ∧ dgt lo hi (ce t) = true) from fun z => by omega)] | rw [if_neg (show ¬ (t < en ∧ dgt lo hi (ce t) = true) from fun z => c28 ((dg_mod hlo hhi).mpr z.2))])
  · refine j_aload_n C 0 dX8_digit_8 rfl rfl ?_
    refine j_get C mh0 4 mh2 0 rfl rfl (by decide) rfl rfl dX8_digit_9 ?_
    refine j_aload_n C 0 dX8_digit_12 rfl rfl ?_
    refine j_get C mh0 9 mh1 0 rfl rfl (by decide) rfl rfl dX8_digit_13 ?_
    refine j_iald (v := ce t) C 3 rfl (by omega) (by decide) rfl dX8_digit_16 ?_
    refine j_bipush (v := nI 48) C dX8_digit_17 (by decide) ?_
    refine j_iload_n C 2 dX8_digit_19 rfl rfl ?_
    refine j_iadd (v := nI (48 + lo)) C dX8_digit_20 (nI_add _ _) ?_
    refine j_bipush (v := nI 48) C dX8_digit_21 (by decide) ?_
    refine j_iload_n C 3 dX8_digit_23 rfl rfl ?_
    refine j_iadd (v := nI (48 + hi)) C dX8_digit_24 (nI_add _ _) ?_
    refine j_callP (As := [.int (ce t), .int (nI (48 + lo)), .int (nI (48 + hi))]) (rest := []) C (c_X8_within (ce t) (nI (48 + lo)) (nI (48 + hi))) gX8_digit_X8_within rfl 3 rfl (by decide +kernel) (by decide) (Nat.le_of_ble_eq_true rfl) dX8_digit_25 rfl (fun _ _ => ?_)
    show J X (wM mm cy fl tv so sg ce (nI N) (nI B) kf pf (nI t) vrm vrb rk rp lf tf kp (nI c) df mf gf) 28 [(0, .ref (mm 0)), (1, .int (nI en)), (2, .int (nI lo)), (3, .int (nI hi))] [.int (nI (bN (¬ ce t < nI (48 + lo) ∧ ce t ≤ nI (48 + hi))))]
    refine j_if_neN (tgt := 34) C dX8_digit_28 (by decide) (bN_lt _) (fun c28 => ?_) (fun c28 => ?_)
    · have c28 := bN_1.mp c28
      have hdg := (dg_mod hlo hhi).mp c28
      refine j_aload_n C 0 dX8_digit_34 rfl rfl ?_
      refine j_dup C dX8_digit_35 rfl ?_
      refine j_get C mh0 9 mh1 0 rfl rfl (by decide) rfl rfl dX8_digit_36 ?_
      refine j_iconst (v := nI 1) C dX8_digit_39 (by decide) ?_
      refine j_iadd (v := nI (t + 1)) C dX8_digit_40 (nI_add _ _) ?_
      refine j_put (ws' := wM mm cy fl tv so sg ce (nI N) (nI B) kf pf (nI (t + 1)) vrm vrb rk rp lf tf kp (nI c) df mf gf) C mh0 9 mh1 tyX8 tyX8_ok nmX8 0 rfl rfl (by decide) rfl rfl (by decide +kernel) (Nat.le_of_ble_eq_true rfl) rfl dX8_digit_41 ?_
      refine j_aload_n C 0 dX8_digit_44 rfl rfl ?_
      refine j_get C mh0 4 mh2 0 rfl rfl (by decide) rfl rfl dX8_digit_45 ?_
      refine j_aload_n C 0 dX8_digit_48 rfl rfl ?_
      refine j_get C mh0 9 mh1 0 rfl rfl (by decide) rfl rfl dX8_digit_49 ?_
      refine j_iconst (v := nI 1) C dX8_digit_52 (by decide) ?_
      refine j_isub (v := nI t) C dX8_digit_53 (by rw [pk_sub (by omega)]; rfl) ?_
      refine j_iald (v := ce t) C 3 rfl (by omega) (by decide) rfl dX8_digit_54 ?_
      refine j_bipush (v := nI 48) C dX8_digit_55 (by decide) ?_
      refine j_isub (v := nI (dv (ce t))) C dX8_digit_57 (dg_v hhi hdg).1 ?_
      exact j_iret C E dX8_digit_58 () trivial (by rw [if_pos (show t < en ∧ dgt lo hi (ce t) = true from ⟨c5, hdg⟩)]) (by rw [if_pos (show t < en ∧ dgt lo hi (ce t) = true from ⟨c5, hdg⟩)])
    · have c28 := bN_0.mp c28
      refine j_bipush (v := (-9)) C dX8_digit_31 (by decide) ?_
      exact j_iret C E dX8_digit_33 () trivial (by first | rw [if_neg (show ¬ (t < en ∧ dgt lo hi (ce t) = true) from fun z => by omega)] | rw [if_neg (show ¬ (t < en ∧ dgt lo hi (ce t) = true) from fun z => c28 ((dg_mod hlo hhi).mpr z.2))]) (by first | rw [if_neg (show ¬ (t < en ∧ dgt lo hi (ce t) = true) from fun z => by omega)] | rw [if_neg (show ¬ (t < en ∧ dgt lo hi (ce t) = true) from fun z => c28 ((dg_mod hlo hhi).mpr z.2))])
set_option maxHeartbeats 4000000 in
set_option maxRecDepth 20000 in
theorem c_X8_isSign {l : Launch} {D : va_G} {cy : Nat → ClassId} (mm : Nat → Nat) (fl tv : Int32) (so sg ce : Nat → Int32) (N B : Nat) (kf pf : Nat → Int32) (vat vrm vrb : Int32) (rk rp lf tf kp : Nat → Int32) (c : Nat) (df mf gf : Nat → Int32) (t en : Nat) (ch : Int32) (hva : vat = nI t) (hen : en ≤ 240) (ht : t ≤ en) : Ct l yX8_isSign wsX8_isSign ({ frames := 0, cells := 0, slots := 0, locals := 0 }) D cy [.ref (mm 0), .int (nI en), .int ch] (wM mm cy fl tv so sg ce (nI N) (nI B) kf pf vat vrm vrb rk rp lf tf kp (nI c) df mf gf) (fun _ : Unit => True) (fun _ => some (.int (nI (bN (t < en ∧ ce t = ch))))) (fun _ => wM mm cy fl tv so sg ce (nI N) (nI B) kf pf (if t < en ∧ ce t = ch then nI (t + 1) else nI t) vrm vrb rk rp lf tf kp (nI c) df mf gf) := by
  refine Ct.of (cc := cX8_isSign) (nL := 3) (ret := (some .boolean)) rfl (by decide) ⟨rfl, rfl⟩ (Nat.le_of_ble_eq_true rfl) ?_
  intro X C E
  have C : Cx X l D cy cX8_isSign 3 wsX8_isSign RX8 ({ frames := 0, cells := 0, slots := 0, locals := 0 }) := C
  have mh0 : ∀ w ∈ u_ws RX8 TX8 21, w ∈ wsX8_isSign := by decide +kernel
  have mh1 : Cond.fieldLink RX8 67 RX8 (TX8 9).2.1 (TX8 9).2.2.1 ∈ wsX8_isSign := by decide +kernel
  have mh2 : Cond.fieldLink RX8 16 RX8 (TX8 4).2.1 (TX8 4).2.2.1 ∈ wsX8_isSign := by decide +kernel
  subst hva
  show J X (wM mm cy fl tv so sg ce (nI N) (nI B) kf pf (nI t) vrm vrb rk rp lf tf kp (nI c) df mf gf) 0 [(0, .ref (mm 0)), (1, .int (nI en)), (2, .int ch)] []
  refine j_aload_n C 0 dX8_isSign_0 rfl rfl ?_
  refine j_get C mh0 9 mh1 0 rfl rfl (by decide) rfl rfl dX8_isSign_1 ?_
  refine j_iload_n C 1 dX8_isSign_4 rfl rfl ?_
  refine j_icmp_geN (tgt := 21) C dX8_isSign_5 (by decide) (by omega) (by omega) (fun c5 => ?_) (fun c5 => ?_)
  · refine j_iconst (v := nI 0) C dX8_isSign_21 (by decide) ?_
    exact j_zret C E dX8_isSign_22 rfl () trivial (by first | exact ret_n (fun z => by omega) | exact ret_n (fun z => c18 z.2)) (by first | rw [if_neg (show ¬ (t < en ∧ ce t = ch) from fun z => by omega)] | rw [if_neg (show ¬ (t < en ∧ ce t = ch) from fun z => c18 z.2)])
  · refine j_aload_n C 0 dX8_isSign_8 rfl rfl ?_
    refine j_get C mh0 4 mh2 0 rfl rfl (by decide) rfl rfl dX8_isSign_9 ?_
    refine j_aload_n C 0 dX8_isSign_12 rfl rfl ?_
    refine j_get C mh0 9 mh1 0 rfl rfl (by decide) rfl rfl dX8_isSign_13 ?_
    refine j_iald (v := ce t) C 3 rfl (by omega) (by decide) rfl dX8_isSign_16 ?_
    refine j_iload_n C 2 dX8_isSign_17 rfl rfl ?_
    refine j_icmp_eq (tgt := 23) C dX8_isSign_18 (by decide) (fun c18 => ?_) (fun c18 => ?_)
    · refine j_aload_n C 0 dX8_isSign_23 rfl rfl ?_
      refine j_dup C dX8_isSign_24 rfl ?_
      refine j_get C mh0 9 mh1 0 rfl rfl (by decide) rfl rfl dX8_isSign_25 ?_
      refine j_iconst (v := nI 1) C dX8_isSign_28 (by decide) ?_
      refine j_iadd (v := nI (t + 1)) C dX8_isSign_29 (nI_add _ _) ?_
      refine j_put (ws' := wM mm cy fl tv so sg ce (nI N) (nI B) kf pf (nI (t + 1)) vrm vrb rk rp lf tf kp (nI c) df mf gf) C mh0 9 mh1 tyX8 tyX8_ok nmX8 0 rfl rfl (by decide) rfl rfl (by decide +kernel) (Nat.le_of_ble_eq_true rfl) rfl dX8_isSign_30 ?_
      refine j_iconst (v := nI 1) C dX8_isSign_33 (by decide) ?_
      exact j_zret C E dX8_isSign_34 rfl () trivial (ret_y ⟨c5, c18⟩) (by rw [if_pos (show t < en ∧ ce t = ch from ⟨c5, c18⟩)])
    · refine j_iconst (v := nI 0) C dX8_isSign_21 (by decide) ?_
      exact j_zret C E dX8_isSign_22 rfl () trivial (by first | exact ret_n (fun z => by omega) | exact ret_n (fun z => c18 z.2)) (by first | rw [if_neg (show ¬ (t < en ∧ ce t = ch) from fun z => by omega)] | rw [if_neg (show ¬ (t < en ∧ ce t = ch) from fun z => c18 z.2)])
set_option maxHeartbeats 4000000 in
set_option maxRecDepth 20000 in
theorem c_X8_readPerson {l : Launch} {D : va_G} {cy : Nat → ClassId} (mm : Nat → Nat) (fl tv : Int32) (so sg ce : Nat → Int32) (N B : Nat) (kf pf : Nat → Int32) (vat vrm vrb : Int32) (rk rp lf tf kp : Nat → Int32) (c : Nat) (df mf gf : Nat → Int32) (b0 w a N0 j0 : Nat) (hvr : vrm = nI N0) (hva : vat = nI (b0 + j0)) (hNx : Nx (fun j => ce (b0 + j)) = N0) (h2 : 2 ≤ N0) (h6 : N0 ≤ 6) (ha : a < N0) (hj0 : j0 = 3 + a * (N0 + 2) + 1) (hjw : j0 ≤ w) (hbw : b0 + w ≤ 240) (hall : ∀ q, q < j0 → vcd (fun j => ce (b0 + j)) q = true) (hI : TxI (fun j => ce (b0 + j)) j0 vrm vrb rk (PF rp)) : Ct l yX8_readPerson wsX8_readPerson ({ frames := 2, cells := 0, slots := 0, locals := 45 }) D cy [.ref (mm 0), .int (nI (b0 + w)), .int (nI a)] (wM mm cy fl tv so sg ce (nI N) (nI B) kf pf vat vrm vrb rk rp lf tf kp (nI c) df mf gf) (fun u : Bool × Nat × (Nat → Int32) × (Nat → Int32) => (u.1 = true ∧ u.2.1 = 3 + (a + 1) * (N0 + 2) ∧ u.2.1 ≤ w ∧ (∀ q, q < u.2.1 → vcd (fun j => ce (b0 + j)) q = true) ∧ TxI (fun j => ce (b0 + j)) u.2.1 (nI N0) vrb u.2.2.1 (PF u.2.2.2)) ∨ (u.1 = false ∧ Fl (fun j => ce (b0 + j)) w u.2.1)) (fun u => some (.int (nI (bN (u.1 = true))))) (fun u => wM mm cy fl tv so sg ce (nI N) (nI B) kf pf (nI (b0 + u.2.1)) (nI N0) vrb u.2.2.1 u.2.2.2 lf tf kp (nI c) df mf gf) := by
  refine Ct.of (cc := cX8_readPerson) (nL := 5) (ret := (some .boolean)) rfl (by decide) ⟨rfl, rfl⟩ (Nat.le_of_ble_eq_true rfl) ?_
  intro X C E
  have C : Cx X l D cy cX8_readPerson 5 wsX8_readPerson RX8 ({ frames := 2, cells := 0, slots := 0, locals := 45 }) := C
  have mh0 : ∀ w ∈ u_ws RX8 TX8 21, w ∈ wsX8_readPerson := by decide +kernel
  have mh1 : Cond.fieldLink RX8 67 RX8 (TX8 9).2.1 (TX8 9).2.2.1 ∈ wsX8_readPerson := by decide +kernel
  have mh2 : Cond.fieldLink RX8 25 RX8 (TX8 12).2.1 (TX8 12).2.2.1 ∈ wsX8_readPerson := by decide +kernel
  have mh3 : Cond.fieldLink RX8 16 RX8 (TX8 4).2.1 (TX8 4).2.2.1 ∈ wsX8_readPerson := by decide +kernel
  have mh4 : Cond.fieldLink RX8 87 RX8 (TX8 10).2.1 (TX8 10).2.2.1 ∈ wsX8_readPerson := by decide +kernel
  have mh5 : Cond.fieldLink RX8 28 RX8 (TX8 13).2.1 (TX8 13).2.2.1 ∈ wsX8_readPerson := by decide +kernel
  subst hvr
  subst hva
  have hrl := rw_lt ha
  have htl : tl N0 ≤ 51 := tl_le h6
  show J X (wM mm cy fl tv so sg ce (nI N) (nI B) kf pf (nI (b0 + j0)) (nI N0) vrb rk rp lf tf kp (nI c) df mf gf) 0 [(0, .ref (mm 0)), (1, .int (nI (b0 + w))), (2, .int (nI a))] []
  refine j_aload_n C 0 dX8_readPerson_0 rfl rfl ?_
  refine j_get C mh0 9 mh1 0 rfl rfl (by decide) rfl rfl dX8_readPerson_1 ?_
  refine j_iload_n C 1 dX8_readPerson_4 rfl rfl ?_
  refine j_icmp_geN (tgt := 20) C dX8_readPerson_5 (by decide) (by omega) (by omega) (fun c5 => ?_) (fun c5 => ?_)
  · refine j_iconst (v := nI 0) C dX8_readPerson_20 (by decide) ?_
    refine j_istore_n (lv' := [(3, .int (nI 0)), (0, .ref (mm 0)), (1, .int (nI (b0 + w))), (2, .int (nI a))]) C dX8_readPerson_21 rfl (by decide) rfl ?_
    refine j_aload_n C 1 dX8_readPerson_22 rfl rfl ?_
    refine j_get C mh0 12 mh2 0 rfl rfl (by decide) rfl rfl dX8_readPerson_23 ?_
    refine j_iload_n C 3 dX8_readPerson_26 rfl rfl ?_
    refine j_iload_n C 0 dX8_readPerson_27 rfl rfl ?_
    refine j_bipush (v := nI 112) C dX8_readPerson_28 (by decide) ?_
    refine j_icmp_neN (tgt := 37) C dX8_readPerson_30 (by decide) (by omega) (by omega) (fun c30 => ?_) (fun c30 => ?_)
    · refine j_iload_n C 0 dX8_readPerson_37 rfl rfl ?_
      refine j_bipush (v := nI 114) C dX8_readPerson_38 (by decide) ?_
      refine j_icmp_neN (tgt := 47) C dX8_readPerson_40 (by decide) (by omega) (by omega) (fun c40 => ?_) (fun c40 => ?_)
      · refine j_iload_n C 0 dX8_readPerson_47 rfl rfl ?_
        refine j_bipush (v := nI 98) C dX8_readPerson_48 (by decide) ?_
        refine j_icmp_neN (tgt := 57) C dX8_readPerson_50 (by decide) (by omega) (by omega) (fun c50 => ?_) (fun c50 => ?_)
        · refine j_bipush (v := (-9)) C dX8_readPerson_57 (by decide) ?_
          refine j_iast (ws' := wM mm cy fl tv so sg ce (nI N) (nI B) kf pf (nI (b0 + j0)) (nI N0) vrb (upd rk a ((-9))) rp lf tf kp (nI c) df mf gf) C 6 rfl (by omega) (by decide) rfl dX8_readPerson_59 ?_
          refine j_aload_n C 1 dX8_readPerson_60 rfl rfl ?_
          refine j_get C mh0 12 mh2 0 rfl rfl (by decide) rfl rfl dX8_readPerson_61 ?_
          refine j_iload_n C 3 dX8_readPerson_64 rfl rfl ?_
          refine j_iald (v := (-9)) C 6 rfl (by omega) (by decide) pk_us dX8_readPerson_65 ?_
          refine j_bipush (v := (-9)) C dX8_readPerson_66 (by decide) ?_
          refine j_icmp_ne (tgt := 73) C dX8_readPerson_68 (by decide) (fun c68 => ?_) (fun c68 => ?_)
          · exact absurd rfl c68
          · refine j_iconst (v := nI 0) C dX8_readPerson_71 (by decide) ?_
            exact j_zret C E dX8_readPerson_72 rfl (false, j0, upd rk a ((-9)), rp) (Or.inr ⟨rfl, fl_at (j := j0) hjw hall (fun z => by rw [vc_k hNx hj0 ha]; exact decide_eq_false (fun y => by first | omega | exact y.elim c30 (fun y => y.elim c40 c50))) (by rw [hNx]; omega)⟩) rfl rfl
        · exact absurd c50 (by decide)
      · exact absurd c40 (by decide)
    · exact absurd c30 (by decide)
  · refine j_aload_n C 0 dX8_readPerson_8 rfl rfl ?_
    refine j_get C mh0 4 mh3 0 rfl rfl (by decide) rfl rfl dX8_readPerson_9 ?_
    refine j_aload_n C 0 dX8_readPerson_12 rfl rfl ?_
    refine j_get C mh0 9 mh1 0 rfl rfl (by decide) rfl rfl dX8_readPerson_13 ?_
    refine j_iald (v := ce (b0 + j0)) C 3 rfl (by omega) (by decide) rfl dX8_readPerson_16 ?_
    refine j_goto (tgt := 21) C dX8_readPerson_17 (by decide) ?_
    refine j_istore_n (lv' := [(3, .int (ce (b0 + j0))), (0, .ref (mm 0)), (1, .int (nI (b0 + w))), (2, .int (nI a))]) C dX8_readPerson_21 rfl (by decide) rfl ?_
    refine j_aload_n C 1 dX8_readPerson_22 rfl rfl ?_
    refine j_get C mh0 12 mh2 0 rfl rfl (by decide) rfl rfl dX8_readPerson_23 ?_
    refine j_iload_n C 3 dX8_readPerson_26 rfl rfl ?_
    refine j_iload_n C 0 dX8_readPerson_27 rfl rfl ?_
    refine j_bipush (v := nI 112) C dX8_readPerson_28 (by decide) ?_
    refine j_icmp_ne (tgt := 37) C dX8_readPerson_30 (by decide) (fun c30 => ?_) (fun c30 => ?_)
    · refine j_iload_n C 0 dX8_readPerson_37 rfl rfl ?_
      refine j_bipush (v := nI 114) C dX8_readPerson_38 (by decide) ?_
      refine j_icmp_ne (tgt := 47) C dX8_readPerson_40 (by decide) (fun c40 => ?_) (fun c40 => ?_)
      · refine j_iload_n C 0 dX8_readPerson_47 rfl rfl ?_
        refine j_bipush (v := nI 98) C dX8_readPerson_48 (by decide) ?_
        refine j_icmp_ne (tgt := 57) C dX8_readPerson_50 (by decide) (fun c50 => ?_) (fun c50 => ?_)
        · refine j_bipush (v := (-9)) C dX8_readPerson_57 (by decide) ?_
          refine j_iast (ws' := wM mm cy fl tv so sg ce (nI N) (nI B) kf pf (nI (b0 + j0)) (nI N0) vrb (upd rk a ((-9))) rp lf tf kp (nI c) df mf gf) C 6 rfl (by omega) (by decide) rfl dX8_readPerson_59 ?_
          refine j_aload_n C 1 dX8_readPerson_60 rfl rfl ?_
          refine j_get C mh0 12 mh2 0 rfl rfl (by decide) rfl rfl dX8_readPerson_61 ?_
          refine j_iload_n C 3 dX8_readPerson_64 rfl rfl ?_
          refine j_iald (v := (-9)) C 6 rfl (by omega) (by decide) pk_us dX8_readPerson_65 ?_
          refine j_bipush (v := (-9)) C dX8_readPerson_66 (by decide) ?_
          refine j_icmp_ne (tgt := 73) C dX8_readPerson_68 (by decide) (fun c68 => ?_) (fun c68 => ?_)
          · exact absurd rfl c68
          · refine j_iconst (v := nI 0) C dX8_readPerson_71 (by decide) ?_
            exact j_zret C E dX8_readPerson_72 rfl (false, j0, upd rk a ((-9)), rp) (Or.inr ⟨rfl, fl_at (j := j0) hjw hall (fun z => by rw [vc_k hNx hj0 ha]; exact decide_eq_false (fun y => by first | omega | exact y.elim c30 (fun y => y.elim c40 c50))) (by rw [hNx]; omega)⟩) rfl rfl
        · refine j_iconst (v := nI 2) C dX8_readPerson_53 (by decide) ?_
          refine j_goto (tgt := 59) C dX8_readPerson_54 (by decide) ?_
          refine j_iast (ws' := wM mm cy fl tv so sg ce (nI N) (nI B) kf pf (nI (b0 + j0)) (nI N0) vrb (upd rk a (nI 2)) rp lf tf kp (nI c) df mf gf) C 6 rfl (by omega) (by decide) rfl dX8_readPerson_59 ?_
          refine j_aload_n C 1 dX8_readPerson_60 rfl rfl ?_
          refine j_get C mh0 12 mh2 0 rfl rfl (by decide) rfl rfl dX8_readPerson_61 ?_
          refine j_iload_n C 3 dX8_readPerson_64 rfl rfl ?_
          refine j_iald (v := nI 2) C 6 rfl (by omega) (by decide) pk_us dX8_readPerson_65 ?_
          refine j_bipush (v := (-9)) C dX8_readPerson_66 (by decide) ?_
          refine j_icmp_ne (tgt := 73) C dX8_readPerson_68 (by decide) (fun c68 => ?_) (fun c68 => ?_)
          · refine j_aload_n C 1 dX8_readPerson_73 rfl rfl ?_
            refine j_dup C dX8_readPerson_74 rfl ?_
            refine j_get C mh0 9 mh1 0 rfl rfl (by decide) rfl rfl dX8_readPerson_75 ?_
            refine j_iconst (v := nI 1) C dX8_readPerson_78 (by decide) ?_
            refine j_iadd (v := nI ((b0 + j0) + 1)) C dX8_readPerson_79 (nI_add _ _) ?_
            refine j_put (ws' := wM mm cy fl tv so sg ce (nI N) (nI B) kf pf (nI ((b0 + j0) + 1)) (nI N0) vrb (upd rk a (nI 2)) rp lf tf kp (nI c) df mf gf) C mh0 9 mh1 tyX8 tyX8_ok nmX8 0 rfl rfl (by decide) rfl rfl (by decide +kernel) (Nat.le_of_ble_eq_true rfl) rfl dX8_readPerson_80 ?_
            refine j_iconst (v := nI 0) C dX8_readPerson_83 (by decide) ?_
            refine j_istore (lv' := [(4, .int (nI 0)), (3, .int (ce (b0 + j0))), (0, .ref (mm 0)), (1, .int (nI (b0 + w))), (2, .int (nI a))]) C dX8_readPerson_84 (by decide) rfl ?_
            refine J.sub [2, 3, 4, 0] rfl ?_
            have L86 : ∀ (n : Nat) (b : Nat) (rp1 : Nat → Int32), N0 - b < n → b ≤ N0 → j0 + 1 + b ≤ w → (∀ q, q < j0 + 1 + b → vcd (fun j => ce (b0 + j)) q = true) → TxI (fun j => ce (b0 + j)) (j0 + 1 + b) (nI N0) vrb (upd rk a (nI 2)) (PF rp1) → J X (wM mm cy fl tv so sg ce (nI N) (nI B) kf pf (nI (b0 + (j0 + 1 + b))) (nI N0) vrb (upd rk a (nI 2)) rp1 lf tf kp (nI c) df mf gf) 86 [(0, .ref (mm 0)), (1, .int (nI (b0 + w))), (2, .int (nI a)), (4, .int (nI b))] [] := by
              intro n
              induction n with
              | zero => intro b rp1 hm; exact absurd hm (Nat.not_lt_zero _)
              | succ n ih86 =>
                intro b rp1 h86_0 h86_1 h86_2 h86_3 h86_4
                have hjb : j0 + 1 + b = 3 + a * (N0 + 2) + 2 + b := by omega
                refine j_iload C 3 dX8_readPerson_86 rfl ?_
                refine j_aload_n C 0 dX8_readPerson_88 rfl rfl ?_
                refine j_get C mh0 10 mh4 0 rfl rfl (by decide) rfl rfl dX8_readPerson_89 ?_
                refine j_icmp_geN (tgt := 148) C dX8_readPerson_92 (by decide) (by omega) (by omega) (fun c92 => ?_) (fun c92 => ?_)
                · refine j_iconst (v := nI 1) C dX8_readPerson_148 (by decide) ?_
                  exact j_zret C E dX8_readPerson_149 rfl (true, j0 + 1 + b, upd rk a (nI 2), rp1) (Or.inl ⟨rfl, show j0 + 1 + b = 3 + (a + 1) * (N0 + 2) by rw [Nat.succ_mul]; omega, h86_2, h86_3, h86_4⟩) rfl rfl
                · refine j_aload_n C 0 dX8_readPerson_95 rfl rfl ?_
                  refine j_get C mh0 13 mh5 0 rfl rfl (by decide) rfl rfl dX8_readPerson_96 ?_
                  refine j_iload_n C 2 dX8_readPerson_99 rfl rfl ?_
                  refine j_iload C 3 dX8_readPerson_100 rfl ?_
                  refine j_callP (As := [.int (nI a), .int (nI b)]) (rest := [.ref (mm 7)]) C (c_X8_spot a b) gX8_readPerson_X8_spot rfl 2 rfl (by decide +kernel) (by decide) (Nat.le_of_ble_eq_true rfl) dX8_readPerson_102 rfl (fun _ _ => ?_)
                  show J X (wM mm cy fl tv so sg ce (nI N) (nI B) kf pf (nI (b0 + (j0 + 1 + b))) (nI N0) vrb (upd rk a (nI 2)) rp1 lf tf kp (nI c) df mf gf) 105 [(0, .ref (mm 0)), (1, .int (nI (b0 + w))), (2, .int (nI a)), (4, .int (nI b))] [.int (nI (6 * a + b)), .ref (mm 7)]
                  refine j_aload_n C 0 dX8_readPerson_105 rfl rfl ?_
                  refine j_iload_n C 1 dX8_readPerson_106 rfl rfl ?_
                  refine j_iconst (v := nI 0) C dX8_readPerson_107 (by decide) ?_
                  refine j_iload C 3 dX8_readPerson_108 rfl ?_
                  refine j_iload_n C 2 dX8_readPerson_110 rfl rfl ?_
                  refine j_icmp_neN (tgt := 118) C dX8_readPerson_111 (by decide) (by omega) (by omega) (fun c111 => ?_) (fun c111 => ?_)
                  · refine j_bipush (v := nI 9) C dX8_readPerson_118 (by decide) ?_
                    refine j_callV0 (As := [.int (nI (b0 + w)), .int (nI 0), .int (nI 9)]) (rest := [.int (nI (6 * a + b)), .ref (mm 7)]) C (c_X8_digit mm fl tv so sg ce N B kf pf (nI (b0 + (j0 + 1 + b))) (nI N0) vrb (upd rk a (nI 2)) rp1 lf tf kp c df mf gf (b0 + (j0 + 1 + b)) (b0 + w) 0 9 rfl (by omega) (by omega) (by omega) (by omega)) gX8_readPerson_X8_digit rfl 3 rfl (by decide +kernel) (by decide) 0 rfl rfl (Nat.le_of_ble_eq_true rfl) dX8_readPerson_120 rfl (fun _ _ => ?_)
                    show J X (wM mm cy fl tv so sg ce (nI N) (nI B) kf pf (if b0 + (j0 + 1 + b) < b0 + w ∧ dgt 0 9 (ce (b0 + (j0 + 1 + b))) = true then nI (b0 + (j0 + 1 + b) + 1) else nI (b0 + (j0 + 1 + b))) (nI N0) vrb (upd rk a (nI 2)) rp1 lf tf kp (nI c) df mf gf) 123 [(0, .ref (mm 0)), (1, .int (nI (b0 + w))), (2, .int (nI a)), (4, .int (nI b))] [.int (if b0 + (j0 + 1 + b) < b0 + w ∧ dgt 0 9 (ce (b0 + (j0 + 1 + b))) = true then nI (dv (ce (b0 + (j0 + 1 + b)))) else -9), .int (nI (6 * a + b)), .ref (mm 7)]
                    refine j_iast (ws' := wM mm cy fl tv so sg ce (nI N) (nI B) kf pf (if b0 + (j0 + 1 + b) < b0 + w ∧ dgt 0 9 (ce (b0 + (j0 + 1 + b))) = true then nI (b0 + (j0 + 1 + b) + 1) else nI (b0 + (j0 + 1 + b))) (nI N0) vrb (upd rk a (nI 2)) (upd rp1 (6 * a + b) (if b0 + (j0 + 1 + b) < b0 + w ∧ dgt 0 9 (ce (b0 + (j0 + 1 + b))) = true then nI (dv (ce (b0 + (j0 + 1 + b)))) else -9)) lf tf kp (nI c) df mf gf) C 7 rfl (by omega) (by decide) rfl dX8_readPerson_123 ?_
                    refine j_aload_n C 0 dX8_readPerson_124 rfl rfl ?_
                    refine j_get C mh0 13 mh5 0 rfl rfl (by decide) rfl rfl dX8_readPerson_125 ?_
                    refine j_iload_n C 2 dX8_readPerson_128 rfl rfl ?_
                    refine j_iload C 3 dX8_readPerson_129 rfl ?_
                    refine j_callP (As := [.int (nI a), .int (nI b)]) (rest := [.ref (mm 7)]) C (c_X8_spot a b) gX8_readPerson_X8_spot rfl 2 rfl (by decide +kernel) (by decide) (Nat.le_of_ble_eq_true rfl) dX8_readPerson_131 rfl (fun _ _ => ?_)
                    show J X (wM mm cy fl tv so sg ce (nI N) (nI B) kf pf (if b0 + (j0 + 1 + b) < b0 + w ∧ dgt 0 9 (ce (b0 + (j0 + 1 + b))) = true then nI (b0 + (j0 + 1 + b) + 1) else nI (b0 + (j0 + 1 + b))) (nI N0) vrb (upd rk a (nI 2)) (upd rp1 (6 * a + b) (if b0 + (j0 + 1 + b) < b0 + w ∧ dgt 0 9 (ce (b0 + (j0 + 1 + b))) = true then nI (dv (ce (b0 + (j0 + 1 + b)))) else -9)) lf tf kp (nI c) df mf gf) 134 [(0, .ref (mm 0)), (1, .int (nI (b0 + w))), (2, .int (nI a)), (4, .int (nI b))] [.int (nI (6 * a + b)), .ref (mm 7)]
                    refine j_iald (v := if b0 + (j0 + 1 + b) < b0 + w ∧ dgt 0 9 (ce (b0 + (j0 + 1 + b))) = true then nI (dv (ce (b0 + (j0 + 1 + b)))) else -9) C 7 rfl (by omega) (by decide) pk_us dX8_readPerson_134 ?_
                    refine j_bipush (v := (-9)) C dX8_readPerson_135 (by decide) ?_
                    refine j_icmp_ne (tgt := 142) C dX8_readPerson_137 (by decide) (fun c137 => ?_) (fun c137 => ?_)
                    · have hdg := dg_ne c137
                      simp only [if_pos hdg]
                      have hvb : vcd (fun j => ce (b0 + j)) (j0 + 1 + b) = true := by rw [vc_p hNx hjb ha (by omega)]; first | (rw [if_pos c111]; exact hdg.2) | (rw [if_neg c111]; exact hdg.2)
                      show J X (wM mm cy fl tv so sg ce (nI N) (nI B) kf pf (nI (b0 + (j0 + 1 + b) + 1)) (nI N0) vrb (upd rk a (nI 2)) (upd rp1 (6 * a + b) (nI (dv (ce (b0 + (j0 + 1 + b)))))) lf tf kp (nI c) df mf gf) 142 [(0, .ref (mm 0)), (1, .int (nI (b0 + w))), (2, .int (nI a)), (4, .int (nI b))] []
                      refine j_iinc (v := nI (b + 1)) (lv' := [(4, .int (nI (b + 1))), (0, .ref (mm 0)), (1, .int (nI (b0 + w))), (2, .int (nI a))]) C 3 dX8_readPerson_142 rfl (nI_inc b) (by decide) rfl ?_
                      refine j_goto (tgt := 86) C dX8_readPerson_145 (by decide) ?_
                      refine J.sub [1, 2, 3, 0] rfl ?_
                      have e := ih86 (b + 1) (upd rp1 (6 * a + b) (nI (dv (ce (b0 + (j0 + 1 + b)))))) (by omega) (by omega) (by omega) (all_s h86_3 hvb) (tx_p h86_4 hNx h6 hjb ha (by omega) hvb)
                      exact e
                    · have hdg := dg_eq (fun z => dv_lt (by decide) z.2) c137
                      simp only [if_neg hdg]
                      show J X (wM mm cy fl tv so sg ce (nI N) (nI B) kf pf (nI (b0 + (j0 + 1 + b))) (nI N0) vrb (upd rk a (nI 2)) (upd rp1 (6 * a + b) (-9)) lf tf kp (nI c) df mf gf) 140 [(0, .ref (mm 0)), (1, .int (nI (b0 + w))), (2, .int (nI a)), (4, .int (nI b))] []
                      refine j_iconst (v := nI 0) C dX8_readPerson_140 (by decide) ?_
                      exact j_zret C E dX8_readPerson_141 rfl (false, j0 + 1 + b, upd rk a (nI 2), upd rp1 (6 * a + b) (-9)) (Or.inr ⟨rfl, fl_at (j := j0 + 1 + b) h86_2 h86_3 (fun z => by rw [vc_p hNx hjb ha (by omega)]; first | (rw [if_pos c111]; exact Bool.eq_false_iff.mpr (fun y => hdg ⟨by omega, y⟩)) | (rw [if_neg c111]; exact Bool.eq_false_iff.mpr (fun y => hdg ⟨by omega, y⟩))) (by rw [hNx]; omega)⟩) rfl rfl
                  · refine j_iconst (v := nI 0) C dX8_readPerson_114 (by decide) ?_
                    refine j_goto (tgt := 120) C dX8_readPerson_115 (by decide) ?_
                    refine j_callV0 (As := [.int (nI (b0 + w)), .int (nI 0), .int (nI 0)]) (rest := [.int (nI (6 * a + b)), .ref (mm 7)]) C (c_X8_digit mm fl tv so sg ce N B kf pf (nI (b0 + (j0 + 1 + b))) (nI N0) vrb (upd rk a (nI 2)) rp1 lf tf kp c df mf gf (b0 + (j0 + 1 + b)) (b0 + w) 0 0 rfl (by omega) (by omega) (by omega) (by omega)) gX8_readPerson_X8_digit rfl 3 rfl (by decide +kernel) (by decide) 0 rfl rfl (Nat.le_of_ble_eq_true rfl) dX8_readPerson_120 rfl (fun _ _ => ?_)
                    show J X (wM mm cy fl tv so sg ce (nI N) (nI B) kf pf (if b0 + (j0 + 1 + b) < b0 + w ∧ dgt 0 0 (ce (b0 + (j0 + 1 + b))) = true then nI (b0 + (j0 + 1 + b) + 1) else nI (b0 + (j0 + 1 + b))) (nI N0) vrb (upd rk a (nI 2)) rp1 lf tf kp (nI c) df mf gf) 123 [(0, .ref (mm 0)), (1, .int (nI (b0 + w))), (2, .int (nI a)), (4, .int (nI b))] [.int (if b0 + (j0 + 1 + b) < b0 + w ∧ dgt 0 0 (ce (b0 + (j0 + 1 + b))) = true then nI (dv (ce (b0 + (j0 + 1 + b)))) else -9), .int (nI (6 * a + b)), .ref (mm 7)]
                    refine j_iast (ws' := wM mm cy fl tv so sg ce (nI N) (nI B) kf pf (if b0 + (j0 + 1 + b) < b0 + w ∧ dgt 0 0 (ce (b0 + (j0 + 1 + b))) = true then nI (b0 + (j0 + 1 + b) + 1) else nI (b0 + (j0 + 1 + b))) (nI N0) vrb (upd rk a (nI 2)) (upd rp1 (6 * a + b) (if b0 + (j0 + 1 + b) < b0 + w ∧ dgt 0 0 (ce (b0 + (j0 + 1 + b))) = true then nI (dv (ce (b0 + (j0 + 1 + b)))) else -9)) lf tf kp (nI c) df mf gf) C 7 rfl (by omega) (by decide) rfl dX8_readPerson_123 ?_
                    refine j_aload_n C 0 dX8_readPerson_124 rfl rfl ?_
                    refine j_get C mh0 13 mh5 0 rfl rfl (by decide) rfl rfl dX8_readPerson_125 ?_
                    refine j_iload_n C 2 dX8_readPerson_128 rfl rfl ?_
                    refine j_iload C 3 dX8_readPerson_129 rfl ?_
                    refine j_callP (As := [.int (nI a), .int (nI b)]) (rest := [.ref (mm 7)]) C (c_X8_spot a b) gX8_readPerson_X8_spot rfl 2 rfl (by decide +kernel) (by decide) (Nat.le_of_ble_eq_true rfl) dX8_readPerson_131 rfl (fun _ _ => ?_)
                    show J X (wM mm cy fl tv so sg ce (nI N) (nI B) kf pf (if b0 + (j0 + 1 + b) < b0 + w ∧ dgt 0 0 (ce (b0 + (j0 + 1 + b))) = true then nI (b0 + (j0 + 1 + b) + 1) else nI (b0 + (j0 + 1 + b))) (nI N0) vrb (upd rk a (nI 2)) (upd rp1 (6 * a + b) (if b0 + (j0 + 1 + b) < b0 + w ∧ dgt 0 0 (ce (b0 + (j0 + 1 + b))) = true then nI (dv (ce (b0 + (j0 + 1 + b)))) else -9)) lf tf kp (nI c) df mf gf) 134 [(0, .ref (mm 0)), (1, .int (nI (b0 + w))), (2, .int (nI a)), (4, .int (nI b))] [.int (nI (6 * a + b)), .ref (mm 7)]
                    refine j_iald (v := if b0 + (j0 + 1 + b) < b0 + w ∧ dgt 0 0 (ce (b0 + (j0 + 1 + b))) = true then nI (dv (ce (b0 + (j0 + 1 + b)))) else -9) C 7 rfl (by omega) (by decide) pk_us dX8_readPerson_134 ?_
                    refine j_bipush (v := (-9)) C dX8_readPerson_135 (by decide) ?_
                    refine j_icmp_ne (tgt := 142) C dX8_readPerson_137 (by decide) (fun c137 => ?_) (fun c137 => ?_)
                    · have hdg := dg_ne c137
                      simp only [if_pos hdg]
                      have hvb : vcd (fun j => ce (b0 + j)) (j0 + 1 + b) = true := by rw [vc_p hNx hjb ha (by omega)]; first | (rw [if_pos c111]; exact hdg.2) | (rw [if_neg c111]; exact hdg.2)
                      show J X (wM mm cy fl tv so sg ce (nI N) (nI B) kf pf (nI (b0 + (j0 + 1 + b) + 1)) (nI N0) vrb (upd rk a (nI 2)) (upd rp1 (6 * a + b) (nI (dv (ce (b0 + (j0 + 1 + b)))))) lf tf kp (nI c) df mf gf) 142 [(0, .ref (mm 0)), (1, .int (nI (b0 + w))), (2, .int (nI a)), (4, .int (nI b))] []
                      refine j_iinc (v := nI (b + 1)) (lv' := [(4, .int (nI (b + 1))), (0, .ref (mm 0)), (1, .int (nI (b0 + w))), (2, .int (nI a))]) C 3 dX8_readPerson_142 rfl (nI_inc b) (by decide) rfl ?_
                      refine j_goto (tgt := 86) C dX8_readPerson_145 (by decide) ?_
                      refine J.sub [1, 2, 3, 0] rfl ?_
                      have e := ih86 (b + 1) (upd rp1 (6 * a + b) (nI (dv (ce (b0 + (j0 + 1 + b)))))) (by omega) (by omega) (by omega) (all_s h86_3 hvb) (tx_p h86_4 hNx h6 hjb ha (by omega) hvb)
                      exact e
                    · have hdg := dg_eq (fun z => dv_lt (by decide) z.2) c137
                      simp only [if_neg hdg]
                      show J X (wM mm cy fl tv so sg ce (nI N) (nI B) kf pf (nI (b0 + (j0 + 1 + b))) (nI N0) vrb (upd rk a (nI 2)) (upd rp1 (6 * a + b) (-9)) lf tf kp (nI c) df mf gf) 140 [(0, .ref (mm 0)), (1, .int (nI (b0 + w))), (2, .int (nI a)), (4, .int (nI b))] []
                      refine j_iconst (v := nI 0) C dX8_readPerson_140 (by decide) ?_
                      exact j_zret C E dX8_readPerson_141 rfl (false, j0 + 1 + b, upd rk a (nI 2), upd rp1 (6 * a + b) (-9)) (Or.inr ⟨rfl, fl_at (j := j0 + 1 + b) h86_2 h86_3 (fun z => by rw [vc_p hNx hjb ha (by omega)]; first | (rw [if_pos c111]; exact Bool.eq_false_iff.mpr (fun y => hdg ⟨by omega, y⟩)) | (rw [if_neg c111]; exact Bool.eq_false_iff.mpr (fun y => hdg ⟨by omega, y⟩))) (by rw [hNx]; omega)⟩) rfl rfl
            have e := L86 (N0 + 1) 0 rp (by omega) (by omega) (by omega) (all_s hall (by rw [vc_k hNx hj0 ha]; exact decide_eq_true (Or.inr (Or.inr c50)))) (tx_k hI hNx hj0 ha (by rw [vc_k hNx hj0 ha]; exact decide_eq_true (Or.inr (Or.inr c50))) (kd_b c30 c40))
            exact e
          · exact absurd c68 (by decide)
      · refine j_iconst (v := nI 1) C dX8_readPerson_43 (by decide) ?_
        refine j_goto (tgt := 59) C dX8_readPerson_44 (by decide) ?_
        refine j_iast (ws' := wM mm cy fl tv so sg ce (nI N) (nI B) kf pf (nI (b0 + j0)) (nI N0) vrb (upd rk a (nI 1)) rp lf tf kp (nI c) df mf gf) C 6 rfl (by omega) (by decide) rfl dX8_readPerson_59 ?_
        refine j_aload_n C 1 dX8_readPerson_60 rfl rfl ?_
        refine j_get C mh0 12 mh2 0 rfl rfl (by decide) rfl rfl dX8_readPerson_61 ?_
        refine j_iload_n C 3 dX8_readPerson_64 rfl rfl ?_
        refine j_iald (v := nI 1) C 6 rfl (by omega) (by decide) pk_us dX8_readPerson_65 ?_
        refine j_bipush (v := (-9)) C dX8_readPerson_66 (by decide) ?_
        refine j_icmp_ne (tgt := 73) C dX8_readPerson_68 (by decide) (fun c68 => ?_) (fun c68 => ?_)
        · refine j_aload_n C 1 dX8_readPerson_73 rfl rfl ?_
          refine j_dup C dX8_readPerson_74 rfl ?_
          refine j_get C mh0 9 mh1 0 rfl rfl (by decide) rfl rfl dX8_readPerson_75 ?_
          refine j_iconst (v := nI 1) C dX8_readPerson_78 (by decide) ?_
          refine j_iadd (v := nI ((b0 + j0) + 1)) C dX8_readPerson_79 (nI_add _ _) ?_
          refine j_put (ws' := wM mm cy fl tv so sg ce (nI N) (nI B) kf pf (nI ((b0 + j0) + 1)) (nI N0) vrb (upd rk a (nI 1)) rp lf tf kp (nI c) df mf gf) C mh0 9 mh1 tyX8 tyX8_ok nmX8 0 rfl rfl (by decide) rfl rfl (by decide +kernel) (Nat.le_of_ble_eq_true rfl) rfl dX8_readPerson_80 ?_
          refine j_iconst (v := nI 0) C dX8_readPerson_83 (by decide) ?_
          refine j_istore (lv' := [(4, .int (nI 0)), (3, .int (ce (b0 + j0))), (0, .ref (mm 0)), (1, .int (nI (b0 + w))), (2, .int (nI a))]) C dX8_readPerson_84 (by decide) rfl ?_
          refine J.sub [2, 3, 4, 0] rfl ?_
          have L86 : ∀ (n : Nat) (b : Nat) (rp1 : Nat → Int32), N0 - b < n → b ≤ N0 → j0 + 1 + b ≤ w → (∀ q, q < j0 + 1 + b → vcd (fun j => ce (b0 + j)) q = true) → TxI (fun j => ce (b0 + j)) (j0 + 1 + b) (nI N0) vrb (upd rk a (nI 1)) (PF rp1) → J X (wM mm cy fl tv so sg ce (nI N) (nI B) kf pf (nI (b0 + (j0 + 1 + b))) (nI N0) vrb (upd rk a (nI 1)) rp1 lf tf kp (nI c) df mf gf) 86 [(0, .ref (mm 0)), (1, .int (nI (b0 + w))), (2, .int (nI a)), (4, .int (nI b))] [] := by
            intro n
            induction n with
            | zero => intro b rp1 hm; exact absurd hm (Nat.not_lt_zero _)
            | succ n ih86 =>
              intro b rp1 h86_0 h86_1 h86_2 h86_3 h86_4
              have hjb : j0 + 1 + b = 3 + a * (N0 + 2) + 2 + b := by omega
              refine j_iload C 3 dX8_readPerson_86 rfl ?_
              refine j_aload_n C 0 dX8_readPerson_88 rfl rfl ?_
              refine j_get C mh0 10 mh4 0 rfl rfl (by decide) rfl rfl dX8_readPerson_89 ?_
              refine j_icmp_geN (tgt := 148) C dX8_readPerson_92 (by decide) (by omega) (by omega) (fun c92 => ?_) (fun c92 => ?_)
              · refine j_iconst (v := nI 1) C dX8_readPerson_148 (by decide) ?_
                exact j_zret C E dX8_readPerson_149 rfl (true, j0 + 1 + b, upd rk a (nI 1), rp1) (Or.inl ⟨rfl, show j0 + 1 + b = 3 + (a + 1) * (N0 + 2) by rw [Nat.succ_mul]; omega, h86_2, h86_3, h86_4⟩) rfl rfl
              · refine j_aload_n C 0 dX8_readPerson_95 rfl rfl ?_
                refine j_get C mh0 13 mh5 0 rfl rfl (by decide) rfl rfl dX8_readPerson_96 ?_
                refine j_iload_n C 2 dX8_readPerson_99 rfl rfl ?_
                refine j_iload C 3 dX8_readPerson_100 rfl ?_
                refine j_callP (As := [.int (nI a), .int (nI b)]) (rest := [.ref (mm 7)]) C (c_X8_spot a b) gX8_readPerson_X8_spot rfl 2 rfl (by decide +kernel) (by decide) (Nat.le_of_ble_eq_true rfl) dX8_readPerson_102 rfl (fun _ _ => ?_)
                show J X (wM mm cy fl tv so sg ce (nI N) (nI B) kf pf (nI (b0 + (j0 + 1 + b))) (nI N0) vrb (upd rk a (nI 1)) rp1 lf tf kp (nI c) df mf gf) 105 [(0, .ref (mm 0)), (1, .int (nI (b0 + w))), (2, .int (nI a)), (4, .int (nI b))] [.int (nI (6 * a + b)), .ref (mm 7)]
                refine j_aload_n C 0 dX8_readPerson_105 rfl rfl ?_
                refine j_iload_n C 1 dX8_readPerson_106 rfl rfl ?_
                refine j_iconst (v := nI 0) C dX8_readPerson_107 (by decide) ?_
                refine j_iload C 3 dX8_readPerson_108 rfl ?_
                refine j_iload_n C 2 dX8_readPerson_110 rfl rfl ?_
                refine j_icmp_neN (tgt := 118) C dX8_readPerson_111 (by decide) (by omega) (by omega) (fun c111 => ?_) (fun c111 => ?_)
                · refine j_bipush (v := nI 9) C dX8_readPerson_118 (by decide) ?_
                  refine j_callV0 (As := [.int (nI (b0 + w)), .int (nI 0), .int (nI 9)]) (rest := [.int (nI (6 * a + b)), .ref (mm 7)]) C (c_X8_digit mm fl tv so sg ce N B kf pf (nI (b0 + (j0 + 1 + b))) (nI N0) vrb (upd rk a (nI 1)) rp1 lf tf kp c df mf gf (b0 + (j0 + 1 + b)) (b0 + w) 0 9 rfl (by omega) (by omega) (by omega) (by omega)) gX8_readPerson_X8_digit rfl 3 rfl (by decide +kernel) (by decide) 0 rfl rfl (Nat.le_of_ble_eq_true rfl) dX8_readPerson_120 rfl (fun _ _ => ?_)
                  show J X (wM mm cy fl tv so sg ce (nI N) (nI B) kf pf (if b0 + (j0 + 1 + b) < b0 + w ∧ dgt 0 9 (ce (b0 + (j0 + 1 + b))) = true then nI (b0 + (j0 + 1 + b) + 1) else nI (b0 + (j0 + 1 + b))) (nI N0) vrb (upd rk a (nI 1)) rp1 lf tf kp (nI c) df mf gf) 123 [(0, .ref (mm 0)), (1, .int (nI (b0 + w))), (2, .int (nI a)), (4, .int (nI b))] [.int (if b0 + (j0 + 1 + b) < b0 + w ∧ dgt 0 9 (ce (b0 + (j0 + 1 + b))) = true then nI (dv (ce (b0 + (j0 + 1 + b)))) else -9), .int (nI (6 * a + b)), .ref (mm 7)]
                  refine j_iast (ws' := wM mm cy fl tv so sg ce (nI N) (nI B) kf pf (if b0 + (j0 + 1 + b) < b0 + w ∧ dgt 0 9 (ce (b0 + (j0 + 1 + b))) = true then nI (b0 + (j0 + 1 + b) + 1) else nI (b0 + (j0 + 1 + b))) (nI N0) vrb (upd rk a (nI 1)) (upd rp1 (6 * a + b) (if b0 + (j0 + 1 + b) < b0 + w ∧ dgt 0 9 (ce (b0 + (j0 + 1 + b))) = true then nI (dv (ce (b0 + (j0 + 1 + b)))) else -9)) lf tf kp (nI c) df mf gf) C 7 rfl (by omega) (by decide) rfl dX8_readPerson_123 ?_
                  refine j_aload_n C 0 dX8_readPerson_124 rfl rfl ?_
                  refine j_get C mh0 13 mh5 0 rfl rfl (by decide) rfl rfl dX8_readPerson_125 ?_
                  refine j_iload_n C 2 dX8_readPerson_128 rfl rfl ?_
                  refine j_iload C 3 dX8_readPerson_129 rfl ?_
                  refine j_callP (As := [.int (nI a), .int (nI b)]) (rest := [.ref (mm 7)]) C (c_X8_spot a b) gX8_readPerson_X8_spot rfl 2 rfl (by decide +kernel) (by decide) (Nat.le_of_ble_eq_true rfl) dX8_readPerson_131 rfl (fun _ _ => ?_)
                  show J X (wM mm cy fl tv so sg ce (nI N) (nI B) kf pf (if b0 + (j0 + 1 + b) < b0 + w ∧ dgt 0 9 (ce (b0 + (j0 + 1 + b))) = true then nI (b0 + (j0 + 1 + b) + 1) else nI (b0 + (j0 + 1 + b))) (nI N0) vrb (upd rk a (nI 1)) (upd rp1 (6 * a + b) (if b0 + (j0 + 1 + b) < b0 + w ∧ dgt 0 9 (ce (b0 + (j0 + 1 + b))) = true then nI (dv (ce (b0 + (j0 + 1 + b)))) else -9)) lf tf kp (nI c) df mf gf) 134 [(0, .ref (mm 0)), (1, .int (nI (b0 + w))), (2, .int (nI a)), (4, .int (nI b))] [.int (nI (6 * a + b)), .ref (mm 7)]
                  refine j_iald (v := if b0 + (j0 + 1 + b) < b0 + w ∧ dgt 0 9 (ce (b0 + (j0 + 1 + b))) = true then nI (dv (ce (b0 + (j0 + 1 + b)))) else -9) C 7 rfl (by omega) (by decide) pk_us dX8_readPerson_134 ?_
                  refine j_bipush (v := (-9)) C dX8_readPerson_135 (by decide) ?_
                  refine j_icmp_ne (tgt := 142) C dX8_readPerson_137 (by decide) (fun c137 => ?_) (fun c137 => ?_)
                  · have hdg := dg_ne c137
                    simp only [if_pos hdg]
                    have hvb : vcd (fun j => ce (b0 + j)) (j0 + 1 + b) = true := by rw [vc_p hNx hjb ha (by omega)]; first | (rw [if_pos c111]; exact hdg.2) | (rw [if_neg c111]; exact hdg.2)
                    show J X (wM mm cy fl tv so sg ce (nI N) (nI B) kf pf (nI (b0 + (j0 + 1 + b) + 1)) (nI N0) vrb (upd rk a (nI 1)) (upd rp1 (6 * a + b) (nI (dv (ce (b0 + (j0 + 1 + b)))))) lf tf kp (nI c) df mf gf) 142 [(0, .ref (mm 0)), (1, .int (nI (b0 + w))), (2, .int (nI a)), (4, .int (nI b))] []
                    refine j_iinc (v := nI (b + 1)) (lv' := [(4, .int (nI (b + 1))), (0, .ref (mm 0)), (1, .int (nI (b0 + w))), (2, .int (nI a))]) C 3 dX8_readPerson_142 rfl (nI_inc b) (by decide) rfl ?_
                    refine j_goto (tgt := 86) C dX8_readPerson_145 (by decide) ?_
                    refine J.sub [1, 2, 3, 0] rfl ?_
                    have e := ih86 (b + 1) (upd rp1 (6 * a + b) (nI (dv (ce (b0 + (j0 + 1 + b)))))) (by omega) (by omega) (by omega) (all_s h86_3 hvb) (tx_p h86_4 hNx h6 hjb ha (by omega) hvb)
                    exact e
                  · have hdg := dg_eq (fun z => dv_lt (by decide) z.2) c137
                    simp only [if_neg hdg]
                    show J X (wM mm cy fl tv so sg ce (nI N) (nI B) kf pf (nI (b0 + (j0 + 1 + b))) (nI N0) vrb (upd rk a (nI 1)) (upd rp1 (6 * a + b) (-9)) lf tf kp (nI c) df mf gf) 140 [(0, .ref (mm 0)), (1, .int (nI (b0 + w))), (2, .int (nI a)), (4, .int (nI b))] []
                    refine j_iconst (v := nI 0) C dX8_readPerson_140 (by decide) ?_
                    exact j_zret C E dX8_readPerson_141 rfl (false, j0 + 1 + b, upd rk a (nI 1), upd rp1 (6 * a + b) (-9)) (Or.inr ⟨rfl, fl_at (j := j0 + 1 + b) h86_2 h86_3 (fun z => by rw [vc_p hNx hjb ha (by omega)]; first | (rw [if_pos c111]; exact Bool.eq_false_iff.mpr (fun y => hdg ⟨by omega, y⟩)) | (rw [if_neg c111]; exact Bool.eq_false_iff.mpr (fun y => hdg ⟨by omega, y⟩))) (by rw [hNx]; omega)⟩) rfl rfl
                · refine j_iconst (v := nI 0) C dX8_readPerson_114 (by decide) ?_
                  refine j_goto (tgt := 120) C dX8_readPerson_115 (by decide) ?_
                  refine j_callV0 (As := [.int (nI (b0 + w)), .int (nI 0), .int (nI 0)]) (rest := [.int (nI (6 * a + b)), .ref (mm 7)]) C (c_X8_digit mm fl tv so sg ce N B kf pf (nI (b0 + (j0 + 1 + b))) (nI N0) vrb (upd rk a (nI 1)) rp1 lf tf kp c df mf gf (b0 + (j0 + 1 + b)) (b0 + w) 0 0 rfl (by omega) (by omega) (by omega) (by omega)) gX8_readPerson_X8_digit rfl 3 rfl (by decide +kernel) (by decide) 0 rfl rfl (Nat.le_of_ble_eq_true rfl) dX8_readPerson_120 rfl (fun _ _ => ?_)
                  show J X (wM mm cy fl tv so sg ce (nI N) (nI B) kf pf (if b0 + (j0 + 1 + b) < b0 + w ∧ dgt 0 0 (ce (b0 + (j0 + 1 + b))) = true then nI (b0 + (j0 + 1 + b) + 1) else nI (b0 + (j0 + 1 + b))) (nI N0) vrb (upd rk a (nI 1)) rp1 lf tf kp (nI c) df mf gf) 123 [(0, .ref (mm 0)), (1, .int (nI (b0 + w))), (2, .int (nI a)), (4, .int (nI b))] [.int (if b0 + (j0 + 1 + b) < b0 + w ∧ dgt 0 0 (ce (b0 + (j0 + 1 + b))) = true then nI (dv (ce (b0 + (j0 + 1 + b)))) else -9), .int (nI (6 * a + b)), .ref (mm 7)]
                  refine j_iast (ws' := wM mm cy fl tv so sg ce (nI N) (nI B) kf pf (if b0 + (j0 + 1 + b) < b0 + w ∧ dgt 0 0 (ce (b0 + (j0 + 1 + b))) = true then nI (b0 + (j0 + 1 + b) + 1) else nI (b0 + (j0 + 1 + b))) (nI N0) vrb (upd rk a (nI 1)) (upd rp1 (6 * a + b) (if b0 + (j0 + 1 + b) < b0 + w ∧ dgt 0 0 (ce (b0 + (j0 + 1 + b))) = true then nI (dv (ce (b0 + (j0 + 1 + b)))) else -9)) lf tf kp (nI c) df mf gf) C 7 rfl (by omega) (by decide) rfl dX8_readPerson_123 ?_
                  refine j_aload_n C 0 dX8_readPerson_124 rfl rfl ?_
                  refine j_get C mh0 13 mh5 0 rfl rfl (by decide) rfl rfl dX8_readPerson_125 ?_
                  refine j_iload_n C 2 dX8_readPerson_128 rfl rfl ?_
                  refine j_iload C 3 dX8_readPerson_129 rfl ?_
                  refine j_callP (As := [.int (nI a), .int (nI b)]) (rest := [.ref (mm 7)]) C (c_X8_spot a b) gX8_readPerson_X8_spot rfl 2 rfl (by decide +kernel) (by decide) (Nat.le_of_ble_eq_true rfl) dX8_readPerson_131 rfl (fun _ _ => ?_)
                  show J X (wM mm cy fl tv so sg ce (nI N) (nI B) kf pf (if b0 + (j0 + 1 + b) < b0 + w ∧ dgt 0 0 (ce (b0 + (j0 + 1 + b))) = true then nI (b0 + (j0 + 1 + b) + 1) else nI (b0 + (j0 + 1 + b))) (nI N0) vrb (upd rk a (nI 1)) (upd rp1 (6 * a + b) (if b0 + (j0 + 1 + b) < b0 + w ∧ dgt 0 0 (ce (b0 + (j0 + 1 + b))) = true then nI (dv (ce (b0 + (j0 + 1 + b)))) else -9)) lf tf kp (nI c) df mf gf) 134 [(0, .ref (mm 0)), (1, .int (nI (b0 + w))), (2, .int (nI a)), (4, .int (nI b))] [.int (nI (6 * a + b)), .ref (mm 7)]
                  refine j_iald (v := if b0 + (j0 + 1 + b) < b0 + w ∧ dgt 0 0 (ce (b0 + (j0 + 1 + b))) = true then nI (dv (ce (b0 + (j0 + 1 + b)))) else -9) C 7 rfl (by omega) (by decide) pk_us dX8_readPerson_134 ?_
                  refine j_bipush (v := (-9)) C dX8_readPerson_135 (by decide) ?_
                  refine j_icmp_ne (tgt := 142) C dX8_readPerson_137 (by decide) (fun c137 => ?_) (fun c137 => ?_)
                  · have hdg := dg_ne c137
                    simp only [if_pos hdg]
                    have hvb : vcd (fun j => ce (b0 + j)) (j0 + 1 + b) = true := by rw [vc_p hNx hjb ha (by omega)]; first | (rw [if_pos c111]; exact hdg.2) | (rw [if_neg c111]; exact hdg.2)
                    show J X (wM mm cy fl tv so sg ce (nI N) (nI B) kf pf (nI (b0 + (j0 + 1 + b) + 1)) (nI N0) vrb (upd rk a (nI 1)) (upd rp1 (6 * a + b) (nI (dv (ce (b0 + (j0 + 1 + b)))))) lf tf kp (nI c) df mf gf) 142 [(0, .ref (mm 0)), (1, .int (nI (b0 + w))), (2, .int (nI a)), (4, .int (nI b))] []
                    refine j_iinc (v := nI (b + 1)) (lv' := [(4, .int (nI (b + 1))), (0, .ref (mm 0)), (1, .int (nI (b0 + w))), (2, .int (nI a))]) C 3 dX8_readPerson_142 rfl (nI_inc b) (by decide) rfl ?_
                    refine j_goto (tgt := 86) C dX8_readPerson_145 (by decide) ?_
                    refine J.sub [1, 2, 3, 0] rfl ?_
                    have e := ih86 (b + 1) (upd rp1 (6 * a + b) (nI (dv (ce (b0 + (j0 + 1 + b)))))) (by omega) (by omega) (by omega) (all_s h86_3 hvb) (tx_p h86_4 hNx h6 hjb ha (by omega) hvb)
                    exact e
                  · have hdg := dg_eq (fun z => dv_lt (by decide) z.2) c137
                    simp only [if_neg hdg]
                    show J X (wM mm cy fl tv so sg ce (nI N) (nI B) kf pf (nI (b0 + (j0 + 1 + b))) (nI N0) vrb (upd rk a (nI 1)) (upd rp1 (6 * a + b) (-9)) lf tf kp (nI c) df mf gf) 140 [(0, .ref (mm 0)), (1, .int (nI (b0 + w))), (2, .int (nI a)), (4, .int (nI b))] []
                    refine j_iconst (v := nI 0) C dX8_readPerson_140 (by decide) ?_
                    exact j_zret C E dX8_readPerson_141 rfl (false, j0 + 1 + b, upd rk a (nI 1), upd rp1 (6 * a + b) (-9)) (Or.inr ⟨rfl, fl_at (j := j0 + 1 + b) h86_2 h86_3 (fun z => by rw [vc_p hNx hjb ha (by omega)]; first | (rw [if_pos c111]; exact Bool.eq_false_iff.mpr (fun y => hdg ⟨by omega, y⟩)) | (rw [if_neg c111]; exact Bool.eq_false_iff.mpr (fun y => hdg ⟨by omega, y⟩))) (by rw [hNx]; omega)⟩) rfl rfl
          have e := L86 (N0 + 1) 0 rp (by omega) (by omega) (by omega) (all_s hall (by rw [vc_k hNx hj0 ha]; exact decide_eq_true (Or.inr (Or.inl c40)))) (tx_k hI hNx hj0 ha (by rw [vc_k hNx hj0 ha]; exact decide_eq_true (Or.inr (Or.inl c40))) (kd_r c30 c40))
          exact e
        · exact absurd c68 (by decide)
    · refine j_iconst (v := nI 0) C dX8_readPerson_33 (by decide) ?_
      refine j_goto (tgt := 59) C dX8_readPerson_34 (by decide) ?_
      refine j_iast (ws' := wM mm cy fl tv so sg ce (nI N) (nI B) kf pf (nI (b0 + j0)) (nI N0) vrb (upd rk a (nI 0)) rp lf tf kp (nI c) df mf gf) C 6 rfl (by omega) (by decide) rfl dX8_readPerson_59 ?_
      refine j_aload_n C 1 dX8_readPerson_60 rfl rfl ?_
      refine j_get C mh0 12 mh2 0 rfl rfl (by decide) rfl rfl dX8_readPerson_61 ?_
      refine j_iload_n C 3 dX8_readPerson_64 rfl rfl ?_
      refine j_iald (v := nI 0) C 6 rfl (by omega) (by decide) pk_us dX8_readPerson_65 ?_
      refine j_bipush (v := (-9)) C dX8_readPerson_66 (by decide) ?_
      refine j_icmp_ne (tgt := 73) C dX8_readPerson_68 (by decide) (fun c68 => ?_) (fun c68 => ?_)
      · refine j_aload_n C 1 dX8_readPerson_73 rfl rfl ?_
        refine j_dup C dX8_readPerson_74 rfl ?_
        refine j_get C mh0 9 mh1 0 rfl rfl (by decide) rfl rfl dX8_readPerson_75 ?_
        refine j_iconst (v := nI 1) C dX8_readPerson_78 (by decide) ?_
        refine j_iadd (v := nI ((b0 + j0) + 1)) C dX8_readPerson_79 (nI_add _ _) ?_
        refine j_put (ws' := wM mm cy fl tv so sg ce (nI N) (nI B) kf pf (nI ((b0 + j0) + 1)) (nI N0) vrb (upd rk a (nI 0)) rp lf tf kp (nI c) df mf gf) C mh0 9 mh1 tyX8 tyX8_ok nmX8 0 rfl rfl (by decide) rfl rfl (by decide +kernel) (Nat.le_of_ble_eq_true rfl) rfl dX8_readPerson_80 ?_
        refine j_iconst (v := nI 0) C dX8_readPerson_83 (by decide) ?_
        refine j_istore (lv' := [(4, .int (nI 0)), (3, .int (ce (b0 + j0))), (0, .ref (mm 0)), (1, .int (nI (b0 + w))), (2, .int (nI a))]) C dX8_readPerson_84 (by decide) rfl ?_
        refine J.sub [2, 3, 4, 0] rfl ?_
        have L86 : ∀ (n : Nat) (b : Nat) (rp1 : Nat → Int32), N0 - b < n → b ≤ N0 → j0 + 1 + b ≤ w → (∀ q, q < j0 + 1 + b → vcd (fun j => ce (b0 + j)) q = true) → TxI (fun j => ce (b0 + j)) (j0 + 1 + b) (nI N0) vrb (upd rk a (nI 0)) (PF rp1) → J X (wM mm cy fl tv so sg ce (nI N) (nI B) kf pf (nI (b0 + (j0 + 1 + b))) (nI N0) vrb (upd rk a (nI 0)) rp1 lf tf kp (nI c) df mf gf) 86 [(0, .ref (mm 0)), (1, .int (nI (b0 + w))), (2, .int (nI a)), (4, .int (nI b))] [] := by
          intro n
          induction n with
          | zero => intro b rp1 hm; exact absurd hm (Nat.not_lt_zero _)
          | succ n ih86 =>
            intro b rp1 h86_0 h86_1 h86_2 h86_3 h86_4
            have hjb : j0 + 1 + b = 3 + a * (N0 + 2) + 2 + b := by omega
            refine j_iload C 3 dX8_readPerson_86 rfl ?_
            refine j_aload_n C 0 dX8_readPerson_88 rfl rfl ?_
            refine j_get C mh0 10 mh4 0 rfl rfl (by decide) rfl rfl dX8_readPerson_89 ?_
            refine j_icmp_geN (tgt := 148) C dX8_readPerson_92 (by decide) (by omega) (by omega) (fun c92 => ?_) (fun c92 => ?_)
            · refine j_iconst (v := nI 1) C dX8_readPerson_148 (by decide) ?_
              exact j_zret C E dX8_readPerson_149 rfl (true, j0 + 1 + b, upd rk a (nI 0), rp1) (Or.inl ⟨rfl, show j0 + 1 + b = 3 + (a + 1) * (N0 + 2) by rw [Nat.succ_mul]; omega, h86_2, h86_3, h86_4⟩) rfl rfl
            · refine j_aload_n C 0 dX8_readPerson_95 rfl rfl ?_
              refine j_get C mh0 13 mh5 0 rfl rfl (by decide) rfl rfl dX8_readPerson_96 ?_
              refine j_iload_n C 2 dX8_readPerson_99 rfl rfl ?_
              refine j_iload C 3 dX8_readPerson_100 rfl ?_
              refine j_callP (As := [.int (nI a), .int (nI b)]) (rest := [.ref (mm 7)]) C (c_X8_spot a b) gX8_readPerson_X8_spot rfl 2 rfl (by decide +kernel) (by decide) (Nat.le_of_ble_eq_true rfl) dX8_readPerson_102 rfl (fun _ _ => ?_)
              show J X (wM mm cy fl tv so sg ce (nI N) (nI B) kf pf (nI (b0 + (j0 + 1 + b))) (nI N0) vrb (upd rk a (nI 0)) rp1 lf tf kp (nI c) df mf gf) 105 [(0, .ref (mm 0)), (1, .int (nI (b0 + w))), (2, .int (nI a)), (4, .int (nI b))] [.int (nI (6 * a + b)), .ref (mm 7)]
              refine j_aload_n C 0 dX8_readPerson_105 rfl rfl ?_
              refine j_iload_n C 1 dX8_readPerson_106 rfl rfl ?_
              refine j_iconst (v := nI 0) C dX8_readPerson_107 (by decide) ?_
              refine j_iload C 3 dX8_readPerson_108 rfl ?_
              refine j_iload_n C 2 dX8_readPerson_110 rfl rfl ?_
              refine j_icmp_neN (tgt := 118) C dX8_readPerson_111 (by decide) (by omega) (by omega) (fun c111 => ?_) (fun c111 => ?_)
              · refine j_bipush (v := nI 9) C dX8_readPerson_118 (by decide) ?_
                refine j_callV0 (As := [.int (nI (b0 + w)), .int (nI 0), .int (nI 9)]) (rest := [.int (nI (6 * a + b)), .ref (mm 7)]) C (c_X8_digit mm fl tv so sg ce N B kf pf (nI (b0 + (j0 + 1 + b))) (nI N0) vrb (upd rk a (nI 0)) rp1 lf tf kp c df mf gf (b0 + (j0 + 1 + b)) (b0 + w) 0 9 rfl (by omega) (by omega) (by omega) (by omega)) gX8_readPerson_X8_digit rfl 3 rfl (by decide +kernel) (by decide) 0 rfl rfl (Nat.le_of_ble_eq_true rfl) dX8_readPerson_120 rfl (fun _ _ => ?_)
                show J X (wM mm cy fl tv so sg ce (nI N) (nI B) kf pf (if b0 + (j0 + 1 + b) < b0 + w ∧ dgt 0 9 (ce (b0 + (j0 + 1 + b))) = true then nI (b0 + (j0 + 1 + b) + 1) else nI (b0 + (j0 + 1 + b))) (nI N0) vrb (upd rk a (nI 0)) rp1 lf tf kp (nI c) df mf gf) 123 [(0, .ref (mm 0)), (1, .int (nI (b0 + w))), (2, .int (nI a)), (4, .int (nI b))] [.int (if b0 + (j0 + 1 + b) < b0 + w ∧ dgt 0 9 (ce (b0 + (j0 + 1 + b))) = true then nI (dv (ce (b0 + (j0 + 1 + b)))) else -9), .int (nI (6 * a + b)), .ref (mm 7)]
                refine j_iast (ws' := wM mm cy fl tv so sg ce (nI N) (nI B) kf pf (if b0 + (j0 + 1 + b) < b0 + w ∧ dgt 0 9 (ce (b0 + (j0 + 1 + b))) = true then nI (b0 + (j0 + 1 + b) + 1) else nI (b0 + (j0 + 1 + b))) (nI N0) vrb (upd rk a (nI 0)) (upd rp1 (6 * a + b) (if b0 + (j0 + 1 + b) < b0 + w ∧ dgt 0 9 (ce (b0 + (j0 + 1 + b))) = true then nI (dv (ce (b0 + (j0 + 1 + b)))) else -9)) lf tf kp (nI c) df mf gf) C 7 rfl (by omega) (by decide) rfl dX8_readPerson_123 ?_
                refine j_aload_n C 0 dX8_readPerson_124 rfl rfl ?_
                refine j_get C mh0 13 mh5 0 rfl rfl (by decide) rfl rfl dX8_readPerson_125 ?_
                refine j_iload_n C 2 dX8_readPerson_128 rfl rfl ?_
                refine j_iload C 3 dX8_readPerson_129 rfl ?_
                refine j_callP (As := [.int (nI a), .int (nI b)]) (rest := [.ref (mm 7)]) C (c_X8_spot a b) gX8_readPerson_X8_spot rfl 2 rfl (by decide +kernel) (by decide) (Nat.le_of_ble_eq_true rfl) dX8_readPerson_131 rfl (fun _ _ => ?_)
                show J X (wM mm cy fl tv so sg ce (nI N) (nI B) kf pf (if b0 + (j0 + 1 + b) < b0 + w ∧ dgt 0 9 (ce (b0 + (j0 + 1 + b))) = true then nI (b0 + (j0 + 1 + b) + 1) else nI (b0 + (j0 + 1 + b))) (nI N0) vrb (upd rk a (nI 0)) (upd rp1 (6 * a + b) (if b0 + (j0 + 1 + b) < b0 + w ∧ dgt 0 9 (ce (b0 + (j0 + 1 + b))) = true then nI (dv (ce (b0 + (j0 + 1 + b)))) else -9)) lf tf kp (nI c) df mf gf) 134 [(0, .ref (mm 0)), (1, .int (nI (b0 + w))), (2, .int (nI a)), (4, .int (nI b))] [.int (nI (6 * a + b)), .ref (mm 7)]
                refine j_iald (v := if b0 + (j0 + 1 + b) < b0 + w ∧ dgt 0 9 (ce (b0 + (j0 + 1 + b))) = true then nI (dv (ce (b0 + (j0 + 1 + b)))) else -9) C 7 rfl (by omega) (by decide) pk_us dX8_readPerson_134 ?_
                refine j_bipush (v := (-9)) C dX8_readPerson_135 (by decide) ?_
                refine j_icmp_ne (tgt := 142) C dX8_readPerson_137 (by decide) (fun c137 => ?_) (fun c137 => ?_)
                · have hdg := dg_ne c137
                  simp only [if_pos hdg]
                  have hvb : vcd (fun j => ce (b0 + j)) (j0 + 1 + b) = true := by rw [vc_p hNx hjb ha (by omega)]; first | (rw [if_pos c111]; exact hdg.2) | (rw [if_neg c111]; exact hdg.2)
                  show J X (wM mm cy fl tv so sg ce (nI N) (nI B) kf pf (nI (b0 + (j0 + 1 + b) + 1)) (nI N0) vrb (upd rk a (nI 0)) (upd rp1 (6 * a + b) (nI (dv (ce (b0 + (j0 + 1 + b)))))) lf tf kp (nI c) df mf gf) 142 [(0, .ref (mm 0)), (1, .int (nI (b0 + w))), (2, .int (nI a)), (4, .int (nI b))] []
                  refine j_iinc (v := nI (b + 1)) (lv' := [(4, .int (nI (b + 1))), (0, .ref (mm 0)), (1, .int (nI (b0 + w))), (2, .int (nI a))]) C 3 dX8_readPerson_142 rfl (nI_inc b) (by decide) rfl ?_
                  refine j_goto (tgt := 86) C dX8_readPerson_145 (by decide) ?_
                  refine J.sub [1, 2, 3, 0] rfl ?_
                  have e := ih86 (b + 1) (upd rp1 (6 * a + b) (nI (dv (ce (b0 + (j0 + 1 + b)))))) (by omega) (by omega) (by omega) (all_s h86_3 hvb) (tx_p h86_4 hNx h6 hjb ha (by omega) hvb)
                  exact e
                · have hdg := dg_eq (fun z => dv_lt (by decide) z.2) c137
                  simp only [if_neg hdg]
                  show J X (wM mm cy fl tv so sg ce (nI N) (nI B) kf pf (nI (b0 + (j0 + 1 + b))) (nI N0) vrb (upd rk a (nI 0)) (upd rp1 (6 * a + b) (-9)) lf tf kp (nI c) df mf gf) 140 [(0, .ref (mm 0)), (1, .int (nI (b0 + w))), (2, .int (nI a)), (4, .int (nI b))] []
                  refine j_iconst (v := nI 0) C dX8_readPerson_140 (by decide) ?_
                  exact j_zret C E dX8_readPerson_141 rfl (false, j0 + 1 + b, upd rk a (nI 0), upd rp1 (6 * a + b) (-9)) (Or.inr ⟨rfl, fl_at (j := j0 + 1 + b) h86_2 h86_3 (fun z => by rw [vc_p hNx hjb ha (by omega)]; first | (rw [if_pos c111]; exact Bool.eq_false_iff.mpr (fun y => hdg ⟨by omega, y⟩)) | (rw [if_neg c111]; exact Bool.eq_false_iff.mpr (fun y => hdg ⟨by omega, y⟩))) (by rw [hNx]; omega)⟩) rfl rfl
              · refine j_iconst (v := nI 0) C dX8_readPerson_114 (by decide) ?_
                refine j_goto (tgt := 120) C dX8_readPerson_115 (by decide) ?_
                refine j_callV0 (As := [.int (nI (b0 + w)), .int (nI 0), .int (nI 0)]) (rest := [.int (nI (6 * a + b)), .ref (mm 7)]) C (c_X8_digit mm fl tv so sg ce N B kf pf (nI (b0 + (j0 + 1 + b))) (nI N0) vrb (upd rk a (nI 0)) rp1 lf tf kp c df mf gf (b0 + (j0 + 1 + b)) (b0 + w) 0 0 rfl (by omega) (by omega) (by omega) (by omega)) gX8_readPerson_X8_digit rfl 3 rfl (by decide +kernel) (by decide) 0 rfl rfl (Nat.le_of_ble_eq_true rfl) dX8_readPerson_120 rfl (fun _ _ => ?_)
                show J X (wM mm cy fl tv so sg ce (nI N) (nI B) kf pf (if b0 + (j0 + 1 + b) < b0 + w ∧ dgt 0 0 (ce (b0 + (j0 + 1 + b))) = true then nI (b0 + (j0 + 1 + b) + 1) else nI (b0 + (j0 + 1 + b))) (nI N0) vrb (upd rk a (nI 0)) rp1 lf tf kp (nI c) df mf gf) 123 [(0, .ref (mm 0)), (1, .int (nI (b0 + w))), (2, .int (nI a)), (4, .int (nI b))] [.int (if b0 + (j0 + 1 + b) < b0 + w ∧ dgt 0 0 (ce (b0 + (j0 + 1 + b))) = true then nI (dv (ce (b0 + (j0 + 1 + b)))) else -9), .int (nI (6 * a + b)), .ref (mm 7)]
                refine j_iast (ws' := wM mm cy fl tv so sg ce (nI N) (nI B) kf pf (if b0 + (j0 + 1 + b) < b0 + w ∧ dgt 0 0 (ce (b0 + (j0 + 1 + b))) = true then nI (b0 + (j0 + 1 + b) + 1) else nI (b0 + (j0 + 1 + b))) (nI N0) vrb (upd rk a (nI 0)) (upd rp1 (6 * a + b) (if b0 + (j0 + 1 + b) < b0 + w ∧ dgt 0 0 (ce (b0 + (j0 + 1 + b))) = true then nI (dv (ce (b0 + (j0 + 1 + b)))) else -9)) lf tf kp (nI c) df mf gf) C 7 rfl (by omega) (by decide) rfl dX8_readPerson_123 ?_
                refine j_aload_n C 0 dX8_readPerson_124 rfl rfl ?_
                refine j_get C mh0 13 mh5 0 rfl rfl (by decide) rfl rfl dX8_readPerson_125 ?_
                refine j_iload_n C 2 dX8_readPerson_128 rfl rfl ?_
                refine j_iload C 3 dX8_readPerson_129 rfl ?_
                refine j_callP (As := [.int (nI a), .int (nI b)]) (rest := [.ref (mm 7)]) C (c_X8_spot a b) gX8_readPerson_X8_spot rfl 2 rfl (by decide +kernel) (by decide) (Nat.le_of_ble_eq_true rfl) dX8_readPerson_131 rfl (fun _ _ => ?_)
                show J X (wM mm cy fl tv so sg ce (nI N) (nI B) kf pf (if b0 + (j0 + 1 + b) < b0 + w ∧ dgt 0 0 (ce (b0 + (j0 + 1 + b))) = true then nI (b0 + (j0 + 1 + b) + 1) else nI (b0 + (j0 + 1 + b))) (nI N0) vrb (upd rk a (nI 0)) (upd rp1 (6 * a + b) (if b0 + (j0 + 1 + b) < b0 + w ∧ dgt 0 0 (ce (b0 + (j0 + 1 + b))) = true then nI (dv (ce (b0 + (j0 + 1 + b)))) else -9)) lf tf kp (nI c) df mf gf) 134 [(0, .ref (mm 0)), (1, .int (nI (b0 + w))), (2, .int (nI a)), (4, .int (nI b))] [.int (nI (6 * a + b)), .ref (mm 7)]
                refine j_iald (v := if b0 + (j0 + 1 + b) < b0 + w ∧ dgt 0 0 (ce (b0 + (j0 + 1 + b))) = true then nI (dv (ce (b0 + (j0 + 1 + b)))) else -9) C 7 rfl (by omega) (by decide) pk_us dX8_readPerson_134 ?_
                refine j_bipush (v := (-9)) C dX8_readPerson_135 (by decide) ?_
                refine j_icmp_ne (tgt := 142) C dX8_readPerson_137 (by decide) (fun c137 => ?_) (fun c137 => ?_)
                · have hdg := dg_ne c137
                  simp only [if_pos hdg]
                  have hvb : vcd (fun j => ce (b0 + j)) (j0 + 1 + b) = true := by rw [vc_p hNx hjb ha (by omega)]; first | (rw [if_pos c111]; exact hdg.2) | (rw [if_neg c111]; exact hdg.2)
                  show J X (wM mm cy fl tv so sg ce (nI N) (nI B) kf pf (nI (b0 + (j0 + 1 + b) + 1)) (nI N0) vrb (upd rk a (nI 0)) (upd rp1 (6 * a + b) (nI (dv (ce (b0 + (j0 + 1 + b)))))) lf tf kp (nI c) df mf gf) 142 [(0, .ref (mm 0)), (1, .int (nI (b0 + w))), (2, .int (nI a)), (4, .int (nI b))] []
                  refine j_iinc (v := nI (b + 1)) (lv' := [(4, .int (nI (b + 1))), (0, .ref (mm 0)), (1, .int (nI (b0 + w))), (2, .int (nI a))]) C 3 dX8_readPerson_142 rfl (nI_inc b) (by decide) rfl ?_
                  refine j_goto (tgt := 86) C dX8_readPerson_145 (by decide) ?_
                  refine J.sub [1, 2, 3, 0] rfl ?_
                  have e := ih86 (b + 1) (upd rp1 (6 * a + b) (nI (dv (ce (b0 + (j0 + 1 + b)))))) (by omega) (by omega) (by omega) (all_s h86_3 hvb) (tx_p h86_4 hNx h6 hjb ha (by omega) hvb)
                  exact e
                · have hdg := dg_eq (fun z => dv_lt (by decide) z.2) c137
                  simp only [if_neg hdg]
                  show J X (wM mm cy fl tv so sg ce (nI N) (nI B) kf pf (nI (b0 + (j0 + 1 + b))) (nI N0) vrb (upd rk a (nI 0)) (upd rp1 (6 * a + b) (-9)) lf tf kp (nI c) df mf gf) 140 [(0, .ref (mm 0)), (1, .int (nI (b0 + w))), (2, .int (nI a)), (4, .int (nI b))] []
                  refine j_iconst (v := nI 0) C dX8_readPerson_140 (by decide) ?_
                  exact j_zret C E dX8_readPerson_141 rfl (false, j0 + 1 + b, upd rk a (nI 0), upd rp1 (6 * a + b) (-9)) (Or.inr ⟨rfl, fl_at (j := j0 + 1 + b) h86_2 h86_3 (fun z => by rw [vc_p hNx hjb ha (by omega)]; first | (rw [if_pos c111]; exact Bool.eq_false_iff.mpr (fun y => hdg ⟨by omega, y⟩)) | (rw [if_neg c111]; exact Bool.eq_false_iff.mpr (fun y => hdg ⟨by omega, y⟩))) (by rw [hNx]; omega)⟩) rfl rfl
        have e := L86 (N0 + 1) 0 rp (by omega) (by omega) (by omega) (all_s hall (by rw [vc_k hNx hj0 ha]; exact decide_eq_true (Or.inl c30))) (tx_k hI hNx hj0 ha (by rw [vc_k hNx hj0 ha]; exact decide_eq_true (Or.inl c30)) (kd_p c30))
        exact e
      · exact absurd c68 (by decide)
