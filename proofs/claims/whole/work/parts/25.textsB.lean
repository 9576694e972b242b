set_option maxHeartbeats 4000000 in
set_option maxRecDepth 20000 in
theorem c_takesCode0 {l : Launch} {D : va_G} {cy : Nat → ClassId} (a : Nat → Nat) (vN vB : Int32) (kf : Nat → Int32) (pf : Nat → Nat → Int32) (lf tf : Nat → Int32) (d : Int32)  : Ct l yX5_takesCode wsX5_takesCode ({ frames := 1, cells := 0, slots := 0, locals := 24 }) D cy [.ref (a 0), .int (nI 0), .int d] (wT a cy vN vB kf pf lf tf) (fun _ : Unit => True) (fun _ => some (.int (nI (bN (d = nI 108))))) (fun _ => wT a cy vN vB kf pf lf tf) := by
  refine Ct.of (cc := cX5_takesCode) (nL := 6) (ret := (some .boolean)) rfl (by decide) ⟨rfl, rfl⟩ (Nat.le_of_ble_eq_true rfl) ?_
  intro X C E
  have C : Cx X l D cy cX5_takesCode 6 wsX5_takesCode RX5 ({ frames := 1, cells := 0, slots := 0, locals := 24 }) := C
  show J X (wT a cy vN vB kf pf lf tf) 0 [(0, .ref (a 0)), (1, .int (nI 0)), (2, .int d)] []
  refine j_iload_n C 1 dX5_takesCode_0 rfl rfl ?_
  refine j_if_neN (tgt := 16) C dX5_takesCode_1 (by decide) (by omega) (fun c1 => ?_) (fun c1 => ?_)
  · exact absurd rfl c1
  · refine j_iload_n C 2 dX5_takesCode_4 rfl rfl ?_
    refine j_bipush (v := nI 108) C dX5_takesCode_5 (by decide) ?_
    refine j_icmp_ne (tgt := 14) C dX5_takesCode_7 (by decide) (fun c7 => ?_) (fun c7 => ?_)
    · refine j_iconst (v := nI 0) C dX5_takesCode_14 (by decide) ?_
      exact j_zret C E dX5_takesCode_15 rfl () trivial (by first | exact ret_y c7 | exact ret_n c7) rfl
    · refine j_iconst (v := nI 1) C dX5_takesCode_10 (by decide) ?_
      refine j_goto (tgt := 15) C dX5_takesCode_11 (by decide) ?_
      exact j_zret C E dX5_takesCode_15 rfl () trivial (by first | exact ret_y c7 | exact ret_n c7) rfl
set_option maxHeartbeats 4000000 in
set_option maxRecDepth 20000 in
theorem c_takesCode1 {l : Launch} {D : va_G} {cy : Nat → ClassId} (a : Nat → Nat) (vN vB : Int32) (kf : Nat → Int32) (pf : Nat → Nat → Int32) (lf tf : Nat → Int32) (d : Int32)  : Ct l yX5_takesCode wsX5_takesCode ({ frames := 1, cells := 0, slots := 0, locals := 24 }) D cy [.ref (a 0), .int (nI 1), .int d] (wT a cy vN vB kf pf lf tf) (fun _ : Unit => True) (fun _ => some (.int (nI (bN (¬ d - nI 48 < nI 2 ∧ d - nI 48 ≤ nI 6))))) (fun _ => wT a cy (if (¬ d - nI 48 < nI 2 ∧ d - nI 48 ≤ nI 6) then d - nI 48 else vN) vB kf pf lf tf) := by
  refine Ct.of (cc := cX5_takesCode) (nL := 6) (ret := (some .boolean)) rfl (by decide) ⟨rfl, rfl⟩ (Nat.le_of_ble_eq_true rfl) ?_
  intro X C E
  have C : Cx X l D cy cX5_takesCode 6 wsX5_takesCode RX5 ({ frames := 1, cells := 0, slots := 0, locals := 24 }) := C
  show J X (wT a cy vN vB kf pf lf tf) 0 [(0, .ref (a 0)), (1, .int (nI 1)), (2, .int d)] []
  refine j_iload_n C 1 dX5_takesCode_0 rfl rfl ?_
  refine j_if_neN (tgt := 16) C dX5_takesCode_1 (by decide) (by omega) (fun c1 => ?_) (fun c1 => ?_)
  · refine j_iload_n C 1 dX5_takesCode_16 rfl rfl ?_
    refine j_iconst (v := nI 1) C dX5_takesCode_17 (by decide) ?_
    refine j_icmp_neN (tgt := 30) C dX5_takesCode_18 (by decide) (by omega) (by omega) (fun c18 => ?_) (fun c18 => ?_)
    · exact absurd rfl c18
    · refine j_aload_n C 0 dX5_takesCode_21 rfl rfl ?_
      refine j_iload_n C 2 dX5_takesCode_22 rfl rfl ?_
      refine j_bipush (v := nI 48) C dX5_takesCode_23 (by decide) ?_
      refine j_isub (v := d - nI 48) C dX5_takesCode_25 rfl ?_
      refine j_callV0 (As := [.int (d - nI 48)]) (rest := []) C (c_X5_takesPeople a vN vB kf pf lf tf (d - nI 48)) gX5_takesCode_X5_takesPeople rfl 1 rfl (by decide +kernel) (by decide) 0 rfl rfl (Nat.le_of_ble_eq_true rfl) dX5_takesCode_26 rfl (fun _ _ => ?_)
      show J X (wT a cy (if (¬ d - nI 48 < nI 2 ∧ d - nI 48 ≤ nI 6) then d - nI 48 else vN) vB kf pf lf tf) 29 [(0, .ref (a 0)), (1, .int (nI 1)), (2, .int d)] [.int (nI (bN (¬ d - nI 48 < nI 2 ∧ d - nI 48 ≤ nI 6)))]
      exact j_zret C E dX5_takesCode_29 (narB _) () trivial rfl rfl
  · exact absurd c1 (by decide)
set_option maxHeartbeats 4000000 in
set_option maxRecDepth 20000 in
theorem c_takesCode2 {l : Launch} {D : va_G} {cy : Nat → ClassId} (a : Nat → Nat) (vN vB : Int32) (kf : Nat → Int32) (pf : Nat → Nat → Int32) (lf tf : Nat → Int32) (d : Int32)  : Ct l yX5_takesCode wsX5_takesCode ({ frames := 1, cells := 0, slots := 0, locals := 24 }) D cy [.ref (a 0), .int (nI 2), .int d] (wT a cy vN vB kf pf lf tf) (fun _ : Unit => True) (fun _ => some (.int (nI (bN (¬ d - nI 48 < nI 0 ∧ d - nI 48 ≤ nI 9))))) (fun _ => wT a cy vN (if (¬ d - nI 48 < nI 0 ∧ d - nI 48 ≤ nI 9) then d - nI 48 else vB) kf pf lf tf) := by
  refine Ct.of (cc := cX5_takesCode) (nL := 6) (ret := (some .boolean)) rfl (by decide) ⟨rfl, rfl⟩ (Nat.le_of_ble_eq_true rfl) ?_
  intro X C E
  have C : Cx X l D cy cX5_takesCode 6 wsX5_takesCode RX5 ({ frames := 1, cells := 0, slots := 0, locals := 24 }) := C
  show J X (wT a cy vN vB kf pf lf tf) 0 [(0, .ref (a 0)), (1, .int (nI 2)), (2, .int d)] []
  refine j_iload_n C 1 dX5_takesCode_0 rfl rfl ?_
  refine j_if_neN (tgt := 16) C dX5_takesCode_1 (by decide) (by omega) (fun c1 => ?_) (fun c1 => ?_)
  · refine j_iload_n C 1 dX5_takesCode_16 rfl rfl ?_
    refine j_iconst (v := nI 1) C dX5_takesCode_17 (by decide) ?_
    refine j_icmp_neN (tgt := 30) C dX5_takesCode_18 (by decide) (by omega) (by omega) (fun c18 => ?_) (fun c18 => ?_)
    · refine j_iload_n C 1 dX5_takesCode_30 rfl rfl ?_
      refine j_iconst (v := nI 2) C dX5_takesCode_31 (by decide) ?_
      refine j_icmp_neN (tgt := 44) C dX5_takesCode_32 (by decide) (by omega) (by omega) (fun c32 => ?_) (fun c32 => ?_)
      · exact absurd rfl c32
      · refine j_aload_n C 0 dX5_takesCode_35 rfl rfl ?_
        refine j_iload_n C 2 dX5_takesCode_36 rfl rfl ?_
        refine j_bipush (v := nI 48) C dX5_takesCode_37 (by decide) ?_
        refine j_isub (v := d - nI 48) C dX5_takesCode_39 rfl ?_
        refine j_callV0 (As := [.int (d - nI 48)]) (rest := []) C (c_X5_takesBell a vN vB kf pf lf tf (d - nI 48)) gX5_takesCode_X5_takesBell rfl 1 rfl (by decide +kernel) (by decide) 0 rfl rfl (Nat.le_of_ble_eq_true rfl) dX5_takesCode_40 rfl (fun _ _ => ?_)
        show J X (wT a cy vN (if (¬ d - nI 48 < nI 0 ∧ d - nI 48 ≤ nI 9) then d - nI 48 else vB) kf pf lf tf) 43 [(0, .ref (a 0)), (1, .int (nI 2)), (2, .int d)] [.int (nI (bN (¬ d - nI 48 < nI 0 ∧ d - nI 48 ≤ nI 9)))]
        exact j_zret C E dX5_takesCode_43 (narB _) () trivial rfl rfl
    · exact absurd c18 (by decide)
  · exact absurd c1 (by decide)
set_option maxHeartbeats 4000000 in
set_option maxRecDepth 20000 in
theorem c_takesCode3 {l : Launch} {D : va_G} {cy : Nat → ClassId} (a : Nat → Nat) (vB : Int32) (kf : Nat → Int32) (pf : Nat → Nat → Int32) (lf tf : Nat → Int32) (N j : Nat) (d : Int32) (hN0 : 0 < N) (hN : N ≤ 6) (hj3 : 3 ≤ j) (hj : j ≤ 60) : Ct l yX5_takesCode wsX5_takesCode ({ frames := 1, cells := 0, slots := 0, locals := 24 }) D cy [.ref (a 0), .int (nI j), .int d] (wT a cy (nI N) vB kf pf lf tf) (fun u : (Nat → Int32) × (Nat → Nat → Int32) => hiP N j d kf pf u) (fun _ => some (.int (nI (bN (vhi N j d = true))))) (fun u => wT a cy (nI N) vB u.1 u.2 lf tf) := by
  refine Ct.of (cc := cX5_takesCode) (nL := 6) (ret := (some .boolean)) rfl (by decide) ⟨rfl, rfl⟩ (Nat.le_of_ble_eq_true rfl) ?_
  intro X C E
  have C : Cx X l D cy cX5_takesCode 6 wsX5_takesCode RX5 ({ frames := 1, cells := 0, slots := 0, locals := 24 }) := C
  have mh0 : ∀ w ∈ u_ws RX5 TX5 7, w ∈ wsX5_takesCode := by decide +kernel
  have mh1 : Cond.fieldLink RX5 40 RX5 (TX5 5).2.1 (TX5 5).2.2.1 ∈ wsX5_takesCode := by decide +kernel
  have htl := tl_le hN
  show J X (wT a cy (nI N) vB kf pf lf tf) 0 [(0, .ref (a 0)), (1, .int (nI j)), (2, .int d)] []
  refine j_iload_n C 1 dX5_takesCode_0 rfl rfl ?_
  refine j_if_neN (tgt := 16) C dX5_takesCode_1 (by decide) (by omega) (fun c1 => ?_) (fun c1 => ?_)
  · refine j_iload_n C 1 dX5_takesCode_16 rfl rfl ?_
    refine j_iconst (v := nI 1) C dX5_takesCode_17 (by decide) ?_
    refine j_icmp_neN (tgt := 30) C dX5_takesCode_18 (by decide) (by omega) (by omega) (fun c18 => ?_) (fun c18 => ?_)
    · refine j_iload_n C 1 dX5_takesCode_30 rfl rfl ?_
      refine j_iconst (v := nI 2) C dX5_takesCode_31 (by decide) ?_
      refine j_icmp_neN (tgt := 44) C dX5_takesCode_32 (by decide) (by omega) (by omega) (fun c32 => ?_) (fun c32 => ?_)
      · refine j_iload_n C 1 dX5_takesCode_44 rfl rfl ?_
        refine j_aload_n C 0 dX5_takesCode_45 rfl rfl ?_
        refine j_callV0 (As := []) (rest := [.int (nI j)]) C (c_X5_textLength a vB kf pf lf tf N) gX5_takesCode_X5_textLength rfl 0 rfl (by decide +kernel) (by decide) 0 rfl rfl (Nat.le_of_ble_eq_true rfl) dX5_takesCode_46 rfl (fun _ _ => ?_)
        show J X (wT a cy (nI N) vB kf pf lf tf) 49 [(0, .ref (a 0)), (1, .int (nI j)), (2, .int d)] [.int (nI (tl N)), .int (nI j)]
        refine j_icmp_ltN (tgt := 54) C dX5_takesCode_49 (by decide) (by omega) (by omega) (fun c49 => ?_) (fun c49 => ?_)
        · have hr : (j - 3) % (N + 2) < N + 2 := Nat.mod_lt _ (by omega)
          have hq : (j - 3) / (N + 2) < N := row_lt c49 (by omega) (by omega)
          refine j_aload_n C 0 dX5_takesCode_54 rfl rfl ?_
          refine j_get C mh0 5 mh1 0 rfl rfl (by decide) rfl rfl dX5_takesCode_55 ?_
          refine j_iconst (v := nI 2) C dX5_takesCode_58 (by decide) ?_
          refine j_iadd (v := nI (N + 2)) C dX5_takesCode_59 (nI_add _ _) ?_
          refine j_istore_n (lv' := [(3, .int (nI (N + 2))), (0, .ref (a 0)), (1, .int (nI j)), (2, .int d)]) C dX5_takesCode_60 rfl (by decide) rfl ?_
          refine j_iload_n C 2 dX5_takesCode_61 rfl rfl ?_
          refine j_iconst (v := nI 3) C dX5_takesCode_62 (by decide) ?_
          refine j_isub (v := nI (j - 3)) C dX5_takesCode_63 (pk_sub (by omega)) ?_
          refine j_iload_n C 0 dX5_takesCode_64 rfl rfl ?_
          refine j_idiv (v := nI ((j - 3) / (N + 2))) C dX5_takesCode_65 (nI_ne0 (by omega) (by omega)) (pk_div (by omega) (by omega) (by omega)) ?_
          refine j_istore (lv' := [(4, .int (nI ((j - 3) / (N + 2)))), (3, .int (nI (N + 2))), (0, .ref (a 0)), (1, .int (nI j)), (2, .int d)]) C dX5_takesCode_66 (by decide) rfl ?_
          refine j_iload_n C 3 dX5_takesCode_68 rfl rfl ?_
          refine j_iconst (v := nI 3) C dX5_takesCode_69 (by decide) ?_
          refine j_isub (v := nI (j - 3)) C dX5_takesCode_70 (pk_sub (by omega)) ?_
          refine j_iload_n C 1 dX5_takesCode_71 rfl rfl ?_
          refine j_irem (v := nI ((j - 3) % (N + 2))) C dX5_takesCode_72 (nI_ne0 (by omega) (by omega)) (pk_rem (by omega) (by omega) (by omega)) ?_
          refine j_istore (lv' := [(5, .int (nI ((j - 3) % (N + 2)))), (4, .int (nI ((j - 3) / (N + 2)))), (3, .int (nI (N + 2))), (0, .ref (a 0)), (1, .int (nI j)), (2, .int d)]) C dX5_takesCode_73 (by decide) rfl ?_
          refine j_iload C 0 dX5_takesCode_75 rfl ?_
          refine j_if_neN (tgt := 92) C dX5_takesCode_77 (by decide) (by omega) (fun c77 => ?_) (fun c77 => ?_)
          · refine j_iload C 0 dX5_takesCode_92 rfl ?_
            refine j_iconst (v := nI 1) C dX5_takesCode_94 (by decide) ?_
            refine j_icmp_neN (tgt := 106) C dX5_takesCode_95 (by decide) (by omega) (by omega) (fun c95 => ?_) (fun c95 => ?_)
            · refine j_aload_n C 3 dX5_takesCode_106 rfl rfl ?_
              refine j_iload C 1 dX5_takesCode_107 rfl ?_
              refine j_iload C 0 dX5_takesCode_109 rfl ?_
              refine j_iconst (v := nI 2) C dX5_takesCode_111 (by decide) ?_
              refine j_isub (v := nI (((j - 3) % (N + 2)) - 2)) C dX5_takesCode_112 (pk_sub (by omega)) ?_
              refine j_iload_n C 5 dX5_takesCode_113 rfl rfl ?_
              refine j_bipush (v := nI 48) C dX5_takesCode_114 (by decide) ?_
              refine j_isub (v := d - nI 48) C dX5_takesCode_116 rfl ?_
              refine j_callV0 (As := [.int (nI ((j - 3) / (N + 2))), .int (nI (((j - 3) % (N + 2)) - 2)), .int (d - nI 48)]) (rest := []) C (c_X5_takesPence a (nI N) vB kf pf lf tf ((j - 3) / (N + 2)) ((j - 3) % (N + 2) - 2) (d - nI 48) (by omega) (by omega)) gX5_takesCode_X5_takesPence rfl 3 rfl (by decide +kernel) (by decide) 0 rfl rfl (Nat.le_of_ble_eq_true rfl) dX5_takesCode_117 rfl (fun _ _ => ?_)
              show J X (wT a cy (nI N) vB kf (if (¬ d - nI 48 < nI 0 ∧ d - nI 48 ≤ nI (if (j - 3) / (N + 2) = (j - 3) % (N + 2) - 2 then 0 else 9)) then updR pf ((j - 3) / (N + 2)) (upd (pf ((j - 3) / (N + 2))) ((j - 3) % (N + 2) - 2) (d - nI 48)) else pf) lf tf) 120 [(5, .int (nI ((j - 3) % (N + 2)))), (4, .int (nI ((j - 3) / (N + 2)))), (3, .int (nI (N + 2))), (0, .ref (a 0)), (1, .int (nI j)), (2, .int d)] [.int (nI (bN (¬ d - nI 48 < nI 0 ∧ d - nI 48 ≤ nI (if (j - 3) / (N + 2) = (j - 3) % (N + 2) - 2 then 0 else 9))))]
              exact j_zret C E dX5_takesCode_120 (narB _) (kf, if (¬ d - nI 48 < nI 0 ∧ d - nI 48 ≤ nI (if (j - 3) / (N + 2) = (j - 3) % (N + 2) - 2 then 0 else 9)) then updR pf ((j - 3) / (N + 2)) (upd (pf ((j - 3) / (N + 2))) ((j - 3) % (N + 2) - 2) (d - nI 48)) else pf) (fun z => ⟨fun w => absurd w c77, fun w => absurd w c95, fun _ => by rw [vhi_2 c49 c77 c95, ← dg_cases] at z; rw [if_pos z]⟩) (rv_c (by rw [vhi_2 c49 c77 c95]; exact (dg_cases _ _ _).symm)) rfl
            · refine j_aload_n C 3 dX5_takesCode_98 rfl rfl ?_
              refine j_iload C 1 dX5_takesCode_99 rfl ?_
              refine j_iload_n C 5 dX5_takesCode_101 rfl rfl ?_
              refine j_callV0 (As := [.int (nI ((j - 3) / (N + 2))), .int d]) (rest := []) C (c_X5_takesKind a (nI N) vB kf pf lf tf ((j - 3) / (N + 2)) d (by omega)) gX5_takesCode_X5_takesKind rfl 2 rfl (by decide +kernel) (by decide) 0 rfl rfl (Nat.le_of_ble_eq_true rfl) dX5_takesCode_102 rfl (fun _ _ => ?_)
              show J X (wT a cy (nI N) vB (if (d = nI 112 ∨ d = nI 114 ∨ d = nI 98) then upd kf ((j - 3) / (N + 2)) (nI (kd d)) else kf) pf lf tf) 105 [(5, .int (nI ((j - 3) % (N + 2)))), (4, .int (nI ((j - 3) / (N + 2)))), (3, .int (nI (N + 2))), (0, .ref (a 0)), (1, .int (nI j)), (2, .int d)] [.int (nI (bN (d = nI 112 ∨ d = nI 114 ∨ d = nI 98)))]
              exact j_zret C E dX5_takesCode_105 (narB _) (if (d = nI 112 ∨ d = nI 114 ∨ d = nI 98) then upd kf ((j - 3) / (N + 2)) (nI (kd d)) else kf, pf) (fun z => ⟨fun w => absurd w c77, fun _ => by rw [vhi_1 c49 c95, decide_eq_true_eq] at z; rw [if_pos z], fun w => by omega⟩) (rv_c (by rw [vhi_1 c49 c95, decide_eq_true_eq])) rfl
          · refine j_iload_n C 5 dX5_takesCode_80 rfl rfl ?_
            refine j_bipush (v := nI 44) C dX5_takesCode_81 (by decide) ?_
            refine j_icmp_ne (tgt := 90) C dX5_takesCode_83 (by decide) (fun c83 => ?_) (fun c83 => ?_)
            · refine j_iconst (v := nI 0) C dX5_takesCode_90 (by decide) ?_
              exact j_zret C E dX5_takesCode_91 rfl (kf, pf) (fun _ => ⟨fun _ => rfl, fun z => by omega, fun z => by omega⟩) (by first | exact ret_y (by rw [vhi_0 c49 c77]; exact decide_eq_true c83) | exact ret_n (by rw [vhi_0 c49 c77, decide_eq_true_eq]; exact c83)) rfl
            · refine j_iconst (v := nI 1) C dX5_takesCode_86 (by decide) ?_
              refine j_goto (tgt := 91) C dX5_takesCode_87 (by decide) ?_
              exact j_zret C E dX5_takesCode_91 rfl (kf, pf) (fun _ => ⟨fun _ => rfl, fun z => by omega, fun z => by omega⟩) (by first | exact ret_y (by rw [vhi_0 c49 c77]; exact decide_eq_true c83) | exact ret_n (by rw [vhi_0 c49 c77, decide_eq_true_eq]; exact c83)) rfl
        · refine j_iconst (v := nI 0) C dX5_takesCode_52 (by decide) ?_
          exact j_zret C E dX5_takesCode_53 rfl (kf, pf) (fun z => by rw [vhi_o c49] at z; cases z) (ret_n (by rw [vhi_o c49]; decide)) rfl
      · exact absurd c32 (by omega)
    · exact absurd c18 (by omega)
  · exact absurd c1 (by omega)
