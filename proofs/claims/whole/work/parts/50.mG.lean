set_option maxHeartbeats 4000000 in
set_option maxRecDepth 20000 in
theorem c_X8_copy {l : Launch} {D : va_G} {cy : Nat → ClassId} (mm : Nat → Nat) (fl tv : Int32) (so sg ce : Nat → Int32) (N B : Nat) (kf pf : Nat → Int32) (vat vrm vrb : Int32) (rk rp lf tf kp : Nat → Int32) (c : Nat) (df mf gf : Nat → Int32) (k : Nat → Nat) (p : Nat → Nat → Nat) (rd rl : Nat → Nat) (ra : Nat → Option Nat) (hs : Nat → Bool) (sl sa : Nat → Nat) (sc : Nat → Nat → Int32) (hX : MI ((N, B, k, p), (c, rd, rl, ra), (hs, sl, sa, sc), tv, fl) (fl, tv, so, sg, ce, nI N, nI B, kf, pf, vat, vrm, vrb, rk, rp, lf, tf, kp, nI c, df, mf, gf)) (q i o j m : Int32)  : Ct l yX8_copy wsX8_copy ({ frames := 2, cells := 0, slots := 0, locals := 42 }) D cy [.ref (mm 0), .int q, .int i, .int o, .int j, .int m] (wM mm cy fl tv so sg ce (nI N) (nI B) kf pf vat vrm vrb rk rp lf tf kp (nI c) df mf gf) (fun u : MS => MI (m_copy ((N, B, k, p), (c, rd, rl, ra), (hs, sl, sa, sc), tv, fl) q i o j m).2 u) (fun _ => some (.int (m_copy ((N, B, k, p), (c, rd, rl, ra), (hs, sl, sa, sc), tv, fl) q i o j m).1)) (fun u => wMu mm cy u) := by
  refine Ct.of (cc := cX8_copy) (nL := 10) (ret := (some .int)) rfl (by decide) ⟨rfl, rfl⟩ (Nat.le_of_ble_eq_true rfl) ?_
  intro X C E
  have C : Cx X l D cy cX8_copy 10 wsX8_copy RX8 ({ frames := 2, cells := 0, slots := 0, locals := 42 }) := C
  have mh0 : ∀ w ∈ u_ws RX8 TX8 21, w ∈ wsX8_copy := by decide +kernel
  have mh1 : Cond.fieldLink RX8 50 RX8 (TX8 0).2.1 (TX8 0).2.2.1 ∈ wsX8_copy := by decide +kernel
  have mh2 : Cond.fieldLink RX8 9 RX8 (TX8 2).2.1 (TX8 2).2.2.1 ∈ wsX8_copy := by decide +kernel
  have mh3 : Cond.fieldLink RX8 13 RX8 (TX8 3).2.1 (TX8 3).2.2.1 ∈ wsX8_copy := by decide +kernel
  have mh4 : Cond.fieldLink RX8 16 RX8 (TX8 4).2.1 (TX8 4).2.2.1 ∈ wsX8_copy := by decide +kernel
  obtain ⟨-, ⟨hB, hN2⟩, hT, hR, hS⟩ := hX
  have hN := hT.n
  have hc8 := hR.1
  have hN30 : N ≤ 2 ^ 30 := by omega
  show J X (wM mm cy fl tv so sg ce (nI N) (nI B) kf pf vat vrm vrb rk rp lf tf kp (nI c) df mf gf) 0 [(0, .ref (mm 0)), (1, .int q), (2, .int i), (3, .int o), (4, .int j), (5, .int m)] []
  refine j_aload_n C 0 dX8_copy_0 rfl rfl ?_
  refine j_iconst (v := nI 0) C dX8_copy_1 (by decide) ?_
  refine j_put (ws' := wM mm cy (nI 0) tv so sg ce (nI N) (nI B) kf pf vat vrm vrb rk rp lf tf kp (nI c) df mf gf) C mh0 0 mh1 tyX8 tyX8_ok nmX8 0 rfl rfl (by decide) rfl rfl (by decide +kernel) (Nat.le_of_ble_eq_true rfl) rfl dX8_copy_2 ?_
  refine j_iload_n C 1 dX8_copy_5 rfl rfl ?_
  refine j_callP (As := [.int q]) (rest := []) C (c_X8_isSheet (q)) gX8_copy_X8_isSheet rfl 1 rfl (by decide +kernel) (by decide) (Nat.le_of_ble_eq_true rfl) dX8_copy_6 rfl (fun _ _ => ?_)
  show J X (wM mm cy (nI 0) tv so sg ce (nI N) (nI B) kf pf vat vrm vrb rk rp lf tf kp (nI c) df mf gf) 9 [(0, .ref (mm 0)), (1, .int q), (2, .int i), (3, .int o), (4, .int j), (5, .int m)] [.int (nI (bN ((pOf 4 (q)).isSome = true)))]
  refine j_if_eqN (tgt := 19) C dX8_copy_9 (by decide) (bN_lt _) (fun c9 => ?_) (fun c9 => ?_)
  · have c9 := bN_0.mp c9
    have qa1 := pOf_n c9
    refine j_iconst (v := (-1)) C dX8_copy_19 (by decide) ?_
    exact j_iret C E dX8_copy_20 (nI 0, tv, so, sg, ce, nI N, nI B, kf, pf, vat, vrm, vrb, rk, rp, lf, tf, kp, nI c, df, mf, gf) (by rw [show m_copy ((N, B, k, p), (c, rd, rl, ra), (hs, sl, sa, sc), tv, fl) q i o j m = ((-1), ((N, B, k, p), (c, rd, rl, ra), (hs, sl, sa, sc), tv, nI 0)) from (by simp only [m_copy, qa1, reduceCtorEq, if_true, if_false, Bool.false_eq_true, ne_eq, not_true_eq_false, not_false_eq_true, and_true, true_and, and_false, false_and, or_true, true_or, or_false, false_or]; try rfl)]; exact MI.mk hB hN2 hT hR hS) (by rw [show m_copy ((N, B, k, p), (c, rd, rl, ra), (hs, sl, sa, sc), tv, fl) q i o j m = ((-1), ((N, B, k, p), (c, rd, rl, ra), (hs, sl, sa, sc), tv, nI 0)) from (by simp only [m_copy, qa1, reduceCtorEq, if_true, if_false, Bool.false_eq_true, ne_eq, not_true_eq_false, not_false_eq_true, and_true, true_and, and_false, false_and, or_true, true_or, or_false, false_or]; try rfl)]) rfl
  · have c9 := bN_1.mp c9
    obtain ⟨a1, ha1, rfl⟩ := pY (by decide) c9
    have qa1 := pI ha1 (by decide)
    show J X (wM mm cy (nI 0) tv so sg ce (nI N) (nI B) kf pf vat vrm vrb rk rp lf tf kp (nI c) df mf gf) 12 [(0, .ref (mm 0)), (1, .int (nI a1)), (2, .int i), (3, .int o), (4, .int j), (5, .int m)] []
    refine j_iload_n C 3 dX8_copy_12 rfl rfl ?_
    refine j_callP (As := [.int o]) (rest := []) C (c_X8_isSheet (o)) gX8_copy_X8_isSheet rfl 1 rfl (by decide +kernel) (by decide) (Nat.le_of_ble_eq_true rfl) dX8_copy_13 rfl (fun _ _ => ?_)
    show J X (wM mm cy (nI 0) tv so sg ce (nI N) (nI B) kf pf vat vrm vrb rk rp lf tf kp (nI c) df mf gf) 16 [(0, .ref (mm 0)), (1, .int (nI a1)), (2, .int i), (3, .int o), (4, .int j), (5, .int m)] [.int (nI (bN ((pOf 4 (o)).isSome = true)))]
    refine j_if_neN (tgt := 21) C dX8_copy_16 (by decide) (bN_lt _) (fun c16 => ?_) (fun c16 => ?_)
    · have c16 := bN_1.mp c16
      obtain ⟨b1, hb1, rfl⟩ := pY (by decide) c16
      have qb1 := pI hb1 (by decide)
      show J X (wM mm cy (nI 0) tv so sg ce (nI N) (nI B) kf pf vat vrm vrb rk rp lf tf kp (nI c) df mf gf) 21 [(0, .ref (mm 0)), (1, .int (nI a1)), (2, .int i), (3, .int (nI b1)), (4, .int j), (5, .int m)] []
      refine j_aload_n C 0 dX8_copy_21 rfl rfl ?_
      refine j_get C mh0 2 mh2 0 rfl rfl (by decide) rfl rfl dX8_copy_22 ?_
      refine j_iload_n C 1 dX8_copy_25 rfl rfl ?_
      refine j_iald (v := so a1) C 1 rfl (by omega) (by decide) rfl dX8_copy_26 ?_
      refine j_bipush (v := (-9)) C dX8_copy_27 (by decide) ?_
      refine j_icmp_eq (tgt := 43) C dX8_copy_29 (by decide) (fun c29 => ?_) (fun c29 => ?_)
      · have qh := hS.f ha1 c29
        refine j_aload_n C 0 dX8_copy_43 rfl rfl ?_
        refine j_iconst (v := nI 1) C dX8_copy_44 (by decide) ?_
        refine j_callV0 (As := [.int (nI 1)]) (rest := []) C (c_X8_fails mm (nI 0) tv so sg ce N B kf pf vat vrm vrb rk rp lf tf kp c df mf gf 1) gX8_copy_X8_fails rfl 1 rfl (by decide +kernel) (by decide) 0 rfl rfl (Nat.le_of_ble_eq_true rfl) dX8_copy_45 rfl (fun _ _ => ?_)
        show J X (wM mm cy (nI 1) tv so sg ce (nI N) (nI B) kf pf vat vrm vrb rk rp lf tf kp (nI c) df mf gf) 48 [(0, .ref (mm 0)), (1, .int (nI a1)), (2, .int i), (3, .int (nI b1)), (4, .int j), (5, .int m)] [.int ((-10) - nI 1)]
        exact j_iret C E dX8_copy_48 (nI 1, tv, so, sg, ce, nI N, nI B, kf, pf, vat, vrm, vrb, rk, rp, lf, tf, kp, nI c, df, mf, gf) (by rw [show m_copy ((N, B, k, p), (c, rd, rl, ra), (hs, sl, sa, sc), tv, fl) (nI a1) i (nI b1) j m = ((-10) - nI 1, ((N, B, k, p), (c, rd, rl, ra), (hs, sl, sa, sc), tv, nI 1)) from (by simp only [m_copy, qa1, qb1, qh, reduceCtorEq, if_true, if_false, Bool.false_eq_true, ne_eq, not_true_eq_false, not_false_eq_true, and_true, true_and, and_false, false_and, or_true, true_or, or_false, false_or]; try rfl)]; exact MI.mk hB hN2 hT hR hS) (by rw [show m_copy ((N, B, k, p), (c, rd, rl, ra), (hs, sl, sa, sc), tv, fl) (nI a1) i (nI b1) j m = ((-10) - nI 1, ((N, B, k, p), (c, rd, rl, ra), (hs, sl, sa, sc), tv, nI 1)) from (by simp only [m_copy, qa1, qb1, qh, reduceCtorEq, if_true, if_false, Bool.false_eq_true, ne_eq, not_true_eq_false, not_false_eq_true, and_true, true_and, and_false, false_and, or_true, true_or, or_false, false_or]; try rfl)]) rfl
      · have qh := hS.t ha1 c29
        have qln := hS.hln ha1 qh
        have q60 := hS.l60 ha1 qh
        have qla := hS.hla ha1 qh
        have qa2 := hS.a2 ha1 qh
        refine j_aload_n C 0 dX8_copy_32 rfl rfl ?_
        refine j_get C mh0 2 mh2 0 rfl rfl (by decide) rfl rfl dX8_copy_33 ?_
        refine j_iload_n C 3 dX8_copy_36 rfl rfl ?_
        refine j_iald (v := so b1) C 1 rfl (by omega) (by decide) rfl dX8_copy_37 ?_
        refine j_bipush (v := (-9)) C dX8_copy_38 (by decide) ?_
        refine j_icmp_ne (tgt := 49) C dX8_copy_40 (by decide) (fun c40 => ?_) (fun c40 => ?_)
        · have qk := hS.t hb1 c40
          have qlb := hS.hln hb1 qk
          have r60 := hS.l60 hb1 qk
          have qma := hS.hla hb1 qk
          have qb2 := hS.a2 hb1 qk
          refine j_aload_n C 0 dX8_copy_49 rfl rfl ?_
          refine j_get C mh0 2 mh2 0 rfl rfl (by decide) rfl rfl dX8_copy_50 ?_
          refine j_iload_n C 1 dX8_copy_53 rfl rfl ?_
          refine j_iald (v := so a1) C 1 rfl (by omega) (by decide) rfl dX8_copy_54 ?_
          refine j_aload_n C 0 dX8_copy_55 rfl rfl ?_
          refine j_get C mh0 2 mh2 0 rfl rfl (by decide) rfl rfl dX8_copy_56 ?_
          refine j_iload_n C 3 dX8_copy_59 rfl rfl ?_
          refine j_iald (v := so b1) C 1 rfl (by omega) (by decide) rfl dX8_copy_60 ?_
          refine j_icmp_eq (tgt := 70) C dX8_copy_61 (by decide) (fun c61 => ?_) (fun c61 => ?_)
          · have qv : sa a1 = sa b1 := by rw [qla, qma] at c61; exact (nI_eq (by omega) (by omega)).mp c61
            refine j_iload_n C 2 dX8_copy_70 rfl rfl ?_
            refine j_if_lt (tgt := 109) C dX8_copy_71 (by decide) (fun c71 => ?_) (fun c71 => ?_)
            · refine j_iconst (v := nI 0) C dX8_copy_109 (by decide) ?_
              refine j_istore (lv' := [(6, .int (nI 0)), (0, .ref (mm 0)), (1, .int (nI a1)), (2, .int i), (3, .int (nI b1)), (4, .int j), (5, .int m)]) C dX8_copy_110 (by decide) rfl ?_
              refine j_iload C 0 dX8_copy_112 rfl ?_
              refine j_if_eqN (tgt := 144) C dX8_copy_114 (by decide) (by omega) (fun c114 => ?_) (fun c114 => ?_)
              · refine j_aload_n C 1 dX8_copy_144 rfl rfl ?_
                refine j_iconst (v := nI 3) C dX8_copy_145 (by decide) ?_
                refine j_callV0 (As := [.int (nI 3)]) (rest := []) C (c_X8_fails mm (nI 0) tv so sg ce N B kf pf vat vrm vrb rk rp lf tf kp c df mf gf 3) gX8_copy_X8_fails rfl 1 rfl (by decide +kernel) (by decide) 0 rfl rfl (Nat.le_of_ble_eq_true rfl) dX8_copy_146 rfl (fun _ _ => ?_)
                show J X (wM mm cy (nI 3) tv so sg ce (nI N) (nI B) kf pf vat vrm vrb rk rp lf tf kp (nI c) df mf gf) 149 [(6, .int (nI 0)), (0, .ref (mm 0)), (1, .int (nI a1)), (2, .int i), (3, .int (nI b1)), (4, .int j), (5, .int m)] [.int ((-10) - nI 3)]
                exact j_iret C E dX8_copy_149 (nI 3, tv, so, sg, ce, nI N, nI B, kf, pf, vat, vrm, vrb, rk, rp, lf, tf, kp, nI c, df, mf, gf) (by rw [show m_copy ((N, B, k, p), (c, rd, rl, ra), (hs, sl, sa, sc), tv, fl) (nI a1) i (nI b1) j m = ((-10) - nI 3, ((N, B, k, p), (c, rd, rl, ra), (hs, sl, sa, sc), tv, nI 3)) from (by have qn : ¬ ((0 ≤ i.toInt ∧ i.toInt ≤ sl a1 ∧ 0 ≤ m.toInt ∧ m.toInt ≤ sl a1 - i.toInt) ∧ (0 ≤ j.toInt ∧ j.toInt ≤ sl b1 ∧ 0 ≤ m.toInt ∧ m.toInt ≤ sl b1 - j.toInt)) := (fun z => by have w1 := (cells_i q60).mpr z.1; have w2 := (cells_i r60).mpr z.2; first | exact w1.1 c71 | exact w2.1 c76 | exact w1.2.2.1 c81 | exact w1.2.1 c91 | exact w2.2.1 c102 | exact w1.2.2.2 c127 | exact w2.2.2.2 (Int32.not_le.mp c141)); simp only [m_copy, qa1, qb1, qh, qk, qv, if_neg qn, reduceCtorEq, if_true, if_false, Bool.false_eq_true, ne_eq, not_true_eq_false, not_false_eq_true, and_true, true_and, and_false, false_and, or_true, true_or, or_false, false_or])]; exact MI.mk hB hN2 hT hR hS) (by rw [show m_copy ((N, B, k, p), (c, rd, rl, ra), (hs, sl, sa, sc), tv, fl) (nI a1) i (nI b1) j m = ((-10) - nI 3, ((N, B, k, p), (c, rd, rl, ra), (hs, sl, sa, sc), tv, nI 3)) from (by have qn : ¬ ((0 ≤ i.toInt ∧ i.toInt ≤ sl a1 ∧ 0 ≤ m.toInt ∧ m.toInt ≤ sl a1 - i.toInt) ∧ (0 ≤ j.toInt ∧ j.toInt ≤ sl b1 ∧ 0 ≤ m.toInt ∧ m.toInt ≤ sl b1 - j.toInt)) := (fun z => by have w1 := (cells_i q60).mpr z.1; have w2 := (cells_i r60).mpr z.2; first | exact w1.1 c71 | exact w2.1 c76 | exact w1.2.2.1 c81 | exact w1.2.1 c91 | exact w2.2.1 c102 | exact w1.2.2.2 c127 | exact w2.2.2.2 (Int32.not_le.mp c141)); simp only [m_copy, qa1, qb1, qh, qk, qv, if_neg qn, reduceCtorEq, if_true, if_false, Bool.false_eq_true, ne_eq, not_true_eq_false, not_false_eq_true, and_true, true_and, and_false, false_and, or_true, true_or, or_false, false_or])]) rfl
              · exact absurd rfl c114
            · refine j_iload C 4 dX8_copy_74 rfl ?_
              refine j_if_lt (tgt := 109) C dX8_copy_76 (by decide) (fun c76 => ?_) (fun c76 => ?_)
              · refine j_iconst (v := nI 0) C dX8_copy_109 (by decide) ?_
                refine j_istore (lv' := [(6, .int (nI 0)), (0, .ref (mm 0)), (1, .int (nI a1)), (2, .int i), (3, .int (nI b1)), (4, .int j), (5, .int m)]) C dX8_copy_110 (by decide) rfl ?_
                refine j_iload C 0 dX8_copy_112 rfl ?_
                refine j_if_eqN (tgt := 144) C dX8_copy_114 (by decide) (by omega) (fun c114 => ?_) (fun c114 => ?_)
                · refine j_aload_n C 1 dX8_copy_144 rfl rfl ?_
                  refine j_iconst (v := nI 3) C dX8_copy_145 (by decide) ?_
                  refine j_callV0 (As := [.int (nI 3)]) (rest := []) C (c_X8_fails mm (nI 0) tv so sg ce N B kf pf vat vrm vrb rk rp lf tf kp c df mf gf 3) gX8_copy_X8_fails rfl 1 rfl (by decide +kernel) (by decide) 0 rfl rfl (Nat.le_of_ble_eq_true rfl) dX8_copy_146 rfl (fun _ _ => ?_)
                  show J X (wM mm cy (nI 3) tv so sg ce (nI N) (nI B) kf pf vat vrm vrb rk rp lf tf kp (nI c) df mf gf) 149 [(6, .int (nI 0)), (0, .ref (mm 0)), (1, .int (nI a1)), (2, .int i), (3, .int (nI b1)), (4, .int j), (5, .int m)] [.int ((-10) - nI 3)]
                  exact j_iret C E dX8_copy_149 (nI 3, tv, so, sg, ce, nI N, nI B, kf, pf, vat, vrm, vrb, rk, rp, lf, tf, kp, nI c, df, mf, gf) (by rw [show m_copy ((N, B, k, p), (c, rd, rl, ra), (hs, sl, sa, sc), tv, fl) (nI a1) i (nI b1) j m = ((-10) - nI 3, ((N, B, k, p), (c, rd, rl, ra), (hs, sl, sa, sc), tv, nI 3)) from (by have qn : ¬ ((0 ≤ i.toInt ∧ i.toInt ≤ sl a1 ∧ 0 ≤ m.toInt ∧ m.toInt ≤ sl a1 - i.toInt) ∧ (0 ≤ j.toInt ∧ j.toInt ≤ sl b1 ∧ 0 ≤ m.toInt ∧ m.toInt ≤ sl b1 - j.toInt)) := (fun z => by have w1 := (cells_i q60).mpr z.1; have w2 := (cells_i r60).mpr z.2; first | exact w1.1 c71 | exact w2.1 c76 | exact w1.2.2.1 c81 | exact w1.2.1 c91 | exact w2.2.1 c102 | exact w1.2.2.2 c127 | exact w2.2.2.2 (Int32.not_le.mp c141)); simp only [m_copy, qa1, qb1, qh, qk, qv, if_neg qn, reduceCtorEq, if_true, if_false, Bool.false_eq_true, ne_eq, not_true_eq_false, not_false_eq_true, and_true, true_and, and_false, false_and, or_true, true_or, or_false, false_or])]; exact MI.mk hB hN2 hT hR hS) (by rw [show m_copy ((N, B, k, p), (c, rd, rl, ra), (hs, sl, sa, sc), tv, fl) (nI a1) i (nI b1) j m = ((-10) - nI 3, ((N, B, k, p), (c, rd, rl, ra), (hs, sl, sa, sc), tv, nI 3)) from (by have qn : ¬ ((0 ≤ i.toInt ∧ i.toInt ≤ sl a1 ∧ 0 ≤ m.toInt ∧ m.toInt ≤ sl a1 - i.toInt) ∧ (0 ≤ j.toInt ∧ j.toInt ≤ sl b1 ∧ 0 ≤ m.toInt ∧ m.toInt ≤ sl b1 - j.toInt)) := (fun z => by have w1 := (cells_i q60).mpr z.1; have w2 := (cells_i r60).mpr z.2; first | exact w1.1 c71 | exact w2.1 c76 | exact w1.2.2.1 c81 | exact w1.2.1 c91 | exact w2.2.1 c102 | exact w1.2.2.2 c127 | exact w2.2.2.2 (Int32.not_le.mp c141)); simp only [m_copy, qa1, qb1, qh, qk, qv, if_neg qn, reduceCtorEq, if_true, if_false, Bool.false_eq_true, ne_eq, not_true_eq_false, not_false_eq_true, and_true, true_and, and_false, false_and, or_true, true_or, or_false, false_or])]) rfl
                · exact absurd rfl c114
              · refine j_iload C 5 dX8_copy_79 rfl ?_
                refine j_if_lt (tgt := 109) C dX8_copy_81 (by decide) (fun c81 => ?_) (fun c81 => ?_)
                · refine j_iconst (v := nI 0) C dX8_copy_109 (by decide) ?_
                  refine j_istore (lv' := [(6, .int (nI 0)), (0, .ref (mm 0)), (1, .int (nI a1)), (2, .int i), (3, .int (nI b1)), (4, .int j), (5, .int m)]) C dX8_copy_110 (by decide) rfl ?_
                  refine j_iload C 0 dX8_copy_112 rfl ?_
                  refine j_if_eqN (tgt := 144) C dX8_copy_114 (by decide) (by omega) (fun c114 => ?_) (fun c114 => ?_)
                  · refine j_aload_n C 1 dX8_copy_144 rfl rfl ?_
                    refine j_iconst (v := nI 3) C dX8_copy_145 (by decide) ?_
                    refine j_callV0 (As := [.int (nI 3)]) (rest := []) C (c_X8_fails mm (nI 0) tv so sg ce N B kf pf vat vrm vrb rk rp lf tf kp c df mf gf 3) gX8_copy_X8_fails rfl 1 rfl (by decide +kernel) (by decide) 0 rfl rfl (Nat.le_of_ble_eq_true rfl) dX8_copy_146 rfl (fun _ _ => ?_)
                    show J X (wM mm cy (nI 3) tv so sg ce (nI N) (nI B) kf pf vat vrm vrb rk rp lf tf kp (nI c) df mf gf) 149 [(6, .int (nI 0)), (0, .ref (mm 0)), (1, .int (nI a1)), (2, .int i), (3, .int (nI b1)), (4, .int j), (5, .int m)] [.int ((-10) - nI 3)]
                    exact j_iret C E dX8_copy_149 (nI 3, tv, so, sg, ce, nI N, nI B, kf, pf, vat, vrm, vrb, rk, rp, lf, tf, kp, nI c, df, mf, gf) (by rw [show m_copy ((N, B, k, p), (c, rd, rl, ra), (hs, sl, sa, sc), tv, fl) (nI a1) i (nI b1) j m = ((-10) - nI 3, ((N, B, k, p), (c, rd, rl, ra), (hs, sl, sa, sc), tv, nI 3)) from (by have qn : ¬ ((0 ≤ i.toInt ∧ i.toInt ≤ sl a1 ∧ 0 ≤ m.toInt ∧ m.toInt ≤ sl a1 - i.toInt) ∧ (0 ≤ j.toInt ∧ j.toInt ≤ sl b1 ∧ 0 ≤ m.toInt ∧ m.toInt ≤ sl b1 - j.toInt)) := (fun z => by have w1 := (cells_i q60).mpr z.1; have w2 := (cells_i r60).mpr z.2; first | exact w1.1 c71 | exact w2.1 c76 | exact w1.2.2.1 c81 | exact w1.2.1 c91 | exact w2.2.1 c102 | exact w1.2.2.2 c127 | exact w2.2.2.2 (Int32.not_le.mp c141)); simp only [m_copy, qa1, qb1, qh, qk, qv, if_neg qn, reduceCtorEq, if_true, if_false, Bool.false_eq_true, ne_eq, not_true_eq_false, not_false_eq_true, and_true, true_and, and_false, false_and, or_true, true_or, or_false, false_or])]; exact MI.mk hB hN2 hT hR hS) (by rw [show m_copy ((N, B, k, p), (c, rd, rl, ra), (hs, sl, sa, sc), tv, fl) (nI a1) i (nI b1) j m = ((-10) - nI 3, ((N, B, k, p), (c, rd, rl, ra), (hs, sl, sa, sc), tv, nI 3)) from (by have qn : ¬ ((0 ≤ i.toInt ∧ i.toInt ≤ sl a1 ∧ 0 ≤ m.toInt ∧ m.toInt ≤ sl a1 - i.toInt) ∧ (0 ≤ j.toInt ∧ j.toInt ≤ sl b1 ∧ 0 ≤ m.toInt ∧ m.toInt ≤ sl b1 - j.toInt)) := (fun z => by have w1 := (cells_i q60).mpr z.1; have w2 := (cells_i r60).mpr z.2; first | exact w1.1 c71 | exact w2.1 c76 | exact w1.2.2.1 c81 | exact w1.2.1 c91 | exact w2.2.1 c102 | exact w1.2.2.2 c127 | exact w2.2.2.2 (Int32.not_le.mp c141)); simp only [m_copy, qa1, qb1, qh, qk, qv, if_neg qn, reduceCtorEq, if_true, if_false, Bool.false_eq_true, ne_eq, not_true_eq_false, not_false_eq_true, and_true, true_and, and_false, false_and, or_true, true_or, or_false, false_or])]) rfl
                  · exact absurd rfl c114
                · refine j_iload_n C 2 dX8_copy_84 rfl rfl ?_
                  refine j_aload_n C 0 dX8_copy_85 rfl rfl ?_
                  refine j_get C mh0 3 mh3 0 rfl rfl (by decide) rfl rfl dX8_copy_86 ?_
                  refine j_iload_n C 1 dX8_copy_89 rfl rfl ?_
                  refine j_iald (v := nI (sl a1)) C 2 rfl (by omega) (by decide) qln dX8_copy_90 ?_
                  refine j_icmp_gt (tgt := 109) C dX8_copy_91 (by decide) (fun c91 => ?_) (fun c91 => ?_)
                  · refine j_iconst (v := nI 0) C dX8_copy_109 (by decide) ?_
                    refine j_istore (lv' := [(6, .int (nI 0)), (0, .ref (mm 0)), (1, .int (nI a1)), (2, .int i), (3, .int (nI b1)), (4, .int j), (5, .int m)]) C dX8_copy_110 (by decide) rfl ?_
                    refine j_iload C 0 dX8_copy_112 rfl ?_
                    refine j_if_eqN (tgt := 144) C dX8_copy_114 (by decide) (by omega) (fun c114 => ?_) (fun c114 => ?_)
                    · refine j_aload_n C 1 dX8_copy_144 rfl rfl ?_
                      refine j_iconst (v := nI 3) C dX8_copy_145 (by decide) ?_
                      refine j_callV0 (As := [.int (nI 3)]) (rest := []) C (c_X8_fails mm (nI 0) tv so sg ce N B kf pf vat vrm vrb rk rp lf tf kp c df mf gf 3) gX8_copy_X8_fails rfl 1 rfl (by decide +kernel) (by decide) 0 rfl rfl (Nat.le_of_ble_eq_true rfl) dX8_copy_146 rfl (fun _ _ => ?_)
                      show J X (wM mm cy (nI 3) tv so sg ce (nI N) (nI B) kf pf vat vrm vrb rk rp lf tf kp (nI c) df mf gf) 149 [(6, .int (nI 0)), (0, .ref (mm 0)), (1, .int (nI a1)), (2, .int i), (3, .int (nI b1)), (4, .int j), (5, .int m)] [.int ((-10) - nI 3)]
                      exact j_iret C E dX8_copy_149 (nI 3, tv, so, sg, ce, nI N, nI B, kf, pf, vat, vrm, vrb, rk, rp, lf, tf, kp, nI c, df, mf, gf) (by rw [show m_copy ((N, B, k, p), (c, rd, rl, ra), (hs, sl, sa, sc), tv, fl) (nI a1) i (nI b1) j m = ((-10) - nI 3, ((N, B, k, p), (c, rd, rl, ra), (hs, sl, sa, sc), tv, nI 3)) from (by have qn : ¬ ((0 ≤ i.toInt ∧ i.toInt ≤ sl a1 ∧ 0 ≤ m.toInt ∧ m.toInt ≤ sl a1 - i.toInt) ∧ (0 ≤ j.toInt ∧ j.toInt ≤ sl b1 ∧ 0 ≤ m.toInt ∧ m.toInt ≤ sl b1 - j.toInt)) := (fun z => by have w1 := (cells_i q60).mpr z.1; have w2 := (cells_i r60).mpr z.2; first | exact w1.1 c71 | exact w2.1 c76 | exact w1.2.2.1 c81 | exact w1.2.1 c91 | exact w2.2.1 c102 | exact w1.2.2.2 c127 | exact w2.2.2.2 (Int32.not_le.mp c141)); simp only [m_copy, qa1, qb1, qh, qk, qv, if_neg qn, reduceCtorEq, if_true, if_false, Bool.false_eq_true, ne_eq, not_true_eq_false, not_false_eq_true, and_true, true_and, and_false, false_and, or_true, true_or, or_false, false_or])]; exact MI.mk hB hN2 hT hR hS) (by rw [show m_copy ((N, B, k, p), (c, rd, rl, ra), (hs, sl, sa, sc), tv, fl) (nI a1) i (nI b1) j m = ((-10) - nI 3, ((N, B, k, p), (c, rd, rl, ra), (hs, sl, sa, sc), tv, nI 3)) from (by have qn : ¬ ((0 ≤ i.toInt ∧ i.toInt ≤ sl a1 ∧ 0 ≤ m.toInt ∧ m.toInt ≤ sl a1 - i.toInt) ∧ (0 ≤ j.toInt ∧ j.toInt ≤ sl b1 ∧ 0 ≤ m.toInt ∧ m.toInt ≤ sl b1 - j.toInt)) := (fun z => by have w1 := (cells_i q60).mpr z.1; have w2 := (cells_i r60).mpr z.2; first | exact w1.1 c71 | exact w2.1 c76 | exact w1.2.2.1 c81 | exact w1.2.1 c91 | exact w2.2.1 c102 | exact w1.2.2.2 c127 | exact w2.2.2.2 (Int32.not_le.mp c141)); simp only [m_copy, qa1, qb1, qh, qk, qv, if_neg qn, reduceCtorEq, if_true, if_false, Bool.false_eq_true, ne_eq, not_true_eq_false, not_false_eq_true, and_true, true_and, and_false, false_and, or_true, true_or, or_false, false_or])]) rfl
                    · exact absurd rfl c114
                  · refine j_iload C 4 dX8_copy_94 rfl ?_
                    refine j_aload_n C 0 dX8_copy_96 rfl rfl ?_
                    refine j_get C mh0 3 mh3 0 rfl rfl (by decide) rfl rfl dX8_copy_97 ?_
                    refine j_iload_n C 3 dX8_copy_100 rfl rfl ?_
                    refine j_iald (v := nI (sl b1)) C 2 rfl (by omega) (by decide) qlb dX8_copy_101 ?_
                    refine j_icmp_gt (tgt := 109) C dX8_copy_102 (by decide) (fun c102 => ?_) (fun c102 => ?_)
                    · refine j_iconst (v := nI 0) C dX8_copy_109 (by decide) ?_
                      refine j_istore (lv' := [(6, .int (nI 0)), (0, .ref (mm 0)), (1, .int (nI a1)), (2, .int i), (3, .int (nI b1)), (4, .int j), (5, .int m)]) C dX8_copy_110 (by decide) rfl ?_
                      refine j_iload C 0 dX8_copy_112 rfl ?_
                      refine j_if_eqN (tgt := 144) C dX8_copy_114 (by decide) (by omega) (fun c114 => ?_) (fun c114 => ?_)
                      · refine j_aload_n C 1 dX8_copy_144 rfl rfl ?_
                        refine j_iconst (v := nI 3) C dX8_copy_145 (by decide) ?_
                        refine j_callV0 (As := [.int (nI 3)]) (rest := []) C (c_X8_fails mm (nI 0) tv so sg ce N B kf pf vat vrm vrb rk rp lf tf kp c df mf gf 3) gX8_copy_X8_fails rfl 1 rfl (by decide +kernel) (by decide) 0 rfl rfl (Nat.le_of_ble_eq_true rfl) dX8_copy_146 rfl (fun _ _ => ?_)
                        show J X (wM mm cy (nI 3) tv so sg ce (nI N) (nI B) kf pf vat vrm vrb rk rp lf tf kp (nI c) df mf gf) 149 [(6, .int (nI 0)), (0, .ref (mm 0)), (1, .int (nI a1)), (2, .int i), (3, .int (nI b1)), (4, .int j), (5, .int m)] [.int ((-10) - nI 3)]
                        exact j_iret C E dX8_copy_149 (nI 3, tv, so, sg, ce, nI N, nI B, kf, pf, vat, vrm, vrb, rk, rp, lf, tf, kp, nI c, df, mf, gf) (by rw [show m_copy ((N, B, k, p), (c, rd, rl, ra), (hs, sl, sa, sc), tv, fl) (nI a1) i (nI b1) j m = ((-10) - nI 3, ((N, B, k, p), (c, rd, rl, ra), (hs, sl, sa, sc), tv, nI 3)) from (by have qn : ¬ ((0 ≤ i.toInt ∧ i.toInt ≤ sl a1 ∧ 0 ≤ m.toInt ∧ m.toInt ≤ sl a1 - i.toInt) ∧ (0 ≤ j.toInt ∧ j.toInt ≤ sl b1 ∧ 0 ≤ m.toInt ∧ m.toInt ≤ sl b1 - j.toInt)) := (fun z => by have w1 := (cells_i q60).mpr z.1; have w2 := (cells_i r60).mpr z.2; first | exact w1.1 c71 | exact w2.1 c76 | exact w1.2.2.1 c81 | exact w1.2.1 c91 | exact w2.2.1 c102 | exact w1.2.2.2 c127 | exact w2.2.2.2 (Int32.not_le.mp c141)); simp only [m_copy, qa1, qb1, qh, qk, qv, if_neg qn, reduceCtorEq, if_true, if_false, Bool.false_eq_true, ne_eq, not_true_eq_false, not_false_eq_true, and_true, true_and, and_false, false_and, or_true, true_or, or_false, false_or])]; exact MI.mk hB hN2 hT hR hS) (by rw [show m_copy ((N, B, k, p), (c, rd, rl, ra), (hs, sl, sa, sc), tv, fl) (nI a1) i (nI b1) j m = ((-10) - nI 3, ((N, B, k, p), (c, rd, rl, ra), (hs, sl, sa, sc), tv, nI 3)) from (by have qn : ¬ ((0 ≤ i.toInt ∧ i.toInt ≤ sl a1 ∧ 0 ≤ m.toInt ∧ m.toInt ≤ sl a1 - i.toInt) ∧ (0 ≤ j.toInt ∧ j.toInt ≤ sl b1 ∧ 0 ≤ m.toInt ∧ m.toInt ≤ sl b1 - j.toInt)) := (fun z => by have w1 := (cells_i q60).mpr z.1; have w2 := (cells_i r60).mpr z.2; first | exact w1.1 c71 | exact w2.1 c76 | exact w1.2.2.1 c81 | exact w1.2.1 c91 | exact w2.2.1 c102 | exact w1.2.2.2 c127 | exact w2.2.2.2 (Int32.not_le.mp c141)); simp only [m_copy, qa1, qb1, qh, qk, qv, if_neg qn, reduceCtorEq, if_true, if_false, Bool.false_eq_true, ne_eq, not_true_eq_false, not_false_eq_true, and_true, true_and, and_false, false_and, or_true, true_or, or_false, false_or])]) rfl
                      · exact absurd rfl c114
                    · refine j_iconst (v := nI 1) C dX8_copy_105 (by decide) ?_
                      refine j_goto (tgt := 110) C dX8_copy_106 (by decide) ?_
                      refine j_istore (lv' := [(6, .int (nI 1)), (0, .ref (mm 0)), (1, .int (nI a1)), (2, .int i), (3, .int (nI b1)), (4, .int j), (5, .int m)]) C dX8_copy_110 (by decide) rfl ?_
                      refine j_iload C 0 dX8_copy_112 rfl ?_
                      refine j_if_eqN (tgt := 144) C dX8_copy_114 (by decide) (by omega) (fun c114 => ?_) (fun c114 => ?_)
                      · exact absurd c114 (by decide)
                      · refine j_iload C 6 dX8_copy_117 rfl ?_
                        refine j_aload_n C 1 dX8_copy_119 rfl rfl ?_
                        refine j_get C mh0 3 mh3 0 rfl rfl (by decide) rfl rfl dX8_copy_120 ?_
                        refine j_iload_n C 2 dX8_copy_123 rfl rfl ?_
                        refine j_iald (v := nI (sl a1)) C 2 rfl (by omega) (by decide) qln dX8_copy_124 ?_
                        refine j_iload_n C 3 dX8_copy_125 rfl rfl ?_
                        refine j_isub (v := nI (sl a1) - i) C dX8_copy_126 rfl ?_
                        refine j_icmp_gt (tgt := 144) C dX8_copy_127 (by decide) (fun c127 => ?_) (fun c127 => ?_)
                        · refine j_aload_n C 1 dX8_copy_144 rfl rfl ?_
                          refine j_iconst (v := nI 3) C dX8_copy_145 (by decide) ?_
                          refine j_callV0 (As := [.int (nI 3)]) (rest := []) C (c_X8_fails mm (nI 0) tv so sg ce N B kf pf vat vrm vrb rk rp lf tf kp c df mf gf 3) gX8_copy_X8_fails rfl 1 rfl (by decide +kernel) (by decide) 0 rfl rfl (Nat.le_of_ble_eq_true rfl) dX8_copy_146 rfl (fun _ _ => ?_)
                          show J X (wM mm cy (nI 3) tv so sg ce (nI N) (nI B) kf pf vat vrm vrb rk rp lf tf kp (nI c) df mf gf) 149 [(6, .int (nI 1)), (0, .ref (mm 0)), (1, .int (nI a1)), (2, .int i), (3, .int (nI b1)), (4, .int j), (5, .int m)] [.int ((-10) - nI 3)]
                          exact j_iret C E dX8_copy_149 (nI 3, tv, so, sg, ce, nI N, nI B, kf, pf, vat, vrm, vrb, rk, rp, lf, tf, kp, nI c, df, mf, gf) (by rw [show m_copy ((N, B, k, p), (c, rd, rl, ra), (hs, sl, sa, sc), tv, fl) (nI a1) i (nI b1) j m = ((-10) - nI 3, ((N, B, k, p), (c, rd, rl, ra), (hs, sl, sa, sc), tv, nI 3)) from (by have qn : ¬ ((0 ≤ i.toInt ∧ i.toInt ≤ sl a1 ∧ 0 ≤ m.toInt ∧ m.toInt ≤ sl a1 - i.toInt) ∧ (0 ≤ j.toInt ∧ j.toInt ≤ sl b1 ∧ 0 ≤ m.toInt ∧ m.toInt ≤ sl b1 - j.toInt)) := (fun z => by have w1 := (cells_i q60).mpr z.1; have w2 := (cells_i r60).mpr z.2; first | exact w1.1 c71 | exact w2.1 c76 | exact w1.2.2.1 c81 | exact w1.2.1 c91 | exact w2.2.1 c102 | exact w1.2.2.2 c127 | exact w2.2.2.2 (Int32.not_le.mp c141)); simp only [m_copy, qa1, qb1, qh, qk, qv, if_neg qn, reduceCtorEq, if_true, if_false, Bool.false_eq_true, ne_eq, not_true_eq_false, not_false_eq_true, and_true, true_and, and_false, false_and, or_true, true_or, or_false, false_or])]; exact MI.mk hB hN2 hT hR hS) (by rw [show m_copy ((N, B, k, p), (c, rd, rl, ra), (hs, sl, sa, sc), tv, fl) (nI a1) i (nI b1) j m = ((-10) - nI 3, ((N, B, k, p), (c, rd, rl, ra), (hs, sl, sa, sc), tv, nI 3)) from (by have qn : ¬ ((0 ≤ i.toInt ∧ i.toInt ≤ sl a1 ∧ 0 ≤ m.toInt ∧ m.toInt ≤ sl a1 - i.toInt) ∧ (0 ≤ j.toInt ∧ j.toInt ≤ sl b1 ∧ 0 ≤ m.toInt ∧ m.toInt ≤ sl b1 - j.toInt)) := (fun z => by have w1 := (cells_i q60).mpr z.1; have w2 := (cells_i r60).mpr z.2; first | exact w1.1 c71 | exact w2.1 c76 | exact w1.2.2.1 c81 | exact w1.2.1 c91 | exact w2.2.1 c102 | exact w1.2.2.2 c127 | exact w2.2.2.2 (Int32.not_le.mp c141)); simp only [m_copy, qa1, qb1, qh, qk, qv, if_neg qn, reduceCtorEq, if_true, if_false, Bool.false_eq_true, ne_eq, not_true_eq_false, not_false_eq_true, and_true, true_and, and_false, false_and, or_true, true_or, or_false, false_or])]) rfl
                        · refine j_iload C 6 dX8_copy_130 rfl ?_
                          refine j_aload_n C 1 dX8_copy_132 rfl rfl ?_
                          refine j_get C mh0 3 mh3 0 rfl rfl (by decide) rfl rfl dX8_copy_133 ?_
                          refine j_iload_n C 4 dX8_copy_136 rfl rfl ?_
                          refine j_iald (v := nI (sl b1)) C 2 rfl (by omega) (by decide) qlb dX8_copy_137 ?_
                          refine j_iload C 5 dX8_copy_138 rfl ?_
                          refine j_isub (v := nI (sl b1) - j) C dX8_copy_140 rfl ?_
                          refine j_icmp_le (tgt := 150) C dX8_copy_141 (by decide) (fun c141 => ?_) (fun c141 => ?_)
                          · have g1 := (cells_i q60).mp ⟨c71, c91, c81, c127⟩
                            have g2 := (cells_i r60).mp ⟨c76, c102, c81, Int32.not_lt.mpr c141⟩
                            obtain ⟨i1, m1, hm1, rfl, rfl⟩ := cells_y q60 g1
                            obtain ⟨j1, m2, hm2, rfl, em⟩ := cells_y r60 g2
                            have em2 : m2 = m1 := ((nI_eq (by omega) (by omega)).mp em).symm
                            subst em2
                            have t1 := tC60 (m := i1) (by omega)
                            have t2 := tC60 (m := j1) (by omega)
                            have t3 := tC60 (m := m2) (by omega)
                            show J X (wM mm cy (nI 0) tv so sg ce (nI N) (nI B) kf pf vat vrm vrb rk rp lf tf kp (nI c) df mf gf) 150 [(6, .int (nI 1)), (0, .ref (mm 0)), (1, .int (nI a1)), (2, .int (nI i1)), (3, .int (nI b1)), (4, .int (nI j1)), (5, .int (nI m2))] []
                            refine j_iload_n C 3 dX8_copy_150 rfl rfl ?_
                            refine j_iload C 5 dX8_copy_151 rfl ?_
                            refine j_icmp_geN (tgt := 160) C dX8_copy_153 (by decide) (by omega) (by omega) (fun c153 => ?_) (fun c153 => ?_)
                            · refine j_iconst (v := nI 0) C dX8_copy_160 (by decide) ?_
                              refine j_istore (lv' := [(7, .int (nI 0)), (6, .int (nI 1)), (0, .ref (mm 0)), (1, .int (nI a1)), (2, .int (nI i1)), (3, .int (nI b1)), (4, .int (nI j1)), (5, .int (nI m2))]) C dX8_copy_161 (by decide) rfl ?_
                              refine j_iconst (v := nI 0) C dX8_copy_163 (by decide) ?_
                              refine j_istore (lv' := [(8, .int (nI 0)), (7, .int (nI 0)), (6, .int (nI 1)), (0, .ref (mm 0)), (1, .int (nI a1)), (2, .int (nI i1)), (3, .int (nI b1)), (4, .int (nI j1)), (5, .int (nI m2))]) C dX8_copy_164 (by decide) rfl ?_
                              refine J.sub [3, 4, 5, 6, 7, 8, 1, 0] rfl ?_
                              have L166 : ∀ (n : Nat) (t : Nat), m2 - t < n → t ≤ m2 → J X (wM mm cy (nI 0) tv so sg (va_cpy ce ce (60 * a1 + i1) (60 * b1 + j1) t) (nI N) (nI B) kf pf vat vrm vrb rk rp lf tf kp (nI c) df mf gf) 166 [(0, .ref (mm 0)), (1, .int (nI a1)), (2, .int (nI i1)), (3, .int (nI b1)), (4, .int (nI j1)), (5, .int (nI m2)), (7, .int (nI 0)), (8, .int (nI t))] [] := by
                                intro n
                                induction n with
                                | zero => intro t hm; exact absurd hm (Nat.not_lt_zero _)
                                | succ n ih166 =>
                                  intro t h166_0 h166_1
                                  refine j_iload C 7 dX8_copy_166 rfl ?_
                                  refine j_iload C 5 dX8_copy_168 rfl ?_
                                  refine j_icmp_geN (tgt := 227) C dX8_copy_170 (by decide) (by omega) (by omega) (fun c170 => ?_) (fun c170 => ?_)
                                  · refine j_iload C 5 dX8_copy_227 rfl ?_
                                    exact j_iret C E dX8_copy_229 (nI 0, tv, so, sg, va_cpy ce ce (60 * a1 + i1) (60 * b1 + j1) t, nI N, nI B, kf, pf, vat, vrm, vrb, rk, rp, lf, tf, kp, nI c, df, mf, gf) (by rw [show m_copy ((N, B, k, p), (c, rd, rl, ra), (hs, sl, sa, sc), tv, fl) (nI a1) (nI i1) (nI b1) (nI j1) (nI m2) = (nI m2, ((N, B, k, p), (c, rd, rl, ra), (hs, sl, sa, updR sc b1 (va_cpy (sc a1) (sc b1) i1 j1 m2)), tv, nI 0)) from (by simp only [m_copy, qa1, qb1, qh, qk, qv, g1, g2, t1, t2, t3, reduceCtorEq, if_true, if_false, Bool.false_eq_true, ne_eq, not_true_eq_false, not_false_eq_true, and_true, true_and, and_false, false_and, or_true, true_or, or_false, false_or]; try rfl)]; exact MI.mk hB hN2 hT hR (by rw [show t = m2 by omega]; first | exact hS.copy ha1 hb1 qh qk (by omega) (by omega) | (rw [Nat.sub_self]; exact hS.copy ha1 hb1 qh qk (by omega) (by omega)))) (by rw [show m_copy ((N, B, k, p), (c, rd, rl, ra), (hs, sl, sa, sc), tv, fl) (nI a1) (nI i1) (nI b1) (nI j1) (nI m2) = (nI m2, ((N, B, k, p), (c, rd, rl, ra), (hs, sl, sa, updR sc b1 (va_cpy (sc a1) (sc b1) i1 j1 m2)), tv, nI 0)) from (by simp only [m_copy, qa1, qb1, qh, qk, qv, g1, g2, t1, t2, t3, reduceCtorEq, if_true, if_false, Bool.false_eq_true, ne_eq, not_true_eq_false, not_false_eq_true, and_true, true_and, and_false, false_and, or_true, true_or, or_false, false_or]; try rfl)]) rfl
                                  · refine j_iload C 6 dX8_copy_173 rfl ?_
                                    refine j_if_eqN (tgt := 188) C dX8_copy_175 (by decide) (by omega) (fun c175 => ?_) (fun c175 => ?_)
                                    · refine j_iload C 7 dX8_copy_188 rfl ?_
                                      refine j_istore (lv' := [(9, .int (nI t)), (0, .ref (mm 0)), (1, .int (nI a1)), (2, .int (nI i1)), (3, .int (nI b1)), (4, .int (nI j1)), (5, .int (nI m2)), (7, .int (nI 0)), (8, .int (nI t))]) C dX8_copy_190 (by decide) rfl ?_
                                      refine j_aload_n C 1 dX8_copy_192 rfl rfl ?_
                                      refine j_get C mh0 4 mh4 0 rfl rfl (by decide) rfl rfl dX8_copy_193 ?_
                                      refine j_bipush (v := nI 60) C dX8_copy_196 (by decide) ?_
                                      refine j_iload_n C 4 dX8_copy_198 rfl rfl ?_
                                      refine j_imul (v := nI (60 * b1)) C dX8_copy_199 (pk_mul _ _) ?_
                                      refine j_iload C 5 dX8_copy_200 rfl ?_
                                      refine j_iadd (v := nI ((60 * b1) + j1)) C dX8_copy_202 (nI_add _ _) ?_
                                      refine j_iload C 0 dX8_copy_203 rfl ?_
                                      refine j_iadd (v := nI (((60 * b1) + j1) + t)) C dX8_copy_205 (nI_add _ _) ?_
                                      refine j_aload_n C 1 dX8_copy_206 rfl rfl ?_
                                      refine j_get C mh0 4 mh4 0 rfl rfl (by decide) rfl rfl dX8_copy_207 ?_
                                      refine j_bipush (v := nI 60) C dX8_copy_210 (by decide) ?_
                                      refine j_iload_n C 2 dX8_copy_212 rfl rfl ?_
                                      refine j_imul (v := nI (60 * a1)) C dX8_copy_213 (pk_mul _ _) ?_
                                      refine j_iload_n C 3 dX8_copy_214 rfl rfl ?_
                                      refine j_iadd (v := nI ((60 * a1) + i1)) C dX8_copy_215 (nI_add _ _) ?_
                                      refine j_iload C 0 dX8_copy_216 rfl ?_
                                      refine j_iadd (v := nI (((60 * a1) + i1) + t)) C dX8_copy_218 (nI_add _ _) ?_
                                      refine j_iald (v := (va_cpy ce ce (60 * a1 + i1) (60 * b1 + j1) t) (((60 * a1) + i1) + t)) C 3 rfl (by omega) (by decide) rfl dX8_copy_219 ?_
                                      refine j_iast (ws' := wM mm cy (nI 0) tv so sg (upd (va_cpy ce ce (60 * a1 + i1) (60 * b1 + j1) t) (((60 * b1) + j1) + t) ((va_cpy ce ce (60 * a1 + i1) (60 * b1 + j1) t) (((60 * a1) + i1) + t))) (nI N) (nI B) kf pf vat vrm vrb rk rp lf tf kp (nI c) df mf gf) C 3 rfl (by omega) (by decide) rfl dX8_copy_220 ?_
                                      refine j_iinc (v := nI (t + 1)) (lv' := [(8, .int (nI (t + 1))), (9, .int (nI t)), (0, .ref (mm 0)), (1, .int (nI a1)), (2, .int (nI i1)), (3, .int (nI b1)), (4, .int (nI j1)), (5, .int (nI m2)), (7, .int (nI 0))]) C 8 dX8_copy_221 rfl (nI_inc t) (by decide) rfl ?_
                                      refine j_goto (tgt := 166) C dX8_copy_224 (by decide) ?_
                                      refine J.sub [2, 3, 4, 5, 6, 7, 8, 0] rfl ?_
                                      have e := ih166 (t + 1) (by omega) (by omega)
                                      rw [← cpy_s (f := ce) (g := ce) (s := 60 * a1 + i1) (d := 60 * b1 + j1) (t := t) (x := va_cpy ce ce (60 * a1 + i1) (60 * b1 + j1) t (60 * a1 + i1 + t)) (pk_cpy_out (by omega))] at e
                                      exact e
                                    · exact absurd rfl c175
                              have e := L166 (m2 + 1) 0 (by omega) (by omega)
                              rw [cpy_0] at e
                              exact e
                            · refine j_iconst (v := nI 1) C dX8_copy_156 (by decide) ?_
                              refine j_goto (tgt := 161) C dX8_copy_157 (by decide) ?_
                              refine j_istore (lv' := [(7, .int (nI 1)), (6, .int (nI 1)), (0, .ref (mm 0)), (1, .int (nI a1)), (2, .int (nI i1)), (3, .int (nI b1)), (4, .int (nI j1)), (5, .int (nI m2))]) C dX8_copy_161 (by decide) rfl ?_
                              refine j_iconst (v := nI 0) C dX8_copy_163 (by decide) ?_
                              refine j_istore (lv' := [(8, .int (nI 0)), (7, .int (nI 1)), (6, .int (nI 1)), (0, .ref (mm 0)), (1, .int (nI a1)), (2, .int (nI i1)), (3, .int (nI b1)), (4, .int (nI j1)), (5, .int (nI m2))]) C dX8_copy_164 (by decide) rfl ?_
                              refine J.sub [3, 4, 5, 6, 7, 8, 1, 0] rfl ?_
                              have L166 : ∀ (n : Nat) (t : Nat), m2 - t < n → t ≤ m2 → J X (wM mm cy (nI 0) tv so sg (va_cpy ce ce (60 * a1 + i1 + (m2 - t)) (60 * b1 + j1 + (m2 - t)) t) (nI N) (nI B) kf pf vat vrm vrb rk rp lf tf kp (nI c) df mf gf) 166 [(0, .ref (mm 0)), (1, .int (nI a1)), (2, .int (nI i1)), (3, .int (nI b1)), (4, .int (nI j1)), (5, .int (nI m2)), (7, .int (nI 1)), (8, .int (nI t))] [] := by
                                intro n
                                induction n with
                                | zero => intro t hm; exact absurd hm (Nat.not_lt_zero _)
                                | succ n ih166 =>
                                  intro t h166_0 h166_1
                                  refine j_iload C 7 dX8_copy_166 rfl ?_
                                  refine j_iload C 5 dX8_copy_168 rfl ?_
                                  refine j_icmp_geN (tgt := 227) C dX8_copy_170 (by decide) (by omega) (by omega) (fun c170 => ?_) (fun c170 => ?_)
                                  · refine j_iload C 5 dX8_copy_227 rfl ?_
                                    exact j_iret C E dX8_copy_229 (nI 0, tv, so, sg, va_cpy ce ce (60 * a1 + i1 + (m2 - t)) (60 * b1 + j1 + (m2 - t)) t, nI N, nI B, kf, pf, vat, vrm, vrb, rk, rp, lf, tf, kp, nI c, df, mf, gf) (by rw [show m_copy ((N, B, k, p), (c, rd, rl, ra), (hs, sl, sa, sc), tv, fl) (nI a1) (nI i1) (nI b1) (nI j1) (nI m2) = (nI m2, ((N, B, k, p), (c, rd, rl, ra), (hs, sl, sa, updR sc b1 (va_cpy (sc a1) (sc b1) i1 j1 m2)), tv, nI 0)) from (by simp only [m_copy, qa1, qb1, qh, qk, qv, g1, g2, t1, t2, t3, reduceCtorEq, if_true, if_false, Bool.false_eq_true, ne_eq, not_true_eq_false, not_false_eq_true, and_true, true_and, and_false, false_and, or_true, true_or, or_false, false_or]; try rfl)]; exact MI.mk hB hN2 hT hR (by rw [show t = m2 by omega]; first | exact hS.copy ha1 hb1 qh qk (by omega) (by omega) | (rw [Nat.sub_self]; exact hS.copy ha1 hb1 qh qk (by omega) (by omega)))) (by rw [show m_copy ((N, B, k, p), (c, rd, rl, ra), (hs, sl, sa, sc), tv, fl) (nI a1) (nI i1) (nI b1) (nI j1) (nI m2) = (nI m2, ((N, B, k, p), (c, rd, rl, ra), (hs, sl, sa, updR sc b1 (va_cpy (sc a1) (sc b1) i1 j1 m2)), tv, nI 0)) from (by simp only [m_copy, qa1, qb1, qh, qk, qv, g1, g2, t1, t2, t3, reduceCtorEq, if_true, if_false, Bool.false_eq_true, ne_eq, not_true_eq_false, not_false_eq_true, and_true, true_and, and_false, false_and, or_true, true_or, or_false, false_or]; try rfl)]) rfl
                                  · refine j_iload C 6 dX8_copy_173 rfl ?_
                                    refine j_if_eqN (tgt := 188) C dX8_copy_175 (by decide) (by omega) (fun c175 => ?_) (fun c175 => ?_)
                                    · exact absurd c175 (by decide)
                                    · refine j_iload C 5 dX8_copy_178 rfl ?_
                                      refine j_iconst (v := nI 1) C dX8_copy_180 (by decide) ?_
                                      refine j_isub (v := nI (m2 - 1)) C dX8_copy_181 (pk_sub (by omega)) ?_
                                      refine j_iload C 7 dX8_copy_182 rfl ?_
                                      refine j_isub (v := nI ((m2 - 1) - t)) C dX8_copy_184 (pk_sub (by omega)) ?_
                                      refine j_goto (tgt := 190) C dX8_copy_185 (by decide) ?_
                                      refine j_istore (lv' := [(9, .int (nI ((m2 - 1) - t))), (0, .ref (mm 0)), (1, .int (nI a1)), (2, .int (nI i1)), (3, .int (nI b1)), (4, .int (nI j1)), (5, .int (nI m2)), (7, .int (nI 1)), (8, .int (nI t))]) C dX8_copy_190 (by decide) rfl ?_
                                      refine j_aload_n C 1 dX8_copy_192 rfl rfl ?_
                                      refine j_get C mh0 4 mh4 0 rfl rfl (by decide) rfl rfl dX8_copy_193 ?_
                                      refine j_bipush (v := nI 60) C dX8_copy_196 (by decide) ?_
                                      refine j_iload_n C 4 dX8_copy_198 rfl rfl ?_
                                      refine j_imul (v := nI (60 * b1)) C dX8_copy_199 (pk_mul _ _) ?_
                                      refine j_iload C 5 dX8_copy_200 rfl ?_
                                      refine j_iadd (v := nI ((60 * b1) + j1)) C dX8_copy_202 (nI_add _ _) ?_
                                      refine j_iload C 0 dX8_copy_203 rfl ?_
                                      refine j_iadd (v := nI (((60 * b1) + j1) + ((m2 - 1) - t))) C dX8_copy_205 (nI_add _ _) ?_
                                      refine j_aload_n C 1 dX8_copy_206 rfl rfl ?_
                                      refine j_get C mh0 4 mh4 0 rfl rfl (by decide) rfl rfl dX8_copy_207 ?_
                                      refine j_bipush (v := nI 60) C dX8_copy_210 (by decide) ?_
                                      refine j_iload_n C 2 dX8_copy_212 rfl rfl ?_
                                      refine j_imul (v := nI (60 * a1)) C dX8_copy_213 (pk_mul _ _) ?_
                                      refine j_iload_n C 3 dX8_copy_214 rfl rfl ?_
                                      refine j_iadd (v := nI ((60 * a1) + i1)) C dX8_copy_215 (nI_add _ _) ?_
                                      refine j_iload C 0 dX8_copy_216 rfl ?_
                                      refine j_iadd (v := nI (((60 * a1) + i1) + ((m2 - 1) - t))) C dX8_copy_218 (nI_add _ _) ?_
                                      refine j_iald (v := (va_cpy ce ce (60 * a1 + i1 + (m2 - t)) (60 * b1 + j1 + (m2 - t)) t) (((60 * a1) + i1) + ((m2 - 1) - t))) C 3 rfl (by omega) (by decide) rfl dX8_copy_219 ?_
                                      refine j_iast (ws' := wM mm cy (nI 0) tv so sg (upd (va_cpy ce ce (60 * a1 + i1 + (m2 - t)) (60 * b1 + j1 + (m2 - t)) t) (((60 * b1) + j1) + ((m2 - 1) - t)) ((va_cpy ce ce (60 * a1 + i1 + (m2 - t)) (60 * b1 + j1 + (m2 - t)) t) (((60 * a1) + i1) + ((m2 - 1) - t)))) (nI N) (nI B) kf pf vat vrm vrb rk rp lf tf kp (nI c) df mf gf) C 3 rfl (by omega) (by decide) rfl dX8_copy_220 ?_
                                      refine j_iinc (v := nI (t + 1)) (lv' := [(8, .int (nI (t + 1))), (9, .int (nI ((m2 - 1) - t))), (0, .ref (mm 0)), (1, .int (nI a1)), (2, .int (nI i1)), (3, .int (nI b1)), (4, .int (nI j1)), (5, .int (nI m2)), (7, .int (nI 1))]) C 8 dX8_copy_221 rfl (nI_inc t) (by decide) rfl ?_
                                      refine j_goto (tgt := 166) C dX8_copy_224 (by decide) ?_
                                      refine J.sub [2, 3, 4, 5, 6, 7, 8, 0] rfl ?_
                                      have e := ih166 (t + 1) (by omega) (by omega)
                                      rw [← cpy_b (f := ce) (g := ce) (s := 60 * a1 + i1) (d := 60 * b1 + j1) (t := t) (n := m2) (x := va_cpy ce ce (60 * a1 + i1 + (m2 - t)) (60 * b1 + j1 + (m2 - t)) t (60 * a1 + i1 + (m2 - 1 - t))) (by omega) (pk_cpy_out (by omega))] at e
                                      exact e
                              have e := L166 (m2 + 1) 0 (by omega) (by omega)
                              rw [cpy_0] at e
                              exact e
                          · refine j_aload_n C 1 dX8_copy_144 rfl rfl ?_
                            refine j_iconst (v := nI 3) C dX8_copy_145 (by decide) ?_
                            refine j_callV0 (As := [.int (nI 3)]) (rest := []) C (c_X8_fails mm (nI 0) tv so sg ce N B kf pf vat vrm vrb rk rp lf tf kp c df mf gf 3) gX8_copy_X8_fails rfl 1 rfl (by decide +kernel) (by decide) 0 rfl rfl (Nat.le_of_ble_eq_true rfl) dX8_copy_146 rfl (fun _ _ => ?_)
                            show J X (wM mm cy (nI 3) tv so sg ce (nI N) (nI B) kf pf vat vrm vrb rk rp lf tf kp (nI c) df mf gf) 149 [(6, .int (nI 1)), (0, .ref (mm 0)), (1, .int (nI a1)), (2, .int i), (3, .int (nI b1)), (4, .int j), (5, .int m)] [.int ((-10) - nI 3)]
                            exact j_iret C E dX8_copy_149 (nI 3, tv, so, sg, ce, nI N, nI B, kf, pf, vat, vrm, vrb, rk, rp, lf, tf, kp, nI c, df, mf, gf) (by rw [show m_copy ((N, B, k, p), (c, rd, rl, ra), (hs, sl, sa, sc), tv, fl) (nI a1) i (nI b1) j m = ((-10) - nI 3, ((N, B, k, p), (c, rd, rl, ra), (hs, sl, sa, sc), tv, nI 3)) from (by have qn : ¬ ((0 ≤ i.toInt ∧ i.toInt ≤ sl a1 ∧ 0 ≤ m.toInt ∧ m.toInt ≤ sl a1 - i.toInt) ∧ (0 ≤ j.toInt ∧ j.toInt ≤ sl b1 ∧ 0 ≤ m.toInt ∧ m.toInt ≤ sl b1 - j.toInt)) := (fun z => by have w1 := (cells_i q60).mpr z.1; have w2 := (cells_i r60).mpr z.2; first | exact w1.1 c71 | exact w2.1 c76 | exact w1.2.2.1 c81 | exact w1.2.1 c91 | exact w2.2.1 c102 | exact w1.2.2.2 c127 | exact w2.2.2.2 (Int32.not_le.mp c141)); simp only [m_copy, qa1, qb1, qh, qk, qv, if_neg qn, reduceCtorEq, if_true, if_false, Bool.false_eq_true, ne_eq, not_true_eq_false, not_false_eq_true, and_true, true_and, and_false, false_and, or_true, true_or, or_false, false_or])]; exact MI.mk hB hN2 hT hR hS) (by rw [show m_copy ((N, B, k, p), (c, rd, rl, ra), (hs, sl, sa, sc), tv, fl) (nI a1) i (nI b1) j m = ((-10) - nI 3, ((N, B, k, p), (c, rd, rl, ra), (hs, sl, sa, sc), tv, nI 3)) from (by have qn : ¬ ((0 ≤ i.toInt ∧ i.toInt ≤ sl a1 ∧ 0 ≤ m.toInt ∧ m.toInt ≤ sl a1 - i.toInt) ∧ (0 ≤ j.toInt ∧ j.toInt ≤ sl b1 ∧ 0 ≤ m.toInt ∧ m.toInt ≤ sl b1 - j.toInt)) := (fun z => by have w1 := (cells_i q60).mpr z.1; have w2 := (cells_i r60).mpr z.2; first | exact w1.1 c71 | exact w2.1 c76 | exact w1.2.2.1 c81 | exact w1.2.1 c91 | exact w2.2.1 c102 | exact w1.2.2.2 c127 | exact w2.2.2.2 (Int32.not_le.mp c141)); simp only [m_copy, qa1, qb1, qh, qk, qv, if_neg qn, reduceCtorEq, if_true, if_false, Bool.false_eq_true, ne_eq, not_true_eq_false, not_false_eq_true, and_true, true_and, and_false, false_and, or_true, true_or, or_false, false_or])]) rfl
          · have qv : ¬ sa a1 = sa b1 := fun z => c61 (by rw [qla, qma, z])
            refine j_aload_n C 0 dX8_copy_64 rfl rfl ?_
            refine j_iconst (v := nI 2) C dX8_copy_65 (by decide) ?_
            refine j_callV0 (As := [.int (nI 2)]) (rest := []) C (c_X8_fails mm (nI 0) tv so sg ce N B kf pf vat vrm vrb rk rp lf tf kp c df mf gf 2) gX8_copy_X8_fails rfl 1 rfl (by decide +kernel) (by decide) 0 rfl rfl (Nat.le_of_ble_eq_true rfl) dX8_copy_66 rfl (fun _ _ => ?_)
            show J X (wM mm cy (nI 2) tv so sg ce (nI N) (nI B) kf pf vat vrm vrb rk rp lf tf kp (nI c) df mf gf) 69 [(0, .ref (mm 0)), (1, .int (nI a1)), (2, .int i), (3, .int (nI b1)), (4, .int j), (5, .int m)] [.int ((-10) - nI 2)]
            exact j_iret C E dX8_copy_69 (nI 2, tv, so, sg, ce, nI N, nI B, kf, pf, vat, vrm, vrb, rk, rp, lf, tf, kp, nI c, df, mf, gf) (by rw [show m_copy ((N, B, k, p), (c, rd, rl, ra), (hs, sl, sa, sc), tv, fl) (nI a1) i (nI b1) j m = ((-10) - nI 2, ((N, B, k, p), (c, rd, rl, ra), (hs, sl, sa, sc), tv, nI 2)) from (by simp only [m_copy, qa1, qb1, qh, qk, qv, reduceCtorEq, if_true, if_false, Bool.false_eq_true, ne_eq, not_true_eq_false, not_false_eq_true, and_true, true_and, and_false, false_and, or_true, true_or, or_false, false_or]; try rfl)]; exact MI.mk hB hN2 hT hR hS) (by rw [show m_copy ((N, B, k, p), (c, rd, rl, ra), (hs, sl, sa, sc), tv, fl) (nI a1) i (nI b1) j m = ((-10) - nI 2, ((N, B, k, p), (c, rd, rl, ra), (hs, sl, sa, sc), tv, nI 2)) from (by simp only [m_copy, qa1, qb1, qh, qk, qv, reduceCtorEq, if_true, if_false, Bool.false_eq_true, ne_eq, not_true_eq_false, not_false_eq_true, and_true, true_and, and_false, false_and, or_true, true_or, or_false, false_or]; try rfl)]) rfl
        · have qk := hS.f hb1 c40
          refine j_aload_n C 0 dX8_copy_43 rfl rfl ?_
          refine j_iconst (v := nI 1) C dX8_copy_44 (by decide) ?_
          refine j_callV0 (As := [.int (nI 1)]) (rest := []) C (c_X8_fails mm (nI 0) tv so sg ce N B kf pf vat vrm vrb rk rp lf tf kp c df mf gf 1) gX8_copy_X8_fails rfl 1 rfl (by decide +kernel) (by decide) 0 rfl rfl (Nat.le_of_ble_eq_true rfl) dX8_copy_45 rfl (fun _ _ => ?_)
          show J X (wM mm cy (nI 1) tv so sg ce (nI N) (nI B) kf pf vat vrm vrb rk rp lf tf kp (nI c) df mf gf) 48 [(0, .ref (mm 0)), (1, .int (nI a1)), (2, .int i), (3, .int (nI b1)), (4, .int j), (5, .int m)] [.int ((-10) - nI 1)]
          exact j_iret C E dX8_copy_48 (nI 1, tv, so, sg, ce, nI N, nI B, kf, pf, vat, vrm, vrb, rk, rp, lf, tf, kp, nI c, df, mf, gf) (by rw [show m_copy ((N, B, k, p), (c, rd, rl, ra), (hs, sl, sa, sc), tv, fl) (nI a1) i (nI b1) j m = ((-10) - nI 1, ((N, B, k, p), (c, rd, rl, ra), (hs, sl, sa, sc), tv, nI 1)) from (by simp only [m_copy, qa1, qb1, qh, qk, reduceCtorEq, if_true, if_false, Bool.false_eq_true, ne_eq, not_true_eq_false, not_false_eq_true, and_true, true_and, and_false, false_and, or_true, true_or, or_false, false_or]; try rfl)]; exact MI.mk hB hN2 hT hR hS) (by rw [show m_copy ((N, B, k, p), (c, rd, rl, ra), (hs, sl, sa, sc), tv, fl) (nI a1) i (nI b1) j m = ((-10) - nI 1, ((N, B, k, p), (c, rd, rl, ra), (hs, sl, sa, sc), tv, nI 1)) from (by simp only [m_copy, qa1, qb1, qh, qk, reduceCtorEq, if_true, if_false, Bool.false_eq_true, ne_eq, not_true_eq_false, not_false_eq_true, and_true, true_and, and_false, false_and, or_true, true_or, or_false, false_or]; try rfl)]) rfl
    · have c16 := bN_0.mp c16
      have qb1 := pOf_n c16
      refine j_iconst (v := (-1)) C dX8_copy_19 (by decide) ?_
      exact j_iret C E dX8_copy_20 (nI 0, tv, so, sg, ce, nI N, nI B, kf, pf, vat, vrm, vrb, rk, rp, lf, tf, kp, nI c, df, mf, gf) (by rw [show m_copy ((N, B, k, p), (c, rd, rl, ra), (hs, sl, sa, sc), tv, fl) (nI a1) i o j m = ((-1), ((N, B, k, p), (c, rd, rl, ra), (hs, sl, sa, sc), tv, nI 0)) from (by simp only [m_copy, qa1, qb1, reduceCtorEq, if_true, if_false, Bool.false_eq_true, ne_eq, not_true_eq_false, not_false_eq_true, and_true, true_and, and_false, false_and, or_true, true_or, or_false, false_or]; try rfl)]; exact MI.mk hB hN2 hT hR hS) (by rw [show m_copy ((N, B, k, p), (c, rd, rl, ra), (hs, sl, sa, sc), tv, fl) (nI a1) i o j m = ((-1), ((N, B, k, p), (c, rd, rl, ra), (hs, sl, sa, sc), tv, nI 0)) from (by simp only [m_copy, qa1, qb1, reduceCtorEq, if_true, if_false, Bool.false_eq_true, ne_eq, not_true_eq_false, not_false_eq_true, and_true, true_and, and_false, false_and, or_true, true_or, or_false, false_or]; try rfl)]) rfl
set_option maxHeartbeats 4000000 in
set_option maxRecDepth 20000 in
theorem c_X8_walkOf {l : Launch} {D : va_G} {cy : Nat → ClassId} (mm : Nat → Nat) (fl tv : Int32) (so sg ce : Nat → Int32) (N B : Nat) (kf pf : Nat → Int32) (vat vrm vrb : Int32) (rk rp lf tf kp : Nat → Int32) (c : Nat) (df mf gf : Nat → Int32) (k : Nat → Nat) (p : Nat → Nat → Nat) (hT : Ag N k p kf (PF pf)) (a1 b0 m w : Nat) (d : Nat → Nat) (ha1 : a1 < N) (hb0 : b0 + m ≤ 240) (hm : m ≤ 60) (hw : w < 3) (hd : ∀ j, j < m → ce (b0 + j) = nI (d j) ∧ d j < 6) : Ct l yX8_walkOf wsX8_walkOf ({ frames := 4, cells := 0, slots := 0, locals := 90 }) D cy [.ref (mm 0), .int (nI a1), .int (nI b0), .int (nI m), .int (nI w)] (wM mm cy fl tv so sg ce (nI N) (nI B) kf pf vat vrm vrb rk rp lf tf kp (nI c) df mf gf) (fun _ : Unit => True) (fun _ => some (.int (if w = 0 then nI (wkS d a1 m) else if w = 1 then nI (wkL (rnd N k p a1) d m) else wkT (rnd N k p a1) d m))) (fun _ => wM mm cy fl tv so sg ce (nI N) (nI B) kf pf vat vrm vrb rk rp lf tf kp (nI c) df mf gf) := by
  refine Ct.of (cc := cX8_walkOf) (nL := 11) (ret := (some .int)) rfl (by decide) ⟨rfl, rfl⟩ (Nat.le_of_ble_eq_true rfl) ?_
  intro X C E
  have C : Cx X l D cy cX8_walkOf 11 wsX8_walkOf RX8 ({ frames := 4, cells := 0, slots := 0, locals := 90 }) := C
  have mh0 : ∀ w ∈ u_ws RX8 TX8 21, w ∈ wsX8_walkOf := by decide +kernel
  have mh1 : Cond.fieldLink RX8 16 RX8 (TX8 4).2.1 (TX8 4).2.2.1 ∈ wsX8_walkOf := by decide +kernel
  have hN := hT.n
  have hs64 := rnd_lt (k := k) (p := p) hN a1
  show J X (wM mm cy fl tv so sg ce (nI N) (nI B) kf pf vat vrm vrb rk rp lf tf kp (nI c) df mf gf) 0 [(0, .ref (mm 0)), (1, .int (nI a1)), (2, .int (nI b0)), (3, .int (nI m)), (4, .int (nI w))] []
  refine j_aload_n C 0 dX8_walkOf_0 rfl rfl ?_
  refine j_iload_n C 1 dX8_walkOf_1 rfl rfl ?_
  refine j_callV0 (As := [.int (nI a1)]) (rest := []) C (c_X8_roundOf mm fl tv so sg ce N B kf pf vat vrm vrb rk rp lf tf kp c df mf gf k p hT a1 (by omega)) gX8_walkOf_X8_roundOf rfl 1 rfl (by decide +kernel) (by decide) 0 rfl rfl (Nat.le_of_ble_eq_true rfl) dX8_walkOf_2 rfl (fun _ _ => ?_)
  have hrl := rnd_lt (k := k) (p := p) hN a1
  show J X (wM mm cy fl tv so sg ce (nI N) (nI B) kf pf vat vrm vrb rk rp lf tf kp (nI c) df mf gf) 5 [(0, .ref (mm 0)), (1, .int (nI a1)), (2, .int (nI b0)), (3, .int (nI m)), (4, .int (nI w))] [.int (nI (rnd N k p a1))]
  refine j_istore (lv' := [(5, .int (nI (rnd N k p a1))), (0, .ref (mm 0)), (1, .int (nI a1)), (2, .int (nI b0)), (3, .int (nI m)), (4, .int (nI w))]) C dX8_walkOf_5 (by decide) rfl ?_
  refine j_iload C 0 dX8_walkOf_7 rfl ?_
  refine j_if_neN (tgt := 16) C dX8_walkOf_9 (by decide) (by omega) (fun c9 => ?_) (fun c9 => ?_)
  · refine j_bipush (v := (-9)) C dX8_walkOf_16 (by decide) ?_
    refine j_istore (lv' := [(6, .int ((-9))), (5, .int (nI (rnd N k p a1))), (0, .ref (mm 0)), (1, .int (nI a1)), (2, .int (nI b0)), (3, .int (nI m)), (4, .int (nI w))]) C dX8_walkOf_18 (by decide) rfl ?_
    refine j_iload_n C 3 dX8_walkOf_20 rfl rfl ?_
    refine j_istore (lv' := [(7, .int (nI a1)), (6, .int ((-9))), (5, .int (nI (rnd N k p a1))), (0, .ref (mm 0)), (1, .int (nI a1)), (2, .int (nI b0)), (3, .int (nI m)), (4, .int (nI w))]) C dX8_walkOf_21 (by decide) rfl ?_
    refine j_iconst (v := nI 0) C dX8_walkOf_23 (by decide) ?_
    refine j_istore (lv' := [(8, .int (nI 0)), (7, .int (nI a1)), (6, .int ((-9))), (5, .int (nI (rnd N k p a1))), (0, .ref (mm 0)), (1, .int (nI a1)), (2, .int (nI b0)), (3, .int (nI m)), (4, .int (nI w))]) C dX8_walkOf_24 (by decide) rfl ?_
    refine j_iconst (v := nI 0) C dX8_walkOf_26 (by decide) ?_
    refine j_istore (lv' := [(9, .int (nI 0)), (8, .int (nI 0)), (7, .int (nI a1)), (6, .int ((-9))), (5, .int (nI (rnd N k p a1))), (0, .ref (mm 0)), (1, .int (nI a1)), (2, .int (nI b0)), (3, .int (nI m)), (4, .int (nI w))]) C dX8_walkOf_27 (by decide) rfl ?_
    refine J.sub [5, 7, 8, 9, 4, 3, 2, 1, 0] rfl ?_
    have L29 : ∀ (n : Nat) (j : Nat), m - j < n → j ≤ m → J X (wM mm cy fl tv so sg ce (nI N) (nI B) kf pf vat vrm vrb rk rp lf tf kp (nI c) df mf gf) 29 [(0, .ref (mm 0)), (2, .int (nI b0)), (3, .int (nI m)), (4, .int (nI w)), (5, .int (nI (wkL (rnd N k p a1) d j))), (6, .int (wkT (rnd N k p a1) d j)), (7, .int (nI (pvD d a1 j))), (8, .int (nI (wkS d a1 j))), (9, .int (nI j))] [] := by
      intro n
      induction n with
      | zero => intro j hm; exact absurd hm (Nat.not_lt_zero _)
      | succ n ih29 =>
        intro j h29_0 h29_1
        have hpv := pvD_lt (d := d) (q := a1) (j := j) (by omega) (fun i hi => (hd i hi).2) h29_1
        have hwl := wkL_lt (d := d) hs64 j
        have hws := wkS_le (d := d) (q := a1) (m := m) (by omega) (fun i hi => (hd i hi).2) h29_1
        refine j_iload C 8 dX8_walkOf_29 rfl ?_
        refine j_iload_n C 2 dX8_walkOf_31 rfl rfl ?_
        refine j_icmp_geN (tgt := 119) C dX8_walkOf_32 (by decide) (by omega) (by omega) (fun c32 => ?_) (fun c32 => ?_)
        · refine j_iload C 3 dX8_walkOf_119 rfl ?_
          refine j_if_neN (tgt := 129) C dX8_walkOf_121 (by decide) (by omega) (fun c121 => ?_) (fun c121 => ?_)
          · refine j_iload C 3 dX8_walkOf_129 rfl ?_
            refine j_iconst (v := nI 1) C dX8_walkOf_131 (by decide) ?_
            refine j_icmp_neN (tgt := 140) C dX8_walkOf_132 (by decide) (by omega) (by omega) (fun c132 => ?_) (fun c132 => ?_)
            · refine j_iload C 5 dX8_walkOf_140 rfl ?_
              exact j_iret C E dX8_walkOf_142 () trivial (by rw [show m = j by omega]; first | (rw [if_pos c121]; done) | (rw [if_neg c121, if_pos c132]; done) | (rw [if_neg c121, if_neg c132]; done)) rfl
            · refine j_iload C 4 dX8_walkOf_135 rfl ?_
              refine j_goto (tgt := 142) C dX8_walkOf_137 (by decide) ?_
              exact j_iret C E dX8_walkOf_142 () trivial (by rw [show m = j by omega]; first | (rw [if_pos c121]; done) | (rw [if_neg c121, if_pos c132]; done) | (rw [if_neg c121, if_neg c132]; done)) rfl
          · refine j_iload C 7 dX8_walkOf_124 rfl ?_
            refine j_goto (tgt := 142) C dX8_walkOf_126 (by decide) ?_
            exact j_iret C E dX8_walkOf_142 () trivial (by rw [show m = j by omega]; first | (rw [if_pos c121]; done) | (rw [if_neg c121, if_pos c132]; done) | (rw [if_neg c121, if_neg c132]; done)) rfl
        · refine j_aload_n C 0 dX8_walkOf_35 rfl rfl ?_
          refine j_get C mh0 4 mh1 0 rfl rfl (by decide) rfl rfl dX8_walkOf_36 ?_
          refine j_iload_n C 1 dX8_walkOf_39 rfl rfl ?_
          refine j_iload C 8 dX8_walkOf_40 rfl ?_
          refine j_iadd (v := nI (b0 + j)) C dX8_walkOf_42 (nI_add _ _) ?_
          have hdj := (hd j (by omega)).2
          refine j_iald (v := nI (d j)) C 3 rfl (by omega) (by decide) (hd j (by omega)).1 dX8_walkOf_43 ?_
          refine j_istore (lv' := [(10, .int (nI (d j))), (0, .ref (mm 0)), (2, .int (nI b0)), (3, .int (nI m)), (4, .int (nI w)), (5, .int (nI (wkL (rnd N k p a1) d j))), (6, .int (wkT (rnd N k p a1) d j)), (7, .int (nI (pvD d a1 j))), (8, .int (nI (wkS d a1 j))), (9, .int (nI j))]) C dX8_walkOf_44 (by decide) rfl ?_
          refine j_iload C 8 dX8_walkOf_46 rfl ?_
          refine j_iload C 0 dX8_walkOf_48 rfl ?_
          refine j_iload C 7 dX8_walkOf_50 rfl ?_
          refine j_icmp_geN (tgt := 63) C dX8_walkOf_52 (by decide) (by omega) (by omega) (fun c52 => ?_) (fun c52 => ?_)
          · refine j_iload C 0 dX8_walkOf_63 rfl ?_
            refine j_iload C 7 dX8_walkOf_65 rfl ?_
            refine j_isub (v := nI ((d j) - (pvD d a1 j))) C dX8_walkOf_67 (pk_sub (by omega)) ?_
            refine j_iadd (v := nI ((wkS d a1 j) + ((d j) - (pvD d a1 j)))) C dX8_walkOf_68 (nI_add _ _) ?_
            refine j_istore (lv' := [(8, .int (nI ((wkS d a1 j) + ((d j) - (pvD d a1 j))))), (10, .int (nI (d j))), (0, .ref (mm 0)), (2, .int (nI b0)), (3, .int (nI m)), (4, .int (nI w)), (5, .int (nI (wkL (rnd N k p a1) d j))), (6, .int (wkT (rnd N k p a1) d j)), (7, .int (nI (pvD d a1 j))), (9, .int (nI j))]) C dX8_walkOf_69 (by decide) rfl ?_
            refine j_iload C 1 dX8_walkOf_71 rfl ?_
            refine j_istore (lv' := [(7, .int (nI (d j))), (8, .int (nI ((wkS d a1 j) + ((d j) - (pvD d a1 j))))), (10, .int (nI (d j))), (0, .ref (mm 0)), (2, .int (nI b0)), (3, .int (nI m)), (4, .int (nI w)), (5, .int (nI (wkL (rnd N k p a1) d j))), (6, .int (wkT (rnd N k p a1) d j)), (9, .int (nI j))]) C dX8_walkOf_73 (by decide) rfl ?_
            refine j_iload C 7 dX8_walkOf_75 rfl ?_
            refine j_iload C 2 dX8_walkOf_77 rfl ?_
            refine j_ishr (v := nI ((wkL (rnd N k p a1) d j) / 2 ^ (d j))) C dX8_walkOf_79 (sh_r (by omega) (by omega)) ?_
            refine j_iconst (v := nI 1) C dX8_walkOf_80 (by decide) ?_
            refine j_iand (v := nI (((wkL (rnd N k p a1) d j) / 2 ^ (d j)) % 2)) C dX8_walkOf_81 (an_1 _) ?_
            refine j_iconst (v := nI 1) C dX8_walkOf_82 (by decide) ?_
            refine j_icmp_neN (tgt := 113) C dX8_walkOf_83 (by decide) (by omega) (by omega) (fun c83 => ?_) (fun c83 => ?_)
            · have hbt := c83
              refine j_iinc (v := nI (j + 1)) (lv' := [(9, .int (nI (j + 1))), (7, .int (nI (d j))), (8, .int (nI ((wkS d a1 j) + ((d j) - (pvD d a1 j))))), (10, .int (nI (d j))), (0, .ref (mm 0)), (2, .int (nI b0)), (3, .int (nI m)), (4, .int (nI w)), (5, .int (nI (wkL (rnd N k p a1) d j))), (6, .int (wkT (rnd N k p a1) d j))]) C 9 dX8_walkOf_113 rfl (nI_inc j) (by decide) rfl ?_
              refine j_goto (tgt := 29) C dX8_walkOf_116 (by decide) ?_
              refine J.sub [4, 5, 6, 7, 8, 9, 1, 2, 0] rfl ?_
              have e := ih29 (j + 1) (by omega) (by omega)
              first
                | (rw [wkT_a hbt c99, wkS_s, if_pos c52] at e; exact e)
                | (rw [wkT_a hbt c99, wkS_s, if_neg (by omega)] at e; exact e)
                | (rw [wkT_b hbt c99, wkS_s, if_pos c52] at e; exact e)
                | (rw [wkT_b hbt c99, wkS_s, if_neg (by omega)] at e; exact e)
                | (rw [wkT_c hbt, wkL_c hbt, wkS_s, if_pos c52] at e; exact e)
                | (rw [wkT_c hbt, wkL_c hbt, wkS_s, if_neg (by omega)] at e; exact e)
            · have hbt := c83
              refine j_iload C 7 dX8_walkOf_86 rfl ?_
              refine j_iconst (v := nI 1) C dX8_walkOf_88 (by decide) ?_
              refine j_iload C 2 dX8_walkOf_89 rfl ?_
              refine j_ishl (v := nI (2 ^ (d j))) C dX8_walkOf_91 (sh_l (by omega)) ?_
              refine j_iconst (v := (-1)) C dX8_walkOf_92 (by decide) ?_
              refine j_ixor (v := nI (2 ^ d j) ^^^ (-1)) C dX8_walkOf_93 rfl ?_
              refine j_iand (v := nI (clr (wkL (rnd N k p a1) d j) (d j))) C dX8_walkOf_94 (clr_i _ (wkL_lt hs64 j) _ hdj) ?_
              refine j_istore (lv' := [(5, .int (nI (clr (wkL (rnd N k p a1) d j) (d j)))), (7, .int (nI (d j))), (8, .int (nI ((wkS d a1 j) + ((d j) - (pvD d a1 j))))), (10, .int (nI (d j))), (0, .ref (mm 0)), (2, .int (nI b0)), (3, .int (nI m)), (4, .int (nI w)), (6, .int (wkT (rnd N k p a1) d j)), (9, .int (nI j))]) C dX8_walkOf_95 (by decide) rfl ?_
              have hcl := clr_lt (x := d j) (wkL_lt (d := d) hs64 j)
              refine j_iload C 0 dX8_walkOf_97 rfl ?_
              refine j_if_neN (tgt := 109) C dX8_walkOf_99 (by decide) (by omega) (fun c99 => ?_) (fun c99 => ?_)
              · refine j_iload C 8 dX8_walkOf_109 rfl ?_
                refine j_istore (lv' := [(6, .int (wkT (rnd N k p a1) d j)), (5, .int (nI (clr (wkL (rnd N k p a1) d j) (d j)))), (7, .int (nI (d j))), (8, .int (nI ((wkS d a1 j) + ((d j) - (pvD d a1 j))))), (10, .int (nI (d j))), (0, .ref (mm 0)), (2, .int (nI b0)), (3, .int (nI m)), (4, .int (nI w)), (9, .int (nI j))]) C dX8_walkOf_111 (by decide) rfl ?_
                refine j_iinc (v := nI (j + 1)) (lv' := [(9, .int (nI (j + 1))), (6, .int (wkT (rnd N k p a1) d j)), (5, .int (nI (clr (wkL (rnd N k p a1) d j) (d j)))), (7, .int (nI (d j))), (8, .int (nI ((wkS d a1 j) + ((d j) - (pvD d a1 j))))), (10, .int (nI (d j))), (0, .ref (mm 0)), (2, .int (nI b0)), (3, .int (nI m)), (4, .int (nI w))]) C 9 dX8_walkOf_113 rfl (nI_inc j) (by decide) rfl ?_
                refine j_goto (tgt := 29) C dX8_walkOf_116 (by decide) ?_
                refine J.sub [6, 7, 8, 9, 2, 1, 3, 4, 0] rfl ?_
                have e := ih29 (j + 1) (by omega) (by omega)
                first
                  | (rw [wkT_a hbt c99, wkS_s, if_pos c52] at e; exact e)
                  | (rw [wkT_a hbt c99, wkS_s, if_neg (by omega)] at e; exact e)
                  | (rw [wkT_b hbt c99, wkS_s, if_pos c52] at e; exact e)
                  | (rw [wkT_b hbt c99, wkS_s, if_neg (by omega)] at e; exact e)
                  | (rw [wkT_c hbt, wkL_c hbt, wkS_s, if_pos c52] at e; exact e)
                  | (rw [wkT_c hbt, wkL_c hbt, wkS_s, if_neg (by omega)] at e; exact e)
              · refine j_iload C 9 dX8_walkOf_102 rfl ?_
                refine j_iconst (v := nI 1) C dX8_walkOf_104 (by decide) ?_
                refine j_iadd (v := nI (j + 1)) C dX8_walkOf_105 (nI_add _ _) ?_
                refine j_goto (tgt := 111) C dX8_walkOf_106 (by decide) ?_
                refine j_istore (lv' := [(6, .int (nI (j + 1))), (5, .int (nI (clr (wkL (rnd N k p a1) d j) (d j)))), (7, .int (nI (d j))), (8, .int (nI ((wkS d a1 j) + ((d j) - (pvD d a1 j))))), (10, .int (nI (d j))), (0, .ref (mm 0)), (2, .int (nI b0)), (3, .int (nI m)), (4, .int (nI w)), (9, .int (nI j))]) C dX8_walkOf_111 (by decide) rfl ?_
                refine j_iinc (v := nI (j + 1)) (lv' := [(9, .int (nI (j + 1))), (6, .int (nI (j + 1))), (5, .int (nI (clr (wkL (rnd N k p a1) d j) (d j)))), (7, .int (nI (d j))), (8, .int (nI ((wkS d a1 j) + ((d j) - (pvD d a1 j))))), (10, .int (nI (d j))), (0, .ref (mm 0)), (2, .int (nI b0)), (3, .int (nI m)), (4, .int (nI w))]) C 9 dX8_walkOf_113 rfl (nI_inc j) (by decide) rfl ?_
                refine j_goto (tgt := 29) C dX8_walkOf_116 (by decide) ?_
                refine J.sub [6, 7, 8, 9, 2, 1, 3, 4, 0] rfl ?_
                have e := ih29 (j + 1) (by omega) (by omega)
                first
                  | (rw [wkT_a hbt c99, wkS_s, if_pos c52] at e; exact e)
                  | (rw [wkT_a hbt c99, wkS_s, if_neg (by omega)] at e; exact e)
                  | (rw [wkT_b hbt c99, wkS_s, if_pos c52] at e; exact e)
                  | (rw [wkT_b hbt c99, wkS_s, if_neg (by omega)] at e; exact e)
                  | (rw [wkT_c hbt, wkL_c hbt, wkS_s, if_pos c52] at e; exact e)
                  | (rw [wkT_c hbt, wkL_c hbt, wkS_s, if_neg (by omega)] at e; exact e)
          · refine j_iload C 7 dX8_walkOf_55 rfl ?_
            refine j_iload C 0 dX8_walkOf_57 rfl ?_
            refine j_isub (v := nI ((pvD d a1 j) - (d j))) C dX8_walkOf_59 (pk_sub (by omega)) ?_
            refine j_goto (tgt := 68) C dX8_walkOf_60 (by decide) ?_
            refine j_iadd (v := nI ((wkS d a1 j) + ((pvD d a1 j) - (d j)))) C dX8_walkOf_68 (nI_add _ _) ?_
            refine j_istore (lv' := [(8, .int (nI ((wkS d a1 j) + ((pvD d a1 j) - (d j))))), (10, .int (nI (d j))), (0, .ref (mm 0)), (2, .int (nI b0)), (3, .int (nI m)), (4, .int (nI w)), (5, .int (nI (wkL (rnd N k p a1) d j))), (6, .int (wkT (rnd N k p a1) d j)), (7, .int (nI (pvD d a1 j))), (9, .int (nI j))]) C dX8_walkOf_69 (by decide) rfl ?_
            refine j_iload C 1 dX8_walkOf_71 rfl ?_
            refine j_istore (lv' := [(7, .int (nI (d j))), (8, .int (nI ((wkS d a1 j) + ((pvD d a1 j) - (d j))))), (10, .int (nI (d j))), (0, .ref (mm 0)), (2, .int (nI b0)), (3, .int (nI m)), (4, .int (nI w)), (5, .int (nI (wkL (rnd N k p a1) d j))), (6, .int (wkT (rnd N k p a1) d j)), (9, .int (nI j))]) C dX8_walkOf_73 (by decide) rfl ?_
            refine j_iload C 7 dX8_walkOf_75 rfl ?_
            refine j_iload C 2 dX8_walkOf_77 rfl ?_
            refine j_ishr (v := nI ((wkL (rnd N k p a1) d j) / 2 ^ (d j))) C dX8_walkOf_79 (sh_r (by omega) (by omega)) ?_
            refine j_iconst (v := nI 1) C dX8_walkOf_80 (by decide) ?_
            refine j_iand (v := nI (((wkL (rnd N k p a1) d j) / 2 ^ (d j)) % 2)) C dX8_walkOf_81 (an_1 _) ?_
            refine j_iconst (v := nI 1) C dX8_walkOf_82 (by decide) ?_
            refine j_icmp_neN (tgt := 113) C dX8_walkOf_83 (by decide) (by omega) (by omega) (fun c83 => ?_) (fun c83 => ?_)
            · have hbt := c83
              refine j_iinc (v := nI (j + 1)) (lv' := [(9, .int (nI (j + 1))), (7, .int (nI (d j))), (8, .int (nI ((wkS d a1 j) + ((pvD d a1 j) - (d j))))), (10, .int (nI (d j))), (0, .ref (mm 0)), (2, .int (nI b0)), (3, .int (nI m)), (4, .int (nI w)), (5, .int (nI (wkL (rnd N k p a1) d j))), (6, .int (wkT (rnd N k p a1) d j))]) C 9 dX8_walkOf_113 rfl (nI_inc j) (by decide) rfl ?_
              refine j_goto (tgt := 29) C dX8_walkOf_116 (by decide) ?_
              refine J.sub [4, 5, 6, 7, 8, 9, 1, 2, 0] rfl ?_
              have e := ih29 (j + 1) (by omega) (by omega)
              first
                | (rw [wkT_a hbt c99, wkS_s, if_pos c52] at e; exact e)
                | (rw [wkT_a hbt c99, wkS_s, if_neg (by omega)] at e; exact e)
                | (rw [wkT_b hbt c99, wkS_s, if_pos c52] at e; exact e)
                | (rw [wkT_b hbt c99, wkS_s, if_neg (by omega)] at e; exact e)
                | (rw [wkT_c hbt, wkL_c hbt, wkS_s, if_pos c52] at e; exact e)
                | (rw [wkT_c hbt, wkL_c hbt, wkS_s, if_neg (by omega)] at e; exact e)
            · have hbt := c83
              refine j_iload C 7 dX8_walkOf_86 rfl ?_
              refine j_iconst (v := nI 1) C dX8_walkOf_88 (by decide) ?_
              refine j_iload C 2 dX8_walkOf_89 rfl ?_
              refine j_ishl (v := nI (2 ^ (d j))) C dX8_walkOf_91 (sh_l (by omega)) ?_
              refine j_iconst (v := (-1)) C dX8_walkOf_92 (by decide) ?_
              refine j_ixor (v := nI (2 ^ d j) ^^^ (-1)) C dX8_walkOf_93 rfl ?_
              refine j_iand (v := nI (clr (wkL (rnd N k p a1) d j) (d j))) C dX8_walkOf_94 (clr_i _ (wkL_lt hs64 j) _ hdj) ?_
              refine j_istore (lv' := [(5, .int (nI (clr (wkL (rnd N k p a1) d j) (d j)))), (7, .int (nI (d j))), (8, .int (nI ((wkS d a1 j) + ((pvD d a1 j) - (d j))))), (10, .int (nI (d j))), (0, .ref (mm 0)), (2, .int (nI b0)), (3, .int (nI m)), (4, .int (nI w)), (6, .int (wkT (rnd N k p a1) d j)), (9, .int (nI j))]) C dX8_walkOf_95 (by decide) rfl ?_
              have hcl := clr_lt (x := d j) (wkL_lt (d := d) hs64 j)
              refine j_iload C 0 dX8_walkOf_97 rfl ?_
              refine j_if_neN (tgt := 109) C dX8_walkOf_99 (by decide) (by omega) (fun c99 => ?_) (fun c99 => ?_)
              · refine j_iload C 8 dX8_walkOf_109 rfl ?_
                refine j_istore (lv' := [(6, .int (wkT (rnd N k p a1) d j)), (5, .int (nI (clr (wkL (rnd N k p a1) d j) (d j)))), (7, .int (nI (d j))), (8, .int (nI ((wkS d a1 j) + ((pvD d a1 j) - (d j))))), (10, .int (nI (d j))), (0, .ref (mm 0)), (2, .int (nI b0)), (3, .int (nI m)), (4, .int (nI w)), (9, .int (nI j))]) C dX8_walkOf_111 (by decide) rfl ?_
                refine j_iinc (v := nI (j + 1)) (lv' := [(9, .int (nI (j + 1))), (6, .int (wkT (rnd N k p a1) d j)), (5, .int (nI (clr (wkL (rnd N k p a1) d j) (d j)))), (7, .int (nI (d j))), (8, .int (nI ((wkS d a1 j) + ((pvD d a1 j) - (d j))))), (10, .int (nI (d j))), (0, .ref (mm 0)), (2, .int (nI b0)), (3, .int (nI m)), (4, .int (nI w))]) C 9 dX8_walkOf_113 rfl (nI_inc j) (by decide) rfl ?_
                refine j_goto (tgt := 29) C dX8_walkOf_116 (by decide) ?_
                refine J.sub [6, 7, 8, 9, 2, 1, 3, 4, 0] rfl ?_
                have e := ih29 (j + 1) (by omega) (by omega)
                first
                  | (rw [wkT_a hbt c99, wkS_s, if_pos c52] at e; exact e)
                  | (rw [wkT_a hbt c99, wkS_s, if_neg (by omega)] at e; exact e)
                  | (rw [wkT_b hbt c99, wkS_s, if_pos c52] at e; exact e)
                  | (rw [wkT_b hbt c99, wkS_s, if_neg (by omega)] at e; exact e)
                  | (rw [wkT_c hbt, wkL_c hbt, wkS_s, if_pos c52] at e; exact e)
                  | (rw [wkT_c hbt, wkL_c hbt, wkS_s, if_neg (by omega)] at e; exact e)
              · refine j_iload C 9 dX8_walkOf_102 rfl ?_
                refine j_iconst (v := nI 1) C dX8_walkOf_104 (by decide) ?_
                refine j_iadd (v := nI (j + 1)) C dX8_walkOf_105 (nI_add _ _) ?_
                refine j_goto (tgt := 111) C dX8_walkOf_106 (by decide) ?_
                refine j_istore (lv' := [(6, .int (nI (j + 1))), (5, .int (nI (clr (wkL (rnd N k p a1) d j) (d j)))), (7, .int (nI (d j))), (8, .int (nI ((wkS d a1 j) + ((pvD d a1 j) - (d j))))), (10, .int (nI (d j))), (0, .ref (mm 0)), (2, .int (nI b0)), (3, .int (nI m)), (4, .int (nI w)), (9, .int (nI j))]) C dX8_walkOf_111 (by decide) rfl ?_
                refine j_iinc (v := nI (j + 1)) (lv' := [(9, .int (nI (j + 1))), (6, .int (nI (j + 1))), (5, .int (nI (clr (wkL (rnd N k p a1) d j) (d j)))), (7, .int (nI (d j))), (8, .int (nI ((wkS d a1 j) + ((pvD d a1 j) - (d j))))), (10, .int (nI (d j))), (0, .ref (mm 0)), (2, .int (nI b0)), (3, .int (nI m)), (4, .int (nI w))]) C 9 dX8_walkOf_113 rfl (nI_inc j) (by decide) rfl ?_
                refine j_goto (tgt := 29) C dX8_walkOf_116 (by decide) ?_
                refine J.sub [6, 7, 8, 9, 2, 1, 3, 4, 0] rfl ?_
                have e := ih29 (j + 1) (by omega) (by omega)
                first
                  | (rw [wkT_a hbt c99, wkS_s, if_pos c52] at e; exact e)
                  | (rw [wkT_a hbt c99, wkS_s, if_neg (by omega)] at e; exact e)
                  | (rw [wkT_b hbt c99, wkS_s, if_pos c52] at e; exact e)
                  | (rw [wkT_b hbt c99, wkS_s, if_neg (by omega)] at e; exact e)
                  | (rw [wkT_c hbt, wkL_c hbt, wkS_s, if_pos c52] at e; exact e)
                  | (rw [wkT_c hbt, wkL_c hbt, wkS_s, if_neg (by omega)] at e; exact e)
    have e := L29 (m + 1) 0 (by omega) (by omega)
    first
      | (rw [wkT_0y c9] at e; exact e)
      | (rw [wkT_0n c9] at e; exact e)
  · refine j_iconst (v := nI 0) C dX8_walkOf_12 (by decide) ?_
    refine j_goto (tgt := 18) C dX8_walkOf_13 (by decide) ?_
    refine j_istore (lv' := [(6, .int (nI 0)), (5, .int (nI (rnd N k p a1))), (0, .ref (mm 0)), (1, .int (nI a1)), (2, .int (nI b0)), (3, .int (nI m)), (4, .int (nI w))]) C dX8_walkOf_18 (by decide) rfl ?_
    refine j_iload_n C 3 dX8_walkOf_20 rfl rfl ?_
    refine j_istore (lv' := [(7, .int (nI a1)), (6, .int (nI 0)), (5, .int (nI (rnd N k p a1))), (0, .ref (mm 0)), (1, .int (nI a1)), (2, .int (nI b0)), (3, .int (nI m)), (4, .int (nI w))]) C dX8_walkOf_21 (by decide) rfl ?_
    refine j_iconst (v := nI 0) C dX8_walkOf_23 (by decide) ?_
    refine j_istore (lv' := [(8, .int (nI 0)), (7, .int (nI a1)), (6, .int (nI 0)), (5, .int (nI (rnd N k p a1))), (0, .ref (mm 0)), (1, .int (nI a1)), (2, .int (nI b0)), (3, .int (nI m)), (4, .int (nI w))]) C dX8_walkOf_24 (by decide) rfl ?_
    refine j_iconst (v := nI 0) C dX8_walkOf_26 (by decide) ?_
    refine j_istore (lv' := [(9, .int (nI 0)), (8, .int (nI 0)), (7, .int (nI a1)), (6, .int (nI 0)), (5, .int (nI (rnd N k p a1))), (0, .ref (mm 0)), (1, .int (nI a1)), (2, .int (nI b0)), (3, .int (nI m)), (4, .int (nI w))]) C dX8_walkOf_27 (by decide) rfl ?_
    refine J.sub [5, 7, 8, 9, 4, 3, 2, 1, 0] rfl ?_
    have L29 : ∀ (n : Nat) (j : Nat), m - j < n → j ≤ m → J X (wM mm cy fl tv so sg ce (nI N) (nI B) kf pf vat vrm vrb rk rp lf tf kp (nI c) df mf gf) 29 [(0, .ref (mm 0)), (2, .int (nI b0)), (3, .int (nI m)), (4, .int (nI w)), (5, .int (nI (wkL (rnd N k p a1) d j))), (6, .int (wkT (rnd N k p a1) d j)), (7, .int (nI (pvD d a1 j))), (8, .int (nI (wkS d a1 j))), (9, .int (nI j))] [] := by
      intro n
      induction n with
      | zero => intro j hm; exact absurd hm (Nat.not_lt_zero _)
      | succ n ih29 =>
        intro j h29_0 h29_1
        have hpv := pvD_lt (d := d) (q := a1) (j := j) (by omega) (fun i hi => (hd i hi).2) h29_1
        have hwl := wkL_lt (d := d) hs64 j
        have hws := wkS_le (d := d) (q := a1) (m := m) (by omega) (fun i hi => (hd i hi).2) h29_1
        refine j_iload C 8 dX8_walkOf_29 rfl ?_
        refine j_iload_n C 2 dX8_walkOf_31 rfl rfl ?_
        refine j_icmp_geN (tgt := 119) C dX8_walkOf_32 (by decide) (by omega) (by omega) (fun c32 => ?_) (fun c32 => ?_)
        · refine j_iload C 3 dX8_walkOf_119 rfl ?_
          refine j_if_neN (tgt := 129) C dX8_walkOf_121 (by decide) (by omega) (fun c121 => ?_) (fun c121 => ?_)
          · refine j_iload C 3 dX8_walkOf_129 rfl ?_
            refine j_iconst (v := nI 1) C dX8_walkOf_131 (by decide) ?_
            refine j_icmp_neN (tgt := 140) C dX8_walkOf_132 (by decide) (by omega) (by omega) (fun c132 => ?_) (fun c132 => ?_)
            · refine j_iload C 5 dX8_walkOf_140 rfl ?_
              exact j_iret C E dX8_walkOf_142 () trivial (by rw [show m = j by omega]; first | (rw [if_pos c121]; done) | (rw [if_neg c121, if_pos c132]; done) | (rw [if_neg c121, if_neg c132]; done)) rfl
            · refine j_iload C 4 dX8_walkOf_135 rfl ?_
              refine j_goto (tgt := 142) C dX8_walkOf_137 (by decide) ?_
              exact j_iret C E dX8_walkOf_142 () trivial (by rw [show m = j by omega]; first | (rw [if_pos c121]; done) | (rw [if_neg c121, if_pos c132]; done) | (rw [if_neg c121, if_neg c132]; done)) rfl
          · refine j_iload C 7 dX8_walkOf_124 rfl ?_
            refine j_goto (tgt := 142) C dX8_walkOf_126 (by decide) ?_
            exact j_iret C E dX8_walkOf_142 () trivial (by rw [show m = j by omega]; first | (rw [if_pos c121]; done) | (rw [if_neg c121, if_pos c132]; done) | (rw [if_neg c121, if_neg c132]; done)) rfl
        · refine j_aload_n C 0 dX8_walkOf_35 rfl rfl ?_
          refine j_get C mh0 4 mh1 0 rfl rfl (by decide) rfl rfl dX8_walkOf_36 ?_
          refine j_iload_n C 1 dX8_walkOf_39 rfl rfl ?_
          refine j_iload C 8 dX8_walkOf_40 rfl ?_
          refine j_iadd (v := nI (b0 + j)) C dX8_walkOf_42 (nI_add _ _) ?_
          have hdj := (hd j (by omega)).2
          refine j_iald (v := nI (d j)) C 3 rfl (by omega) (by decide) (hd j (by omega)).1 dX8_walkOf_43 ?_
          refine j_istore (lv' := [(10, .int (nI (d j))), (0, .ref (mm 0)), (2, .int (nI b0)), (3, .int (nI m)), (4, .int (nI w)), (5, .int (nI (wkL (rnd N k p a1) d j))), (6, .int (wkT (rnd N k p a1) d j)), (7, .int (nI (pvD d a1 j))), (8, .int (nI (wkS d a1 j))), (9, .int (nI j))]) C dX8_walkOf_44 (by decide) rfl ?_
          refine j_iload C 8 dX8_walkOf_46 rfl ?_
          refine j_iload C 0 dX8_walkOf_48 rfl ?_
          refine j_iload C 7 dX8_walkOf_50 rfl ?_
          refine j_icmp_geN (tgt := 63) C dX8_walkOf_52 (by decide) (by omega) (by omega) (fun c52 => ?_) (fun c52 => ?_)
          · refine j_iload C 0 dX8_walkOf_63 rfl ?_
            refine j_iload C 7 dX8_walkOf_65 rfl ?_
            refine j_isub (v := nI ((d j) - (pvD d a1 j))) C dX8_walkOf_67 (pk_sub (by omega)) ?_
            refine j_iadd (v := nI ((wkS d a1 j) + ((d j) - (pvD d a1 j)))) C dX8_walkOf_68 (nI_add _ _) ?_
            refine j_istore (lv' := [(8, .int (nI ((wkS d a1 j) + ((d j) - (pvD d a1 j))))), (10, .int (nI (d j))), (0, .ref (mm 0)), (2, .int (nI b0)), (3, .int (nI m)), (4, .int (nI w)), (5, .int (nI (wkL (rnd N k p a1) d j))), (6, .int (wkT (rnd N k p a1) d j)), (7, .int (nI (pvD d a1 j))), (9, .int (nI j))]) C dX8_walkOf_69 (by decide) rfl ?_
            refine j_iload C 1 dX8_walkOf_71 rfl ?_
            refine j_istore (lv' := [(7, .int (nI (d j))), (8, .int (nI ((wkS d a1 j) + ((d j) - (pvD d a1 j))))), (10, .int (nI (d j))), (0, .ref (mm 0)), (2, .int (nI b0)), (3, .int (nI m)), (4, .int (nI w)), (5, .int (nI (wkL (rnd N k p a1) d j))), (6, .int (wkT (rnd N k p a1) d j)), (9, .int (nI j))]) C dX8_walkOf_73 (by decide) rfl ?_
            refine j_iload C 7 dX8_walkOf_75 rfl ?_
            refine j_iload C 2 dX8_walkOf_77 rfl ?_
            refine j_ishr (v := nI ((wkL (rnd N k p a1) d j) / 2 ^ (d j))) C dX8_walkOf_79 (sh_r (by omega) (by omega)) ?_
            refine j_iconst (v := nI 1) C dX8_walkOf_80 (by decide) ?_
            refine j_iand (v := nI (((wkL (rnd N k p a1) d j) / 2 ^ (d j)) % 2)) C dX8_walkOf_81 (an_1 _) ?_
            refine j_iconst (v := nI 1) C dX8_walkOf_82 (by decide) ?_
            refine j_icmp_neN (tgt := 113) C dX8_walkOf_83 (by decide) (by omega) (by omega) (fun c83 => ?_) (fun c83 => ?_)
            · have hbt := c83
              refine j_iinc (v := nI (j + 1)) (lv' := [(9, .int (nI (j + 1))), (7, .int (nI (d j))), (8, .int (nI ((wkS d a1 j) + ((d j) - (pvD d a1 j))))), (10, .int (nI (d j))), (0, .ref (mm 0)), (2, .int (nI b0)), (3, .int (nI m)), (4, .int (nI w)), (5, .int (nI (wkL (rnd N k p a1) d j))), (6, .int (wkT (rnd N k p a1) d j))]) C 9 dX8_walkOf_113 rfl (nI_inc j) (by decide) rfl ?_
              refine j_goto (tgt := 29) C dX8_walkOf_116 (by decide) ?_
              refine J.sub [4, 5, 6, 7, 8, 9, 1, 2, 0] rfl ?_
              have e := ih29 (j + 1) (by omega) (by omega)
              first
                | (rw [wkT_a hbt c99, wkS_s, if_pos c52] at e; exact e)
                | (rw [wkT_a hbt c99, wkS_s, if_neg (by omega)] at e; exact e)
                | (rw [wkT_b hbt c99, wkS_s, if_pos c52] at e; exact e)
                | (rw [wkT_b hbt c99, wkS_s, if_neg (by omega)] at e; exact e)
                | (rw [wkT_c hbt, wkL_c hbt, wkS_s, if_pos c52] at e; exact e)
                | (rw [wkT_c hbt, wkL_c hbt, wkS_s, if_neg (by omega)] at e; exact e)
            · have hbt := c83
              refine j_iload C 7 dX8_walkOf_86 rfl ?_
              refine j_iconst (v := nI 1) C dX8_walkOf_88 (by decide) ?_
              refine j_iload C 2 dX8_walkOf_89 rfl ?_
              refine j_ishl (v := nI (2 ^ (d j))) C dX8_walkOf_91 (sh_l (by omega)) ?_
              refine j_iconst (v := (-1)) C dX8_walkOf_92 (by decide) ?_
              refine j_ixor (v := nI (2 ^ d j) ^^^ (-1)) C dX8_walkOf_93 rfl ?_
              refine j_iand (v := nI (clr (wkL (rnd N k p a1) d j) (d j))) C dX8_walkOf_94 (clr_i _ (wkL_lt hs64 j) _ hdj) ?_
              refine j_istore (lv' := [(5, .int (nI (clr (wkL (rnd N k p a1) d j) (d j)))), (7, .int (nI (d j))), (8, .int (nI ((wkS d a1 j) + ((d j) - (pvD d a1 j))))), (10, .int (nI (d j))), (0, .ref (mm 0)), (2, .int (nI b0)), (3, .int (nI m)), (4, .int (nI w)), (6, .int (wkT (rnd N k p a1) d j)), (9, .int (nI j))]) C dX8_walkOf_95 (by decide) rfl ?_
              have hcl := clr_lt (x := d j) (wkL_lt (d := d) hs64 j)
              refine j_iload C 0 dX8_walkOf_97 rfl ?_
              refine j_if_neN (tgt := 109) C dX8_walkOf_99 (by decide) (by omega) (fun c99 => ?_) (fun c99 => ?_)
              · refine j_iload C 8 dX8_walkOf_109 rfl ?_
                refine j_istore (lv' := [(6, .int (wkT (rnd N k p a1) d j)), (5, .int (nI (clr (wkL (rnd N k p a1) d j) (d j)))), (7, .int (nI (d j))), (8, .int (nI ((wkS d a1 j) + ((d j) - (pvD d a1 j))))), (10, .int (nI (d j))), (0, .ref (mm 0)), (2, .int (nI b0)), (3, .int (nI m)), (4, .int (nI w)), (9, .int (nI j))]) C dX8_walkOf_111 (by decide) rfl ?_
                refine j_iinc (v := nI (j + 1)) (lv' := [(9, .int (nI (j + 1))), (6, .int (wkT (rnd N k p a1) d j)), (5, .int (nI (clr (wkL (rnd N k p a1) d j) (d j)))), (7, .int (nI (d j))), (8, .int (nI ((wkS d a1 j) + ((d j) - (pvD d a1 j))))), (10, .int (nI (d j))), (0, .ref (mm 0)), (2, .int (nI b0)), (3, .int (nI m)), (4, .int (nI w))]) C 9 dX8_walkOf_113 rfl (nI_inc j) (by decide) rfl ?_
                refine j_goto (tgt := 29) C dX8_walkOf_116 (by decide) ?_
                refine J.sub [6, 7, 8, 9, 2, 1, 3, 4, 0] rfl ?_
                have e := ih29 (j + 1) (by omega) (by omega)
                first
                  | (rw [wkT_a hbt c99, wkS_s, if_pos c52] at e; exact e)
                  | (rw [wkT_a hbt c99, wkS_s, if_neg (by omega)] at e; exact e)
                  | (rw [wkT_b hbt c99, wkS_s, if_pos c52] at e; exact e)
                  | (rw [wkT_b hbt c99, wkS_s, if_neg (by omega)] at e; exact e)
                  | (rw [wkT_c hbt, wkL_c hbt, wkS_s, if_pos c52] at e; exact e)
                  | (rw [wkT_c hbt, wkL_c hbt, wkS_s, if_neg (by omega)] at e; exact e)
              · refine j_iload C 9 dX8_walkOf_102 rfl ?_
                refine j_iconst (v := nI 1) C dX8_walkOf_104 (by decide) ?_
                refine j_iadd (v := nI (j + 1)) C dX8_walkOf_105 (nI_add _ _) ?_
                refine j_goto (tgt := 111) C dX8_walkOf_106 (by decide) ?_
                refine j_istore (lv' := [(6, .int (nI (j + 1))), (5, .int (nI (clr (wkL (rnd N k p a1) d j) (d j)))), (7, .int (nI (d j))), (8, .int (nI ((wkS d a1 j) + ((d j) - (pvD d a1 j))))), (10, .int (nI (d j))), (0, .ref (mm 0)), (2, .int (nI b0)), (3, .int (nI m)), (4, .int (nI w)), (9, .int (nI j))]) C dX8_walkOf_111 (by decide) rfl ?_
                refine j_iinc (v := nI (j + 1)) (lv' := [(9, .int (nI (j + 1))), (6, .int (nI (j + 1))), (5, .int (nI (clr (wkL (rnd N k p a1) d j) (d j)))), (7, .int (nI (d j))), (8, .int (nI ((wkS d a1 j) + ((d j) - (pvD d a1 j))))), (10, .int (nI (d j))), (0, .ref (mm 0)), (2, .int (nI b0)), (3, .int (nI m)), (4, .int (nI w))]) C 9 dX8_walkOf_113 rfl (nI_inc j) (by decide) rfl ?_
                refine j_goto (tgt := 29) C dX8_walkOf_116 (by decide) ?_
                refine J.sub [6, 7, 8, 9, 2, 1, 3, 4, 0] rfl ?_
                have e := ih29 (j + 1) (by omega) (by omega)
                first
                  | (rw [wkT_a hbt c99, wkS_s, if_pos c52] at e; exact e)
                  | (rw [wkT_a hbt c99, wkS_s, if_neg (by omega)] at e; exact e)
                  | (rw [wkT_b hbt c99, wkS_s, if_pos c52] at e; exact e)
                  | (rw [wkT_b hbt c99, wkS_s, if_neg (by omega)] at e; exact e)
                  | (rw [wkT_c hbt, wkL_c hbt, wkS_s, if_pos c52] at e; exact e)
                  | (rw [wkT_c hbt, wkL_c hbt, wkS_s, if_neg (by omega)] at e; exact e)
          · refine j_iload C 7 dX8_walkOf_55 rfl ?_
            refine j_iload C 0 dX8_walkOf_57 rfl ?_
            refine j_isub (v := nI ((pvD d a1 j) - (d j))) C dX8_walkOf_59 (pk_sub (by omega)) ?_
            refine j_goto (tgt := 68) C dX8_walkOf_60 (by decide) ?_
            refine j_iadd (v := nI ((wkS d a1 j) + ((pvD d a1 j) - (d j)))) C dX8_walkOf_68 (nI_add _ _) ?_
            refine j_istore (lv' := [(8, .int (nI ((wkS d a1 j) + ((pvD d a1 j) - (d j))))), (10, .int (nI (d j))), (0, .ref (mm 0)), (2, .int (nI b0)), (3, .int (nI m)), (4, .int (nI w)), (5, .int (nI (wkL (rnd N k p a1) d j))), (6, .int (wkT (rnd N k p a1) d j)), (7, .int (nI (pvD d a1 j))), (9, .int (nI j))]) C dX8_walkOf_69 (by decide) rfl ?_
            refine j_iload C 1 dX8_walkOf_71 rfl ?_
            refine j_istore (lv' := [(7, .int (nI (d j))), (8, .int (nI ((wkS d a1 j) + ((pvD d a1 j) - (d j))))), (10, .int (nI (d j))), (0, .ref (mm 0)), (2, .int (nI b0)), (3, .int (nI m)), (4, .int (nI w)), (5, .int (nI (wkL (rnd N k p a1) d j))), (6, .int (wkT (rnd N k p a1) d j)), (9, .int (nI j))]) C dX8_walkOf_73 (by decide) rfl ?_
            refine j_iload C 7 dX8_walkOf_75 rfl ?_
            refine j_iload C 2 dX8_walkOf_77 rfl ?_
            refine j_ishr (v := nI ((wkL (rnd N k p a1) d j) / 2 ^ (d j))) C dX8_walkOf_79 (sh_r (by omega) (by omega)) ?_
            refine j_iconst (v := nI 1) C dX8_walkOf_80 (by decide) ?_
            refine j_iand (v := nI (((wkL (rnd N k p a1) d j) / 2 ^ (d j)) % 2)) C dX8_walkOf_81 (an_1 _) ?_
            refine j_iconst (v := nI 1) C dX8_walkOf_82 (by decide) ?_
            refine j_icmp_neN (tgt := 113) C dX8_walkOf_83 (by decide) (by omega) (by omega) (fun c83 => ?_) (fun c83 => ?_)
            · have hbt := c83
              refine j_iinc (v := nI (j + 1)) (lv' := [(9, .int (nI (j + 1))), (7, .int (nI (d j))), (8, .int (nI ((wkS d a1 j) + ((pvD d a1 j) - (d j))))), (10, .int (nI (d j))), (0, .ref (mm 0)), (2, .int (nI b0)), (3, .int (nI m)), (4, .int (nI w)), (5, .int (nI (wkL (rnd N k p a1) d j))), (6, .int (wkT (rnd N k p a1) d j))]) C 9 dX8_walkOf_113 rfl (nI_inc j) (by decide) rfl ?_
              refine j_goto (tgt := 29) C dX8_walkOf_116 (by decide) ?_
              refine J.sub [4, 5, 6, 7, 8, 9, 1, 2, 0] rfl ?_
              have e := ih29 (j + 1) (by omega) (by omega)
              first
                | (rw [wkT_a hbt c99, wkS_s, if_pos c52] at e; exact e)
                | (rw [wkT_a hbt c99, wkS_s, if_neg (by omega)] at e; exact e)
                | (rw [wkT_b hbt c99, wkS_s, if_pos c52] at e; exact e)
                | (rw [wkT_b hbt c99, wkS_s, if_neg (by omega)] at e; exact e)
                | (rw [wkT_c hbt, wkL_c hbt, wkS_s, if_pos c52] at e; exact e)
                | (rw [wkT_c hbt, wkL_c hbt, wkS_s, if_neg (by omega)] at e; exact e)
            · have hbt := c83
              refine j_iload C 7 dX8_walkOf_86 rfl ?_
              refine j_iconst (v := nI 1) C dX8_walkOf_88 (by decide) ?_
              refine j_iload C 2 dX8_walkOf_89 rfl ?_
              refine j_ishl (v := nI (2 ^ (d j))) C dX8_walkOf_91 (sh_l (by omega)) ?_
              refine j_iconst (v := (-1)) C dX8_walkOf_92 (by decide) ?_
              refine j_ixor (v := nI (2 ^ d j) ^^^ (-1)) C dX8_walkOf_93 rfl ?_
              refine j_iand (v := nI (clr (wkL (rnd N k p a1) d j) (d j))) C dX8_walkOf_94 (clr_i _ (wkL_lt hs64 j) _ hdj) ?_
              refine j_istore (lv' := [(5, .int (nI (clr (wkL (rnd N k p a1) d j) (d j)))), (7, .int (nI (d j))), (8, .int (nI ((wkS d a1 j) + ((pvD d a1 j) - (d j))))), (10, .int (nI (d j))), (0, .ref (mm 0)), (2, .int (nI b0)), (3, .int (nI m)), (4, .int (nI w)), (6, .int (wkT (rnd N k p a1) d j)), (9, .int (nI j))]) C dX8_walkOf_95 (by decide) rfl ?_
              have hcl := clr_lt (x := d j) (wkL_lt (d := d) hs64 j)
              refine j_iload C 0 dX8_walkOf_97 rfl ?_
              refine j_if_neN (tgt := 109) C dX8_walkOf_99 (by decide) (by omega) (fun c99 => ?_) (fun c99 => ?_)
              · refine j_iload C 8 dX8_walkOf_109 rfl ?_
                refine j_istore (lv' := [(6, .int (wkT (rnd N k p a1) d j)), (5, .int (nI (clr (wkL (rnd N k p a1) d j) (d j)))), (7, .int (nI (d j))), (8, .int (nI ((wkS d a1 j) + ((pvD d a1 j) - (d j))))), (10, .int (nI (d j))), (0, .ref (mm 0)), (2, .int (nI b0)), (3, .int (nI m)), (4, .int (nI w)), (9, .int (nI j))]) C dX8_walkOf_111 (by decide) rfl ?_
                refine j_iinc (v := nI (j + 1)) (lv' := [(9, .int (nI (j + 1))), (6, .int (wkT (rnd N k p a1) d j)), (5, .int (nI (clr (wkL (rnd N k p a1) d j) (d j)))), (7, .int (nI (d j))), (8, .int (nI ((wkS d a1 j) + ((pvD d a1 j) - (d j))))), (10, .int (nI (d j))), (0, .ref (mm 0)), (2, .int (nI b0)), (3, .int (nI m)), (4, .int (nI w))]) C 9 dX8_walkOf_113 rfl (nI_inc j) (by decide) rfl ?_
                refine j_goto (tgt := 29) C dX8_walkOf_116 (by decide) ?_
                refine J.sub [6, 7, 8, 9, 2, 1, 3, 4, 0] rfl ?_
                have e := ih29 (j + 1) (by omega) (by omega)
                first
                  | (rw [wkT_a hbt c99, wkS_s, if_pos c52] at e; exact e)
                  | (rw [wkT_a hbt c99, wkS_s, if_neg (by omega)] at e; exact e)
                  | (rw [wkT_b hbt c99, wkS_s, if_pos c52] at e; exact e)
                  | (rw [wkT_b hbt c99, wkS_s, if_neg (by omega)] at e; exact e)
                  | (rw [wkT_c hbt, wkL_c hbt, wkS_s, if_pos c52] at e; exact e)
                  | (rw [wkT_c hbt, wkL_c hbt, wkS_s, if_neg (by omega)] at e; exact e)
              · refine j_iload C 9 dX8_walkOf_102 rfl ?_
                refine j_iconst (v := nI 1) C dX8_walkOf_104 (by decide) ?_
                refine j_iadd (v := nI (j + 1)) C dX8_walkOf_105 (nI_add _ _) ?_
                refine j_goto (tgt := 111) C dX8_walkOf_106 (by decide) ?_
                refine j_istore (lv' := [(6, .int (nI (j + 1))), (5, .int (nI (clr (wkL (rnd N k p a1) d j) (d j)))), (7, .int (nI (d j))), (8, .int (nI ((wkS d a1 j) + ((pvD d a1 j) - (d j))))), (10, .int (nI (d j))), (0, .ref (mm 0)), (2, .int (nI b0)), (3, .int (nI m)), (4, .int (nI w)), (9, .int (nI j))]) C dX8_walkOf_111 (by decide) rfl ?_
                refine j_iinc (v := nI (j + 1)) (lv' := [(9, .int (nI (j + 1))), (6, .int (nI (j + 1))), (5, .int (nI (clr (wkL (rnd N k p a1) d j) (d j)))), (7, .int (nI (d j))), (8, .int (nI ((wkS d a1 j) + ((pvD d a1 j) - (d j))))), (10, .int (nI (d j))), (0, .ref (mm 0)), (2, .int (nI b0)), (3, .int (nI m)), (4, .int (nI w))]) C 9 dX8_walkOf_113 rfl (nI_inc j) (by decide) rfl ?_
                refine j_goto (tgt := 29) C dX8_walkOf_116 (by decide) ?_
                refine J.sub [6, 7, 8, 9, 2, 1, 3, 4, 0] rfl ?_
                have e := ih29 (j + 1) (by omega) (by omega)
                first
                  | (rw [wkT_a hbt c99, wkS_s, if_pos c52] at e; exact e)
                  | (rw [wkT_a hbt c99, wkS_s, if_neg (by omega)] at e; exact e)
                  | (rw [wkT_b hbt c99, wkS_s, if_pos c52] at e; exact e)
                  | (rw [wkT_b hbt c99, wkS_s, if_neg (by omega)] at e; exact e)
                  | (rw [wkT_c hbt, wkL_c hbt, wkS_s, if_pos c52] at e; exact e)
                  | (rw [wkT_c hbt, wkL_c hbt, wkS_s, if_neg (by omega)] at e; exact e)
    have e := L29 (m + 1) 0 (by omega) (by omega)
    first
      | (rw [wkT_0y c9] at e; exact e)
      | (rw [wkT_0n c9] at e; exact e)
set_option maxHeartbeats 4000000 in
set_option maxRecDepth 20000 in
theorem c_X8_walk {l : Launch} {D : va_G} {cy : Nat → ClassId} (mm : Nat → Nat) (fl tv : Int32) (so sg ce : Nat → Int32) (N B : Nat) (kf pf : Nat → Int32) (vat vrm vrb : Int32) (rk rp lf tf kp : Nat → Int32) (c : Nat) (df mf gf : Nat → Int32) (k : Nat → Nat) (p : Nat → Nat → Nat) (rd rl : Nat → Nat) (ra : Nat → Option Nat) (hs : Nat → Bool) (sl sa : Nat → Nat) (sc : Nat → Nat → Int32) (hX : MI ((N, B, k, p), (c, rd, rl, ra), (hs, sl, sa, sc), tv, fl) (fl, tv, so, sg, ce, nI N, nI B, kf, pf, vat, vrm, vrb, rk, rp, lf, tf, kp, nI c, df, mf, gf)) (x s lx i m w : Int32)  : Ct l yX8_walk wsX8_walk ({ frames := 5, cells := 0, slots := 0, locals := 120 }) D cy [.ref (mm 0), .int x, .int s, .int lx, .int i, .int m, .int w] (wM mm cy fl tv so sg ce (nI N) (nI B) kf pf vat vrm vrb rk rp lf tf kp (nI c) df mf gf) (fun u : MS => MI (m_walk ((N, B, k, p), (c, rd, rl, ra), (hs, sl, sa, sc), tv, fl) x s lx i m w).2 u) (fun _ => some (.int (m_walk ((N, B, k, p), (c, rd, rl, ra), (hs, sl, sa, sc), tv, fl) x s lx i m w).1)) (fun u => wMu mm cy u) := by
  refine Ct.of (cc := cX8_walk) (nL := 10) (ret := (some .int)) rfl (by decide) ⟨rfl, rfl⟩ (Nat.le_of_ble_eq_true rfl) ?_
  intro X C E
  have C : Cx X l D cy cX8_walk 10 wsX8_walk RX8 ({ frames := 5, cells := 0, slots := 0, locals := 120 }) := C
  have mh0 : ∀ w ∈ u_ws RX8 TX8 21, w ∈ wsX8_walk := by decide +kernel
  have mh1 : Cond.fieldLink RX8 50 RX8 (TX8 0).2.1 (TX8 0).2.2.1 ∈ wsX8_walk := by decide +kernel
  have mh2 : Cond.fieldLink RX8 16 RX8 (TX8 4).2.1 (TX8 4).2.2.1 ∈ wsX8_walk := by decide +kernel
  obtain ⟨-, ⟨hB, hN2⟩, hT, hR, hS⟩ := hX
  have hN := hT.n
  have hc8 := hR.1
  have hN30 : N ≤ 2 ^ 30 := by omega
  show J X (wM mm cy fl tv so sg ce (nI N) (nI B) kf pf vat vrm vrb rk rp lf tf kp (nI c) df mf gf) 0 [(0, .ref (mm 0)), (1, .int x), (2, .int s), (3, .int lx), (4, .int i), (5, .int m), (6, .int w)] []
  refine j_aload_n C 0 dX8_walk_0 rfl rfl ?_
  refine j_iconst (v := nI 0) C dX8_walk_1 (by decide) ?_
  refine j_put (ws' := wM mm cy (nI 0) tv so sg ce (nI N) (nI B) kf pf vat vrm vrb rk rp lf tf kp (nI c) df mf gf) C mh0 0 mh1 tyX8 tyX8_ok nmX8 0 rfl rfl (by decide) rfl rfl (by decide +kernel) (Nat.le_of_ble_eq_true rfl) rfl dX8_walk_2 ?_
  refine j_aload_n C 0 dX8_walk_5 rfl rfl ?_
  refine j_iload_n C 1 dX8_walk_6 rfl rfl ?_
  refine j_callV0 (As := [.int x]) (rest := []) C (c_X8_isPerson mm (nI 0) tv so sg ce N B kf pf vat vrm vrb rk rp lf tf kp c df mf gf (x) hN) gX8_walk_X8_isPerson rfl 1 rfl (by decide +kernel) (by decide) 0 rfl rfl (Nat.le_of_ble_eq_true rfl) dX8_walk_7 rfl (fun _ _ => ?_)
  show J X (wM mm cy (nI 0) tv so sg ce (nI N) (nI B) kf pf vat vrm vrb rk rp lf tf kp (nI c) df mf gf) 10 [(0, .ref (mm 0)), (1, .int x), (2, .int s), (3, .int lx), (4, .int i), (5, .int m), (6, .int w)] [.int (nI (bN ((pOf N (x)).isSome = true)))]
  refine j_if_eqN (tgt := 20) C dX8_walk_10 (by decide) (bN_lt _) (fun c10 => ?_) (fun c10 => ?_)
  · have c10 := bN_0.mp c10
    have qa1 := pOf_n c10
    refine j_iconst (v := (-1)) C dX8_walk_20 (by decide) ?_
    exact j_iret C E dX8_walk_21 (nI 0, tv, so, sg, ce, nI N, nI B, kf, pf, vat, vrm, vrb, rk, rp, lf, tf, kp, nI c, df, mf, gf) (by rw [show m_walk ((N, B, k, p), (c, rd, rl, ra), (hs, sl, sa, sc), tv, fl) x s lx i m w = ((-1), ((N, B, k, p), (c, rd, rl, ra), (hs, sl, sa, sc), tv, nI 0)) from (by simp only [m_walk, qa1, reduceCtorEq, if_true, if_false, Bool.false_eq_true, ne_eq, not_true_eq_false, not_false_eq_true, and_true, true_and, and_false, false_and, or_true, true_or, or_false, false_or]; try rfl)]; exact MI.mk hB hN2 hT hR hS) (by rw [show m_walk ((N, B, k, p), (c, rd, rl, ra), (hs, sl, sa, sc), tv, fl) x s lx i m w = ((-1), ((N, B, k, p), (c, rd, rl, ra), (hs, sl, sa, sc), tv, nI 0)) from (by simp only [m_walk, qa1, reduceCtorEq, if_true, if_false, Bool.false_eq_true, ne_eq, not_true_eq_false, not_false_eq_true, and_true, true_and, and_false, false_and, or_true, true_or, or_false, false_or]; try rfl)]) rfl
  · have c10 := bN_1.mp c10
    obtain ⟨a1, ha1, rfl⟩ := pY hN30 c10
    have qa1 := pI ha1 hN30
    show J X (wM mm cy (nI 0) tv so sg ce (nI N) (nI B) kf pf vat vrm vrb rk rp lf tf kp (nI c) df mf gf) 13 [(0, .ref (mm 0)), (1, .int (nI a1)), (2, .int s), (3, .int lx), (4, .int i), (5, .int m), (6, .int w)] []
    refine j_iload_n C 2 dX8_walk_13 rfl rfl ?_
    refine j_callP (As := [.int s]) (rest := []) C (c_X8_isSheet (s)) gX8_walk_X8_isSheet rfl 1 rfl (by decide +kernel) (by decide) (Nat.le_of_ble_eq_true rfl) dX8_walk_14 rfl (fun _ _ => ?_)
    show J X (wM mm cy (nI 0) tv so sg ce (nI N) (nI B) kf pf vat vrm vrb rk rp lf tf kp (nI c) df mf gf) 17 [(0, .ref (mm 0)), (1, .int (nI a1)), (2, .int s), (3, .int lx), (4, .int i), (5, .int m), (6, .int w)] [.int (nI (bN ((pOf 4 (s)).isSome = true)))]
    refine j_if_neN (tgt := 22) C dX8_walk_17 (by decide) (bN_lt _) (fun c17 => ?_) (fun c17 => ?_)
    · have c17 := bN_1.mp c17
      obtain ⟨q1, hq1, rfl⟩ := pY (by decide) c17
      have qq1 := pI hq1 (by decide)
      show J X (wM mm cy (nI 0) tv so sg ce (nI N) (nI B) kf pf vat vrm vrb rk rp lf tf kp (nI c) df mf gf) 22 [(0, .ref (mm 0)), (1, .int (nI a1)), (2, .int (nI q1)), (3, .int lx), (4, .int i), (5, .int m), (6, .int w)] []
      refine j_iload_n C 3 dX8_walk_22 rfl rfl ?_
      refine j_callP (As := [.int lx]) (rest := []) C (c_X8_isSort (lx)) gX8_walk_X8_isSort rfl 1 rfl (by decide +kernel) (by decide) (Nat.le_of_ble_eq_true rfl) dX8_walk_23 rfl (fun _ _ => ?_)
      show J X (wM mm cy (nI 0) tv so sg ce (nI N) (nI B) kf pf vat vrm vrb rk rp lf tf kp (nI c) df mf gf) 26 [(0, .ref (mm 0)), (1, .int (nI a1)), (2, .int (nI q1)), (3, .int lx), (4, .int i), (5, .int m), (6, .int w)] [.int (nI (bN ((pOf 3 (lx)).isSome = true)))]
      refine j_if_eqN (tgt := 50) C dX8_walk_26 (by decide) (bN_lt _) (fun c26 => ?_) (fun c26 => ?_)
      · have c26 := bN_0.mp c26
        have qv1 := pOf_n c26
        refine j_bipush (v := (-2)) C dX8_walk_50 (by decide) ?_
        exact j_iret C E dX8_walk_52 (nI 0, tv, so, sg, ce, nI N, nI B, kf, pf, vat, vrm, vrb, rk, rp, lf, tf, kp, nI c, df, mf, gf) (by rw [show m_walk ((N, B, k, p), (c, rd, rl, ra), (hs, sl, sa, sc), tv, fl) (nI a1) (nI q1) lx i m w = ((-2), ((N, B, k, p), (c, rd, rl, ra), (hs, sl, sa, sc), tv, nI 0)) from (by simp only [m_walk, qa1, qq1, qv1, reduceCtorEq, if_true, if_false, Bool.false_eq_true, ne_eq, not_true_eq_false, not_false_eq_true, and_true, true_and, and_false, false_and, or_true, true_or, or_false, false_or]; try rfl)]; exact MI.mk hB hN2 hT hR hS) (by rw [show m_walk ((N, B, k, p), (c, rd, rl, ra), (hs, sl, sa, sc), tv, fl) (nI a1) (nI q1) lx i m w = ((-2), ((N, B, k, p), (c, rd, rl, ra), (hs, sl, sa, sc), tv, nI 0)) from (by simp only [m_walk, qa1, qq1, qv1, reduceCtorEq, if_true, if_false, Bool.false_eq_true, ne_eq, not_true_eq_false, not_false_eq_true, and_true, true_and, and_false, false_and, or_true, true_or, or_false, false_or]; try rfl)]) rfl
      · have c26 := bN_1.mp c26
        obtain ⟨v1, hv1, rfl⟩ := pY (by decide) c26
        have qv1 := pI hv1 (by decide)
        show J X (wM mm cy (nI 0) tv so sg ce (nI N) (nI B) kf pf vat vrm vrb rk rp lf tf kp (nI c) df mf gf) 29 [(0, .ref (mm 0)), (1, .int (nI a1)), (2, .int (nI q1)), (3, .int (nI v1)), (4, .int i), (5, .int m), (6, .int w)] []
        refine j_iload C 5 dX8_walk_29 rfl ?_
        refine j_iconst (v := nI 0) C dX8_walk_31 (by decide) ?_
        refine j_bipush (v := nI 20) C dX8_walk_32 (by decide) ?_
        refine j_callP (As := [.int m, .int (nI 0), .int (nI 20)]) (rest := []) C (c_X8_withinP (m) 20 (by omega)) gX8_walk_X8_within rfl 3 rfl (by decide +kernel) (by decide) (Nat.le_of_ble_eq_true rfl) dX8_walk_34 rfl (fun _ _ => ?_)
        show J X (wM mm cy (nI 0) tv so sg ce (nI N) (nI B) kf pf vat vrm vrb rk rp lf tf kp (nI c) df mf gf) 37 [(0, .ref (mm 0)), (1, .int (nI a1)), (2, .int (nI q1)), (3, .int (nI v1)), (4, .int i), (5, .int m), (6, .int w)] [.int (nI (bN ((pOf 21 (m)).isSome = true)))]
        refine j_if_eqN (tgt := 50) C dX8_walk_37 (by decide) (bN_lt _) (fun c37 => ?_) (fun c37 => ?_)
        · have c37 := bN_0.mp c37
          have qm1 := pOf_n c37
          refine j_bipush (v := (-2)) C dX8_walk_50 (by decide) ?_
          exact j_iret C E dX8_walk_52 (nI 0, tv, so, sg, ce, nI N, nI B, kf, pf, vat, vrm, vrb, rk, rp, lf, tf, kp, nI c, df, mf, gf) (by rw [show m_walk ((N, B, k, p), (c, rd, rl, ra), (hs, sl, sa, sc), tv, fl) (nI a1) (nI q1) (nI v1) i m w = ((-2), ((N, B, k, p), (c, rd, rl, ra), (hs, sl, sa, sc), tv, nI 0)) from (by simp only [m_walk, qa1, qq1, qv1, qm1, reduceCtorEq, if_true, if_false, Bool.false_eq_true, ne_eq, not_true_eq_false, not_false_eq_true, and_true, true_and, and_false, false_and, or_true, true_or, or_false, false_or]; try rfl)]; exact MI.mk hB hN2 hT hR hS) (by rw [show m_walk ((N, B, k, p), (c, rd, rl, ra), (hs, sl, sa, sc), tv, fl) (nI a1) (nI q1) (nI v1) i m w = ((-2), ((N, B, k, p), (c, rd, rl, ra), (hs, sl, sa, sc), tv, nI 0)) from (by simp only [m_walk, qa1, qq1, qv1, qm1, reduceCtorEq, if_true, if_false, Bool.false_eq_true, ne_eq, not_true_eq_false, not_false_eq_true, and_true, true_and, and_false, false_and, or_true, true_or, or_false, false_or]; try rfl)]) rfl
        · have c37 := bN_1.mp c37
          obtain ⟨m1, hm1, rfl⟩ := pY (by decide) c37
          have qm1 := pI hm1 (by decide)
          show J X (wM mm cy (nI 0) tv so sg ce (nI N) (nI B) kf pf vat vrm vrb rk rp lf tf kp (nI c) df mf gf) 40 [(0, .ref (mm 0)), (1, .int (nI a1)), (2, .int (nI q1)), (3, .int (nI v1)), (4, .int i), (5, .int (nI m1)), (6, .int w)] []
          refine j_iload C 6 dX8_walk_40 rfl ?_
          refine j_iconst (v := nI 0) C dX8_walk_42 (by decide) ?_
          refine j_iconst (v := nI 2) C dX8_walk_43 (by decide) ?_
          refine j_callP (As := [.int w, .int (nI 0), .int (nI 2)]) (rest := []) C (c_X8_withinP (w) 2 (by omega)) gX8_walk_X8_within rfl 3 rfl (by decide +kernel) (by decide) (Nat.le_of_ble_eq_true rfl) dX8_walk_44 rfl (fun _ _ => ?_)
          show J X (wM mm cy (nI 0) tv so sg ce (nI N) (nI B) kf pf vat vrm vrb rk rp lf tf kp (nI c) df mf gf) 47 [(0, .ref (mm 0)), (1, .int (nI a1)), (2, .int (nI q1)), (3, .int (nI v1)), (4, .int i), (5, .int (nI m1)), (6, .int w)] [.int (nI (bN ((pOf 3 (w)).isSome = true)))]
          refine j_if_neN (tgt := 53) C dX8_walk_47 (by decide) (bN_lt _) (fun c47 => ?_) (fun c47 => ?_)
          · have c47 := bN_1.mp c47
            obtain ⟨w1, hw1, rfl⟩ := pY (by decide) c47
            have qw1 := pI hw1 (by decide)
            show J X (wM mm cy (nI 0) tv so sg ce (nI N) (nI B) kf pf vat vrm vrb rk rp lf tf kp (nI c) df mf gf) 53 [(0, .ref (mm 0)), (1, .int (nI a1)), (2, .int (nI q1)), (3, .int (nI v1)), (4, .int i), (5, .int (nI m1)), (6, .int (nI w1))] []
            refine j_aload_n C 0 dX8_walk_53 rfl rfl ?_
            refine j_iload_n C 2 dX8_walk_54 rfl rfl ?_
            refine j_iload_n C 3 dX8_walk_55 rfl rfl ?_
            refine j_iload C 4 dX8_walk_56 rfl ?_
            refine j_iload C 5 dX8_walk_58 rfl ?_
            refine j_callV0 (As := [.int (nI q1), .int (nI v1), .int i, .int (nI m1)]) (rest := []) C (c_X8_against mm (nI 0) tv so sg ce N B kf pf vat vrm vrb rk rp lf tf kp c df mf gf hs sl sa sc hS q1 v1 (i) (nI m1) hq1 hv1) gX8_walk_X8_against rfl 4 rfl (by decide +kernel) (by decide) 0 rfl rfl (Nat.le_of_ble_eq_true rfl) dX8_walk_60 rfl (fun _ _ => ?_)
            have hag := agn_le (hs := hs) (sl := sl) (sa := sa) (q := q1) (v := v1) (i := i) (n := nI m1)
            show J X (wM mm cy (nI 0) tv so sg ce (nI N) (nI B) kf pf vat vrm vrb rk rp lf tf kp (nI c) df mf gf) 63 [(0, .ref (mm 0)), (1, .int (nI a1)), (2, .int (nI q1)), (3, .int (nI v1)), (4, .int i), (5, .int (nI m1)), (6, .int (nI w1))] [.int (nI (agn hs sl sa q1 v1 (i) (nI m1)))]
            refine j_istore (lv' := [(7, .int (nI (agn hs sl sa q1 v1 (i) (nI m1)))), (0, .ref (mm 0)), (1, .int (nI a1)), (2, .int (nI q1)), (3, .int (nI v1)), (4, .int i), (5, .int (nI m1)), (6, .int (nI w1))]) C dX8_walk_63 (by decide) rfl ?_
            refine j_iload C 0 dX8_walk_65 rfl ?_
            refine j_if_eqN (tgt := 77) C dX8_walk_67 (by decide) (by omega) (fun c67 => ?_) (fun c67 => ?_)
            · obtain ⟨qh, qsv, hcl⟩ := agn_inv c67
              have q60 := hS.l60 hq1 qh
              obtain ⟨i1, m2, him, rfl, em⟩ := cells_y q60 hcl
              have em2 : m2 = m1 := ((nI_eq (by omega) (by omega)).mp em).symm
              rw [em2] at him
              have t1 := tC60 (m := i1) (by omega)
              show J X (wM mm cy (nI 0) tv so sg ce (nI N) (nI B) kf pf vat vrm vrb rk rp lf tf kp (nI c) df mf gf) 77 [(7, .int (nI (agn hs sl sa q1 v1 (nI i1) (nI m1)))), (0, .ref (mm 0)), (1, .int (nI a1)), (2, .int (nI q1)), (3, .int (nI v1)), (4, .int (nI i1)), (5, .int (nI m1)), (6, .int (nI w1))] []
              refine j_bipush (v := nI 60) C dX8_walk_77 (by decide) ?_
              refine j_iload_n C 3 dX8_walk_79 rfl rfl ?_
              refine j_imul (v := nI (60 * q1)) C dX8_walk_80 (pk_mul _ _) ?_
              refine j_iload C 5 dX8_walk_81 rfl ?_
              refine j_iadd (v := nI ((60 * q1) + i1)) C dX8_walk_83 (nI_add _ _) ?_
              refine j_istore (lv' := [(8, .int (nI ((60 * q1) + i1))), (7, .int (nI (agn hs sl sa q1 v1 (nI i1) (nI m1)))), (0, .ref (mm 0)), (1, .int (nI a1)), (2, .int (nI q1)), (3, .int (nI v1)), (4, .int (nI i1)), (5, .int (nI m1)), (6, .int (nI w1))]) C dX8_walk_84 (by decide) rfl ?_
              refine j_iconst (v := nI 0) C dX8_walk_86 (by decide) ?_
              refine j_istore (lv' := [(9, .int (nI 0)), (8, .int (nI ((60 * q1) + i1))), (7, .int (nI (agn hs sl sa q1 v1 (nI i1) (nI m1)))), (0, .ref (mm 0)), (1, .int (nI a1)), (2, .int (nI q1)), (3, .int (nI v1)), (4, .int (nI i1)), (5, .int (nI m1)), (6, .int (nI w1))]) C dX8_walk_87 (by decide) rfl ?_
              refine J.sub [3, 4, 8, 9, 1, 0] rfl ?_
              have L89 : ∀ (n : Nat) (j : Nat), m1 - j < n → j ≤ m1 → allB (fun j => (pOf N (sc q1 (i1 + j))).isSome) j = true → J X (wM mm cy (nI 0) tv so sg ce (nI N) (nI B) kf pf vat vrm vrb rk rp lf tf kp (nI c) df mf gf) 89 [(0, .ref (mm 0)), (1, .int (nI a1)), (5, .int (nI m1)), (6, .int (nI w1)), (8, .int (nI (60 * q1 + i1))), (9, .int (nI j))] [] := by
                intro n
                induction n with
                | zero => intro j hm; exact absurd hm (Nat.not_lt_zero _)
                | succ n ih89 =>
                  intro j h89_0 h89_1 h89_2
                  refine j_iload C 5 dX8_walk_89 rfl ?_
                  refine j_iload C 2 dX8_walk_91 rfl ?_
                  refine j_icmp_geN (tgt := 121) C dX8_walk_93 (by decide) (by omega) (by omega) (fun c93 => ?_) (fun c93 => ?_)
                  · have qal0 : allB (fun j => (pOf N (sc q1 (i1 + j))).isSome) m1 = true := by have z := h89_2; rw [show j = m1 by omega] at z; exact z
                    have qal : ¬ allB (fun j => (pOf N (sc q1 (i1 + j))).isSome) m1 = false := by rw [qal0]; decide
                    have hd : ∀ j, j < m1 → ce (60 * q1 + i1 + j) = nI (dOf N (sc q1 (i1 + j))) ∧ dOf N (sc q1 (i1 + j)) < 6 := fun j hj => by have z := dOf_s hN (allB_i.mp qal0 j hj); rw [Nat.add_assoc, hS.hcf hq1 qh (by omega)]; exact ⟨z.1, by omega⟩
                    refine j_aload_n C 0 dX8_walk_121 rfl rfl ?_
                    refine j_iload_n C 1 dX8_walk_122 rfl rfl ?_
                    refine j_iload C 4 dX8_walk_123 rfl ?_
                    refine j_iload C 2 dX8_walk_125 rfl ?_
                    refine j_iload C 3 dX8_walk_127 rfl ?_
                    refine j_callV0 (As := [.int (nI a1), .int (nI (60 * q1 + i1)), .int (nI m1), .int (nI w1)]) (rest := []) C (c_X8_walkOf mm (nI 0) tv so sg ce N B kf pf vat vrm vrb rk rp lf tf kp c df mf gf k p hT a1 (60 * q1 + i1) m1 w1 (fun j => dOf N (sc q1 (i1 + j))) ha1 (by omega) (by omega) hw1 hd) gX8_walk_X8_walkOf rfl 4 rfl (by decide +kernel) (by decide) 0 rfl rfl (Nat.le_of_ble_eq_true rfl) dX8_walk_129 rfl (fun _ _ => ?_)
                    show J X (wM mm cy (nI 0) tv so sg ce (nI N) (nI B) kf pf vat vrm vrb rk rp lf tf kp (nI c) df mf gf) 132 [(0, .ref (mm 0)), (1, .int (nI a1)), (5, .int (nI m1)), (6, .int (nI w1)), (8, .int (nI (60 * q1 + i1))), (9, .int (nI j))] [.int (if w1 = 0 then nI (wkS (fun j => dOf N (sc q1 (i1 + j))) a1 m1) else if w1 = 1 then nI (wkL (rnd N k p a1) (fun j => dOf N (sc q1 (i1 + j))) m1) else wkT (rnd N k p a1) (fun j => dOf N (sc q1 (i1 + j))) m1)]
                    exact j_iret C E dX8_walk_132 (nI 0, tv, so, sg, ce, nI N, nI B, kf, pf, vat, vrm, vrb, rk, rp, lf, tf, kp, nI c, df, mf, gf) (by rw [show m_walk ((N, B, k, p), (c, rd, rl, ra), (hs, sl, sa, sc), tv, fl) (nI a1) (nI q1) (nI v1) (nI i1) (nI m1) (nI w1) = (if w1 = 0 then nI (wkS (fun j => dOf N (sc q1 (i1 + j))) a1 m1) else if w1 = 1 then nI (wkL (rnd N k p a1) (fun j => dOf N (sc q1 (i1 + j))) m1) else wkT (rnd N k p a1) (fun j => dOf N (sc q1 (i1 + j))) m1, ((N, B, k, p), (c, rd, rl, ra), (hs, sl, sa, sc), tv, nI 0)) from (by simp only [m_walk, qa1, qq1, qv1, qm1, qw1, c67, t1, qal, reduceIte, wkT, reduceCtorEq, if_true, if_false, Bool.false_eq_true, ne_eq, not_true_eq_false, not_false_eq_true, and_true, true_and, and_false, false_and, or_true, true_or, or_false, false_or]; try rfl)]; exact MI.mk hB hN2 hT hR hS) (by rw [show m_walk ((N, B, k, p), (c, rd, rl, ra), (hs, sl, sa, sc), tv, fl) (nI a1) (nI q1) (nI v1) (nI i1) (nI m1) (nI w1) = (if w1 = 0 then nI (wkS (fun j => dOf N (sc q1 (i1 + j))) a1 m1) else if w1 = 1 then nI (wkL (rnd N k p a1) (fun j => dOf N (sc q1 (i1 + j))) m1) else wkT (rnd N k p a1) (fun j => dOf N (sc q1 (i1 + j))) m1, ((N, B, k, p), (c, rd, rl, ra), (hs, sl, sa, sc), tv, nI 0)) from (by simp only [m_walk, qa1, qq1, qv1, qm1, qw1, c67, t1, qal, reduceIte, wkT, reduceCtorEq, if_true, if_false, Bool.false_eq_true, ne_eq, not_true_eq_false, not_false_eq_true, and_true, true_and, and_false, false_and, or_true, true_or, or_false, false_or]; try rfl)]) rfl
                  · refine j_aload_n C 0 dX8_walk_96 rfl rfl ?_
                    refine j_aload_n C 0 dX8_walk_97 rfl rfl ?_
                    refine j_get C mh0 4 mh2 0 rfl rfl (by decide) rfl rfl dX8_walk_98 ?_
                    refine j_iload C 4 dX8_walk_101 rfl ?_
                    refine j_iload C 5 dX8_walk_103 rfl ?_
                    refine j_iadd (v := nI ((60 * q1 + i1) + j)) C dX8_walk_105 (nI_add _ _) ?_
                    refine j_iald (v := ce (60 * q1 + (i1 + j))) C 3 rfl (by omega) (by decide) (by rw [Nat.add_assoc]) dX8_walk_106 ?_
                    refine j_callV0 (As := [.int (ce (60 * q1 + (i1 + j)))]) (rest := []) C (c_X8_isPerson mm (nI 0) tv so sg ce N B kf pf vat vrm vrb rk rp lf tf kp c df mf gf (ce (60 * q1 + (i1 + j))) hN) gX8_walk_X8_isPerson rfl 1 rfl (by decide +kernel) (by decide) 0 rfl rfl (Nat.le_of_ble_eq_true rfl) dX8_walk_107 rfl (fun _ _ => ?_)
                    show J X (wM mm cy (nI 0) tv so sg ce (nI N) (nI B) kf pf vat vrm vrb rk rp lf tf kp (nI c) df mf gf) 110 [(0, .ref (mm 0)), (1, .int (nI a1)), (5, .int (nI m1)), (6, .int (nI w1)), (8, .int (nI (60 * q1 + i1))), (9, .int (nI j))] [.int (nI (bN ((pOf N (ce (60 * q1 + (i1 + j)))).isSome = true)))]
                    refine j_if_neN (tgt := 115) C dX8_walk_110 (by decide) (bN_lt _) (fun c110 => ?_) (fun c110 => ?_)
                    · have c110 := bN_1.mp c110
                      refine j_iinc (v := nI (j + 1)) (lv' := [(9, .int (nI (j + 1))), (0, .ref (mm 0)), (1, .int (nI a1)), (5, .int (nI m1)), (6, .int (nI w1)), (8, .int (nI (60 * q1 + i1)))]) C 5 dX8_walk_115 rfl (nI_inc j) (by decide) rfl ?_
                      refine j_goto (tgt := 89) C dX8_walk_118 (by decide) ?_
                      refine J.sub [1, 2, 3, 4, 5, 0] rfl ?_
                      have e := ih89 (j + 1) (by omega) (by omega) (by show (allB _ j && _) = true; rw [h89_2]; show (pOf N (sc q1 (i1 + j))).isSome = true; rw [← hS.hcf hq1 qh (by omega)]; exact c110)
                      exact e
                    · have c110 := bN_0.mp c110
                      have qal : allB (fun j => (pOf N (sc q1 (i1 + j))).isSome) m1 = false := allB_f (i := j) (by omega) (by show (pOf N (sc q1 (i1 + j))).isSome = false; rw [← hS.hcf hq1 qh (by omega)]; exact Bool.eq_false_iff.mpr c110)
                      refine j_iconst (v := (-1)) C dX8_walk_113 (by decide) ?_
                      exact j_iret C E dX8_walk_114 (nI 0, tv, so, sg, ce, nI N, nI B, kf, pf, vat, vrm, vrb, rk, rp, lf, tf, kp, nI c, df, mf, gf) (by rw [show m_walk ((N, B, k, p), (c, rd, rl, ra), (hs, sl, sa, sc), tv, fl) (nI a1) (nI q1) (nI v1) (nI i1) (nI m1) (nI w1) = ((-1), ((N, B, k, p), (c, rd, rl, ra), (hs, sl, sa, sc), tv, nI 0)) from (by simp only [m_walk, qa1, qq1, qv1, qm1, qw1, c67, t1, qal, reduceCtorEq, if_true, if_false, Bool.false_eq_true, ne_eq, not_true_eq_false, not_false_eq_true, and_true, true_and, and_false, false_and, or_true, true_or, or_false, false_or]; try rfl)]; exact MI.mk hB hN2 hT hR hS) (by rw [show m_walk ((N, B, k, p), (c, rd, rl, ra), (hs, sl, sa, sc), tv, fl) (nI a1) (nI q1) (nI v1) (nI i1) (nI m1) (nI w1) = ((-1), ((N, B, k, p), (c, rd, rl, ra), (hs, sl, sa, sc), tv, nI 0)) from (by simp only [m_walk, qa1, qq1, qv1, qm1, qw1, c67, t1, qal, reduceCtorEq, if_true, if_false, Bool.false_eq_true, ne_eq, not_true_eq_false, not_false_eq_true, and_true, true_and, and_false, false_and, or_true, true_or, or_false, false_or]; try rfl)]) rfl
              have e := L89 (m1 + 1) 0 (by omega) (by omega) rfl
              exact e
            · refine j_aload_n C 1 dX8_walk_70 rfl rfl ?_
              refine j_iload C 0 dX8_walk_71 rfl ?_
              refine j_callV0 (As := [.int (nI (agn hs sl sa q1 v1 (i) (nI m1)))]) (rest := []) C (c_X8_fails mm (nI 0) tv so sg ce N B kf pf vat vrm vrb rk rp lf tf kp c df mf gf (agn hs sl sa q1 v1 (i) (nI m1))) gX8_walk_X8_fails rfl 1 rfl (by decide +kernel) (by decide) 0 rfl rfl (Nat.le_of_ble_eq_true rfl) dX8_walk_73 rfl (fun _ _ => ?_)
              show J X (wM mm cy (nI (agn hs sl sa q1 v1 (i) (nI m1))) tv so sg ce (nI N) (nI B) kf pf vat vrm vrb rk rp lf tf kp (nI c) df mf gf) 76 [(7, .int (nI (agn hs sl sa q1 v1 (i) (nI m1)))), (0, .ref (mm 0)), (1, .int (nI a1)), (2, .int (nI q1)), (3, .int (nI v1)), (4, .int i), (5, .int (nI m1)), (6, .int (nI w1))] [.int ((-10) - nI (agn hs sl sa q1 v1 (i) (nI m1)))]
              exact j_iret C E dX8_walk_76 (nI (agn hs sl sa q1 v1 (i) (nI m1)), tv, so, sg, ce, nI N, nI B, kf, pf, vat, vrm, vrb, rk, rp, lf, tf, kp, nI c, df, mf, gf) (by rw [show m_walk ((N, B, k, p), (c, rd, rl, ra), (hs, sl, sa, sc), tv, fl) (nI a1) (nI q1) (nI v1) i (nI m1) (nI w1) = ((-10) - nI (agn hs sl sa q1 v1 (i) (nI m1)), ((N, B, k, p), (c, rd, rl, ra), (hs, sl, sa, sc), tv, nI (agn hs sl sa q1 v1 i (nI m1)))) from (by simp only [m_walk, qa1, qq1, qv1, qm1, qw1, if_pos c67, reduceCtorEq, if_true, if_false, Bool.false_eq_true, ne_eq, not_true_eq_false, not_false_eq_true, and_true, true_and, and_false, false_and, or_true, true_or, or_false, false_or]; try rfl)]; exact MI.mk hB hN2 hT hR hS) (by rw [show m_walk ((N, B, k, p), (c, rd, rl, ra), (hs, sl, sa, sc), tv, fl) (nI a1) (nI q1) (nI v1) i (nI m1) (nI w1) = ((-10) - nI (agn hs sl sa q1 v1 (i) (nI m1)), ((N, B, k, p), (c, rd, rl, ra), (hs, sl, sa, sc), tv, nI (agn hs sl sa q1 v1 i (nI m1)))) from (by simp only [m_walk, qa1, qq1, qv1, qm1, qw1, if_pos c67, reduceCtorEq, if_true, if_false, Bool.false_eq_true, ne_eq, not_true_eq_false, not_false_eq_true, and_true, true_and, and_false, false_and, or_true, true_or, or_false, false_or]; try rfl)]) rfl
          · have c47 := bN_0.mp c47
            have qw1 := pOf_n c47
            refine j_bipush (v := (-2)) C dX8_walk_50 (by decide) ?_
            exact j_iret C E dX8_walk_52 (nI 0, tv, so, sg, ce, nI N, nI B, kf, pf, vat, vrm, vrb, rk, rp, lf, tf, kp, nI c, df, mf, gf) (by rw [show m_walk ((N, B, k, p), (c, rd, rl, ra), (hs, sl, sa, sc), tv, fl) (nI a1) (nI q1) (nI v1) i (nI m1) w = ((-2), ((N, B, k, p), (c, rd, rl, ra), (hs, sl, sa, sc), tv, nI 0)) from (by simp only [m_walk, qa1, qq1, qv1, qm1, qw1, reduceCtorEq, if_true, if_false, Bool.false_eq_true, ne_eq, not_true_eq_false, not_false_eq_true, and_true, true_and, and_false, false_and, or_true, true_or, or_false, false_or]; try rfl)]; exact MI.mk hB hN2 hT hR hS) (by rw [show m_walk ((N, B, k, p), (c, rd, rl, ra), (hs, sl, sa, sc), tv, fl) (nI a1) (nI q1) (nI v1) i (nI m1) w = ((-2), ((N, B, k, p), (c, rd, rl, ra), (hs, sl, sa, sc), tv, nI 0)) from (by simp only [m_walk, qa1, qq1, qv1, qm1, qw1, reduceCtorEq, if_true, if_false, Bool.false_eq_true, ne_eq, not_true_eq_false, not_false_eq_true, and_true, true_and, and_false, false_and, or_true, true_or, or_false, false_or]; try rfl)]) rfl
    · have c17 := bN_0.mp c17
      have qq1 := pOf_n c17
      refine j_iconst (v := (-1)) C dX8_walk_20 (by decide) ?_
      exact j_iret C E dX8_walk_21 (nI 0, tv, so, sg, ce, nI N, nI B, kf, pf, vat, vrm, vrb, rk, rp, lf, tf, kp, nI c, df, mf, gf) (by rw [show m_walk ((N, B, k, p), (c, rd, rl, ra), (hs, sl, sa, sc), tv, fl) (nI a1) s lx i m w = ((-1), ((N, B, k, p), (c, rd, rl, ra), (hs, sl, sa, sc), tv, nI 0)) from (by simp only [m_walk, qa1, qq1, reduceCtorEq, if_true, if_false, Bool.false_eq_true, ne_eq, not_true_eq_false, not_false_eq_true, and_true, true_and, and_false, false_and, or_true, true_or, or_false, false_or]; try rfl)]; exact MI.mk hB hN2 hT hR hS) (by rw [show m_walk ((N, B, k, p), (c, rd, rl, ra), (hs, sl, sa, sc), tv, fl) (nI a1) s lx i m w = ((-1), ((N, B, k, p), (c, rd, rl, ra), (hs, sl, sa, sc), tv, nI 0)) from (by simp only [m_walk, qa1, qq1, reduceCtorEq, if_true, if_false, Bool.false_eq_true, ne_eq, not_true_eq_false, not_false_eq_true, and_true, true_and, and_false, false_and, or_true, true_or, or_false, false_or]; try rfl)]) rfl
