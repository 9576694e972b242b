set_option maxHeartbeats 4000000 in
set_option maxRecDepth 20000 in
theorem c_X8_against {l : Launch} {D : va_G} {cy : Nat → ClassId} (mm : Nat → Nat) (fl tv : Int32) (so sg ce : Nat → Int32) (N B : Nat) (kf pf : Nat → Int32) (vat vrm vrb : Int32) (rk rp lf tf kp : Nat → Int32) (c : Nat) (df mf gf : Nat → Int32) (hs : Nat → Bool) (sl sa : Nat → Nat) (sc : Nat → Nat → Int32) (hS : MhI hs sl sa sc so sg ce) (q1 v1 : Nat) (i m : Int32) (hq1 : q1 < 4) (hv1 : v1 < 3) : Ct l yX8_against wsX8_against ({ frames := 0, cells := 0, slots := 0, locals := 0 }) D cy [.ref (mm 0), .int (nI q1), .int (nI v1), .int i, .int m] (wM mm cy fl tv so sg ce (nI N) (nI B) kf pf vat vrm vrb rk rp lf tf kp (nI c) df mf gf) (fun _ : Unit => True) (fun _ => some (.int (nI (agn hs sl sa q1 v1 i m)))) (fun _ => wM mm cy fl tv so sg ce (nI N) (nI B) kf pf vat vrm vrb rk rp lf tf kp (nI c) df mf gf) := by
  refine Ct.of (cc := cX8_against) (nL := 5) (ret := (some .int)) rfl (by decide) ⟨rfl, rfl⟩ (Nat.le_of_ble_eq_true rfl) ?_
  intro X C E
  have C : Cx X l D cy cX8_against 5 wsX8_against RX8 ({ frames := 0, cells := 0, slots := 0, locals := 0 }) := C
  have mh0 : ∀ w ∈ u_ws RX8 TX8 21, w ∈ wsX8_against := by decide +kernel
  have mh1 : Cond.fieldLink RX8 9 RX8 (TX8 2).2.1 (TX8 2).2.2.1 ∈ wsX8_against := by decide +kernel
  have mh2 : Cond.fieldLink RX8 13 RX8 (TX8 3).2.1 (TX8 3).2.2.1 ∈ wsX8_against := by decide +kernel
  show J X (wM mm cy fl tv so sg ce (nI N) (nI B) kf pf vat vrm vrb rk rp lf tf kp (nI c) df mf gf) 0 [(0, .ref (mm 0)), (1, .int (nI q1)), (2, .int (nI v1)), (3, .int i), (4, .int m)] []
  refine j_aload_n C 0 dX8_against_0 rfl rfl ?_
  refine j_get C mh0 2 mh1 0 rfl rfl (by decide) rfl rfl dX8_against_1 ?_
  refine j_iload_n C 1 dX8_against_4 rfl rfl ?_
  refine j_iald (v := so q1) C 1 rfl (by omega) (by decide) rfl dX8_against_5 ?_
  refine j_bipush (v := (-9)) C dX8_against_6 (by decide) ?_
  refine j_icmp_eq (tgt := 23) C dX8_against_8 (by decide) (fun c8 => ?_) (fun c8 => ?_)
  · refine j_aload_n C 0 dX8_against_23 rfl rfl ?_
    refine j_get C mh0 2 mh1 0 rfl rfl (by decide) rfl rfl dX8_against_24 ?_
    refine j_iload_n C 1 dX8_against_27 rfl rfl ?_
    refine j_iald (v := so q1) C 1 rfl (by omega) (by decide) rfl dX8_against_28 ?_
    refine j_bipush (v := (-9)) C dX8_against_29 (by decide) ?_
    refine j_icmp_ne (tgt := 36) C dX8_against_31 (by decide) (fun c31 => ?_) (fun c31 => ?_)
    · exact absurd c8 c31
    · refine j_iconst (v := nI 1) C dX8_against_34 (by decide) ?_
      exact j_iret C E dX8_against_35 () trivial (by rw [agn_1 (hS.f hq1 c31)]) rfl
  · refine j_aload_n C 0 dX8_against_11 rfl rfl ?_
    refine j_get C mh0 2 mh1 0 rfl rfl (by decide) rfl rfl dX8_against_12 ?_
    refine j_iload_n C 1 dX8_against_15 rfl rfl ?_
    refine j_iald (v := so q1) C 1 rfl (by omega) (by decide) rfl dX8_against_16 ?_
    refine j_iload_n C 2 dX8_against_17 rfl rfl ?_
    refine j_icmp_eq (tgt := 23) C dX8_against_18 (by decide) (fun c18 => ?_) (fun c18 => ?_)
    · have qh := hS.t hq1 c8
      have qln := hS.hln hq1 qh
      have q60 := hS.l60 hq1 qh
      have qla := hS.hla hq1 qh
      have qa2 := hS.a2 hq1 qh
      have qsv : sa q1 = v1 := by rw [qla] at c18; exact (nI_eq (by omega) (by omega)).mp c18
      refine j_aload_n C 0 dX8_against_23 rfl rfl ?_
      refine j_get C mh0 2 mh1 0 rfl rfl (by decide) rfl rfl dX8_against_24 ?_
      refine j_iload_n C 1 dX8_against_27 rfl rfl ?_
      refine j_iald (v := so q1) C 1 rfl (by omega) (by decide) rfl dX8_against_28 ?_
      refine j_bipush (v := (-9)) C dX8_against_29 (by decide) ?_
      refine j_icmp_ne (tgt := 36) C dX8_against_31 (by decide) (fun c31 => ?_) (fun c31 => ?_)
      · refine j_iload C 4 dX8_against_36 rfl ?_
        refine j_if_ge (tgt := 43) C dX8_against_38 (by decide) (fun c38 => ?_) (fun c38 => ?_)
        · refine j_iload_n C 3 dX8_against_43 rfl rfl ?_
          refine j_if_lt (tgt := 70) C dX8_against_44 (by decide) (fun c44 => ?_) (fun c44 => ?_)
          · refine j_iconst (v := nI 3) C dX8_against_70 (by decide) ?_
            refine j_goto (tgt := 75) C dX8_against_71 (by decide) ?_
            exact j_iret C E dX8_against_75 () trivial (by first | (rw [agn_0 qh qsv ((cells_i q60).mp ⟨c44, c54, Int32.not_lt.mpr c38, Int32.not_lt.mpr c67⟩)]; done) | (rw [agn_3 qh qsv (ge0 c38) (fun z => by have w := (cells_i q60).mpr z; first | exact w.1 c44 | exact w.2.1 c54 | exact w.2.2.2 (Int32.not_le.mp c67))]; done)) rfl
          · refine j_iload_n C 3 dX8_against_47 rfl rfl ?_
            refine j_aload_n C 0 dX8_against_48 rfl rfl ?_
            refine j_get C mh0 3 mh2 0 rfl rfl (by decide) rfl rfl dX8_against_49 ?_
            refine j_iload_n C 1 dX8_against_52 rfl rfl ?_
            refine j_iald (v := nI (sl q1)) C 2 rfl (by omega) (by decide) qln dX8_against_53 ?_
            refine j_icmp_gt (tgt := 70) C dX8_against_54 (by decide) (fun c54 => ?_) (fun c54 => ?_)
            · refine j_iconst (v := nI 3) C dX8_against_70 (by decide) ?_
              refine j_goto (tgt := 75) C dX8_against_71 (by decide) ?_
              exact j_iret C E dX8_against_75 () trivial (by first | (rw [agn_0 qh qsv ((cells_i q60).mp ⟨c44, c54, Int32.not_lt.mpr c38, Int32.not_lt.mpr c67⟩)]; done) | (rw [agn_3 qh qsv (ge0 c38) (fun z => by have w := (cells_i q60).mpr z; first | exact w.1 c44 | exact w.2.1 c54 | exact w.2.2.2 (Int32.not_le.mp c67))]; done)) rfl
            · refine j_iload C 4 dX8_against_57 rfl ?_
              refine j_aload_n C 0 dX8_against_59 rfl rfl ?_
              refine j_get C mh0 3 mh2 0 rfl rfl (by decide) rfl rfl dX8_against_60 ?_
              refine j_iload_n C 1 dX8_against_63 rfl rfl ?_
              refine j_iald (v := nI (sl q1)) C 2 rfl (by omega) (by decide) qln dX8_against_64 ?_
              refine j_iload_n C 3 dX8_against_65 rfl rfl ?_
              refine j_isub (v := (nI (sl q1)) - i) C dX8_against_66 rfl ?_
              refine j_icmp_le (tgt := 74) C dX8_against_67 (by decide) (fun c67 => ?_) (fun c67 => ?_)
              · refine j_iconst (v := nI 0) C dX8_against_74 (by decide) ?_
                exact j_iret C E dX8_against_75 () trivial (by first | (rw [agn_0 qh qsv ((cells_i q60).mp ⟨c44, c54, Int32.not_lt.mpr c38, Int32.not_lt.mpr c67⟩)]; done) | (rw [agn_3 qh qsv (ge0 c38) (fun z => by have w := (cells_i q60).mpr z; first | exact w.1 c44 | exact w.2.1 c54 | exact w.2.2.2 (Int32.not_le.mp c67))]; done)) rfl
              · refine j_iconst (v := nI 3) C dX8_against_70 (by decide) ?_
                refine j_goto (tgt := 75) C dX8_against_71 (by decide) ?_
                exact j_iret C E dX8_against_75 () trivial (by first | (rw [agn_0 qh qsv ((cells_i q60).mp ⟨c44, c54, Int32.not_lt.mpr c38, Int32.not_lt.mpr c67⟩)]; done) | (rw [agn_3 qh qsv (ge0 c38) (fun z => by have w := (cells_i q60).mpr z; first | exact w.1 c44 | exact w.2.1 c54 | exact w.2.2.2 (Int32.not_le.mp c67))]; done)) rfl
        · refine j_iconst (v := nI 4) C dX8_against_41 (by decide) ?_
          exact j_iret C E dX8_against_42 () trivial (by first | exact absurd c8 c31 | rw [agn_4 qh qsv (lt0 c38)]) rfl
      · refine j_iconst (v := nI 1) C dX8_against_34 (by decide) ?_
        exact j_iret C E dX8_against_35 () trivial (by rw [agn_1 (hS.f hq1 c31)]) rfl
    · refine j_iconst (v := nI 2) C dX8_against_21 (by decide) ?_
      exact j_iret C E dX8_against_22 () trivial (by have qh := hS.t hq1 c8; rw [agn_2 qh (fun z => c18 (by rw [hS.hla hq1 qh, z]))]) rfl
set_option maxHeartbeats 4000000 in
set_option maxRecDepth 20000 in
theorem c_X8_lose {l : Launch} {D : va_G} {cy : Nat → ClassId} (mm : Nat → Nat) (fl tv : Int32) (so sg ce : Nat → Int32) (N B : Nat) (kf pf : Nat → Int32) (vat vrm vrb : Int32) (rk rp lf tf kp : Nat → Int32) (c : Nat) (df mf gf : Nat → Int32) (k : Nat → Nat) (p : Nat → Nat → Nat) (rd rl : Nat → Nat) (ra : Nat → Option Nat) (hs : Nat → Bool) (sl sa : Nat → Nat) (sc : Nat → Nat → Int32) (hX : MI ((N, B, k, p), (c, rd, rl, ra), (hs, sl, sa, sc), tv, fl) (fl, tv, so, sg, ce, nI N, nI B, kf, pf, vat, vrm, vrb, rk, rp, lf, tf, kp, nI c, df, mf, gf)) (q : Int32)  : Ct l yX8_lose wsX8_lose ({ frames := 2, cells := 0, slots := 0, locals := 42 }) D cy [.ref (mm 0), .int q] (wM mm cy fl tv so sg ce (nI N) (nI B) kf pf vat vrm vrb rk rp lf tf kp (nI c) df mf gf) (fun u : MS => MI (m_lose ((N, B, k, p), (c, rd, rl, ra), (hs, sl, sa, sc), tv, fl) q).2 u) (fun _ => some (.int (m_lose ((N, B, k, p), (c, rd, rl, ra), (hs, sl, sa, sc), tv, fl) q).1)) (fun u => wMu mm cy u) := by
  refine Ct.of (cc := cX8_lose) (nL := 3) (ret := (some .int)) rfl (by decide) ⟨rfl, rfl⟩ (Nat.le_of_ble_eq_true rfl) ?_
  intro X C E
  have C : Cx X l D cy cX8_lose 3 wsX8_lose RX8 ({ frames := 2, cells := 0, slots := 0, locals := 42 }) := C
  have mh0 : ∀ w ∈ u_ws RX8 TX8 21, w ∈ wsX8_lose := by decide +kernel
  have mh1 : Cond.fieldLink RX8 9 RX8 (TX8 2).2.1 (TX8 2).2.2.1 ∈ wsX8_lose := by decide +kernel
  obtain ⟨-, ⟨hB, hN2⟩, hT, hR, hS⟩ := hX
  have hN := hT.n
  have hc8 := hR.1
  have hN30 : N ≤ 2 ^ 30 := by omega
  show J X (wM mm cy fl tv so sg ce (nI N) (nI B) kf pf vat vrm vrb rk rp lf tf kp (nI c) df mf gf) 0 [(0, .ref (mm 0)), (1, .int q)] []
  refine j_iload_n C 1 dX8_lose_0 rfl rfl ?_
  refine j_callP (As := [.int q]) (rest := []) C (c_X8_isSheet (q)) gX8_lose_X8_isSheet rfl 1 rfl (by decide +kernel) (by decide) (Nat.le_of_ble_eq_true rfl) dX8_lose_1 rfl (fun _ _ => ?_)
  show J X (wM mm cy fl tv so sg ce (nI N) (nI B) kf pf vat vrm vrb rk rp lf tf kp (nI c) df mf gf) 4 [(0, .ref (mm 0)), (1, .int q)] [.int (nI (bN ((pOf 4 (q)).isSome = true)))]
  refine j_if_neN (tgt := 9) C dX8_lose_4 (by decide) (bN_lt _) (fun c4 => ?_) (fun c4 => ?_)
  · have c4 := bN_1.mp c4
    obtain ⟨a1, ha1, rfl⟩ := pY (by decide) c4
    have qa1 := pI ha1 (by decide)
    show J X (wM mm cy fl tv so sg ce (nI N) (nI B) kf pf vat vrm vrb rk rp lf tf kp (nI c) df mf gf) 9 [(0, .ref (mm 0)), (1, .int (nI a1))] []
    refine j_aload_n C 0 dX8_lose_9 rfl rfl ?_
    refine j_get C mh0 2 mh1 0 rfl rfl (by decide) rfl rfl dX8_lose_10 ?_
    refine j_iload_n C 1 dX8_lose_13 rfl rfl ?_
    refine j_iald (v := so a1) C 1 rfl (by omega) (by decide) rfl dX8_lose_14 ?_
    refine j_bipush (v := (-9)) C dX8_lose_15 (by decide) ?_
    refine j_icmp_ne (tgt := 24) C dX8_lose_17 (by decide) (fun c17 => ?_) (fun c17 => ?_)
    · have qh := hS.t ha1 c17
      refine j_iconst (v := nI 1) C dX8_lose_24 (by decide) ?_
      refine j_istore_n (lv' := [(2, .int (nI 1)), (0, .ref (mm 0)), (1, .int (nI a1))]) C dX8_lose_25 rfl (by decide) rfl ?_
      refine j_aload_n C 1 dX8_lose_26 rfl rfl ?_
      refine j_get C mh0 2 mh1 0 rfl rfl (by decide) rfl rfl dX8_lose_27 ?_
      refine j_iload_n C 2 dX8_lose_30 rfl rfl ?_
      refine j_bipush (v := (-9)) C dX8_lose_31 (by decide) ?_
      refine j_iast (ws' := wM mm cy fl tv (upd so a1 ((-9))) sg ce (nI N) (nI B) kf pf vat vrm vrb rk rp lf tf kp (nI c) df mf gf) C 1 rfl (by omega) (by decide) rfl dX8_lose_33 ?_
      refine j_iload_n C 0 dX8_lose_34 rfl rfl ?_
      exact j_iret C E dX8_lose_35 (fl, tv, upd so a1 ((-9)), sg, ce, nI N, nI B, kf, pf, vat, vrm, vrb, rk, rp, lf, tf, kp, nI c, df, mf, gf) (by rw [show m_lose ((N, B, k, p), (c, rd, rl, ra), (hs, sl, sa, sc), tv, fl) (nI a1) = (nI 1, ((N, B, k, p), (c, rd, rl, ra), (upB hs a1 false, sl, sa, sc), tv, fl)) from (by simp only [m_lose, qa1, qh, reduceCtorEq, if_true, if_false, Bool.false_eq_true, ne_eq, not_true_eq_false, not_false_eq_true, and_true, true_and, and_false, false_and, or_true, true_or, or_false, false_or]; try rfl)]; exact MI.mk hB hN2 hT hR hS.lose) (by rw [show m_lose ((N, B, k, p), (c, rd, rl, ra), (hs, sl, sa, sc), tv, fl) (nI a1) = (nI 1, ((N, B, k, p), (c, rd, rl, ra), (upB hs a1 false, sl, sa, sc), tv, fl)) from (by simp only [m_lose, qa1, qh, reduceCtorEq, if_true, if_false, Bool.false_eq_true, ne_eq, not_true_eq_false, not_false_eq_true, and_true, true_and, and_false, false_and, or_true, true_or, or_false, false_or]; try rfl)]) rfl
    · have qh := hS.f ha1 c17
      refine j_iconst (v := nI 0) C dX8_lose_20 (by decide) ?_
      refine j_goto (tgt := 25) C dX8_lose_21 (by decide) ?_
      refine j_istore_n (lv' := [(2, .int (nI 0)), (0, .ref (mm 0)), (1, .int (nI a1))]) C dX8_lose_25 rfl (by decide) rfl ?_
      refine j_aload_n C 1 dX8_lose_26 rfl rfl ?_
      refine j_get C mh0 2 mh1 0 rfl rfl (by decide) rfl rfl dX8_lose_27 ?_
      refine j_iload_n C 2 dX8_lose_30 rfl rfl ?_
      refine j_bipush (v := (-9)) C dX8_lose_31 (by decide) ?_
      refine j_iast (ws' := wM mm cy fl tv (upd so a1 ((-9))) sg ce (nI N) (nI B) kf pf vat vrm vrb rk rp lf tf kp (nI c) df mf gf) C 1 rfl (by omega) (by decide) rfl dX8_lose_33 ?_
      refine j_iload_n C 0 dX8_lose_34 rfl rfl ?_
      exact j_iret C E dX8_lose_35 (fl, tv, upd so a1 ((-9)), sg, ce, nI N, nI B, kf, pf, vat, vrm, vrb, rk, rp, lf, tf, kp, nI c, df, mf, gf) (by rw [show m_lose ((N, B, k, p), (c, rd, rl, ra), (hs, sl, sa, sc), tv, fl) (nI a1) = (nI 0, ((N, B, k, p), (c, rd, rl, ra), (hs, sl, sa, sc), tv, fl)) from (by simp only [m_lose, qa1, qh, reduceCtorEq, if_true, if_false, Bool.false_eq_true, ne_eq, not_true_eq_false, not_false_eq_true, and_true, true_and, and_false, false_and, or_true, true_or, or_false, false_or]; try rfl)]; exact MI.mk hB hN2 hT hR (hS.lose0 ha1 qh)) (by rw [show m_lose ((N, B, k, p), (c, rd, rl, ra), (hs, sl, sa, sc), tv, fl) (nI a1) = (nI 0, ((N, B, k, p), (c, rd, rl, ra), (hs, sl, sa, sc), tv, fl)) from (by simp only [m_lose, qa1, qh, reduceCtorEq, if_true, if_false, Bool.false_eq_true, ne_eq, not_true_eq_false, not_false_eq_true, and_true, true_and, and_false, false_and, or_true, true_or, or_false, false_or]; try rfl)]) rfl
  · have c4 := bN_0.mp c4
    have qa1 := pOf_n c4
    refine j_iconst (v := (-1)) C dX8_lose_7 (by decide) ?_
    exact j_iret C E dX8_lose_8 (fl, tv, so, sg, ce, nI N, nI B, kf, pf, vat, vrm, vrb, rk, rp, lf, tf, kp, nI c, df, mf, gf) (by rw [show m_lose ((N, B, k, p), (c, rd, rl, ra), (hs, sl, sa, sc), tv, fl) q = ((-1), ((N, B, k, p), (c, rd, rl, ra), (hs, sl, sa, sc), tv, fl)) from (by simp only [m_lose, qa1, reduceCtorEq, if_true, if_false, Bool.false_eq_true, ne_eq, not_true_eq_false, not_false_eq_true, and_true, true_and, and_false, false_and, or_true, true_or, or_false, false_or]; try rfl)]; exact MI.mk hB hN2 hT hR hS) (by rw [show m_lose ((N, B, k, p), (c, rd, rl, ra), (hs, sl, sa, sc), tv, fl) q = ((-1), ((N, B, k, p), (c, rd, rl, ra), (hs, sl, sa, sc), tv, fl)) from (by simp only [m_lose, qa1, reduceCtorEq, if_true, if_false, Bool.false_eq_true, ne_eq, not_true_eq_false, not_false_eq_true, and_true, true_and, and_false, false_and, or_true, true_or, or_false, false_or]; try rfl)]) rfl
set_option maxHeartbeats 4000000 in
set_option maxRecDepth 20000 in
theorem c_X8_sheet {l : Launch} {D : va_G} {cy : Nat → ClassId} (mm : Nat → Nat) (fl tv : Int32) (so sg ce : Nat → Int32) (N B : Nat) (kf pf : Nat → Int32) (vat vrm vrb : Int32) (rk rp lf tf kp : Nat → Int32) (c : Nat) (df mf gf : Nat → Int32) (k : Nat → Nat) (p : Nat → Nat → Nat) (rd rl : Nat → Nat) (ra : Nat → Option Nat) (hs : Nat → Bool) (sl sa : Nat → Nat) (sc : Nat → Nat → Int32) (hX : MI ((N, B, k, p), (c, rd, rl, ra), (hs, sl, sa, sc), tv, fl) (fl, tv, so, sg, ce, nI N, nI B, kf, pf, vat, vrm, vrb, rk, rp, lf, tf, kp, nI c, df, mf, gf)) (q lx m : Int32)  : Ct l yX8_sheet wsX8_sheet ({ frames := 2, cells := 0, slots := 0, locals := 42 }) D cy [.ref (mm 0), .int q, .int lx, .int m] (wM mm cy fl tv so sg ce (nI N) (nI B) kf pf vat vrm vrb rk rp lf tf kp (nI c) df mf gf) (fun u : MS => MI (m_sheet ((N, B, k, p), (c, rd, rl, ra), (hs, sl, sa, sc), tv, fl) q lx m).2 u) (fun _ => some (.int (m_sheet ((N, B, k, p), (c, rd, rl, ra), (hs, sl, sa, sc), tv, fl) q lx m).1)) (fun u => wMu mm cy u) := by
  refine Ct.of (cc := cX8_sheet) (nL := 5) (ret := (some .int)) rfl (by decide) ⟨rfl, rfl⟩ (Nat.le_of_ble_eq_true rfl) ?_
  intro X C E
  have C : Cx X l D cy cX8_sheet 5 wsX8_sheet RX8 ({ frames := 2, cells := 0, slots := 0, locals := 42 }) := C
  have mh0 : ∀ w ∈ u_ws RX8 TX8 21, w ∈ wsX8_sheet := by decide +kernel
  have mh1 : Cond.fieldLink RX8 50 RX8 (TX8 0).2.1 (TX8 0).2.2.1 ∈ wsX8_sheet := by decide +kernel
  have mh2 : Cond.fieldLink RX8 9 RX8 (TX8 2).2.1 (TX8 2).2.2.1 ∈ wsX8_sheet := by decide +kernel
  have mh3 : Cond.fieldLink RX8 13 RX8 (TX8 3).2.1 (TX8 3).2.2.1 ∈ wsX8_sheet := by decide +kernel
  have mh4 : Cond.fieldLink RX8 16 RX8 (TX8 4).2.1 (TX8 4).2.2.1 ∈ wsX8_sheet := by decide +kernel
  obtain ⟨-, ⟨hB, hN2⟩, hT, hR, hS⟩ := hX
  have hN := hT.n
  have hc8 := hR.1
  have hN30 : N ≤ 2 ^ 30 := by omega
  show J X (wM mm cy fl tv so sg ce (nI N) (nI B) kf pf vat vrm vrb rk rp lf tf kp (nI c) df mf gf) 0 [(0, .ref (mm 0)), (1, .int q), (2, .int lx), (3, .int m)] []
  refine j_aload_n C 0 dX8_sheet_0 rfl rfl ?_
  refine j_iconst (v := nI 0) C dX8_sheet_1 (by decide) ?_
  refine j_put (ws' := wM mm cy (nI 0) tv so sg ce (nI N) (nI B) kf pf vat vrm vrb rk rp lf tf kp (nI c) df mf gf) C mh0 0 mh1 tyX8 tyX8_ok nmX8 0 rfl rfl (by decide) rfl rfl (by decide +kernel) (Nat.le_of_ble_eq_true rfl) rfl dX8_sheet_2 ?_
  refine j_iload_n C 1 dX8_sheet_5 rfl rfl ?_
  refine j_callP (As := [.int q]) (rest := []) C (c_X8_isSheet (q)) gX8_sheet_X8_isSheet rfl 1 rfl (by decide +kernel) (by decide) (Nat.le_of_ble_eq_true rfl) dX8_sheet_6 rfl (fun _ _ => ?_)
  show J X (wM mm cy (nI 0) tv so sg ce (nI N) (nI B) kf pf vat vrm vrb rk rp lf tf kp (nI c) df mf gf) 9 [(0, .ref (mm 0)), (1, .int q), (2, .int lx), (3, .int m)] [.int (nI (bN ((pOf 4 (q)).isSome = true)))]
  refine j_if_neN (tgt := 14) C dX8_sheet_9 (by decide) (bN_lt _) (fun c9 => ?_) (fun c9 => ?_)
  · have c9 := bN_1.mp c9
    obtain ⟨a1, ha1, rfl⟩ := pY (by decide) c9
    have qa1 := pI ha1 (by decide)
    show J X (wM mm cy (nI 0) tv so sg ce (nI N) (nI B) kf pf vat vrm vrb rk rp lf tf kp (nI c) df mf gf) 14 [(0, .ref (mm 0)), (1, .int (nI a1)), (2, .int lx), (3, .int m)] []
    refine j_iload_n C 2 dX8_sheet_14 rfl rfl ?_
    refine j_callP (As := [.int lx]) (rest := []) C (c_X8_isSort (lx)) gX8_sheet_X8_isSort rfl 1 rfl (by decide +kernel) (by decide) (Nat.le_of_ble_eq_true rfl) dX8_sheet_15 rfl (fun _ _ => ?_)
    show J X (wM mm cy (nI 0) tv so sg ce (nI N) (nI B) kf pf vat vrm vrb rk rp lf tf kp (nI c) df mf gf) 18 [(0, .ref (mm 0)), (1, .int (nI a1)), (2, .int lx), (3, .int m)] [.int (nI (bN ((pOf 3 (lx)).isSome = true)))]
    refine j_if_eqN (tgt := 27) C dX8_sheet_18 (by decide) (bN_lt _) (fun c18 => ?_) (fun c18 => ?_)
    · have c18 := bN_0.mp c18
      have qv1 := pOf_n c18
      refine j_bipush (v := (-2)) C dX8_sheet_27 (by decide) ?_
      exact j_iret C E dX8_sheet_29 (nI 0, tv, so, sg, ce, nI N, nI B, kf, pf, vat, vrm, vrb, rk, rp, lf, tf, kp, nI c, df, mf, gf) (by rw [show m_sheet ((N, B, k, p), (c, rd, rl, ra), (hs, sl, sa, sc), tv, fl) (nI a1) lx m = ((-2), ((N, B, k, p), (c, rd, rl, ra), (hs, sl, sa, sc), tv, nI 0)) from (by simp only [m_sheet, qa1, qv1, reduceCtorEq, if_true, if_false, Bool.false_eq_true, ne_eq, not_true_eq_false, not_false_eq_true, and_true, true_and, and_false, false_and, or_true, true_or, or_false, false_or]; try rfl)]; exact MI.mk hB hN2 hT hR hS) (by rw [show m_sheet ((N, B, k, p), (c, rd, rl, ra), (hs, sl, sa, sc), tv, fl) (nI a1) lx m = ((-2), ((N, B, k, p), (c, rd, rl, ra), (hs, sl, sa, sc), tv, nI 0)) from (by simp only [m_sheet, qa1, qv1, reduceCtorEq, if_true, if_false, Bool.false_eq_true, ne_eq, not_true_eq_false, not_false_eq_true, and_true, true_and, and_false, false_and, or_true, true_or, or_false, false_or]; try rfl)]) rfl
    · have c18 := bN_1.mp c18
      obtain ⟨v1, hv1, rfl⟩ := pY (by decide) c18
      have qv1 := pI hv1 (by decide)
      show J X (wM mm cy (nI 0) tv so sg ce (nI N) (nI B) kf pf vat vrm vrb rk rp lf tf kp (nI c) df mf gf) 21 [(0, .ref (mm 0)), (1, .int (nI a1)), (2, .int (nI v1)), (3, .int m)] []
      refine j_iload_n C 3 dX8_sheet_21 rfl rfl ?_
      refine j_bipush (v := nI 60) C dX8_sheet_22 (by decide) ?_
      refine j_icmp_le (tgt := 30) C dX8_sheet_24 (by decide) (fun c24 => ?_) (fun c24 => ?_)
      · refine j_iload_n C 3 dX8_sheet_30 rfl rfl ?_
        refine j_if_ge (tgt := 40) C dX8_sheet_31 (by decide) (fun c31 => ?_) (fun c31 => ?_)
        · obtain ⟨m1, hm1, rfl⟩ := n60 c24 c31
          have t1 := tI60 hm1
          have t2 := tC60 hm1
          have g60 : ¬ 60 < (nI m1).toInt := by omega
          have g0 : ¬ (nI m1).toInt < 0 := by omega
          show J X (wM mm cy (nI 0) tv so sg ce (nI N) (nI B) kf pf vat vrm vrb rk rp lf tf kp (nI c) df mf gf) 40 [(0, .ref (mm 0)), (1, .int (nI a1)), (2, .int (nI v1)), (3, .int (nI m1))] []
          refine j_aload_n C 0 dX8_sheet_40 rfl rfl ?_
          refine j_get C mh0 2 mh2 0 rfl rfl (by decide) rfl rfl dX8_sheet_41 ?_
          refine j_iload_n C 1 dX8_sheet_44 rfl rfl ?_
          refine j_iload_n C 2 dX8_sheet_45 rfl rfl ?_
          refine j_iast (ws' := wM mm cy (nI 0) tv (upd so a1 (nI v1)) sg ce (nI N) (nI B) kf pf vat vrm vrb rk rp lf tf kp (nI c) df mf gf) C 1 rfl (by omega) (by decide) rfl dX8_sheet_46 ?_
          refine j_aload_n C 0 dX8_sheet_47 rfl rfl ?_
          refine j_get C mh0 3 mh3 0 rfl rfl (by decide) rfl rfl dX8_sheet_48 ?_
          refine j_iload_n C 1 dX8_sheet_51 rfl rfl ?_
          refine j_iload_n C 3 dX8_sheet_52 rfl rfl ?_
          refine j_iast (ws' := wM mm cy (nI 0) tv (upd so a1 (nI v1)) (upd sg a1 (nI m1)) ce (nI N) (nI B) kf pf vat vrm vrb rk rp lf tf kp (nI c) df mf gf) C 2 rfl (by omega) (by decide) rfl dX8_sheet_53 ?_
          refine j_iconst (v := nI 0) C dX8_sheet_54 (by decide) ?_
          refine j_istore (lv' := [(4, .int (nI 0)), (0, .ref (mm 0)), (1, .int (nI a1)), (2, .int (nI v1)), (3, .int (nI m1))]) C dX8_sheet_55 (by decide) rfl ?_
          refine J.sub [1, 2, 3, 4, 0] rfl ?_
          have L57 : ∀ (n : Nat) (t : Nat) (ce1 : Nat → Int32), 60 - t < n → t ≤ 60 → (∀ j, j < t → ce1 (60 * a1 + j) = nI 0) → (∀ x, x < 60 * a1 ∨ 60 * a1 + 60 ≤ x → ce1 x = ce x) → J X (wM mm cy (nI 0) tv (upd so a1 (nI v1)) (upd sg a1 (nI m1)) ce1 (nI N) (nI B) kf pf vat vrm vrb rk rp lf tf kp (nI c) df mf gf) 57 [(0, .ref (mm 0)), (1, .int (nI a1)), (2, .int (nI v1)), (3, .int (nI m1)), (4, .int (nI t))] [] := by
            intro n
            induction n with
            | zero => intro t ce1 hm; exact absurd hm (Nat.not_lt_zero _)
            | succ n ih57 =>
              intro t ce1 h57_0 h57_1 h57_2 h57_3
              refine j_iload C 4 dX8_sheet_57 rfl ?_
              refine j_bipush (v := nI 60) C dX8_sheet_59 (by decide) ?_
              refine j_icmp_geN (tgt := 83) C dX8_sheet_61 (by decide) (by omega) (by omega) (fun c61 => ?_) (fun c61 => ?_)
              · refine j_iconst (v := nI 1) C dX8_sheet_83 (by decide) ?_
                exact j_iret C E dX8_sheet_84 (nI 0, tv, upd so a1 (nI v1), upd sg a1 (nI m1), ce1, nI N, nI B, kf, pf, vat, vrm, vrb, rk, rp, lf, tf, kp, nI c, df, mf, gf) (by rw [show m_sheet ((N, B, k, p), (c, rd, rl, ra), (hs, sl, sa, sc), tv, fl) (nI a1) (nI v1) (nI m1) = (nI 1, ((N, B, k, p), (c, rd, rl, ra), (upB hs a1 true, upN sl a1 m1, upN sa a1 v1, updR sc a1 (fun _ => nI 0)), tv, nI 0)) from (by simp only [m_sheet, qa1, qv1, g60, g0, t2, reduceCtorEq, if_true, if_false, Bool.false_eq_true, ne_eq, not_true_eq_false, not_false_eq_true, and_true, true_and, and_false, false_and, or_true, true_or, or_false, false_or]; try rfl)]; exact MI.mk hB hN2 hT hR (hS.new hm1 (by omega) ha1 (fun j hj => h57_2 j (by omega)) h57_3)) (by rw [show m_sheet ((N, B, k, p), (c, rd, rl, ra), (hs, sl, sa, sc), tv, fl) (nI a1) (nI v1) (nI m1) = (nI 1, ((N, B, k, p), (c, rd, rl, ra), (upB hs a1 true, upN sl a1 m1, upN sa a1 v1, updR sc a1 (fun _ => nI 0)), tv, nI 0)) from (by simp only [m_sheet, qa1, qv1, g60, g0, t2, reduceCtorEq, if_true, if_false, Bool.false_eq_true, ne_eq, not_true_eq_false, not_false_eq_true, and_true, true_and, and_false, false_and, or_true, true_or, or_false, false_or]; try rfl)]) rfl
              · refine j_aload_n C 0 dX8_sheet_64 rfl rfl ?_
                refine j_get C mh0 4 mh4 0 rfl rfl (by decide) rfl rfl dX8_sheet_65 ?_
                refine j_bipush (v := nI 60) C dX8_sheet_68 (by decide) ?_
                refine j_iload_n C 1 dX8_sheet_70 rfl rfl ?_
                refine j_imul (v := nI (60 * a1)) C dX8_sheet_71 (pk_mul _ _) ?_
                refine j_iload C 4 dX8_sheet_72 rfl ?_
                refine j_iadd (v := nI ((60 * a1) + t)) C dX8_sheet_74 (nI_add _ _) ?_
                refine j_iconst (v := nI 0) C dX8_sheet_75 (by decide) ?_
                refine j_iast (ws' := wM mm cy (nI 0) tv (upd so a1 (nI v1)) (upd sg a1 (nI m1)) (upd ce1 ((60 * a1) + t) (nI 0)) (nI N) (nI B) kf pf vat vrm vrb rk rp lf tf kp (nI c) df mf gf) C 3 rfl (by omega) (by decide) rfl dX8_sheet_76 ?_
                refine j_iinc (v := nI (t + 1)) (lv' := [(4, .int (nI (t + 1))), (0, .ref (mm 0)), (1, .int (nI a1)), (2, .int (nI v1)), (3, .int (nI m1))]) C 4 dX8_sheet_77 rfl (nI_inc t) (by decide) rfl ?_
                refine j_goto (tgt := 57) C dX8_sheet_80 (by decide) ?_
                refine J.sub [1, 2, 3, 4, 0] rfl ?_
                have e := ih57 (t + 1) (upd ce1 ((60 * a1) + t) (nI 0)) (by omega) (by omega) (fun j hj => by by_cases z : j = t; rw [z, pk_us]; rw [pk_un (by omega)]; exact h57_2 j (by omega)) (fun x hx => by rw [pk_un (by omega)]; exact h57_3 x hx)
                exact e
          have e := L57 61 0 ce (by omega) (by omega) (fun j h => absurd h (Nat.not_lt_zero j)) (fun _ _ => rfl)
          exact e
        · have g0 : m.toInt < 0 := lt0 c31
          have g60 : ¬ 60 < m.toInt := by omega
          refine j_aload_n C 0 dX8_sheet_34 rfl rfl ?_
          refine j_iconst (v := nI 4) C dX8_sheet_35 (by decide) ?_
          refine j_callV0 (As := [.int (nI 4)]) (rest := []) C (c_X8_fails mm (nI 0) tv so sg ce N B kf pf vat vrm vrb rk rp lf tf kp c df mf gf 4) gX8_sheet_X8_fails rfl 1 rfl (by decide +kernel) (by decide) 0 rfl rfl (Nat.le_of_ble_eq_true rfl) dX8_sheet_36 rfl (fun _ _ => ?_)
          show J X (wM mm cy (nI 4) tv so sg ce (nI N) (nI B) kf pf vat vrm vrb rk rp lf tf kp (nI c) df mf gf) 39 [(0, .ref (mm 0)), (1, .int (nI a1)), (2, .int (nI v1)), (3, .int m)] [.int ((-10) - nI 4)]
          exact j_iret C E dX8_sheet_39 (nI 4, tv, so, sg, ce, nI N, nI B, kf, pf, vat, vrm, vrb, rk, rp, lf, tf, kp, nI c, df, mf, gf) (by rw [show m_sheet ((N, B, k, p), (c, rd, rl, ra), (hs, sl, sa, sc), tv, fl) (nI a1) (nI v1) m = ((-10) - nI 4, ((N, B, k, p), (c, rd, rl, ra), (hs, sl, sa, sc), tv, nI 4)) from (by simp only [m_sheet, qa1, qv1, g60, g0, reduceCtorEq, if_true, if_false, Bool.false_eq_true, ne_eq, not_true_eq_false, not_false_eq_true, and_true, true_and, and_false, false_and, or_true, true_or, or_false, false_or]; try rfl)]; exact MI.mk hB hN2 hT hR hS) (by rw [show m_sheet ((N, B, k, p), (c, rd, rl, ra), (hs, sl, sa, sc), tv, fl) (nI a1) (nI v1) m = ((-10) - nI 4, ((N, B, k, p), (c, rd, rl, ra), (hs, sl, sa, sc), tv, nI 4)) from (by simp only [m_sheet, qa1, qv1, g60, g0, reduceCtorEq, if_true, if_false, Bool.false_eq_true, ne_eq, not_true_eq_false, not_false_eq_true, and_true, true_and, and_false, false_and, or_true, true_or, or_false, false_or]; try rfl)]) rfl
      · have g60 : 60 < m.toInt := by rw [Int32.le_iff_toInt_le] at c24; have z : (nI 60).toInt = 60 := rfl; omega
        refine j_bipush (v := (-2)) C dX8_sheet_27 (by decide) ?_
        exact j_iret C E dX8_sheet_29 (nI 0, tv, so, sg, ce, nI N, nI B, kf, pf, vat, vrm, vrb, rk, rp, lf, tf, kp, nI c, df, mf, gf) (by rw [show m_sheet ((N, B, k, p), (c, rd, rl, ra), (hs, sl, sa, sc), tv, fl) (nI a1) (nI v1) m = ((-2), ((N, B, k, p), (c, rd, rl, ra), (hs, sl, sa, sc), tv, nI 0)) from (by simp only [m_sheet, qa1, qv1, g60, reduceCtorEq, if_true, if_false, Bool.false_eq_true, ne_eq, not_true_eq_false, not_false_eq_true, and_true, true_and, and_false, false_and, or_true, true_or, or_false, false_or]; try rfl)]; exact MI.mk hB hN2 hT hR hS) (by rw [show m_sheet ((N, B, k, p), (c, rd, rl, ra), (hs, sl, sa, sc), tv, fl) (nI a1) (nI v1) m = ((-2), ((N, B, k, p), (c, rd, rl, ra), (hs, sl, sa, sc), tv, nI 0)) from (by simp only [m_sheet, qa1, qv1, g60, reduceCtorEq, if_true, if_false, Bool.false_eq_true, ne_eq, not_true_eq_false, not_false_eq_true, and_true, true_and, and_false, false_and, or_true, true_or, or_false, false_or]; try rfl)]) rfl
  · have c9 := bN_0.mp c9
    have qa1 := pOf_n c9
    refine j_iconst (v := (-1)) C dX8_sheet_12 (by decide) ?_
    exact j_iret C E dX8_sheet_13 (nI 0, tv, so, sg, ce, nI N, nI B, kf, pf, vat, vrm, vrb, rk, rp, lf, tf, kp, nI c, df, mf, gf) (by rw [show m_sheet ((N, B, k, p), (c, rd, rl, ra), (hs, sl, sa, sc), tv, fl) q lx m = ((-1), ((N, B, k, p), (c, rd, rl, ra), (hs, sl, sa, sc), tv, nI 0)) from (by simp only [m_sheet, qa1, reduceCtorEq, if_true, if_false, Bool.false_eq_true, ne_eq, not_true_eq_false, not_false_eq_true, and_true, true_and, and_false, false_and, or_true, true_or, or_false, false_or]; try rfl)]; exact MI.mk hB hN2 hT hR hS) (by rw [show m_sheet ((N, B, k, p), (c, rd, rl, ra), (hs, sl, sa, sc), tv, fl) q lx m = ((-1), ((N, B, k, p), (c, rd, rl, ra), (hs, sl, sa, sc), tv, nI 0)) from (by simp only [m_sheet, qa1, reduceCtorEq, if_true, if_false, Bool.false_eq_true, ne_eq, not_true_eq_false, not_false_eq_true, and_true, true_and, and_false, false_and, or_true, true_or, or_false, false_or]; try rfl)]) rfl
set_option maxHeartbeats 4000000 in
set_option maxRecDepth 20000 in
theorem c_X8_put {l : Launch} {D : va_G} {cy : Nat → ClassId} (mm : Nat → Nat) (fl tv : Int32) (so sg ce : Nat → Int32) (N B : Nat) (kf pf : Nat → Int32) (vat vrm vrb : Int32) (rk rp lf tf kp : Nat → Int32) (c : Nat) (df mf gf : Nat → Int32) (k : Nat → Nat) (p : Nat → Nat → Nat) (rd rl : Nat → Nat) (ra : Nat → Option Nat) (hs : Nat → Bool) (sl sa : Nat → Nat) (sc : Nat → Nat → Int32) (hX : MI ((N, B, k, p), (c, rd, rl, ra), (hs, sl, sa, sc), tv, fl) (fl, tv, so, sg, ce, nI N, nI B, kf, pf, vat, vrm, vrb, rk, rp, lf, tf, kp, nI c, df, mf, gf)) (q i v : Int32)  : Ct l yX8_put wsX8_put ({ frames := 2, cells := 0, slots := 0, locals := 42 }) D cy [.ref (mm 0), .int q, .int i, .int v] (wM mm cy fl tv so sg ce (nI N) (nI B) kf pf vat vrm vrb rk rp lf tf kp (nI c) df mf gf) (fun u : MS => MI (m_put ((N, B, k, p), (c, rd, rl, ra), (hs, sl, sa, sc), tv, fl) q i v).2 u) (fun _ => some (.int (m_put ((N, B, k, p), (c, rd, rl, ra), (hs, sl, sa, sc), tv, fl) q i v).1)) (fun u => wMu mm cy u) := by
  refine Ct.of (cc := cX8_put) (nL := 4) (ret := (some .int)) rfl (by decide) ⟨rfl, rfl⟩ (Nat.le_of_ble_eq_true rfl) ?_
  intro X C E
  have C : Cx X l D cy cX8_put 4 wsX8_put RX8 ({ frames := 2, cells := 0, slots := 0, locals := 42 }) := C
  have mh0 : ∀ w ∈ u_ws RX8 TX8 21, w ∈ wsX8_put := by decide +kernel
  have mh1 : Cond.fieldLink RX8 50 RX8 (TX8 0).2.1 (TX8 0).2.2.1 ∈ wsX8_put := by decide +kernel
  have mh2 : Cond.fieldLink RX8 9 RX8 (TX8 2).2.1 (TX8 2).2.2.1 ∈ wsX8_put := by decide +kernel
  have mh3 : Cond.fieldLink RX8 13 RX8 (TX8 3).2.1 (TX8 3).2.2.1 ∈ wsX8_put := by decide +kernel
  have mh4 : Cond.fieldLink RX8 16 RX8 (TX8 4).2.1 (TX8 4).2.2.1 ∈ wsX8_put := by decide +kernel
  obtain ⟨-, ⟨hB, hN2⟩, hT, hR, hS⟩ := hX
  have hN := hT.n
  have hc8 := hR.1
  have hN30 : N ≤ 2 ^ 30 := by omega
  show J X (wM mm cy fl tv so sg ce (nI N) (nI B) kf pf vat vrm vrb rk rp lf tf kp (nI c) df mf gf) 0 [(0, .ref (mm 0)), (1, .int q), (2, .int i), (3, .int v)] []
  refine j_aload_n C 0 dX8_put_0 rfl rfl ?_
  refine j_iconst (v := nI 0) C dX8_put_1 (by decide) ?_
  refine j_put (ws' := wM mm cy (nI 0) tv so sg ce (nI N) (nI B) kf pf vat vrm vrb rk rp lf tf kp (nI c) df mf gf) C mh0 0 mh1 tyX8 tyX8_ok nmX8 0 rfl rfl (by decide) rfl rfl (by decide +kernel) (Nat.le_of_ble_eq_true rfl) rfl dX8_put_2 ?_
  refine j_iload_n C 1 dX8_put_5 rfl rfl ?_
  refine j_callP (As := [.int q]) (rest := []) C (c_X8_isSheet (q)) gX8_put_X8_isSheet rfl 1 rfl (by decide +kernel) (by decide) (Nat.le_of_ble_eq_true rfl) dX8_put_6 rfl (fun _ _ => ?_)
  show J X (wM mm cy (nI 0) tv so sg ce (nI N) (nI B) kf pf vat vrm vrb rk rp lf tf kp (nI c) df mf gf) 9 [(0, .ref (mm 0)), (1, .int q), (2, .int i), (3, .int v)] [.int (nI (bN ((pOf 4 (q)).isSome = true)))]
  refine j_if_neN (tgt := 14) C dX8_put_9 (by decide) (bN_lt _) (fun c9 => ?_) (fun c9 => ?_)
  · have c9 := bN_1.mp c9
    obtain ⟨a1, ha1, rfl⟩ := pY (by decide) c9
    have qa1 := pI ha1 (by decide)
    show J X (wM mm cy (nI 0) tv so sg ce (nI N) (nI B) kf pf vat vrm vrb rk rp lf tf kp (nI c) df mf gf) 14 [(0, .ref (mm 0)), (1, .int (nI a1)), (2, .int i), (3, .int v)] []
    refine j_aload_n C 0 dX8_put_14 rfl rfl ?_
    refine j_get C mh0 2 mh2 0 rfl rfl (by decide) rfl rfl dX8_put_15 ?_
    refine j_iload_n C 1 dX8_put_18 rfl rfl ?_
    refine j_iald (v := so a1) C 1 rfl (by omega) (by decide) rfl dX8_put_19 ?_
    refine j_bipush (v := (-9)) C dX8_put_20 (by decide) ?_
    refine j_icmp_ne (tgt := 31) C dX8_put_22 (by decide) (fun c22 => ?_) (fun c22 => ?_)
    · have qh := hS.t ha1 c22
      have qln := hS.hln ha1 qh
      have q60 := hS.l60 ha1 qh
      have qla := hS.hla ha1 qh
      have qa2 := hS.a2 ha1 qh
      refine j_iload_n C 2 dX8_put_31 rfl rfl ?_
      refine j_iconst (v := nI 0) C dX8_put_32 (by decide) ?_
      refine j_aload_n C 0 dX8_put_33 rfl rfl ?_
      refine j_get C mh0 3 mh3 0 rfl rfl (by decide) rfl rfl dX8_put_34 ?_
      refine j_iload_n C 1 dX8_put_37 rfl rfl ?_
      refine j_iald (v := nI (sl a1)) C 2 rfl (by omega) (by decide) qln dX8_put_38 ?_
      refine j_iconst (v := nI 1) C dX8_put_39 (by decide) ?_
      refine j_isub (v := nI (sl a1) - nI 1) C dX8_put_40 rfl ?_
      refine j_callP (As := [.int i, .int (nI 0), .int (nI (sl a1) - nI 1)]) (rest := []) C (c_X8_within (i) (nI 0) (nI (sl a1) - nI 1)) gX8_put_X8_within rfl 3 rfl (by decide +kernel) (by decide) (Nat.le_of_ble_eq_true rfl) dX8_put_41 rfl (fun _ _ => ?_)
      show J X (wM mm cy (nI 0) tv so sg ce (nI N) (nI B) kf pf vat vrm vrb rk rp lf tf kp (nI c) df mf gf) 44 [(0, .ref (mm 0)), (1, .int (nI a1)), (2, .int i), (3, .int v)] [.int (nI (bN (¬ i < nI 0 ∧ i ≤ (nI (sl a1) - nI 1))))]
      refine j_if_neN (tgt := 53) C dX8_put_44 (by decide) (bN_lt _) (fun c44 => ?_) (fun c44 => ?_)
      · have c44 := bN_1.mp c44
        obtain ⟨j1, hj1, rfl⟩ := pOf_y (by omega) ((wi_l q60).mp c44)
        have qj1 := pOf_nI hj1 (show sl a1 < 2 ^ 31 by omega)
        show J X (wM mm cy (nI 0) tv so sg ce (nI N) (nI B) kf pf vat vrm vrb rk rp lf tf kp (nI c) df mf gf) 53 [(0, .ref (mm 0)), (1, .int (nI a1)), (2, .int (nI j1)), (3, .int v)] []
        refine j_aload_n C 0 dX8_put_53 rfl rfl ?_
        refine j_get C mh0 4 mh4 0 rfl rfl (by decide) rfl rfl dX8_put_54 ?_
        refine j_bipush (v := nI 60) C dX8_put_57 (by decide) ?_
        refine j_iload_n C 1 dX8_put_59 rfl rfl ?_
        refine j_imul (v := nI (60 * a1)) C dX8_put_60 (pk_mul _ _) ?_
        refine j_iload_n C 2 dX8_put_61 rfl rfl ?_
        refine j_iadd (v := nI ((60 * a1) + j1)) C dX8_put_62 (nI_add _ _) ?_
        refine j_aload_n C 0 dX8_put_63 rfl rfl ?_
        refine j_get C mh0 2 mh2 0 rfl rfl (by decide) rfl rfl dX8_put_64 ?_
        refine j_iload_n C 1 dX8_put_67 rfl rfl ?_
        refine j_iald (v := nI (sa a1)) C 1 rfl (by omega) (by decide) qla dX8_put_68 ?_
        refine j_if_neN (tgt := 77) C dX8_put_69 (by decide) (by omega) (fun c69 => ?_) (fun c69 => ?_)
        · refine j_aload_n C 0 dX8_put_77 rfl rfl ?_
          refine j_get C mh0 2 mh2 0 rfl rfl (by decide) rfl rfl dX8_put_78 ?_
          refine j_iload_n C 1 dX8_put_81 rfl rfl ?_
          refine j_iald (v := nI (sa a1)) C 1 rfl (by omega) (by decide) qla dX8_put_82 ?_
          refine j_iconst (v := nI 1) C dX8_put_83 (by decide) ?_
          refine j_icmp_neN (tgt := 92) C dX8_put_84 (by decide) (by omega) (by omega) (fun c84 => ?_) (fun c84 => ?_)
          · refine j_iload_n C 3 dX8_put_92 rfl rfl ?_
            have hcut := cut_3 (s := sa a1) (v := v) (by omega)
            refine j_iast (ws' := wM mm cy (nI 0) tv so sg (upd ce ((60 * a1) + j1) (v)) (nI N) (nI B) kf pf vat vrm vrb rk rp lf tf kp (nI c) df mf gf) C 3 rfl (by omega) (by decide) rfl dX8_put_93 ?_
            refine j_iconst (v := nI 1) C dX8_put_94 (by decide) ?_
            exact j_iret C E dX8_put_95 (nI 0, tv, so, sg, upd ce ((60 * a1) + j1) (v), nI N, nI B, kf, pf, vat, vrm, vrb, rk, rp, lf, tf, kp, nI c, df, mf, gf) (by rw [show m_put ((N, B, k, p), (c, rd, rl, ra), (hs, sl, sa, sc), tv, fl) (nI a1) (nI j1) v = (nI 1, ((N, B, k, p), (c, rd, rl, ra), (hs, sl, sa, updR sc a1 (upd (sc a1) j1 (cut (nI (sa a1)) v))), tv, nI 0)) from (by simp only [m_put, qa1, qh, qj1, reduceCtorEq, if_true, if_false, Bool.false_eq_true, ne_eq, not_true_eq_false, not_false_eq_true, and_true, true_and, and_false, false_and, or_true, true_or, or_false, false_or]; try rfl)]; exact MI.mk hB hN2 hT hR (by first | (rw [show cut (nI (sa a1)) v = v.toInt8.toInt32 from hcut.1 c69]; exact hS.put ha1 (by omega)) | (rw [show cut (nI (sa a1)) v = v.toInt16.toInt32 from hcut.2.1 c84]; exact hS.put ha1 (by omega)) | (rw [show cut (nI (sa a1)) v = v from hcut.2.2 c69 c84]; exact hS.put ha1 (by omega)))) (by rw [show m_put ((N, B, k, p), (c, rd, rl, ra), (hs, sl, sa, sc), tv, fl) (nI a1) (nI j1) v = (nI 1, ((N, B, k, p), (c, rd, rl, ra), (hs, sl, sa, updR sc a1 (upd (sc a1) j1 (cut (nI (sa a1)) v))), tv, nI 0)) from (by simp only [m_put, qa1, qh, qj1, reduceCtorEq, if_true, if_false, Bool.false_eq_true, ne_eq, not_true_eq_false, not_false_eq_true, and_true, true_and, and_false, false_and, or_true, true_or, or_false, false_or]; try rfl)]) rfl
          · refine j_iload_n C 3 dX8_put_87 rfl rfl ?_
            refine j_i2s (v := v.toInt16.toInt32) C dX8_put_88 rfl ?_
            refine j_goto (tgt := 93) C dX8_put_89 (by decide) ?_
            have hcut := cut_3 (s := sa a1) (v := v) (by omega)
            refine j_iast (ws' := wM mm cy (nI 0) tv so sg (upd ce ((60 * a1) + j1) (v.toInt16.toInt32)) (nI N) (nI B) kf pf vat vrm vrb rk rp lf tf kp (nI c) df mf gf) C 3 rfl (by omega) (by decide) rfl dX8_put_93 ?_
            refine j_iconst (v := nI 1) C dX8_put_94 (by decide) ?_
            exact j_iret C E dX8_put_95 (nI 0, tv, so, sg, upd ce ((60 * a1) + j1) (v.toInt16.toInt32), nI N, nI B, kf, pf, vat, vrm, vrb, rk, rp, lf, tf, kp, nI c, df, mf, gf) (by rw [show m_put ((N, B, k, p), (c, rd, rl, ra), (hs, sl, sa, sc), tv, fl) (nI a1) (nI j1) v = (nI 1, ((N, B, k, p), (c, rd, rl, ra), (hs, sl, sa, updR sc a1 (upd (sc a1) j1 (cut (nI (sa a1)) v))), tv, nI 0)) from (by simp only [m_put, qa1, qh, qj1, reduceCtorEq, if_true, if_false, Bool.false_eq_true, ne_eq, not_true_eq_false, not_false_eq_true, and_true, true_and, and_false, false_and, or_true, true_or, or_false, false_or]; try rfl)]; exact MI.mk hB hN2 hT hR (by first | (rw [show cut (nI (sa a1)) v = v.toInt8.toInt32 from hcut.1 c69]; exact hS.put ha1 (by omega)) | (rw [show cut (nI (sa a1)) v = v.toInt16.toInt32 from hcut.2.1 c84]; exact hS.put ha1 (by omega)) | (rw [show cut (nI (sa a1)) v = v from hcut.2.2 c69 c84]; exact hS.put ha1 (by omega)))) (by rw [show m_put ((N, B, k, p), (c, rd, rl, ra), (hs, sl, sa, sc), tv, fl) (nI a1) (nI j1) v = (nI 1, ((N, B, k, p), (c, rd, rl, ra), (hs, sl, sa, updR sc a1 (upd (sc a1) j1 (cut (nI (sa a1)) v))), tv, nI 0)) from (by simp only [m_put, qa1, qh, qj1, reduceCtorEq, if_true, if_false, Bool.false_eq_true, ne_eq, not_true_eq_false, not_false_eq_true, and_true, true_and, and_false, false_and, or_true, true_or, or_false, false_or]; try rfl)]) rfl
        · refine j_iload_n C 3 dX8_put_72 rfl rfl ?_
          refine j_i2b (v := v.toInt8.toInt32) C dX8_put_73 rfl ?_
          refine j_goto (tgt := 93) C dX8_put_74 (by decide) ?_
          have hcut := cut_3 (s := sa a1) (v := v) (by omega)
          refine j_iast (ws' := wM mm cy (nI 0) tv so sg (upd ce ((60 * a1) + j1) (v.toInt8.toInt32)) (nI N) (nI B) kf pf vat vrm vrb rk rp lf tf kp (nI c) df mf gf) C 3 rfl (by omega) (by decide) rfl dX8_put_93 ?_
          refine j_iconst (v := nI 1) C dX8_put_94 (by decide) ?_
          exact j_iret C E dX8_put_95 (nI 0, tv, so, sg, upd ce ((60 * a1) + j1) (v.toInt8.toInt32), nI N, nI B, kf, pf, vat, vrm, vrb, rk, rp, lf, tf, kp, nI c, df, mf, gf) (by rw [show m_put ((N, B, k, p), (c, rd, rl, ra), (hs, sl, sa, sc), tv, fl) (nI a1) (nI j1) v = (nI 1, ((N, B, k, p), (c, rd, rl, ra), (hs, sl, sa, updR sc a1 (upd (sc a1) j1 (cut (nI (sa a1)) v))), tv, nI 0)) from (by simp only [m_put, qa1, qh, qj1, reduceCtorEq, if_true, if_false, Bool.false_eq_true, ne_eq, not_true_eq_false, not_false_eq_true, and_true, true_and, and_false, false_and, or_true, true_or, or_false, false_or]; try rfl)]; exact MI.mk hB hN2 hT hR (by first | (rw [show cut (nI (sa a1)) v = v.toInt8.toInt32 from hcut.1 c69]; exact hS.put ha1 (by omega)) | (rw [show cut (nI (sa a1)) v = v.toInt16.toInt32 from hcut.2.1 c84]; exact hS.put ha1 (by omega)) | (rw [show cut (nI (sa a1)) v = v from hcut.2.2 c69 c84]; exact hS.put ha1 (by omega)))) (by rw [show m_put ((N, B, k, p), (c, rd, rl, ra), (hs, sl, sa, sc), tv, fl) (nI a1) (nI j1) v = (nI 1, ((N, B, k, p), (c, rd, rl, ra), (hs, sl, sa, updR sc a1 (upd (sc a1) j1 (cut (nI (sa a1)) v))), tv, nI 0)) from (by simp only [m_put, qa1, qh, qj1, reduceCtorEq, if_true, if_false, Bool.false_eq_true, ne_eq, not_true_eq_false, not_false_eq_true, and_true, true_and, and_false, false_and, or_true, true_or, or_false, false_or]; try rfl)]) rfl
      · have c44 := bN_0.mp c44
        have qj1 := pOf_n (fun z => c44 ((wi_l q60).mpr z))
        refine j_aload_n C 0 dX8_put_47 rfl rfl ?_
        refine j_iconst (v := nI 3) C dX8_put_48 (by decide) ?_
        refine j_callV0 (As := [.int (nI 3)]) (rest := []) C (c_X8_fails mm (nI 0) tv so sg ce N B kf pf vat vrm vrb rk rp lf tf kp c df mf gf 3) gX8_put_X8_fails rfl 1 rfl (by decide +kernel) (by decide) 0 rfl rfl (Nat.le_of_ble_eq_true rfl) dX8_put_49 rfl (fun _ _ => ?_)
        show J X (wM mm cy (nI 3) tv so sg ce (nI N) (nI B) kf pf vat vrm vrb rk rp lf tf kp (nI c) df mf gf) 52 [(0, .ref (mm 0)), (1, .int (nI a1)), (2, .int i), (3, .int v)] [.int ((-10) - nI 3)]
        exact j_iret C E dX8_put_52 (nI 3, tv, so, sg, ce, nI N, nI B, kf, pf, vat, vrm, vrb, rk, rp, lf, tf, kp, nI c, df, mf, gf) (by rw [show m_put ((N, B, k, p), (c, rd, rl, ra), (hs, sl, sa, sc), tv, fl) (nI a1) i v = ((-10) - nI 3, ((N, B, k, p), (c, rd, rl, ra), (hs, sl, sa, sc), tv, nI 3)) from (by simp only [m_put, qa1, qh, qj1, reduceCtorEq, if_true, if_false, Bool.false_eq_true, ne_eq, not_true_eq_false, not_false_eq_true, and_true, true_and, and_false, false_and, or_true, true_or, or_false, false_or]; try rfl)]; exact MI.mk hB hN2 hT hR hS) (by rw [show m_put ((N, B, k, p), (c, rd, rl, ra), (hs, sl, sa, sc), tv, fl) (nI a1) i v = ((-10) - nI 3, ((N, B, k, p), (c, rd, rl, ra), (hs, sl, sa, sc), tv, nI 3)) from (by simp only [m_put, qa1, qh, qj1, reduceCtorEq, if_true, if_false, Bool.false_eq_true, ne_eq, not_true_eq_false, not_false_eq_true, and_true, true_and, and_false, false_and, or_true, true_or, or_false, false_or]; try rfl)]) rfl
    · have qh := hS.f ha1 c22
      refine j_aload_n C 0 dX8_put_25 rfl rfl ?_
      refine j_iconst (v := nI 1) C dX8_put_26 (by decide) ?_
      refine j_callV0 (As := [.int (nI 1)]) (rest := []) C (c_X8_fails mm (nI 0) tv so sg ce N B kf pf vat vrm vrb rk rp lf tf kp c df mf gf 1) gX8_put_X8_fails rfl 1 rfl (by decide +kernel) (by decide) 0 rfl rfl (Nat.le_of_ble_eq_true rfl) dX8_put_27 rfl (fun _ _ => ?_)
      show J X (wM mm cy (nI 1) tv so sg ce (nI N) (nI B) kf pf vat vrm vrb rk rp lf tf kp (nI c) df mf gf) 30 [(0, .ref (mm 0)), (1, .int (nI a1)), (2, .int i), (3, .int v)] [.int ((-10) - nI 1)]
      exact j_iret C E dX8_put_30 (nI 1, tv, so, sg, ce, nI N, nI B, kf, pf, vat, vrm, vrb, rk, rp, lf, tf, kp, nI c, df, mf, gf) (by rw [show m_put ((N, B, k, p), (c, rd, rl, ra), (hs, sl, sa, sc), tv, fl) (nI a1) i v = ((-10) - nI 1, ((N, B, k, p), (c, rd, rl, ra), (hs, sl, sa, sc), tv, nI 1)) from (by simp only [m_put, qa1, qh, reduceCtorEq, if_true, if_false, Bool.false_eq_true, ne_eq, not_true_eq_false, not_false_eq_true, and_true, true_and, and_false, false_and, or_true, true_or, or_false, false_or]; try rfl)]; exact MI.mk hB hN2 hT hR hS) (by rw [show m_put ((N, B, k, p), (c, rd, rl, ra), (hs, sl, sa, sc), tv, fl) (nI a1) i v = ((-10) - nI 1, ((N, B, k, p), (c, rd, rl, ra), (hs, sl, sa, sc), tv, nI 1)) from (by simp only [m_put, qa1, qh, reduceCtorEq, if_true, if_false, Bool.false_eq_true, ne_eq, not_true_eq_false, not_false_eq_true, and_true, true_and, and_false, false_and, or_true, true_or, or_false, false_or]; try rfl)]) rfl
  · have c9 := bN_0.mp c9
    have qa1 := pOf_n c9
    refine j_iconst (v := (-1)) C dX8_put_12 (by decide) ?_
    exact j_iret C E dX8_put_13 (nI 0, tv, so, sg, ce, nI N, nI B, kf, pf, vat, vrm, vrb, rk, rp, lf, tf, kp, nI c, df, mf, gf) (by rw [show m_put ((N, B, k, p), (c, rd, rl, ra), (hs, sl, sa, sc), tv, fl) q i v = ((-1), ((N, B, k, p), (c, rd, rl, ra), (hs, sl, sa, sc), tv, nI 0)) from (by simp only [m_put, qa1, reduceCtorEq, if_true, if_false, Bool.false_eq_true, ne_eq, not_true_eq_false, not_false_eq_true, and_true, true_and, and_false, false_and, or_true, true_or, or_false, false_or]; try rfl)]; exact MI.mk hB hN2 hT hR hS) (by rw [show m_put ((N, B, k, p), (c, rd, rl, ra), (hs, sl, sa, sc), tv, fl) q i v = ((-1), ((N, B, k, p), (c, rd, rl, ra), (hs, sl, sa, sc), tv, nI 0)) from (by simp only [m_put, qa1, reduceCtorEq, if_true, if_false, Bool.false_eq_true, ne_eq, not_true_eq_false, not_false_eq_true, and_true, true_and, and_false, false_and, or_true, true_or, or_false, false_or]; try rfl)]) rfl
set_option maxHeartbeats 4000000 in
set_option maxRecDepth 20000 in
theorem c_X8_cell {l : Launch} {D : va_G} {cy : Nat → ClassId} (mm : Nat → Nat) (fl tv : Int32) (so sg ce : Nat → Int32) (N B : Nat) (kf pf : Nat → Int32) (vat vrm vrb : Int32) (rk rp lf tf kp : Nat → Int32) (c : Nat) (df mf gf : Nat → Int32) (k : Nat → Nat) (p : Nat → Nat → Nat) (rd rl : Nat → Nat) (ra : Nat → Option Nat) (hs : Nat → Bool) (sl sa : Nat → Nat) (sc : Nat → Nat → Int32) (hX : MI ((N, B, k, p), (c, rd, rl, ra), (hs, sl, sa, sc), tv, fl) (fl, tv, so, sg, ce, nI N, nI B, kf, pf, vat, vrm, vrb, rk, rp, lf, tf, kp, nI c, df, mf, gf)) (q i lx : Int32)  : Ct l yX8_cell wsX8_cell ({ frames := 2, cells := 0, slots := 0, locals := 42 }) D cy [.ref (mm 0), .int q, .int i, .int lx] (wM mm cy fl tv so sg ce (nI N) (nI B) kf pf vat vrm vrb rk rp lf tf kp (nI c) df mf gf) (fun u : MS => MI (m_cell ((N, B, k, p), (c, rd, rl, ra), (hs, sl, sa, sc), tv, fl) q i lx).2 u) (fun _ => some (.long (m_cell ((N, B, k, p), (c, rd, rl, ra), (hs, sl, sa, sc), tv, fl) q i lx).1)) (fun u => wMu mm cy u) := by
  refine Ct.of (cc := cX8_cell) (nL := 4) (ret := (some .long)) rfl (by decide) ⟨rfl, rfl⟩ (Nat.le_of_ble_eq_true rfl) ?_
  intro X C E
  have C : Cx X l D cy cX8_cell 4 wsX8_cell RX8 ({ frames := 2, cells := 0, slots := 0, locals := 42 }) := C
  have mh0 : ∀ w ∈ u_ws RX8 TX8 21, w ∈ wsX8_cell := by decide +kernel
  have mh1 : Cond.fieldLink RX8 50 RX8 (TX8 0).2.1 (TX8 0).2.2.1 ∈ wsX8_cell := by decide +kernel
  have mh2 : Cond.constantLong RX8 54 lostV ∈ wsX8_cell := by decide +kernel
  have mh3 : Cond.fieldLink RX8 9 RX8 (TX8 2).2.1 (TX8 2).2.2.1 ∈ wsX8_cell := by decide +kernel
  have mh4 : Cond.fieldLink RX8 13 RX8 (TX8 3).2.1 (TX8 3).2.2.1 ∈ wsX8_cell := by decide +kernel
  have mh5 : Cond.fieldLink RX8 16 RX8 (TX8 4).2.1 (TX8 4).2.2.1 ∈ wsX8_cell := by decide +kernel
  obtain ⟨-, ⟨hB, hN2⟩, hT, hR, hS⟩ := hX
  have hN := hT.n
  have hc8 := hR.1
  have hN30 : N ≤ 2 ^ 30 := by omega
  show J X (wM mm cy fl tv so sg ce (nI N) (nI B) kf pf vat vrm vrb rk rp lf tf kp (nI c) df mf gf) 0 [(0, .ref (mm 0)), (1, .int q), (2, .int i), (3, .int lx)] []
  refine j_aload_n C 0 dX8_cell_0 rfl rfl ?_
  refine j_iconst (v := nI 0) C dX8_cell_1 (by decide) ?_
  refine j_put (ws' := wM mm cy (nI 0) tv so sg ce (nI N) (nI B) kf pf vat vrm vrb rk rp lf tf kp (nI c) df mf gf) C mh0 0 mh1 tyX8 tyX8_ok nmX8 0 rfl rfl (by decide) rfl rfl (by decide +kernel) (Nat.le_of_ble_eq_true rfl) rfl dX8_cell_2 ?_
  refine j_iload_n C 1 dX8_cell_5 rfl rfl ?_
  refine j_callP (As := [.int q]) (rest := []) C (c_X8_isSheet (q)) gX8_cell_X8_isSheet rfl 1 rfl (by decide +kernel) (by decide) (Nat.le_of_ble_eq_true rfl) dX8_cell_6 rfl (fun _ _ => ?_)
  show J X (wM mm cy (nI 0) tv so sg ce (nI N) (nI B) kf pf vat vrm vrb rk rp lf tf kp (nI c) df mf gf) 9 [(0, .ref (mm 0)), (1, .int q), (2, .int i), (3, .int lx)] [.int (nI (bN ((pOf 4 (q)).isSome = true)))]
  refine j_if_eqN (tgt := 19) C dX8_cell_9 (by decide) (bN_lt _) (fun c9 => ?_) (fun c9 => ?_)
  · have c9 := bN_0.mp c9
    have qa1 := pOf_n c9
    refine j_ldc2 (v := lostV) C mh2 dX8_cell_19 ?_
    exact j_lret C E dX8_cell_22 (nI 0, tv, so, sg, ce, nI N, nI B, kf, pf, vat, vrm, vrb, rk, rp, lf, tf, kp, nI c, df, mf, gf) (by rw [show m_cell ((N, B, k, p), (c, rd, rl, ra), (hs, sl, sa, sc), tv, fl) q i lx = (lostV, ((N, B, k, p), (c, rd, rl, ra), (hs, sl, sa, sc), tv, nI 0)) from (by simp only [m_cell, qa1, reduceCtorEq, if_true, if_false, Bool.false_eq_true, ne_eq, not_true_eq_false, not_false_eq_true, and_true, true_and, and_false, false_and, or_true, true_or, or_false, false_or]; try rfl)]; exact MI.mk hB hN2 hT hR hS) (by rw [show m_cell ((N, B, k, p), (c, rd, rl, ra), (hs, sl, sa, sc), tv, fl) q i lx = (lostV, ((N, B, k, p), (c, rd, rl, ra), (hs, sl, sa, sc), tv, nI 0)) from (by simp only [m_cell, qa1, reduceCtorEq, if_true, if_false, Bool.false_eq_true, ne_eq, not_true_eq_false, not_false_eq_true, and_true, true_and, and_false, false_and, or_true, true_or, or_false, false_or]; try rfl)]) rfl
  · have c9 := bN_1.mp c9
    obtain ⟨a1, ha1, rfl⟩ := pY (by decide) c9
    have qa1 := pI ha1 (by decide)
    show J X (wM mm cy (nI 0) tv so sg ce (nI N) (nI B) kf pf vat vrm vrb rk rp lf tf kp (nI c) df mf gf) 12 [(0, .ref (mm 0)), (1, .int (nI a1)), (2, .int i), (3, .int lx)] []
    refine j_iload_n C 3 dX8_cell_12 rfl rfl ?_
    refine j_callP (As := [.int lx]) (rest := []) C (c_X8_isSort (lx)) gX8_cell_X8_isSort rfl 1 rfl (by decide +kernel) (by decide) (Nat.le_of_ble_eq_true rfl) dX8_cell_13 rfl (fun _ _ => ?_)
    show J X (wM mm cy (nI 0) tv so sg ce (nI N) (nI B) kf pf vat vrm vrb rk rp lf tf kp (nI c) df mf gf) 16 [(0, .ref (mm 0)), (1, .int (nI a1)), (2, .int i), (3, .int lx)] [.int (nI (bN ((pOf 3 (lx)).isSome = true)))]
    refine j_if_neN (tgt := 23) C dX8_cell_16 (by decide) (bN_lt _) (fun c16 => ?_) (fun c16 => ?_)
    · have c16 := bN_1.mp c16
      obtain ⟨v1, hv1, rfl⟩ := pY (by decide) c16
      have qv1 := pI hv1 (by decide)
      show J X (wM mm cy (nI 0) tv so sg ce (nI N) (nI B) kf pf vat vrm vrb rk rp lf tf kp (nI c) df mf gf) 23 [(0, .ref (mm 0)), (1, .int (nI a1)), (2, .int i), (3, .int (nI v1))] []
      refine j_aload_n C 0 dX8_cell_23 rfl rfl ?_
      refine j_get C mh0 2 mh3 0 rfl rfl (by decide) rfl rfl dX8_cell_24 ?_
      refine j_iload_n C 1 dX8_cell_27 rfl rfl ?_
      refine j_iald (v := so a1) C 1 rfl (by omega) (by decide) rfl dX8_cell_28 ?_
      refine j_bipush (v := (-9)) C dX8_cell_29 (by decide) ?_
      refine j_icmp_eq (tgt := 50) C dX8_cell_31 (by decide) (fun c31 => ?_) (fun c31 => ?_)
      · refine j_aload_n C 0 dX8_cell_50 rfl rfl ?_
        refine j_get C mh0 2 mh3 0 rfl rfl (by decide) rfl rfl dX8_cell_51 ?_
        refine j_iload_n C 1 dX8_cell_54 rfl rfl ?_
        refine j_iald (v := so a1) C 1 rfl (by omega) (by decide) rfl dX8_cell_55 ?_
        refine j_bipush (v := (-9)) C dX8_cell_56 (by decide) ?_
        refine j_icmp_ne (tgt := 67) C dX8_cell_58 (by decide) (fun c58 => ?_) (fun c58 => ?_)
        · exact absurd c31 c58
        · have qh := hS.f ha1 c58
          refine j_aload_n C 0 dX8_cell_61 rfl rfl ?_
          refine j_iconst (v := nI 1) C dX8_cell_62 (by decide) ?_
          refine j_callV0 (As := [.int (nI 1)]) (rest := []) C (c_X8_lost mm (nI 0) tv so sg ce N B kf pf vat vrm vrb rk rp lf tf kp c df mf gf 1) gX8_cell_X8_lost rfl 1 rfl (by decide +kernel) (by decide) 0 rfl rfl (Nat.le_of_ble_eq_true rfl) dX8_cell_63 rfl (fun _ _ => ?_)
          show J X (wM mm cy (nI 1) tv so sg ce (nI N) (nI B) kf pf vat vrm vrb rk rp lf tf kp (nI c) df mf gf) 66 [(0, .ref (mm 0)), (1, .int (nI a1)), (2, .int i), (3, .int (nI v1))] [.long lostV]
          exact j_lret C E dX8_cell_66 (nI 1, tv, so, sg, ce, nI N, nI B, kf, pf, vat, vrm, vrb, rk, rp, lf, tf, kp, nI c, df, mf, gf) (by rw [show m_cell ((N, B, k, p), (c, rd, rl, ra), (hs, sl, sa, sc), tv, fl) (nI a1) i (nI v1) = (lostV, ((N, B, k, p), (c, rd, rl, ra), (hs, sl, sa, sc), tv, nI 1)) from (by simp only [m_cell, qa1, qv1, qh, reduceCtorEq, if_true, if_false, Bool.false_eq_true, ne_eq, not_true_eq_false, not_false_eq_true, and_true, true_and, and_false, false_and, or_true, true_or, or_false, false_or]; try rfl)]; exact MI.mk hB hN2 hT hR hS) (by rw [show m_cell ((N, B, k, p), (c, rd, rl, ra), (hs, sl, sa, sc), tv, fl) (nI a1) i (nI v1) = (lostV, ((N, B, k, p), (c, rd, rl, ra), (hs, sl, sa, sc), tv, nI 1)) from (by simp only [m_cell, qa1, qv1, qh, reduceCtorEq, if_true, if_false, Bool.false_eq_true, ne_eq, not_true_eq_false, not_false_eq_true, and_true, true_and, and_false, false_and, or_true, true_or, or_false, false_or]; try rfl)]) rfl
      · refine j_aload_n C 0 dX8_cell_34 rfl rfl ?_
        refine j_get C mh0 2 mh3 0 rfl rfl (by decide) rfl rfl dX8_cell_35 ?_
        refine j_iload_n C 1 dX8_cell_38 rfl rfl ?_
        refine j_iald (v := so a1) C 1 rfl (by omega) (by decide) rfl dX8_cell_39 ?_
        refine j_iload_n C 3 dX8_cell_40 rfl rfl ?_
        refine j_icmp_eq (tgt := 50) C dX8_cell_41 (by decide) (fun c41 => ?_) (fun c41 => ?_)
        · have qh := hS.t ha1 c31
          have qln := hS.hln ha1 qh
          have q60 := hS.l60 ha1 qh
          have qla := hS.hla ha1 qh
          have qa2 := hS.a2 ha1 qh
          have qv : sa a1 = v1 := by rw [qla] at c41; exact (nI_eq (by omega) (by omega)).mp c41
          refine j_aload_n C 0 dX8_cell_50 rfl rfl ?_
          refine j_get C mh0 2 mh3 0 rfl rfl (by decide) rfl rfl dX8_cell_51 ?_
          refine j_iload_n C 1 dX8_cell_54 rfl rfl ?_
          refine j_iald (v := so a1) C 1 rfl (by omega) (by decide) rfl dX8_cell_55 ?_
          refine j_bipush (v := (-9)) C dX8_cell_56 (by decide) ?_
          refine j_icmp_ne (tgt := 67) C dX8_cell_58 (by decide) (fun c58 => ?_) (fun c58 => ?_)
          · refine j_iload_n C 2 dX8_cell_67 rfl rfl ?_
            refine j_iconst (v := nI 0) C dX8_cell_68 (by decide) ?_
            refine j_aload_n C 0 dX8_cell_69 rfl rfl ?_
            refine j_get C mh0 3 mh4 0 rfl rfl (by decide) rfl rfl dX8_cell_70 ?_
            refine j_iload_n C 1 dX8_cell_73 rfl rfl ?_
            refine j_iald (v := nI (sl a1)) C 2 rfl (by omega) (by decide) qln dX8_cell_74 ?_
            refine j_iconst (v := nI 1) C dX8_cell_75 (by decide) ?_
            refine j_isub (v := nI (sl a1) - nI 1) C dX8_cell_76 rfl ?_
            refine j_callP (As := [.int i, .int (nI 0), .int (nI (sl a1) - nI 1)]) (rest := []) C (c_X8_within (i) (nI 0) (nI (sl a1) - nI 1)) gX8_cell_X8_within rfl 3 rfl (by decide +kernel) (by decide) (Nat.le_of_ble_eq_true rfl) dX8_cell_77 rfl (fun _ _ => ?_)
            show J X (wM mm cy (nI 0) tv so sg ce (nI N) (nI B) kf pf vat vrm vrb rk rp lf tf kp (nI c) df mf gf) 80 [(0, .ref (mm 0)), (1, .int (nI a1)), (2, .int i), (3, .int (nI v1))] [.int (nI (bN (¬ i < nI 0 ∧ i ≤ (nI (sl a1) - nI 1))))]
            refine j_if_neN (tgt := 89) C dX8_cell_80 (by decide) (bN_lt _) (fun c80 => ?_) (fun c80 => ?_)
            · have c80 := bN_1.mp c80
              obtain ⟨j1, hj1, rfl⟩ := pOf_y (by omega) ((wi_l q60).mp c80)
              have qj1 := pOf_nI hj1 (show sl a1 < 2 ^ 31 by omega)
              have qcf := hS.hcf ha1 qh (j := j1) (by omega)
              show J X (wM mm cy (nI 0) tv so sg ce (nI N) (nI B) kf pf vat vrm vrb rk rp lf tf kp (nI c) df mf gf) 89 [(0, .ref (mm 0)), (1, .int (nI a1)), (2, .int (nI j1)), (3, .int (nI v1))] []
              refine j_aload_n C 0 dX8_cell_89 rfl rfl ?_
              refine j_get C mh0 4 mh5 0 rfl rfl (by decide) rfl rfl dX8_cell_90 ?_
              refine j_bipush (v := nI 60) C dX8_cell_93 (by decide) ?_
              refine j_iload_n C 1 dX8_cell_95 rfl rfl ?_
              refine j_imul (v := nI (60 * a1)) C dX8_cell_96 (pk_mul _ _) ?_
              refine j_iload_n C 2 dX8_cell_97 rfl rfl ?_
              refine j_iadd (v := nI ((60 * a1) + j1)) C dX8_cell_98 (nI_add _ _) ?_
              refine j_iald (v := ce ((60 * a1) + j1)) C 3 rfl (by omega) (by decide) rfl dX8_cell_99 ?_
              refine j_i2l (v := (ce ((60 * a1) + j1)).toInt64) C dX8_cell_100 rfl ?_
              exact j_lret C E dX8_cell_101 (nI 0, tv, so, sg, ce, nI N, nI B, kf, pf, vat, vrm, vrb, rk, rp, lf, tf, kp, nI c, df, mf, gf) (by rw [show m_cell ((N, B, k, p), (c, rd, rl, ra), (hs, sl, sa, sc), tv, fl) (nI a1) (nI j1) (nI v1) = ((ce ((60 * a1) + j1)).toInt64, ((N, B, k, p), (c, rd, rl, ra), (hs, sl, sa, sc), tv, nI 0)) from (by simp only [m_cell, qa1, qv1, qh, qv, qj1, qcf, reduceCtorEq, if_true, if_false, Bool.false_eq_true, ne_eq, not_true_eq_false, not_false_eq_true, and_true, true_and, and_false, false_and, or_true, true_or, or_false, false_or]; try rfl)]; exact MI.mk hB hN2 hT hR hS) (by rw [show m_cell ((N, B, k, p), (c, rd, rl, ra), (hs, sl, sa, sc), tv, fl) (nI a1) (nI j1) (nI v1) = ((ce ((60 * a1) + j1)).toInt64, ((N, B, k, p), (c, rd, rl, ra), (hs, sl, sa, sc), tv, nI 0)) from (by simp only [m_cell, qa1, qv1, qh, qv, qj1, qcf, reduceCtorEq, if_true, if_false, Bool.false_eq_true, ne_eq, not_true_eq_false, not_false_eq_true, and_true, true_and, and_false, false_and, or_true, true_or, or_false, false_or]; try rfl)]) rfl
            · have c80 := bN_0.mp c80
              have qj1 := pOf_n (fun z => c80 ((wi_l q60).mpr z))
              refine j_aload_n C 0 dX8_cell_83 rfl rfl ?_
              refine j_iconst (v := nI 3) C dX8_cell_84 (by decide) ?_
              refine j_callV0 (As := [.int (nI 3)]) (rest := []) C (c_X8_lost mm (nI 0) tv so sg ce N B kf pf vat vrm vrb rk rp lf tf kp c df mf gf 3) gX8_cell_X8_lost rfl 1 rfl (by decide +kernel) (by decide) 0 rfl rfl (Nat.le_of_ble_eq_true rfl) dX8_cell_85 rfl (fun _ _ => ?_)
              show J X (wM mm cy (nI 3) tv so sg ce (nI N) (nI B) kf pf vat vrm vrb rk rp lf tf kp (nI c) df mf gf) 88 [(0, .ref (mm 0)), (1, .int (nI a1)), (2, .int i), (3, .int (nI v1))] [.long lostV]
              exact j_lret C E dX8_cell_88 (nI 3, tv, so, sg, ce, nI N, nI B, kf, pf, vat, vrm, vrb, rk, rp, lf, tf, kp, nI c, df, mf, gf) (by rw [show m_cell ((N, B, k, p), (c, rd, rl, ra), (hs, sl, sa, sc), tv, fl) (nI a1) i (nI v1) = (lostV, ((N, B, k, p), (c, rd, rl, ra), (hs, sl, sa, sc), tv, nI 3)) from (by simp only [m_cell, qa1, qv1, qh, qv, qj1, reduceCtorEq, if_true, if_false, Bool.false_eq_true, ne_eq, not_true_eq_false, not_false_eq_true, and_true, true_and, and_false, false_and, or_true, true_or, or_false, false_or]; try rfl)]; exact MI.mk hB hN2 hT hR hS) (by rw [show m_cell ((N, B, k, p), (c, rd, rl, ra), (hs, sl, sa, sc), tv, fl) (nI a1) i (nI v1) = (lostV, ((N, B, k, p), (c, rd, rl, ra), (hs, sl, sa, sc), tv, nI 3)) from (by simp only [m_cell, qa1, qv1, qh, qv, qj1, reduceCtorEq, if_true, if_false, Bool.false_eq_true, ne_eq, not_true_eq_false, not_false_eq_true, and_true, true_and, and_false, false_and, or_true, true_or, or_false, false_or]; try rfl)]) rfl
          · have qh := hS.f ha1 c58
            refine j_aload_n C 0 dX8_cell_61 rfl rfl ?_
            refine j_iconst (v := nI 1) C dX8_cell_62 (by decide) ?_
            refine j_callV0 (As := [.int (nI 1)]) (rest := []) C (c_X8_lost mm (nI 0) tv so sg ce N B kf pf vat vrm vrb rk rp lf tf kp c df mf gf 1) gX8_cell_X8_lost rfl 1 rfl (by decide +kernel) (by decide) 0 rfl rfl (Nat.le_of_ble_eq_true rfl) dX8_cell_63 rfl (fun _ _ => ?_)
            show J X (wM mm cy (nI 1) tv so sg ce (nI N) (nI B) kf pf vat vrm vrb rk rp lf tf kp (nI c) df mf gf) 66 [(0, .ref (mm 0)), (1, .int (nI a1)), (2, .int i), (3, .int (nI v1))] [.long lostV]
            exact j_lret C E dX8_cell_66 (nI 1, tv, so, sg, ce, nI N, nI B, kf, pf, vat, vrm, vrb, rk, rp, lf, tf, kp, nI c, df, mf, gf) (by rw [show m_cell ((N, B, k, p), (c, rd, rl, ra), (hs, sl, sa, sc), tv, fl) (nI a1) i (nI v1) = (lostV, ((N, B, k, p), (c, rd, rl, ra), (hs, sl, sa, sc), tv, nI 1)) from (by simp only [m_cell, qa1, qv1, qh, reduceCtorEq, if_true, if_false, Bool.false_eq_true, ne_eq, not_true_eq_false, not_false_eq_true, and_true, true_and, and_false, false_and, or_true, true_or, or_false, false_or]; try rfl)]; exact MI.mk hB hN2 hT hR hS) (by rw [show m_cell ((N, B, k, p), (c, rd, rl, ra), (hs, sl, sa, sc), tv, fl) (nI a1) i (nI v1) = (lostV, ((N, B, k, p), (c, rd, rl, ra), (hs, sl, sa, sc), tv, nI 1)) from (by simp only [m_cell, qa1, qv1, qh, reduceCtorEq, if_true, if_false, Bool.false_eq_true, ne_eq, not_true_eq_false, not_false_eq_true, and_true, true_and, and_false, false_and, or_true, true_or, or_false, false_or]; try rfl)]) rfl
        · have qh := hS.t ha1 c31
          have qv : ¬ sa a1 = v1 := fun z => c41 (by rw [hS.hla ha1 qh, z])
          refine j_aload_n C 0 dX8_cell_44 rfl rfl ?_
          refine j_iconst (v := nI 2) C dX8_cell_45 (by decide) ?_
          refine j_callV0 (As := [.int (nI 2)]) (rest := []) C (c_X8_lost mm (nI 0) tv so sg ce N B kf pf vat vrm vrb rk rp lf tf kp c df mf gf 2) gX8_cell_X8_lost rfl 1 rfl (by decide +kernel) (by decide) 0 rfl rfl (Nat.le_of_ble_eq_true rfl) dX8_cell_46 rfl (fun _ _ => ?_)
          show J X (wM mm cy (nI 2) tv so sg ce (nI N) (nI B) kf pf vat vrm vrb rk rp lf tf kp (nI c) df mf gf) 49 [(0, .ref (mm 0)), (1, .int (nI a1)), (2, .int i), (3, .int (nI v1))] [.long lostV]
          exact j_lret C E dX8_cell_49 (nI 2, tv, so, sg, ce, nI N, nI B, kf, pf, vat, vrm, vrb, rk, rp, lf, tf, kp, nI c, df, mf, gf) (by rw [show m_cell ((N, B, k, p), (c, rd, rl, ra), (hs, sl, sa, sc), tv, fl) (nI a1) i (nI v1) = (lostV, ((N, B, k, p), (c, rd, rl, ra), (hs, sl, sa, sc), tv, nI 2)) from (by simp only [m_cell, qa1, qv1, qh, qv, reduceCtorEq, if_true, if_false, Bool.false_eq_true, ne_eq, not_true_eq_false, not_false_eq_true, and_true, true_and, and_false, false_and, or_true, true_or, or_false, false_or]; try rfl)]; exact MI.mk hB hN2 hT hR hS) (by rw [show m_cell ((N, B, k, p), (c, rd, rl, ra), (hs, sl, sa, sc), tv, fl) (nI a1) i (nI v1) = (lostV, ((N, B, k, p), (c, rd, rl, ra), (hs, sl, sa, sc), tv, nI 2)) from (by simp only [m_cell, qa1, qv1, qh, qv, reduceCtorEq, if_true, if_false, Bool.false_eq_true, ne_eq, not_true_eq_false, not_false_eq_true, and_true, true_and, and_false, false_and, or_true, true_or, or_false, false_or]; try rfl)]) rfl
    · have c16 := bN_0.mp c16
      have qv1 := pOf_n c16
      refine j_ldc2 (v := lostV) C mh2 dX8_cell_19 ?_
      exact j_lret C E dX8_cell_22 (nI 0, tv, so, sg, ce, nI N, nI B, kf, pf, vat, vrm, vrb, rk, rp, lf, tf, kp, nI c, df, mf, gf) (by rw [show m_cell ((N, B, k, p), (c, rd, rl, ra), (hs, sl, sa, sc), tv, fl) (nI a1) i lx = (lostV, ((N, B, k, p), (c, rd, rl, ra), (hs, sl, sa, sc), tv, nI 0)) from (by simp only [m_cell, qa1, qv1, reduceCtorEq, if_true, if_false, Bool.false_eq_true, ne_eq, not_true_eq_false, not_false_eq_true, and_true, true_and, and_false, false_and, or_true, true_or, or_false, false_or]; try rfl)]; exact MI.mk hB hN2 hT hR hS) (by rw [show m_cell ((N, B, k, p), (c, rd, rl, ra), (hs, sl, sa, sc), tv, fl) (nI a1) i lx = (lostV, ((N, B, k, p), (c, rd, rl, ra), (hs, sl, sa, sc), tv, nI 0)) from (by simp only [m_cell, qa1, qv1, reduceCtorEq, if_true, if_false, Bool.false_eq_true, ne_eq, not_true_eq_false, not_false_eq_true, and_true, true_and, and_false, false_and, or_true, true_or, or_false, false_or]; try rfl)]) rfl
