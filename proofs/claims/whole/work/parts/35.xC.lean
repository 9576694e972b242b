set_option maxHeartbeats 4000000 in
set_option maxRecDepth 20000 in
theorem c_X7_lostBy {l : Launch} {D : va_G} {cy : Nat → ClassId} (A : Nat → Nat → Nat) (fl : Int32) (dT tT : TwS) (N B : Nat) (kf : Nat → Int32) (pf : Nat → Nat → Int32) (lf tf : Nat → Int32) (c : Nat) (df mf gf : Nat → Int32) (tv : Int32) (ln la : Nat → Int32) (cf : Nat → Nat → Int32) (f : Nat)  : Ct l yX7_lostBy wsX7_lostBy ({ frames := 0, cells := 0, slots := 0, locals := 0 }) D cy [.ref (A 3 0), .int (nI f)] (wX A cy fl dT (nI N, nI B, kf, pf, lf, tf) tT (nI c) df mf gf tv ln la cf) (fun _ : Unit => True) (fun _ => some (.long lostV)) (fun _ => wX A cy (nI f) dT (nI N, nI B, kf, pf, lf, tf) tT (nI c) df mf gf tv ln la cf) := by
  refine Ct.of (cc := cX7_lostBy) (nL := 2) (ret := (some .long)) rfl (by decide) ⟨rfl, rfl⟩ (Nat.le_of_ble_eq_true rfl) ?_
  intro X C E
  have C : Cx X l D cy cX7_lostBy 2 wsX7_lostBy RX7 ({ frames := 0, cells := 0, slots := 0, locals := 0 }) := C
  have mh0 : ∀ w ∈ u_ws RX7 TX7 7, w ∈ wsX7_lostBy := by decide +kernel
  have mh1 : Cond.fieldLink RX7 45 RX7 (TX7 6).2.1 (TX7 6).2.2.1 ∈ wsX7_lostBy := by decide +kernel
  have mh2 : Cond.constantLong RX7 161 lostV ∈ wsX7_lostBy := by decide +kernel
  show J X (wX A cy fl dT (nI N, nI B, kf, pf, lf, tf) tT (nI c) df mf gf tv ln la cf) 0 [(0, .ref (A 3 0)), (1, .int (nI f))] []
  refine j_aload_n C 0 dX7_lostBy_0 rfl rfl ?_
  refine j_iload_n C 1 dX7_lostBy_1 rfl rfl ?_
  refine j_put (ws' := wX A cy (nI f) dT (nI N, nI B, kf, pf, lf, tf) tT (nI c) df mf gf tv ln la cf) C mh0 6 mh1 tyX7 tyX7_ok nmX7 0 rfl rfl (by decide) rfl rfl (by decide +kernel) (Nat.le_of_ble_eq_true rfl) rfl dX7_lostBy_2 ?_
  refine j_ldc2 (v := lostV) C mh2 dX7_lostBy_5 ?_
  exact j_lret C E dX7_lostBy_8 () trivial rfl rfl
set_option maxHeartbeats 4000000 in
set_option maxRecDepth 20000 in
theorem c_X7_lose {l : Launch} {D : va_G} {cy : Nat → ClassId} (A : Nat → Nat → Nat) (fl : Int32) (dT tT : TwS) (N B : Nat) (kf : Nat → Int32) (pf : Nat → Nat → Int32) (lf tf : Nat → Int32) (c : Nat) (df mf gf : Nat → Int32) (tv : Int32) (ln la : Nat → Int32) (cf : Nat → Nat → Int32) (k : Nat → Nat) (p : Nat → Nat → Nat) (rd rl : Nat → Nat) (ra : Nat → Option Nat) (hs : Nat → Bool) (sl sa : Nat → Nat) (sc : Nat → Nat → Int32) (hX : XI ((N, B, k, p), (c, rd, rl, ra), (hs, sl, sa, sc), tv, fl) (fl, dT, (nI N, nI B, kf, pf, lf, tf), tT, nI c, df, mf, gf, tv, ln, la, cf)) (q : Int32)  : Ct l yX7_lose wsX7_lose ({ frames := 1, cells := 0, slots := 0, locals := 20 }) D cy [.ref (A 3 0), .int q] (wX A cy fl dT (nI N, nI B, kf, pf, lf, tf) tT (nI c) df mf gf tv ln la cf) (fun u : XS => XI (m_lose ((N, B, k, p), (c, rd, rl, ra), (hs, sl, sa, sc), tv, fl) q).2 u) (fun _ => some (.int (m_lose ((N, B, k, p), (c, rd, rl, ra), (hs, sl, sa, sc), tv, fl) q).1)) (fun u => wXu A cy u) := by
  refine Ct.of (cc := cX7_lose) (nL := 2) (ret := (some .int)) rfl (by decide) ⟨rfl, rfl⟩ (Nat.le_of_ble_eq_true rfl) ?_
  intro X C E
  have C : Cx X l D cy cX7_lose 2 wsX7_lose RX7 ({ frames := 1, cells := 0, slots := 0, locals := 20 }) := C
  have mh0 : ∀ w ∈ u_ws RX7 TX7 7, w ∈ wsX7_lose := by decide +kernel
  have mh1 : Cond.fieldLink RX7 41 RX7 (TX7 5).2.1 (TX7 5).2.2.1 ∈ wsX7_lose := by decide +kernel
  obtain ⟨-, ⟨hB, hN2⟩, hT, hR, hS⟩ := hX
  have hN := hT.n
  have hc8 := hR.1
  have hN30 : N ≤ 2 ^ 30 := by omega
  show J X (wX A cy fl dT (nI N, nI B, kf, pf, lf, tf) tT (nI c) df mf gf tv ln la cf) 0 [(0, .ref (A 3 0)), (1, .int q)] []
  refine j_iload_n C 1 dX7_lose_0 rfl rfl ?_
  refine j_callP (As := [.int q]) (rest := []) C (c_X7_isSheet (q)) gX7_lose_X7_isSheet rfl 1 rfl (by decide +kernel) (by decide) (Nat.le_of_ble_eq_true rfl) dX7_lose_1 rfl (fun _ _ => ?_)
  show J X (wX A cy fl dT (nI N, nI B, kf, pf, lf, tf) tT (nI c) df mf gf tv ln la cf) 4 [(0, .ref (A 3 0)), (1, .int q)] [.int (nI (bN ((pOf 4 (q)).isSome = true)))]
  refine j_if_neN (tgt := 9) C dX7_lose_4 (by decide) (bN_lt _) (fun c4 => ?_) (fun c4 => ?_)
  · have c4 := bN_1.mp c4
    obtain ⟨a1, ha1, rfl⟩ := pY (by decide) c4
    have qa1 := pI ha1 (by decide)
    show J X (wX A cy fl dT (nI N, nI B, kf, pf, lf, tf) tT (nI c) df mf gf tv ln la cf) 9 [(0, .ref (A 3 0)), (1, .int (nI a1))] []
    refine j_aload_n C 0 dX7_lose_9 rfl rfl ?_
    refine j_get C mh0 5 mh1 0 rfl rfl (by decide) rfl rfl dX7_lose_10 ?_
    refine j_iload_n C 1 dX7_lose_13 rfl rfl ?_
    refine j_aald (t0 := 3) (Cn := "DebtLamps$Sheet") (b := A 4 a1) C 51 rfl rfl (by omega) (by decide) (wX_so (by omega)) dX7_lose_14 ?_
    refine jx_S0  (As := []) (rest := []) ha1 C (c_X4_hasNothing (A 4 a1) (A 5 a1) (ln a1) (la a1) (cf a1) ) gX7_lose_X4_hasNothing rfl 0 rfl (by decide +kernel) (by decide) (Nat.le_of_ble_eq_true rfl) dX7_lose_15 rfl (fun _ _ => ?_)
    show J X (wX A cy fl dT (nI N, nI B, kf, pf, lf, tf) tT (nI c) df mf gf tv ln la cf) 18 [(0, .ref (A 3 0)), (1, .int (nI a1))] [.int (nI (bN (ln a1 = -1)))]
    refine j_if_eqN (tgt := 23) C dX7_lose_18 (by decide) (bN_lt _) (fun c18 => ?_) (fun c18 => ?_)
    · have c18 := bN_0.mp c18
      have qh := hS.t ha1 c18
      refine j_aload_n C 0 dX7_lose_23 rfl rfl ?_
      refine j_get C mh0 5 mh1 0 rfl rfl (by decide) rfl rfl dX7_lose_24 ?_
      refine j_iload_n C 1 dX7_lose_27 rfl rfl ?_
      refine j_aald (t0 := 3) (Cn := "DebtLamps$Sheet") (b := A 4 a1) C 51 rfl rfl (by omega) (by decide) (wX_so (by omega)) dX7_lose_28 ?_
      refine jx_S  (ln' := fun _ => -1) (la' := fun _ => la a1) (cf' := fun _ => cf a1) (As := []) (rest := []) ha1 C (c_X4_loseRow (A 4 a1) (A 5 a1) (ln a1) (la a1) (cf a1)) gX7_lose_X4_loseRow rfl 0 rfl (by decide +kernel) (by decide) (Nat.le_of_ble_eq_true rfl) dX7_lose_29 rfl (fun _ _ => ?_)
      show J X (wX A cy fl dT (nI N, nI B, kf, pf, lf, tf) tT (nI c) df mf gf tv (upd ln a1 (-1)) (upd la a1 (la a1)) (updR cf a1 (cf a1))) 32 [(0, .ref (A 3 0)), (1, .int (nI a1))] []
      refine j_iconst (v := nI 1) C dX7_lose_32 (by decide) ?_
      exact j_iret C E dX7_lose_33 (fl, dT, (nI N, nI B, kf, pf, lf, tf), tT, nI c, df, mf, gf, tv, upd ln a1 (-1), upd la a1 (la a1), updR cf a1 (cf a1)) (by rw [show m_lose ((N, B, k, p), (c, rd, rl, ra), (hs, sl, sa, sc), tv, fl) (nI a1) = (nI 1, ((N, B, k, p), (c, rd, rl, ra), (upB hs a1 false, sl, sa, sc), tv, fl)) from (by simp only [m_lose, qa1, qh, reduceCtorEq, if_true, if_false, Bool.false_eq_true, ne_eq, not_true_eq_false, not_false_eq_true, and_true, true_and, and_false, false_and, or_true, true_or, or_false, false_or])]; exact XI.mk hB hN2 hT hR hS.lose) (by rw [show m_lose ((N, B, k, p), (c, rd, rl, ra), (hs, sl, sa, sc), tv, fl) (nI a1) = (nI 1, ((N, B, k, p), (c, rd, rl, ra), (upB hs a1 false, sl, sa, sc), tv, fl)) from (by simp only [m_lose, qa1, qh, reduceCtorEq, if_true, if_false, Bool.false_eq_true, ne_eq, not_true_eq_false, not_false_eq_true, and_true, true_and, and_false, false_and, or_true, true_or, or_false, false_or])]) rfl
    · have c18 := bN_1.mp c18
      have qh := hS.f ha1 c18
      refine j_iconst (v := nI 0) C dX7_lose_21 (by decide) ?_
      exact j_iret C E dX7_lose_22 (fl, dT, (nI N, nI B, kf, pf, lf, tf), tT, nI c, df, mf, gf, tv, ln, la, cf) (by rw [show m_lose ((N, B, k, p), (c, rd, rl, ra), (hs, sl, sa, sc), tv, fl) (nI a1) = (nI 0, ((N, B, k, p), (c, rd, rl, ra), (hs, sl, sa, sc), tv, fl)) from (by simp only [m_lose, qa1, qh, reduceCtorEq, if_true, if_false, Bool.false_eq_true, ne_eq, not_true_eq_false, not_false_eq_true, and_true, true_and, and_false, false_and, or_true, true_or, or_false, false_or])]; exact XI.mk hB hN2 hT hR hS) (by rw [show m_lose ((N, B, k, p), (c, rd, rl, ra), (hs, sl, sa, sc), tv, fl) (nI a1) = (nI 0, ((N, B, k, p), (c, rd, rl, ra), (hs, sl, sa, sc), tv, fl)) from (by simp only [m_lose, qa1, qh, reduceCtorEq, if_true, if_false, Bool.false_eq_true, ne_eq, not_true_eq_false, not_false_eq_true, and_true, true_and, and_false, false_and, or_true, true_or, or_false, false_or])]) rfl
  · have c4 := bN_0.mp c4
    have qa1 := pOf_n c4
    refine j_iconst (v := (-1)) C dX7_lose_7 (by decide) ?_
    exact j_iret C E dX7_lose_8 (fl, dT, (nI N, nI B, kf, pf, lf, tf), tT, nI c, df, mf, gf, tv, ln, la, cf) (by rw [show m_lose ((N, B, k, p), (c, rd, rl, ra), (hs, sl, sa, sc), tv, fl) q = ((-1), ((N, B, k, p), (c, rd, rl, ra), (hs, sl, sa, sc), tv, fl)) from (by simp only [m_lose, qa1, reduceCtorEq, if_true, if_false, Bool.false_eq_true, ne_eq, not_true_eq_false, not_false_eq_true, and_true, true_and, and_false, false_and, or_true, true_or, or_false, false_or])]; exact XI.mk hB hN2 hT hR hS) (by rw [show m_lose ((N, B, k, p), (c, rd, rl, ra), (hs, sl, sa, sc), tv, fl) q = ((-1), ((N, B, k, p), (c, rd, rl, ra), (hs, sl, sa, sc), tv, fl)) from (by simp only [m_lose, qa1, reduceCtorEq, if_true, if_false, Bool.false_eq_true, ne_eq, not_true_eq_false, not_false_eq_true, and_true, true_and, and_false, false_and, or_true, true_or, or_false, false_or])]) rfl
set_option maxHeartbeats 4000000 in
set_option maxRecDepth 20000 in
theorem c_X7_sheet {l : Launch} {D : va_G} {cy : Nat → ClassId} (A : Nat → Nat → Nat) (fl : Int32) (dT tT : TwS) (N B : Nat) (kf : Nat → Int32) (pf : Nat → Nat → Int32) (lf tf : Nat → Int32) (c : Nat) (df mf gf : Nat → Int32) (tv : Int32) (ln la : Nat → Int32) (cf : Nat → Nat → Int32) (k : Nat → Nat) (p : Nat → Nat → Nat) (rd rl : Nat → Nat) (ra : Nat → Option Nat) (hs : Nat → Bool) (sl sa : Nat → Nat) (sc : Nat → Nat → Int32) (hX : XI ((N, B, k, p), (c, rd, rl, ra), (hs, sl, sa, sc), tv, fl) (fl, dT, (nI N, nI B, kf, pf, lf, tf), tT, nI c, df, mf, gf, tv, ln, la, cf)) (q lx m : Int32)  : Ct l yX7_sheet wsX7_sheet ({ frames := 2, cells := 0, slots := 0, locals := 38 }) D cy [.ref (A 3 0), .int q, .int lx, .int m] (wX A cy fl dT (nI N, nI B, kf, pf, lf, tf) tT (nI c) df mf gf tv ln la cf) (fun u : XS => XI (m_sheet ((N, B, k, p), (c, rd, rl, ra), (hs, sl, sa, sc), tv, fl) q lx m).2 u) (fun _ => some (.int (m_sheet ((N, B, k, p), (c, rd, rl, ra), (hs, sl, sa, sc), tv, fl) q lx m).1)) (fun u => wXu A cy u) := by
  refine Ct.of (cc := cX7_sheet) (nL := 4) (ret := (some .int)) rfl (by decide) ⟨rfl, rfl⟩ (Nat.le_of_ble_eq_true rfl) ?_
  intro X C E
  have C : Cx X l D cy cX7_sheet 4 wsX7_sheet RX7 ({ frames := 2, cells := 0, slots := 0, locals := 38 }) := C
  have mh0 : ∀ w ∈ u_ws RX7 TX7 7, w ∈ wsX7_sheet := by decide +kernel
  have mh1 : Cond.fieldLink RX7 45 RX7 (TX7 6).2.1 (TX7 6).2.2.1 ∈ wsX7_sheet := by decide +kernel
  have mh2 : Cond.fieldLink RX7 41 RX7 (TX7 5).2.1 (TX7 5).2.2.1 ∈ wsX7_sheet := by decide +kernel
  obtain ⟨-, ⟨hB, hN2⟩, hT, hR, hS⟩ := hX
  have hN := hT.n
  have hc8 := hR.1
  have hN30 : N ≤ 2 ^ 30 := by omega
  show J X (wX A cy fl dT (nI N, nI B, kf, pf, lf, tf) tT (nI c) df mf gf tv ln la cf) 0 [(0, .ref (A 3 0)), (1, .int q), (2, .int lx), (3, .int m)] []
  refine j_aload_n C 0 dX7_sheet_0 rfl rfl ?_
  refine j_iconst (v := nI 0) C dX7_sheet_1 (by decide) ?_
  refine j_put (ws' := wX A cy (nI 0) dT (nI N, nI B, kf, pf, lf, tf) tT (nI c) df mf gf tv ln la cf) C mh0 6 mh1 tyX7 tyX7_ok nmX7 0 rfl rfl (by decide) rfl rfl (by decide +kernel) (Nat.le_of_ble_eq_true rfl) rfl dX7_sheet_2 ?_
  refine j_iload_n C 1 dX7_sheet_5 rfl rfl ?_
  refine j_callP (As := [.int q]) (rest := []) C (c_X7_isSheet (q)) gX7_sheet_X7_isSheet rfl 1 rfl (by decide +kernel) (by decide) (Nat.le_of_ble_eq_true rfl) dX7_sheet_6 rfl (fun _ _ => ?_)
  show J X (wX A cy (nI 0) dT (nI N, nI B, kf, pf, lf, tf) tT (nI c) df mf gf tv ln la cf) 9 [(0, .ref (A 3 0)), (1, .int q), (2, .int lx), (3, .int m)] [.int (nI (bN ((pOf 4 (q)).isSome = true)))]
  refine j_if_neN (tgt := 14) C dX7_sheet_9 (by decide) (bN_lt _) (fun c9 => ?_) (fun c9 => ?_)
  · have c9 := bN_1.mp c9
    obtain ⟨a1, ha1, rfl⟩ := pY (by decide) c9
    have qa1 := pI ha1 (by decide)
    show J X (wX A cy (nI 0) dT (nI N, nI B, kf, pf, lf, tf) tT (nI c) df mf gf tv ln la cf) 14 [(0, .ref (A 3 0)), (1, .int (nI a1)), (2, .int lx), (3, .int m)] []
    refine j_iload_n C 2 dX7_sheet_14 rfl rfl ?_
    refine j_iconst (v := nI 2) C dX7_sheet_15 (by decide) ?_
    refine j_callP (As := [.int lx, .int (nI 2)]) (rest := []) C (c_X7_isWithin (lx) 2 (by omega)) gX7_sheet_X7_isWithin rfl 2 rfl (by decide +kernel) (by decide) (Nat.le_of_ble_eq_true rfl) dX7_sheet_16 rfl (fun _ _ => ?_)
    show J X (wX A cy (nI 0) dT (nI N, nI B, kf, pf, lf, tf) tT (nI c) df mf gf tv ln la cf) 19 [(0, .ref (A 3 0)), (1, .int (nI a1)), (2, .int lx), (3, .int m)] [.int (nI (bN ((pOf 3 (lx)).isSome = true)))]
    refine j_if_eqN (tgt := 28) C dX7_sheet_19 (by decide) (bN_lt _) (fun c19 => ?_) (fun c19 => ?_)
    · have c19 := bN_0.mp c19
      have qv1 := pOf_n c19
      refine j_bipush (v := (-2)) C dX7_sheet_28 (by decide) ?_
      exact j_iret C E dX7_sheet_30 (nI 0, dT, (nI N, nI B, kf, pf, lf, tf), tT, nI c, df, mf, gf, tv, ln, la, cf) (by rw [show m_sheet ((N, B, k, p), (c, rd, rl, ra), (hs, sl, sa, sc), tv, fl) (nI a1) lx m = ((-2), ((N, B, k, p), (c, rd, rl, ra), (hs, sl, sa, sc), tv, nI 0)) from (by simp only [m_sheet, qa1, qv1, reduceCtorEq, if_true, if_false, Bool.false_eq_true, ne_eq, not_true_eq_false, not_false_eq_true, and_true, true_and, and_false, false_and, or_true, true_or, or_false, false_or])]; exact XI.mk hB hN2 hT hR hS) (by rw [show m_sheet ((N, B, k, p), (c, rd, rl, ra), (hs, sl, sa, sc), tv, fl) (nI a1) lx m = ((-2), ((N, B, k, p), (c, rd, rl, ra), (hs, sl, sa, sc), tv, nI 0)) from (by simp only [m_sheet, qa1, qv1, reduceCtorEq, if_true, if_false, Bool.false_eq_true, ne_eq, not_true_eq_false, not_false_eq_true, and_true, true_and, and_false, false_and, or_true, true_or, or_false, false_or])]) rfl
    · have c19 := bN_1.mp c19
      obtain ⟨v1, hv1, rfl⟩ := pY (by decide) c19
      have qv1 := pI hv1 (by decide)
      show J X (wX A cy (nI 0) dT (nI N, nI B, kf, pf, lf, tf) tT (nI c) df mf gf tv ln la cf) 22 [(0, .ref (A 3 0)), (1, .int (nI a1)), (2, .int (nI v1)), (3, .int m)] []
      refine j_iload_n C 3 dX7_sheet_22 rfl rfl ?_
      refine j_bipush (v := nI 60) C dX7_sheet_23 (by decide) ?_
      refine j_icmp_le (tgt := 31) C dX7_sheet_25 (by decide) (fun c25 => ?_) (fun c25 => ?_)
      · refine j_iload_n C 3 dX7_sheet_31 rfl rfl ?_
        refine j_if_ge (tgt := 41) C dX7_sheet_32 (by decide) (fun c32 => ?_) (fun c32 => ?_)
        · obtain ⟨m1, hm1, rfl⟩ := n60 c25 c32
          have t1 := tI60 hm1
          have t2 := tC60 hm1
          have g60 : ¬ 60 < (nI m1).toInt := by omega
          have g0 : ¬ (nI m1).toInt < 0 := by omega
          show J X (wX A cy (nI 0) dT (nI N, nI B, kf, pf, lf, tf) tT (nI c) df mf gf tv ln la cf) 41 [(0, .ref (A 3 0)), (1, .int (nI a1)), (2, .int (nI v1)), (3, .int (nI m1))] []
          refine j_aload_n C 0 dX7_sheet_41 rfl rfl ?_
          refine j_get C mh0 5 mh2 0 rfl rfl (by decide) rfl rfl dX7_sheet_42 ?_
          refine j_iload_n C 1 dX7_sheet_45 rfl rfl ?_
          refine j_aald (t0 := 3) (Cn := "DebtLamps$Sheet") (b := A 4 a1) C 51 rfl rfl (by omega) (by decide) (wX_so (by omega)) dX7_sheet_46 ?_
          refine j_iload_n C 2 dX7_sheet_47 rfl rfl ?_
          refine j_iload_n C 3 dX7_sheet_48 rfl rfl ?_
          refine jx_S  (ln' := fun _ => nI m1) (la' := fun _ => nI v1) (cf' := fun _ => fil (fun _ => nI 0) (cf a1) 60) (As := [.int (nI v1), .int (nI m1)]) (rest := []) ha1 C (c_X4_renew (A 4 a1) (A 5 a1) (ln a1) (la a1) (cf a1) (nI v1) m1 hm1) gX7_sheet_X4_renew rfl 2 rfl (by decide +kernel) (by decide) (Nat.le_of_ble_eq_true rfl) dX7_sheet_49 rfl (fun _ _ => ?_)
          show J X (wX A cy (nI 0) dT (nI N, nI B, kf, pf, lf, tf) tT (nI c) df mf gf tv (upd ln a1 (nI m1)) (upd la a1 (nI v1)) (updR cf a1 (fil (fun _ => nI 0) (cf a1) 60))) 52 [(0, .ref (A 3 0)), (1, .int (nI a1)), (2, .int (nI v1)), (3, .int (nI m1))] []
          refine j_iconst (v := nI 1) C dX7_sheet_52 (by decide) ?_
          exact j_iret C E dX7_sheet_53 (nI 0, dT, (nI N, nI B, kf, pf, lf, tf), tT, nI c, df, mf, gf, tv, upd ln a1 (nI m1), upd la a1 (nI v1), updR cf a1 (fil (fun _ => nI 0) (cf a1) 60)) (by rw [show m_sheet ((N, B, k, p), (c, rd, rl, ra), (hs, sl, sa, sc), tv, fl) (nI a1) (nI v1) (nI m1) = (nI 1, ((N, B, k, p), (c, rd, rl, ra), (upB hs a1 true, upN sl a1 m1, upN sa a1 v1, updR sc a1 (fun _ => nI 0)), tv, nI 0)) from (by simp only [m_sheet, qa1, qv1, g60, g0, t2, reduceCtorEq, if_true, if_false, Bool.false_eq_true, ne_eq, not_true_eq_false, not_false_eq_true, and_true, true_and, and_false, false_and, or_true, true_or, or_false, false_or])]; exact XI.mk hB hN2 hT hR (hS.new hm1 (by omega))) (by rw [show m_sheet ((N, B, k, p), (c, rd, rl, ra), (hs, sl, sa, sc), tv, fl) (nI a1) (nI v1) (nI m1) = (nI 1, ((N, B, k, p), (c, rd, rl, ra), (upB hs a1 true, upN sl a1 m1, upN sa a1 v1, updR sc a1 (fun _ => nI 0)), tv, nI 0)) from (by simp only [m_sheet, qa1, qv1, g60, g0, t2, reduceCtorEq, if_true, if_false, Bool.false_eq_true, ne_eq, not_true_eq_false, not_false_eq_true, and_true, true_and, and_false, false_and, or_true, true_or, or_false, false_or])]) rfl
        · have g0 : m.toInt < 0 := by rw [Int32.le_iff_toInt_le] at c32; have z : (0 : Int32).toInt = 0 := rfl; omega
          have g60 : ¬ 60 < m.toInt := by omega
          refine j_aload_n C 0 dX7_sheet_35 rfl rfl ?_
          refine j_iconst (v := nI 4) C dX7_sheet_36 (by decide) ?_
          refine j_callV0 (As := [.int (nI 4)]) (rest := []) C (c_X7_faulted A (nI 0) dT tT N B kf pf lf tf c df mf gf tv ln la cf 4) gX7_sheet_X7_faulted rfl 1 rfl (by decide +kernel) (by decide) 0 rfl rfl (Nat.le_of_ble_eq_true rfl) dX7_sheet_37 rfl (fun _ _ => ?_)
          show J X (wX A cy (nI 4) dT (nI N, nI B, kf, pf, lf, tf) tT (nI c) df mf gf tv ln la cf) 40 [(0, .ref (A 3 0)), (1, .int (nI a1)), (2, .int (nI v1)), (3, .int m)] [.int ((-10) - nI 4)]
          exact j_iret C E dX7_sheet_40 (nI 4, dT, (nI N, nI B, kf, pf, lf, tf), tT, nI c, df, mf, gf, tv, ln, la, cf) (by rw [show m_sheet ((N, B, k, p), (c, rd, rl, ra), (hs, sl, sa, sc), tv, fl) (nI a1) (nI v1) m = ((-10) - nI 4, ((N, B, k, p), (c, rd, rl, ra), (hs, sl, sa, sc), tv, nI 4)) from (by simp only [m_sheet, qa1, qv1, g60, g0, reduceCtorEq, if_true, if_false, Bool.false_eq_true, ne_eq, not_true_eq_false, not_false_eq_true, and_true, true_and, and_false, false_and, or_true, true_or, or_false, false_or])]; exact XI.mk hB hN2 hT hR hS) (by rw [show m_sheet ((N, B, k, p), (c, rd, rl, ra), (hs, sl, sa, sc), tv, fl) (nI a1) (nI v1) m = ((-10) - nI 4, ((N, B, k, p), (c, rd, rl, ra), (hs, sl, sa, sc), tv, nI 4)) from (by simp only [m_sheet, qa1, qv1, g60, g0, reduceCtorEq, if_true, if_false, Bool.false_eq_true, ne_eq, not_true_eq_false, not_false_eq_true, and_true, true_and, and_false, false_and, or_true, true_or, or_false, false_or])]) rfl
      · have g60 : 60 < m.toInt := by rw [Int32.le_iff_toInt_le] at c25; have z : (nI 60).toInt = 60 := rfl; omega
        refine j_bipush (v := (-2)) C dX7_sheet_28 (by decide) ?_
        exact j_iret C E dX7_sheet_30 (nI 0, dT, (nI N, nI B, kf, pf, lf, tf), tT, nI c, df, mf, gf, tv, ln, la, cf) (by rw [show m_sheet ((N, B, k, p), (c, rd, rl, ra), (hs, sl, sa, sc), tv, fl) (nI a1) (nI v1) m = ((-2), ((N, B, k, p), (c, rd, rl, ra), (hs, sl, sa, sc), tv, nI 0)) from (by simp only [m_sheet, qa1, qv1, g60, reduceCtorEq, if_true, if_false, Bool.false_eq_true, ne_eq, not_true_eq_false, not_false_eq_true, and_true, true_and, and_false, false_and, or_true, true_or, or_false, false_or])]; exact XI.mk hB hN2 hT hR hS) (by rw [show m_sheet ((N, B, k, p), (c, rd, rl, ra), (hs, sl, sa, sc), tv, fl) (nI a1) (nI v1) m = ((-2), ((N, B, k, p), (c, rd, rl, ra), (hs, sl, sa, sc), tv, nI 0)) from (by simp only [m_sheet, qa1, qv1, g60, reduceCtorEq, if_true, if_false, Bool.false_eq_true, ne_eq, not_true_eq_false, not_false_eq_true, and_true, true_and, and_false, false_and, or_true, true_or, or_false, false_or])]) rfl
  · have c9 := bN_0.mp c9
    have qa1 := pOf_n c9
    refine j_iconst (v := (-1)) C dX7_sheet_12 (by decide) ?_
    exact j_iret C E dX7_sheet_13 (nI 0, dT, (nI N, nI B, kf, pf, lf, tf), tT, nI c, df, mf, gf, tv, ln, la, cf) (by rw [show m_sheet ((N, B, k, p), (c, rd, rl, ra), (hs, sl, sa, sc), tv, fl) q lx m = ((-1), ((N, B, k, p), (c, rd, rl, ra), (hs, sl, sa, sc), tv, nI 0)) from (by simp only [m_sheet, qa1, reduceCtorEq, if_true, if_false, Bool.false_eq_true, ne_eq, not_true_eq_false, not_false_eq_true, and_true, true_and, and_false, false_and, or_true, true_or, or_false, false_or])]; exact XI.mk hB hN2 hT hR hS) (by rw [show m_sheet ((N, B, k, p), (c, rd, rl, ra), (hs, sl, sa, sc), tv, fl) q lx m = ((-1), ((N, B, k, p), (c, rd, rl, ra), (hs, sl, sa, sc), tv, nI 0)) from (by simp only [m_sheet, qa1, reduceCtorEq, if_true, if_false, Bool.false_eq_true, ne_eq, not_true_eq_false, not_false_eq_true, and_true, true_and, and_false, false_and, or_true, true_or, or_false, false_or])]) rfl
set_option maxHeartbeats 4000000 in
set_option maxRecDepth 20000 in
theorem c_X7_put {l : Launch} {D : va_G} {cy : Nat → ClassId} (A : Nat → Nat → Nat) (fl : Int32) (dT tT : TwS) (N B : Nat) (kf : Nat → Int32) (pf : Nat → Nat → Int32) (lf tf : Nat → Int32) (c : Nat) (df mf gf : Nat → Int32) (tv : Int32) (ln la : Nat → Int32) (cf : Nat → Nat → Int32) (k : Nat → Nat) (p : Nat → Nat → Nat) (rd rl : Nat → Nat) (ra : Nat → Option Nat) (hs : Nat → Bool) (sl sa : Nat → Nat) (sc : Nat → Nat → Int32) (hX : XI ((N, B, k, p), (c, rd, rl, ra), (hs, sl, sa, sc), tv, fl) (fl, dT, (nI N, nI B, kf, pf, lf, tf), tT, nI c, df, mf, gf, tv, ln, la, cf)) (q i v : Int32)  : Ct l yX7_put wsX7_put ({ frames := 2, cells := 0, slots := 0, locals := 43 }) D cy [.ref (A 3 0), .int q, .int i, .int v] (wX A cy fl dT (nI N, nI B, kf, pf, lf, tf) tT (nI c) df mf gf tv ln la cf) (fun u : XS => XI (m_put ((N, B, k, p), (c, rd, rl, ra), (hs, sl, sa, sc), tv, fl) q i v).2 u) (fun _ => some (.int (m_put ((N, B, k, p), (c, rd, rl, ra), (hs, sl, sa, sc), tv, fl) q i v).1)) (fun u => wXu A cy u) := by
  refine Ct.of (cc := cX7_put) (nL := 5) (ret := (some .int)) rfl (by decide) ⟨rfl, rfl⟩ (Nat.le_of_ble_eq_true rfl) ?_
  intro X C E
  have C : Cx X l D cy cX7_put 5 wsX7_put RX7 ({ frames := 2, cells := 0, slots := 0, locals := 43 }) := C
  have mh0 : ∀ w ∈ u_ws RX7 TX7 7, w ∈ wsX7_put := by decide +kernel
  have mh1 : Cond.fieldLink RX7 45 RX7 (TX7 6).2.1 (TX7 6).2.2.1 ∈ wsX7_put := by decide +kernel
  have mh2 : Cond.fieldLink RX7 41 RX7 (TX7 5).2.1 (TX7 5).2.2.1 ∈ wsX7_put := by decide +kernel
  obtain ⟨-, ⟨hB, hN2⟩, hT, hR, hS⟩ := hX
  have hN := hT.n
  have hc8 := hR.1
  have hN30 : N ≤ 2 ^ 30 := by omega
  show J X (wX A cy fl dT (nI N, nI B, kf, pf, lf, tf) tT (nI c) df mf gf tv ln la cf) 0 [(0, .ref (A 3 0)), (1, .int q), (2, .int i), (3, .int v)] []
  refine j_aload_n C 0 dX7_put_0 rfl rfl ?_
  refine j_iconst (v := nI 0) C dX7_put_1 (by decide) ?_
  refine j_put (ws' := wX A cy (nI 0) dT (nI N, nI B, kf, pf, lf, tf) tT (nI c) df mf gf tv ln la cf) C mh0 6 mh1 tyX7 tyX7_ok nmX7 0 rfl rfl (by decide) rfl rfl (by decide +kernel) (Nat.le_of_ble_eq_true rfl) rfl dX7_put_2 ?_
  refine j_iload_n C 1 dX7_put_5 rfl rfl ?_
  refine j_callP (As := [.int q]) (rest := []) C (c_X7_isSheet (q)) gX7_put_X7_isSheet rfl 1 rfl (by decide +kernel) (by decide) (Nat.le_of_ble_eq_true rfl) dX7_put_6 rfl (fun _ _ => ?_)
  show J X (wX A cy (nI 0) dT (nI N, nI B, kf, pf, lf, tf) tT (nI c) df mf gf tv ln la cf) 9 [(0, .ref (A 3 0)), (1, .int q), (2, .int i), (3, .int v)] [.int (nI (bN ((pOf 4 (q)).isSome = true)))]
  refine j_if_neN (tgt := 14) C dX7_put_9 (by decide) (bN_lt _) (fun c9 => ?_) (fun c9 => ?_)
  · have c9 := bN_1.mp c9
    obtain ⟨a1, ha1, rfl⟩ := pY (by decide) c9
    have qa1 := pI ha1 (by decide)
    show J X (wX A cy (nI 0) dT (nI N, nI B, kf, pf, lf, tf) tT (nI c) df mf gf tv ln la cf) 14 [(0, .ref (A 3 0)), (1, .int (nI a1)), (2, .int i), (3, .int v)] []
    refine j_aload_n C 0 dX7_put_14 rfl rfl ?_
    refine j_get C mh0 5 mh2 0 rfl rfl (by decide) rfl rfl dX7_put_15 ?_
    refine j_iload_n C 1 dX7_put_18 rfl rfl ?_
    refine j_aald (t0 := 3) (Cn := "DebtLamps$Sheet") (b := A 4 a1) C 51 rfl rfl (by omega) (by decide) (wX_so (by omega)) dX7_put_19 ?_
    refine j_astore (lv' := [(4, .ref (A 4 a1)), (0, .ref (A 3 0)), (1, .int (nI a1)), (2, .int i), (3, .int v)]) C dX7_put_20 (by decide) rfl ?_
    refine j_aload C 0 dX7_put_22 rfl ?_
    refine jx_S0  (As := []) (rest := []) ha1 C (c_X4_hasNothing (A 4 a1) (A 5 a1) (ln a1) (la a1) (cf a1) ) gX7_put_X4_hasNothing rfl 0 rfl (by decide +kernel) (by decide) (Nat.le_of_ble_eq_true rfl) dX7_put_24 rfl (fun _ _ => ?_)
    show J X (wX A cy (nI 0) dT (nI N, nI B, kf, pf, lf, tf) tT (nI c) df mf gf tv ln la cf) 27 [(4, .ref (A 4 a1)), (0, .ref (A 3 0)), (1, .int (nI a1)), (2, .int i), (3, .int v)] [.int (nI (bN (ln a1 = -1)))]
    refine j_if_eqN (tgt := 36) C dX7_put_27 (by decide) (bN_lt _) (fun c27 => ?_) (fun c27 => ?_)
    · have c27 := bN_0.mp c27
      have qh := hS.t ha1 c27
      have qln := hS.hln ha1 qh
      have q60 := hS.l60 ha1 qh
      have qla := hS.hla ha1 qh
      refine j_aload C 0 dX7_put_36 rfl ?_
      refine j_iload_n C 3 dX7_put_38 rfl rfl ?_
      refine jx_S0  (As := [.int i]) (rest := []) ha1 C (c_X4_hasCell (A 4 a1) (A 5 a1) (ln a1) (la a1) (cf a1) (i)) gX7_put_X4_hasCell rfl 1 rfl (by decide +kernel) (by decide) (Nat.le_of_ble_eq_true rfl) dX7_put_39 rfl (fun _ _ => ?_)
      show J X (wX A cy (nI 0) dT (nI N, nI B, kf, pf, lf, tf) tT (nI c) df mf gf tv ln la cf) 42 [(4, .ref (A 4 a1)), (0, .ref (A 3 0)), (1, .int (nI a1)), (2, .int i), (3, .int v)] [.int (nI (bN (¬ i < 0 ∧ ¬ ln a1 ≤ i)))]
      refine j_if_neN (tgt := 51) C dX7_put_42 (by decide) (bN_lt _) (fun c42 => ?_) (fun c42 => ?_)
      · have c42 := bN_1.mp c42
        rw [qln] at c42
        obtain ⟨j1, hj1, rfl⟩ := cell_y q60 c42
        have qj1 := pOf_nI hj1 (show sl a1 < 2 ^ 31 by omega)
        show J X (wX A cy (nI 0) dT (nI N, nI B, kf, pf, lf, tf) tT (nI c) df mf gf tv ln la cf) 51 [(4, .ref (A 4 a1)), (0, .ref (A 3 0)), (1, .int (nI a1)), (2, .int (nI j1)), (3, .int v)] []
        refine j_aload C 0 dX7_put_51 rfl ?_
        refine j_iload_n C 3 dX7_put_53 rfl rfl ?_
        refine j_iload_n C 4 dX7_put_54 rfl rfl ?_
        refine jx_S (S := Unit) (post := fun _ => True) (rv := fun _ => none) (rmc := { frames := 1, cells := 0, slots := 0, locals := 21 }) (ln' := fun _ => nI (sl a1)) (la' := fun _ => la a1) (cf' := fun _ => upd (cf a1) j1 (cut (nI (sa a1)) v)) (As := [.int (nI j1), .int v]) (rest := []) ha1 C (by rw [qln, ← qla]; exact c_X4_setCut (A 4 a1) (A 5 a1) (sl a1) (la a1) (cf a1) j1 v q60 hj1) gX7_put_X4_setCut rfl 2 rfl (by decide +kernel) (by decide) (Nat.le_of_ble_eq_true rfl) dX7_put_55 rfl (fun _ _ => ?_)
        show J X (wX A cy (nI 0) dT (nI N, nI B, kf, pf, lf, tf) tT (nI c) df mf gf tv (upd ln a1 (nI (sl a1))) (upd la a1 (la a1)) (updR cf a1 (upd (cf a1) j1 (cut (nI (sa a1)) v)))) 58 [(4, .ref (A 4 a1)), (0, .ref (A 3 0)), (1, .int (nI a1)), (2, .int (nI j1)), (3, .int v)] []
        refine j_iconst (v := nI 1) C dX7_put_58 (by decide) ?_
        exact j_iret C E dX7_put_59 (nI 0, dT, (nI N, nI B, kf, pf, lf, tf), tT, nI c, df, mf, gf, tv, upd ln a1 (nI (sl a1)), upd la a1 (la a1), updR cf a1 (upd (cf a1) j1 (cut (nI (sa a1)) v))) (by rw [show m_put ((N, B, k, p), (c, rd, rl, ra), (hs, sl, sa, sc), tv, fl) (nI a1) (nI j1) v = (nI 1, ((N, B, k, p), (c, rd, rl, ra), (hs, sl, sa, updR sc a1 (upd (sc a1) j1 (cut (nI (sa a1)) v))), tv, nI 0)) from (by simp only [m_put, qa1, qh, qj1, reduceCtorEq, if_true, if_false, Bool.false_eq_true, ne_eq, not_true_eq_false, not_false_eq_true, and_true, true_and, and_false, false_and, or_true, true_or, or_false, false_or])]; exact XI.mk hB hN2 hT hR (hS.put qh ha1)) (by rw [show m_put ((N, B, k, p), (c, rd, rl, ra), (hs, sl, sa, sc), tv, fl) (nI a1) (nI j1) v = (nI 1, ((N, B, k, p), (c, rd, rl, ra), (hs, sl, sa, updR sc a1 (upd (sc a1) j1 (cut (nI (sa a1)) v))), tv, nI 0)) from (by simp only [m_put, qa1, qh, qj1, reduceCtorEq, if_true, if_false, Bool.false_eq_true, ne_eq, not_true_eq_false, not_false_eq_true, and_true, true_and, and_false, false_and, or_true, true_or, or_false, false_or])]) rfl
      · have c42 := bN_0.mp c42
        rw [qln] at c42
        have qj1 := cell_n q60 c42
        refine j_aload_n C 1 dX7_put_45 rfl rfl ?_
        refine j_iconst (v := nI 3) C dX7_put_46 (by decide) ?_
        refine j_callV0 (As := [.int (nI 3)]) (rest := []) C (c_X7_faulted A (nI 0) dT tT N B kf pf lf tf c df mf gf tv ln la cf 3) gX7_put_X7_faulted rfl 1 rfl (by decide +kernel) (by decide) 0 rfl rfl (Nat.le_of_ble_eq_true rfl) dX7_put_47 rfl (fun _ _ => ?_)
        show J X (wX A cy (nI 3) dT (nI N, nI B, kf, pf, lf, tf) tT (nI c) df mf gf tv ln la cf) 50 [(4, .ref (A 4 a1)), (0, .ref (A 3 0)), (1, .int (nI a1)), (2, .int i), (3, .int v)] [.int ((-10) - nI 3)]
        exact j_iret C E dX7_put_50 (nI 3, dT, (nI N, nI B, kf, pf, lf, tf), tT, nI c, df, mf, gf, tv, ln, la, cf) (by rw [show m_put ((N, B, k, p), (c, rd, rl, ra), (hs, sl, sa, sc), tv, fl) (nI a1) i v = ((-10) - nI 3, ((N, B, k, p), (c, rd, rl, ra), (hs, sl, sa, sc), tv, nI 3)) from (by simp only [m_put, qa1, qh, qj1, reduceCtorEq, if_true, if_false, Bool.false_eq_true, ne_eq, not_true_eq_false, not_false_eq_true, and_true, true_and, and_false, false_and, or_true, true_or, or_false, false_or])]; exact XI.mk hB hN2 hT hR hS) (by rw [show m_put ((N, B, k, p), (c, rd, rl, ra), (hs, sl, sa, sc), tv, fl) (nI a1) i v = ((-10) - nI 3, ((N, B, k, p), (c, rd, rl, ra), (hs, sl, sa, sc), tv, nI 3)) from (by simp only [m_put, qa1, qh, qj1, reduceCtorEq, if_true, if_false, Bool.false_eq_true, ne_eq, not_true_eq_false, not_false_eq_true, and_true, true_and, and_false, false_and, or_true, true_or, or_false, false_or])]) rfl
    · have c27 := bN_1.mp c27
      have qh := hS.f ha1 c27
      refine j_aload_n C 1 dX7_put_30 rfl rfl ?_
      refine j_iconst (v := nI 1) C dX7_put_31 (by decide) ?_
      refine j_callV0 (As := [.int (nI 1)]) (rest := []) C (c_X7_faulted A (nI 0) dT tT N B kf pf lf tf c df mf gf tv ln la cf 1) gX7_put_X7_faulted rfl 1 rfl (by decide +kernel) (by decide) 0 rfl rfl (Nat.le_of_ble_eq_true rfl) dX7_put_32 rfl (fun _ _ => ?_)
      show J X (wX A cy (nI 1) dT (nI N, nI B, kf, pf, lf, tf) tT (nI c) df mf gf tv ln la cf) 35 [(4, .ref (A 4 a1)), (0, .ref (A 3 0)), (1, .int (nI a1)), (2, .int i), (3, .int v)] [.int ((-10) - nI 1)]
      exact j_iret C E dX7_put_35 (nI 1, dT, (nI N, nI B, kf, pf, lf, tf), tT, nI c, df, mf, gf, tv, ln, la, cf) (by rw [show m_put ((N, B, k, p), (c, rd, rl, ra), (hs, sl, sa, sc), tv, fl) (nI a1) i v = ((-10) - nI 1, ((N, B, k, p), (c, rd, rl, ra), (hs, sl, sa, sc), tv, nI 1)) from (by simp only [m_put, qa1, qh, reduceCtorEq, if_true, if_false, Bool.false_eq_true, ne_eq, not_true_eq_false, not_false_eq_true, and_true, true_and, and_false, false_and, or_true, true_or, or_false, false_or])]; exact XI.mk hB hN2 hT hR hS) (by rw [show m_put ((N, B, k, p), (c, rd, rl, ra), (hs, sl, sa, sc), tv, fl) (nI a1) i v = ((-10) - nI 1, ((N, B, k, p), (c, rd, rl, ra), (hs, sl, sa, sc), tv, nI 1)) from (by simp only [m_put, qa1, qh, reduceCtorEq, if_true, if_false, Bool.false_eq_true, ne_eq, not_true_eq_false, not_false_eq_true, and_true, true_and, and_false, false_and, or_true, true_or, or_false, false_or])]) rfl
  · have c9 := bN_0.mp c9
    have qa1 := pOf_n c9
    refine j_iconst (v := (-1)) C dX7_put_12 (by decide) ?_
    exact j_iret C E dX7_put_13 (nI 0, dT, (nI N, nI B, kf, pf, lf, tf), tT, nI c, df, mf, gf, tv, ln, la, cf) (by rw [show m_put ((N, B, k, p), (c, rd, rl, ra), (hs, sl, sa, sc), tv, fl) q i v = ((-1), ((N, B, k, p), (c, rd, rl, ra), (hs, sl, sa, sc), tv, nI 0)) from (by simp only [m_put, qa1, reduceCtorEq, if_true, if_false, Bool.false_eq_true, ne_eq, not_true_eq_false, not_false_eq_true, and_true, true_and, and_false, false_and, or_true, true_or, or_false, false_or])]; exact XI.mk hB hN2 hT hR hS) (by rw [show m_put ((N, B, k, p), (c, rd, rl, ra), (hs, sl, sa, sc), tv, fl) q i v = ((-1), ((N, B, k, p), (c, rd, rl, ra), (hs, sl, sa, sc), tv, nI 0)) from (by simp only [m_put, qa1, reduceCtorEq, if_true, if_false, Bool.false_eq_true, ne_eq, not_true_eq_false, not_false_eq_true, and_true, true_and, and_false, false_and, or_true, true_or, or_false, false_or])]) rfl
set_option maxHeartbeats 4000000 in
set_option maxRecDepth 20000 in
theorem c_X7_cell {l : Launch} {D : va_G} {cy : Nat → ClassId} (A : Nat → Nat → Nat) (fl : Int32) (dT tT : TwS) (N B : Nat) (kf : Nat → Int32) (pf : Nat → Nat → Int32) (lf tf : Nat → Int32) (c : Nat) (df mf gf : Nat → Int32) (tv : Int32) (ln la : Nat → Int32) (cf : Nat → Nat → Int32) (k : Nat → Nat) (p : Nat → Nat → Nat) (rd rl : Nat → Nat) (ra : Nat → Option Nat) (hs : Nat → Bool) (sl sa : Nat → Nat) (sc : Nat → Nat → Int32) (hX : XI ((N, B, k, p), (c, rd, rl, ra), (hs, sl, sa, sc), tv, fl) (fl, dT, (nI N, nI B, kf, pf, lf, tf), tT, nI c, df, mf, gf, tv, ln, la, cf)) (q i lx : Int32)  : Ct l yX7_cell wsX7_cell ({ frames := 2, cells := 0, slots := 0, locals := 42 }) D cy [.ref (A 3 0), .int q, .int i, .int lx] (wX A cy fl dT (nI N, nI B, kf, pf, lf, tf) tT (nI c) df mf gf tv ln la cf) (fun u : XS => XI (m_cell ((N, B, k, p), (c, rd, rl, ra), (hs, sl, sa, sc), tv, fl) q i lx).2 u) (fun _ => some (.long (m_cell ((N, B, k, p), (c, rd, rl, ra), (hs, sl, sa, sc), tv, fl) q i lx).1)) (fun u => wXu A cy u) := by
  refine Ct.of (cc := cX7_cell) (nL := 5) (ret := (some .long)) rfl (by decide) ⟨rfl, rfl⟩ (Nat.le_of_ble_eq_true rfl) ?_
  intro X C E
  have C : Cx X l D cy cX7_cell 5 wsX7_cell RX7 ({ frames := 2, cells := 0, slots := 0, locals := 42 }) := C
  have mh0 : ∀ w ∈ u_ws RX7 TX7 7, w ∈ wsX7_cell := by decide +kernel
  have mh1 : Cond.fieldLink RX7 45 RX7 (TX7 6).2.1 (TX7 6).2.2.1 ∈ wsX7_cell := by decide +kernel
  have mh2 : Cond.constantLong RX7 161 lostV ∈ wsX7_cell := by decide +kernel
  have mh3 : Cond.fieldLink RX7 41 RX7 (TX7 5).2.1 (TX7 5).2.2.1 ∈ wsX7_cell := by decide +kernel
  obtain ⟨-, ⟨hB, hN2⟩, hT, hR, hS⟩ := hX
  have hN := hT.n
  have hc8 := hR.1
  have hN30 : N ≤ 2 ^ 30 := by omega
  show J X (wX A cy fl dT (nI N, nI B, kf, pf, lf, tf) tT (nI c) df mf gf tv ln la cf) 0 [(0, .ref (A 3 0)), (1, .int q), (2, .int i), (3, .int lx)] []
  refine j_aload_n C 0 dX7_cell_0 rfl rfl ?_
  refine j_iconst (v := nI 0) C dX7_cell_1 (by decide) ?_
  refine j_put (ws' := wX A cy (nI 0) dT (nI N, nI B, kf, pf, lf, tf) tT (nI c) df mf gf tv ln la cf) C mh0 6 mh1 tyX7 tyX7_ok nmX7 0 rfl rfl (by decide) rfl rfl (by decide +kernel) (Nat.le_of_ble_eq_true rfl) rfl dX7_cell_2 ?_
  refine j_iload_n C 1 dX7_cell_5 rfl rfl ?_
  refine j_callP (As := [.int q]) (rest := []) C (c_X7_isSheet (q)) gX7_cell_X7_isSheet rfl 1 rfl (by decide +kernel) (by decide) (Nat.le_of_ble_eq_true rfl) dX7_cell_6 rfl (fun _ _ => ?_)
  show J X (wX A cy (nI 0) dT (nI N, nI B, kf, pf, lf, tf) tT (nI c) df mf gf tv ln la cf) 9 [(0, .ref (A 3 0)), (1, .int q), (2, .int i), (3, .int lx)] [.int (nI (bN ((pOf 4 (q)).isSome = true)))]
  refine j_if_eqN (tgt := 20) C dX7_cell_9 (by decide) (bN_lt _) (fun c9 => ?_) (fun c9 => ?_)
  · have c9 := bN_0.mp c9
    have qa1 := pOf_n c9
    refine j_ldc2 (v := lostV) C mh2 dX7_cell_20 ?_
    exact j_lret C E dX7_cell_23 (nI 0, dT, (nI N, nI B, kf, pf, lf, tf), tT, nI c, df, mf, gf, tv, ln, la, cf) (by rw [show m_cell ((N, B, k, p), (c, rd, rl, ra), (hs, sl, sa, sc), tv, fl) q i lx = (lostV, ((N, B, k, p), (c, rd, rl, ra), (hs, sl, sa, sc), tv, nI 0)) from (by simp only [m_cell, qa1, reduceCtorEq, if_true, if_false, Bool.false_eq_true, ne_eq, not_true_eq_false, not_false_eq_true, and_true, true_and, and_false, false_and, or_true, true_or, or_false, false_or]; try rfl)]; exact XI.mk hB hN2 hT hR hS) (by rw [show m_cell ((N, B, k, p), (c, rd, rl, ra), (hs, sl, sa, sc), tv, fl) q i lx = (lostV, ((N, B, k, p), (c, rd, rl, ra), (hs, sl, sa, sc), tv, nI 0)) from (by simp only [m_cell, qa1, reduceCtorEq, if_true, if_false, Bool.false_eq_true, ne_eq, not_true_eq_false, not_false_eq_true, and_true, true_and, and_false, false_and, or_true, true_or, or_false, false_or]; try rfl)]) rfl
  · have c9 := bN_1.mp c9
    obtain ⟨a1, ha1, rfl⟩ := pY (by decide) c9
    have qa1 := pI ha1 (by decide)
    show J X (wX A cy (nI 0) dT (nI N, nI B, kf, pf, lf, tf) tT (nI c) df mf gf tv ln la cf) 12 [(0, .ref (A 3 0)), (1, .int (nI a1)), (2, .int i), (3, .int lx)] []
    refine j_iload_n C 3 dX7_cell_12 rfl rfl ?_
    refine j_iconst (v := nI 2) C dX7_cell_13 (by decide) ?_
    refine j_callP (As := [.int lx, .int (nI 2)]) (rest := []) C (c_X7_isWithin (lx) 2 (by omega)) gX7_cell_X7_isWithin rfl 2 rfl (by decide +kernel) (by decide) (Nat.le_of_ble_eq_true rfl) dX7_cell_14 rfl (fun _ _ => ?_)
    show J X (wX A cy (nI 0) dT (nI N, nI B, kf, pf, lf, tf) tT (nI c) df mf gf tv ln la cf) 17 [(0, .ref (A 3 0)), (1, .int (nI a1)), (2, .int i), (3, .int lx)] [.int (nI (bN ((pOf 3 (lx)).isSome = true)))]
    refine j_if_neN (tgt := 24) C dX7_cell_17 (by decide) (bN_lt _) (fun c17 => ?_) (fun c17 => ?_)
    · have c17 := bN_1.mp c17
      obtain ⟨v1, hv1, rfl⟩ := pY (by decide) c17
      have qv1 := pI hv1 (by decide)
      show J X (wX A cy (nI 0) dT (nI N, nI B, kf, pf, lf, tf) tT (nI c) df mf gf tv ln la cf) 24 [(0, .ref (A 3 0)), (1, .int (nI a1)), (2, .int i), (3, .int (nI v1))] []
      refine j_aload_n C 0 dX7_cell_24 rfl rfl ?_
      refine j_get C mh0 5 mh3 0 rfl rfl (by decide) rfl rfl dX7_cell_25 ?_
      refine j_iload_n C 1 dX7_cell_28 rfl rfl ?_
      refine j_aald (t0 := 3) (Cn := "DebtLamps$Sheet") (b := A 4 a1) C 51 rfl rfl (by omega) (by decide) (wX_so (by omega)) dX7_cell_29 ?_
      refine j_astore (lv' := [(4, .ref (A 4 a1)), (0, .ref (A 3 0)), (1, .int (nI a1)), (2, .int i), (3, .int (nI v1))]) C dX7_cell_30 (by decide) rfl ?_
      refine j_aload C 0 dX7_cell_32 rfl ?_
      refine j_iload_n C 4 dX7_cell_34 rfl rfl ?_
      refine jx_S0  (As := [.int (nI v1)]) (rest := []) ha1 C (c_X4_isOfLane (A 4 a1) (A 5 a1) (ln a1) (la a1) (cf a1) (nI v1)) gX7_cell_X4_isOfLane rfl 1 rfl (by decide +kernel) (by decide) (Nat.le_of_ble_eq_true rfl) dX7_cell_35 rfl (fun _ _ => ?_)
      show J X (wX A cy (nI 0) dT (nI N, nI B, kf, pf, lf, tf) tT (nI c) df mf gf tv ln la cf) 38 [(4, .ref (A 4 a1)), (0, .ref (A 3 0)), (1, .int (nI a1)), (2, .int i), (3, .int (nI v1))] [.int (nI (bN (ln a1 = -1 ∨ la a1 = nI v1)))]
      refine j_if_neN (tgt := 47) C dX7_cell_38 (by decide) (bN_lt _) (fun c38 => ?_) (fun c38 => ?_)
      · have c38 := bN_1.mp c38
        refine j_aload C 0 dX7_cell_47 rfl ?_
        refine jx_S0  (As := []) (rest := []) ha1 C (c_X4_hasNothing (A 4 a1) (A 5 a1) (ln a1) (la a1) (cf a1) ) gX7_cell_X4_hasNothing rfl 0 rfl (by decide +kernel) (by decide) (Nat.le_of_ble_eq_true rfl) dX7_cell_49 rfl (fun _ _ => ?_)
        show J X (wX A cy (nI 0) dT (nI N, nI B, kf, pf, lf, tf) tT (nI c) df mf gf tv ln la cf) 52 [(4, .ref (A 4 a1)), (0, .ref (A 3 0)), (1, .int (nI a1)), (2, .int i), (3, .int (nI v1))] [.int (nI (bN (ln a1 = -1)))]
        refine j_if_eqN (tgt := 61) C dX7_cell_52 (by decide) (bN_lt _) (fun c52 => ?_) (fun c52 => ?_)
        · have c52 := bN_0.mp c52
          have qh := hS.t ha1 c52
          have qln := hS.hln ha1 qh
          have q60 := hS.l60 ha1 qh
          have qla := hS.hla ha1 qh
          have qa2 := hS.a2 ha1 qh
          have qv : sa a1 = v1 := by rcases c38 with z | z; exact absurd z c52; rw [qla] at z; exact (nI_eq (by omega) (by omega)).mp z
          refine j_aload C 0 dX7_cell_61 rfl ?_
          refine j_iload_n C 3 dX7_cell_63 rfl rfl ?_
          refine jx_S0  (As := [.int i]) (rest := []) ha1 C (c_X4_hasCell (A 4 a1) (A 5 a1) (ln a1) (la a1) (cf a1) (i)) gX7_cell_X4_hasCell rfl 1 rfl (by decide +kernel) (by decide) (Nat.le_of_ble_eq_true rfl) dX7_cell_64 rfl (fun _ _ => ?_)
          show J X (wX A cy (nI 0) dT (nI N, nI B, kf, pf, lf, tf) tT (nI c) df mf gf tv ln la cf) 67 [(4, .ref (A 4 a1)), (0, .ref (A 3 0)), (1, .int (nI a1)), (2, .int i), (3, .int (nI v1))] [.int (nI (bN (¬ i < 0 ∧ ¬ ln a1 ≤ i)))]
          refine j_if_neN (tgt := 76) C dX7_cell_67 (by decide) (bN_lt _) (fun c67 => ?_) (fun c67 => ?_)
          · have c67 := bN_1.mp c67
            rw [qln] at c67
            obtain ⟨j1, hj1, rfl⟩ := cell_y q60 c67
            have qj1 := pOf_nI hj1 (show sl a1 < 2 ^ 31 by omega)
            have qcf := hS.hcf ha1 qh (j := j1) (by omega)
            show J X (wX A cy (nI 0) dT (nI N, nI B, kf, pf, lf, tf) tT (nI c) df mf gf tv ln la cf) 76 [(4, .ref (A 4 a1)), (0, .ref (A 3 0)), (1, .int (nI a1)), (2, .int (nI j1)), (3, .int (nI v1))] []
            refine j_aload C 0 dX7_cell_76 rfl ?_
            refine j_iload_n C 3 dX7_cell_78 rfl rfl ?_
            refine jx_S0 (S := Unit) (post := fun _ => True) (rv := fun _ => some (.int (cf a1 j1))) (rmc := { frames := 1, cells := 0, slots := 0, locals := 21 }) (As := [.int (nI j1)]) (rest := []) ha1 C (by rw [qln]; exact c_X4_valueAt (A 4 a1) (A 5 a1) (sl a1) (la a1) (cf a1) j1 q60 (by omega)) gX7_cell_X4_valueAt rfl 1 rfl (by decide +kernel) (by decide) (Nat.le_of_ble_eq_true rfl) dX7_cell_79 rfl (fun _ _ => ?_)
            show J X (wX A cy (nI 0) dT (nI N, nI B, kf, pf, lf, tf) tT (nI c) df mf gf tv ln la cf) 82 [(4, .ref (A 4 a1)), (0, .ref (A 3 0)), (1, .int (nI a1)), (2, .int (nI j1)), (3, .int (nI v1))] [.int (cf a1 j1)]
            refine j_i2l (v := (cf a1 j1).toInt64) C dX7_cell_82 rfl ?_
            exact j_lret C E dX7_cell_83 (nI 0, dT, (nI N, nI B, kf, pf, lf, tf), tT, nI c, df, mf, gf, tv, ln, la, cf) (by rw [show m_cell ((N, B, k, p), (c, rd, rl, ra), (hs, sl, sa, sc), tv, fl) (nI a1) (nI j1) (nI v1) = ((cf a1 j1).toInt64, ((N, B, k, p), (c, rd, rl, ra), (hs, sl, sa, sc), tv, nI 0)) from (by simp only [m_cell, qa1, qv1, qh, qv, qj1, qcf, reduceCtorEq, if_true, if_false, Bool.false_eq_true, ne_eq, not_true_eq_false, not_false_eq_true, and_true, true_and, and_false, false_and, or_true, true_or, or_false, false_or])]; exact XI.mk hB hN2 hT hR hS) (by rw [show m_cell ((N, B, k, p), (c, rd, rl, ra), (hs, sl, sa, sc), tv, fl) (nI a1) (nI j1) (nI v1) = ((cf a1 j1).toInt64, ((N, B, k, p), (c, rd, rl, ra), (hs, sl, sa, sc), tv, nI 0)) from (by simp only [m_cell, qa1, qv1, qh, qv, qj1, qcf, reduceCtorEq, if_true, if_false, Bool.false_eq_true, ne_eq, not_true_eq_false, not_false_eq_true, and_true, true_and, and_false, false_and, or_true, true_or, or_false, false_or])]) rfl
          · have c67 := bN_0.mp c67
            rw [qln] at c67
            have qj1 := cell_n q60 c67
            refine j_aload_n C 1 dX7_cell_70 rfl rfl ?_
            refine j_iconst (v := nI 3) C dX7_cell_71 (by decide) ?_
            refine j_callV0 (As := [.int (nI 3)]) (rest := []) C (c_X7_lostBy A (nI 0) dT tT N B kf pf lf tf c df mf gf tv ln la cf 3) gX7_cell_X7_lostBy rfl 1 rfl (by decide +kernel) (by decide) 0 rfl rfl (Nat.le_of_ble_eq_true rfl) dX7_cell_72 rfl (fun _ _ => ?_)
            show J X (wX A cy (nI 3) dT (nI N, nI B, kf, pf, lf, tf) tT (nI c) df mf gf tv ln la cf) 75 [(4, .ref (A 4 a1)), (0, .ref (A 3 0)), (1, .int (nI a1)), (2, .int i), (3, .int (nI v1))] [.long lostV]
            exact j_lret C E dX7_cell_75 (nI 3, dT, (nI N, nI B, kf, pf, lf, tf), tT, nI c, df, mf, gf, tv, ln, la, cf) (by rw [show m_cell ((N, B, k, p), (c, rd, rl, ra), (hs, sl, sa, sc), tv, fl) (nI a1) i (nI v1) = (lostV, ((N, B, k, p), (c, rd, rl, ra), (hs, sl, sa, sc), tv, nI 3)) from (by simp only [m_cell, qa1, qv1, qh, qv, qj1, reduceCtorEq, if_true, if_false, Bool.false_eq_true, ne_eq, not_true_eq_false, not_false_eq_true, and_true, true_and, and_false, false_and, or_true, true_or, or_false, false_or])]; exact XI.mk hB hN2 hT hR hS) (by rw [show m_cell ((N, B, k, p), (c, rd, rl, ra), (hs, sl, sa, sc), tv, fl) (nI a1) i (nI v1) = (lostV, ((N, B, k, p), (c, rd, rl, ra), (hs, sl, sa, sc), tv, nI 3)) from (by simp only [m_cell, qa1, qv1, qh, qv, qj1, reduceCtorEq, if_true, if_false, Bool.false_eq_true, ne_eq, not_true_eq_false, not_false_eq_true, and_true, true_and, and_false, false_and, or_true, true_or, or_false, false_or])]) rfl
        · have c52 := bN_1.mp c52
          have qh := hS.f ha1 c52
          refine j_aload_n C 1 dX7_cell_55 rfl rfl ?_
          refine j_iconst (v := nI 1) C dX7_cell_56 (by decide) ?_
          refine j_callV0 (As := [.int (nI 1)]) (rest := []) C (c_X7_lostBy A (nI 0) dT tT N B kf pf lf tf c df mf gf tv ln la cf 1) gX7_cell_X7_lostBy rfl 1 rfl (by decide +kernel) (by decide) 0 rfl rfl (Nat.le_of_ble_eq_true rfl) dX7_cell_57 rfl (fun _ _ => ?_)
          show J X (wX A cy (nI 1) dT (nI N, nI B, kf, pf, lf, tf) tT (nI c) df mf gf tv ln la cf) 60 [(4, .ref (A 4 a1)), (0, .ref (A 3 0)), (1, .int (nI a1)), (2, .int i), (3, .int (nI v1))] [.long lostV]
          exact j_lret C E dX7_cell_60 (nI 1, dT, (nI N, nI B, kf, pf, lf, tf), tT, nI c, df, mf, gf, tv, ln, la, cf) (by rw [show m_cell ((N, B, k, p), (c, rd, rl, ra), (hs, sl, sa, sc), tv, fl) (nI a1) i (nI v1) = (lostV, ((N, B, k, p), (c, rd, rl, ra), (hs, sl, sa, sc), tv, nI 1)) from (by simp only [m_cell, qa1, qv1, qh, reduceCtorEq, if_true, if_false, Bool.false_eq_true, ne_eq, not_true_eq_false, not_false_eq_true, and_true, true_and, and_false, false_and, or_true, true_or, or_false, false_or])]; exact XI.mk hB hN2 hT hR hS) (by rw [show m_cell ((N, B, k, p), (c, rd, rl, ra), (hs, sl, sa, sc), tv, fl) (nI a1) i (nI v1) = (lostV, ((N, B, k, p), (c, rd, rl, ra), (hs, sl, sa, sc), tv, nI 1)) from (by simp only [m_cell, qa1, qv1, qh, reduceCtorEq, if_true, if_false, Bool.false_eq_true, ne_eq, not_true_eq_false, not_false_eq_true, and_true, true_and, and_false, false_and, or_true, true_or, or_false, false_or])]) rfl
      · have c38 := bN_0.mp c38
        have qh := hS.t ha1 (fun z => c38 (Or.inl z))
        have qv : ¬ sa a1 = v1 := fun z => c38 (Or.inr (by rw [hS.hla ha1 qh, z]))
        refine j_aload_n C 1 dX7_cell_41 rfl rfl ?_
        refine j_iconst (v := nI 2) C dX7_cell_42 (by decide) ?_
        refine j_callV0 (As := [.int (nI 2)]) (rest := []) C (c_X7_lostBy A (nI 0) dT tT N B kf pf lf tf c df mf gf tv ln la cf 2) gX7_cell_X7_lostBy rfl 1 rfl (by decide +kernel) (by decide) 0 rfl rfl (Nat.le_of_ble_eq_true rfl) dX7_cell_43 rfl (fun _ _ => ?_)
        show J X (wX A cy (nI 2) dT (nI N, nI B, kf, pf, lf, tf) tT (nI c) df mf gf tv ln la cf) 46 [(4, .ref (A 4 a1)), (0, .ref (A 3 0)), (1, .int (nI a1)), (2, .int i), (3, .int (nI v1))] [.long lostV]
        exact j_lret C E dX7_cell_46 (nI 2, dT, (nI N, nI B, kf, pf, lf, tf), tT, nI c, df, mf, gf, tv, ln, la, cf) (by rw [show m_cell ((N, B, k, p), (c, rd, rl, ra), (hs, sl, sa, sc), tv, fl) (nI a1) i (nI v1) = (lostV, ((N, B, k, p), (c, rd, rl, ra), (hs, sl, sa, sc), tv, nI 2)) from (by simp only [m_cell, qa1, qv1, qh, qv, reduceCtorEq, if_true, if_false, Bool.false_eq_true, ne_eq, not_true_eq_false, not_false_eq_true, and_true, true_and, and_false, false_and, or_true, true_or, or_false, false_or])]; exact XI.mk hB hN2 hT hR hS) (by rw [show m_cell ((N, B, k, p), (c, rd, rl, ra), (hs, sl, sa, sc), tv, fl) (nI a1) i (nI v1) = (lostV, ((N, B, k, p), (c, rd, rl, ra), (hs, sl, sa, sc), tv, nI 2)) from (by simp only [m_cell, qa1, qv1, qh, qv, reduceCtorEq, if_true, if_false, Bool.false_eq_true, ne_eq, not_true_eq_false, not_false_eq_true, and_true, true_and, and_false, false_and, or_true, true_or, or_false, false_or])]) rfl
    · have c17 := bN_0.mp c17
      have qv1 := pOf_n c17
      refine j_ldc2 (v := lostV) C mh2 dX7_cell_20 ?_
      exact j_lret C E dX7_cell_23 (nI 0, dT, (nI N, nI B, kf, pf, lf, tf), tT, nI c, df, mf, gf, tv, ln, la, cf) (by rw [show m_cell ((N, B, k, p), (c, rd, rl, ra), (hs, sl, sa, sc), tv, fl) (nI a1) i lx = (lostV, ((N, B, k, p), (c, rd, rl, ra), (hs, sl, sa, sc), tv, nI 0)) from (by simp only [m_cell, qa1, qv1, reduceCtorEq, if_true, if_false, Bool.false_eq_true, ne_eq, not_true_eq_false, not_false_eq_true, and_true, true_and, and_false, false_and, or_true, true_or, or_false, false_or]; try rfl)]; exact XI.mk hB hN2 hT hR hS) (by rw [show m_cell ((N, B, k, p), (c, rd, rl, ra), (hs, sl, sa, sc), tv, fl) (nI a1) i lx = (lostV, ((N, B, k, p), (c, rd, rl, ra), (hs, sl, sa, sc), tv, nI 0)) from (by simp only [m_cell, qa1, qv1, reduceCtorEq, if_true, if_false, Bool.false_eq_true, ne_eq, not_true_eq_false, not_false_eq_true, and_true, true_and, and_false, false_and, or_true, true_or, or_false, false_or]; try rfl)]) rfl
set_option maxHeartbeats 4000000 in
set_option maxRecDepth 20000 in
theorem c_X7_copy {l : Launch} {D : va_G} {cy : Nat → ClassId} (A : Nat → Nat → Nat) (fl : Int32) (dT tT : TwS) (N B : Nat) (kf : Nat → Int32) (pf : Nat → Nat → Int32) (lf tf : Nat → Int32) (c : Nat) (df mf gf : Nat → Int32) (tv : Int32) (ln la : Nat → Int32) (cf : Nat → Nat → Int32) (k : Nat → Nat) (p : Nat → Nat → Nat) (rd rl : Nat → Nat) (ra : Nat → Option Nat) (hs : Nat → Bool) (sl sa : Nat → Nat) (sc : Nat → Nat → Int32) (hX : XI ((N, B, k, p), (c, rd, rl, ra), (hs, sl, sa, sc), tv, fl) (fl, dT, (nI N, nI B, kf, pf, lf, tf), tT, nI c, df, mf, gf, tv, ln, la, cf)) (q i o j m : Int32)  : Ct l yX7_copy wsX7_copy ({ frames := 2, cells := 0, slots := 0, locals := 60 }) D cy [.ref (A 3 0), .int q, .int i, .int o, .int j, .int m] (wX A cy fl dT (nI N, nI B, kf, pf, lf, tf) tT (nI c) df mf gf tv ln la cf) (fun u : XS => XI (m_copy ((N, B, k, p), (c, rd, rl, ra), (hs, sl, sa, sc), tv, fl) q i o j m).2 u) (fun _ => some (.int (m_copy ((N, B, k, p), (c, rd, rl, ra), (hs, sl, sa, sc), tv, fl) q i o j m).1)) (fun u => wXu A cy u) := by
  refine Ct.of (cc := cX7_copy) (nL := 8) (ret := (some .int)) rfl (by decide) ⟨rfl, rfl⟩ (Nat.le_of_ble_eq_true rfl) ?_
  intro X C E
  have C : Cx X l D cy cX7_copy 8 wsX7_copy RX7 ({ frames := 2, cells := 0, slots := 0, locals := 60 }) := C
  have mh0 : ∀ w ∈ u_ws RX7 TX7 7, w ∈ wsX7_copy := by decide +kernel
  have mh1 : Cond.fieldLink RX7 45 RX7 (TX7 6).2.1 (TX7 6).2.2.1 ∈ wsX7_copy := by decide +kernel
  have mh2 : Cond.fieldLink RX7 41 RX7 (TX7 5).2.1 (TX7 5).2.2.1 ∈ wsX7_copy := by decide +kernel
  have mh3 : ∀ w ∈ u_ws RX4 TX4 3, w ∈ wsX7_copy := by decide +kernel
  have mh4 : Cond.methodLink RX7 189 arraycopyName ∈ wsX7_copy := by decide +kernel
  have mh5 : Cond.native arraycopyName ∈ wsX7_copy := by decide +kernel
  have mh6 : Cond.static arraycopyName ∈ wsX7_copy := by decide +kernel
  have mh7 : Cond.initialized "java/lang/System" ∈ wsX7_copy := by decide +kernel
  obtain ⟨-, ⟨hB, hN2⟩, hT, hR, hS⟩ := hX
  have hN := hT.n
  have hc8 := hR.1
  have hN30 : N ≤ 2 ^ 30 := by omega
  show J X (wX A cy fl dT (nI N, nI B, kf, pf, lf, tf) tT (nI c) df mf gf tv ln la cf) 0 [(0, .ref (A 3 0)), (1, .int q), (2, .int i), (3, .int o), (4, .int j), (5, .int m)] []
  refine j_aload_n C 0 dX7_copy_0 rfl rfl ?_
  refine j_iconst (v := nI 0) C dX7_copy_1 (by decide) ?_
  refine j_put (ws' := wX A cy (nI 0) dT (nI N, nI B, kf, pf, lf, tf) tT (nI c) df mf gf tv ln la cf) C mh0 6 mh1 tyX7 tyX7_ok nmX7 0 rfl rfl (by decide) rfl rfl (by decide +kernel) (Nat.le_of_ble_eq_true rfl) rfl dX7_copy_2 ?_
  refine j_iload_n C 1 dX7_copy_5 rfl rfl ?_
  refine j_callP (As := [.int q]) (rest := []) C (c_X7_isSheet (q)) gX7_copy_X7_isSheet rfl 1 rfl (by decide +kernel) (by decide) (Nat.le_of_ble_eq_true rfl) dX7_copy_6 rfl (fun _ _ => ?_)
  show J X (wX A cy (nI 0) dT (nI N, nI B, kf, pf, lf, tf) tT (nI c) df mf gf tv ln la cf) 9 [(0, .ref (A 3 0)), (1, .int q), (2, .int i), (3, .int o), (4, .int j), (5, .int m)] [.int (nI (bN ((pOf 4 (q)).isSome = true)))]
  refine j_if_eqN (tgt := 19) C dX7_copy_9 (by decide) (bN_lt _) (fun c9 => ?_) (fun c9 => ?_)
  · have c9 := bN_0.mp c9
    have qa1 := pOf_n c9
    refine j_iconst (v := (-1)) C dX7_copy_19 (by decide) ?_
    exact j_iret C E dX7_copy_20 (nI 0, dT, (nI N, nI B, kf, pf, lf, tf), tT, nI c, df, mf, gf, tv, ln, la, cf) (by rw [show m_copy ((N, B, k, p), (c, rd, rl, ra), (hs, sl, sa, sc), tv, fl) q i o j m = ((-1), ((N, B, k, p), (c, rd, rl, ra), (hs, sl, sa, sc), tv, nI 0)) from (by simp only [m_copy, qa1, reduceCtorEq, if_true, if_false, Bool.false_eq_true, ne_eq, not_true_eq_false, not_false_eq_true, and_true, true_and, and_false, false_and, or_true, true_or, or_false, false_or]; try rfl)]; exact XI.mk hB hN2 hT hR hS) (by rw [show m_copy ((N, B, k, p), (c, rd, rl, ra), (hs, sl, sa, sc), tv, fl) q i o j m = ((-1), ((N, B, k, p), (c, rd, rl, ra), (hs, sl, sa, sc), tv, nI 0)) from (by simp only [m_copy, qa1, reduceCtorEq, if_true, if_false, Bool.false_eq_true, ne_eq, not_true_eq_false, not_false_eq_true, and_true, true_and, and_false, false_and, or_true, true_or, or_false, false_or]; try rfl)]) rfl
  · have c9 := bN_1.mp c9
    obtain ⟨a1, ha1, rfl⟩ := pY (by decide) c9
    have qa1 := pI ha1 (by decide)
    show J X (wX A cy (nI 0) dT (nI N, nI B, kf, pf, lf, tf) tT (nI c) df mf gf tv ln la cf) 12 [(0, .ref (A 3 0)), (1, .int (nI a1)), (2, .int i), (3, .int o), (4, .int j), (5, .int m)] []
    refine j_iload_n C 3 dX7_copy_12 rfl rfl ?_
    refine j_callP (As := [.int o]) (rest := []) C (c_X7_isSheet (o)) gX7_copy_X7_isSheet rfl 1 rfl (by decide +kernel) (by decide) (Nat.le_of_ble_eq_true rfl) dX7_copy_13 rfl (fun _ _ => ?_)
    show J X (wX A cy (nI 0) dT (nI N, nI B, kf, pf, lf, tf) tT (nI c) df mf gf tv ln la cf) 16 [(0, .ref (A 3 0)), (1, .int (nI a1)), (2, .int i), (3, .int o), (4, .int j), (5, .int m)] [.int (nI (bN ((pOf 4 (o)).isSome = true)))]
    refine j_if_neN (tgt := 21) C dX7_copy_16 (by decide) (bN_lt _) (fun c16 => ?_) (fun c16 => ?_)
    · have c16 := bN_1.mp c16
      obtain ⟨b1, hb1, rfl⟩ := pY (by decide) c16
      have qb1 := pI hb1 (by decide)
      show J X (wX A cy (nI 0) dT (nI N, nI B, kf, pf, lf, tf) tT (nI c) df mf gf tv ln la cf) 21 [(0, .ref (A 3 0)), (1, .int (nI a1)), (2, .int i), (3, .int (nI b1)), (4, .int j), (5, .int m)] []
      refine j_aload_n C 0 dX7_copy_21 rfl rfl ?_
      refine j_get C mh0 5 mh2 0 rfl rfl (by decide) rfl rfl dX7_copy_22 ?_
      refine j_iload_n C 1 dX7_copy_25 rfl rfl ?_
      refine j_aald (t0 := 3) (Cn := "DebtLamps$Sheet") (b := A 4 a1) C 51 rfl rfl (by omega) (by decide) (wX_so (by omega)) dX7_copy_26 ?_
      refine j_astore (lv' := [(6, .ref (A 4 a1)), (0, .ref (A 3 0)), (1, .int (nI a1)), (2, .int i), (3, .int (nI b1)), (4, .int j), (5, .int m)]) C dX7_copy_27 (by decide) rfl ?_
      refine j_aload_n C 1 dX7_copy_29 rfl rfl ?_
      refine j_get C mh0 5 mh2 0 rfl rfl (by decide) rfl rfl dX7_copy_30 ?_
      refine j_iload_n C 4 dX7_copy_33 rfl rfl ?_
      refine j_aald (t0 := 3) (Cn := "DebtLamps$Sheet") (b := A 4 b1) C 51 rfl rfl (by omega) (by decide) (wX_so (by omega)) dX7_copy_34 ?_
      refine j_astore (lv' := [(7, .ref (A 4 b1)), (6, .ref (A 4 a1)), (0, .ref (A 3 0)), (1, .int (nI a1)), (2, .int i), (3, .int (nI b1)), (4, .int j), (5, .int m)]) C dX7_copy_35 (by decide) rfl ?_
      refine j_aload C 1 dX7_copy_37 rfl ?_
      refine jx_S0  (As := []) (rest := []) ha1 C (c_X4_hasNothing (A 4 a1) (A 5 a1) (ln a1) (la a1) (cf a1) ) gX7_copy_X4_hasNothing rfl 0 rfl (by decide +kernel) (by decide) (Nat.le_of_ble_eq_true rfl) dX7_copy_39 rfl (fun _ _ => ?_)
      show J X (wX A cy (nI 0) dT (nI N, nI B, kf, pf, lf, tf) tT (nI c) df mf gf tv ln la cf) 42 [(7, .ref (A 4 b1)), (6, .ref (A 4 a1)), (0, .ref (A 3 0)), (1, .int (nI a1)), (2, .int i), (3, .int (nI b1)), (4, .int j), (5, .int m)] [.int (nI (bN (ln a1 = -1)))]
      refine j_if_neN (tgt := 53) C dX7_copy_42 (by decide) (bN_lt _) (fun c42 => ?_) (fun c42 => ?_)
      · have c42 := bN_1.mp c42
        have qh := hS.f ha1 c42
        refine j_aload_n C 2 dX7_copy_53 rfl rfl ?_
        refine j_iconst (v := nI 1) C dX7_copy_54 (by decide) ?_
        refine j_callV0 (As := [.int (nI 1)]) (rest := []) C (c_X7_faulted A (nI 0) dT tT N B kf pf lf tf c df mf gf tv ln la cf 1) gX7_copy_X7_faulted rfl 1 rfl (by decide +kernel) (by decide) 0 rfl rfl (Nat.le_of_ble_eq_true rfl) dX7_copy_55 rfl (fun _ _ => ?_)
        show J X (wX A cy (nI 1) dT (nI N, nI B, kf, pf, lf, tf) tT (nI c) df mf gf tv ln la cf) 58 [(7, .ref (A 4 b1)), (6, .ref (A 4 a1)), (0, .ref (A 3 0)), (1, .int (nI a1)), (2, .int i), (3, .int (nI b1)), (4, .int j), (5, .int m)] [.int ((-10) - nI 1)]
        exact j_iret C E dX7_copy_58 (nI 1, dT, (nI N, nI B, kf, pf, lf, tf), tT, nI c, df, mf, gf, tv, ln, la, cf) (by rw [show m_copy ((N, B, k, p), (c, rd, rl, ra), (hs, sl, sa, sc), tv, fl) (nI a1) i (nI b1) j m = ((-10) - nI 1, ((N, B, k, p), (c, rd, rl, ra), (hs, sl, sa, sc), tv, nI 1)) from (by simp only [m_copy, qa1, qb1, qh, reduceCtorEq, if_true, if_false, Bool.false_eq_true, ne_eq, not_true_eq_false, not_false_eq_true, and_true, true_and, and_false, false_and, or_true, true_or, or_false, false_or])]; exact XI.mk hB hN2 hT hR hS) (by rw [show m_copy ((N, B, k, p), (c, rd, rl, ra), (hs, sl, sa, sc), tv, fl) (nI a1) i (nI b1) j m = ((-10) - nI 1, ((N, B, k, p), (c, rd, rl, ra), (hs, sl, sa, sc), tv, nI 1)) from (by simp only [m_copy, qa1, qb1, qh, reduceCtorEq, if_true, if_false, Bool.false_eq_true, ne_eq, not_true_eq_false, not_false_eq_true, and_true, true_and, and_false, false_and, or_true, true_or, or_false, false_or])]) rfl
      · have c42 := bN_0.mp c42
        have qh := hS.t ha1 c42
        refine j_aload C 0 dX7_copy_45 rfl ?_
        refine jx_S0  (As := []) (rest := []) hb1 C (c_X4_hasNothing (A 4 b1) (A 5 b1) (ln b1) (la b1) (cf b1) ) gX7_copy_X4_hasNothing rfl 0 rfl (by decide +kernel) (by decide) (Nat.le_of_ble_eq_true rfl) dX7_copy_47 rfl (fun _ _ => ?_)
        show J X (wX A cy (nI 0) dT (nI N, nI B, kf, pf, lf, tf) tT (nI c) df mf gf tv ln la cf) 50 [(7, .ref (A 4 b1)), (6, .ref (A 4 a1)), (0, .ref (A 3 0)), (1, .int (nI a1)), (2, .int i), (3, .int (nI b1)), (4, .int j), (5, .int m)] [.int (nI (bN (ln b1 = -1)))]
        refine j_if_eqN (tgt := 59) C dX7_copy_50 (by decide) (bN_lt _) (fun c50 => ?_) (fun c50 => ?_)
        · have c50 := bN_0.mp c50
          have qk := hS.t hb1 c50
          refine j_aload C 1 dX7_copy_59 rfl ?_
          refine j_aload C 0 dX7_copy_61 rfl ?_
          refine j_getN C mh3 2 (by decide +kernel) (52 + 2 * b1) (wX_sh (by omega)) rfl (by decide) rfl rfl dX7_copy_63 ?_
          refine jx_S0  (As := [.int (la b1)]) (rest := []) ha1 C (c_X4_isOfLane (A 4 a1) (A 5 a1) (ln a1) (la a1) (cf a1) (la b1)) gX7_copy_X4_isOfLane rfl 1 rfl (by decide +kernel) (by decide) (Nat.le_of_ble_eq_true rfl) dX7_copy_66 rfl (fun _ _ => ?_)
          show J X (wX A cy (nI 0) dT (nI N, nI B, kf, pf, lf, tf) tT (nI c) df mf gf tv ln la cf) 69 [(7, .ref (A 4 b1)), (6, .ref (A 4 a1)), (0, .ref (A 3 0)), (1, .int (nI a1)), (2, .int i), (3, .int (nI b1)), (4, .int j), (5, .int m)] [.int (nI (bN (ln a1 = -1 ∨ la a1 = la b1)))]
          refine j_if_neN (tgt := 78) C dX7_copy_69 (by decide) (bN_lt _) (fun c69 => ?_) (fun c69 => ?_)
          · have c69 := bN_1.mp c69
            have qa2 := hS.a2 ha1 qh
            have qb2 := hS.a2 hb1 qk
            have qv : sa a1 = sa b1 := by rcases c69 with z | z; exact absurd z c42; rw [hS.hla ha1 qh, hS.hla hb1 qk] at z; exact (nI_eq (by omega) (by omega)).mp z
            refine j_aload C 1 dX7_copy_78 rfl ?_
            refine j_iload_n C 4 dX7_copy_80 rfl rfl ?_
            refine j_iload C 7 dX7_copy_81 rfl ?_
            refine jx_S0  (As := [.int i, .int m]) (rest := []) ha1 C (c_X4_hasCells (A 4 a1) (A 5 a1) (ln a1) (la a1) (cf a1) (i) (m)) gX7_copy_X4_hasCells rfl 2 rfl (by decide +kernel) (by decide) (Nat.le_of_ble_eq_true rfl) dX7_copy_83 rfl (fun _ _ => ?_)
            show J X (wX A cy (nI 0) dT (nI N, nI B, kf, pf, lf, tf) tT (nI c) df mf gf tv ln la cf) 86 [(7, .ref (A 4 b1)), (6, .ref (A 4 a1)), (0, .ref (A 3 0)), (1, .int (nI a1)), (2, .int i), (3, .int (nI b1)), (4, .int j), (5, .int m)] [.int (nI (bN (¬ i < 0 ∧ ¬ ln a1 < i ∧ ¬ m < 0 ∧ ¬ ln a1 - i < m)))]
            refine j_if_eqN (tgt := 101) C dX7_copy_86 (by decide) (bN_lt _) (fun c86 => ?_) (fun c86 => ?_)
            · have c86 := bN_0.mp c86
              rw [hS.hln ha1 qh, cells_i (hS.l60 ha1 qh)] at c86
              refine j_aload_n C 2 dX7_copy_101 rfl rfl ?_
              refine j_iconst (v := nI 3) C dX7_copy_102 (by decide) ?_
              refine j_callV0 (As := [.int (nI 3)]) (rest := []) C (c_X7_faulted A (nI 0) dT tT N B kf pf lf tf c df mf gf tv ln la cf 3) gX7_copy_X7_faulted rfl 1 rfl (by decide +kernel) (by decide) 0 rfl rfl (Nat.le_of_ble_eq_true rfl) dX7_copy_103 rfl (fun _ _ => ?_)
              show J X (wX A cy (nI 3) dT (nI N, nI B, kf, pf, lf, tf) tT (nI c) df mf gf tv ln la cf) 106 [(7, .ref (A 4 b1)), (6, .ref (A 4 a1)), (0, .ref (A 3 0)), (1, .int (nI a1)), (2, .int i), (3, .int (nI b1)), (4, .int j), (5, .int m)] [.int ((-10) - nI 3)]
              exact j_iret C E dX7_copy_106 (nI 3, dT, (nI N, nI B, kf, pf, lf, tf), tT, nI c, df, mf, gf, tv, ln, la, cf) (by rw [show m_copy ((N, B, k, p), (c, rd, rl, ra), (hs, sl, sa, sc), tv, fl) (nI a1) i (nI b1) j m = ((-10) - nI 3, ((N, B, k, p), (c, rd, rl, ra), (hs, sl, sa, sc), tv, nI 3)) from (by simp only [m_copy, qa1, qb1, qh, qk, qv, c86, reduceCtorEq, if_true, if_false, Bool.false_eq_true, ne_eq, not_true_eq_false, not_false_eq_true, and_true, true_and, and_false, false_and, or_true, true_or, or_false, false_or])]; exact XI.mk hB hN2 hT hR hS) (by rw [show m_copy ((N, B, k, p), (c, rd, rl, ra), (hs, sl, sa, sc), tv, fl) (nI a1) i (nI b1) j m = ((-10) - nI 3, ((N, B, k, p), (c, rd, rl, ra), (hs, sl, sa, sc), tv, nI 3)) from (by simp only [m_copy, qa1, qb1, qh, qk, qv, c86, reduceCtorEq, if_true, if_false, Bool.false_eq_true, ne_eq, not_true_eq_false, not_false_eq_true, and_true, true_and, and_false, false_and, or_true, true_or, or_false, false_or])]) rfl
            · have c86 := bN_1.mp c86
              rw [hS.hln ha1 qh, cells_i (hS.l60 ha1 qh)] at c86
              refine j_aload C 0 dX7_copy_89 rfl ?_
              refine j_iload C 6 dX7_copy_91 rfl ?_
              refine j_iload C 7 dX7_copy_93 rfl ?_
              refine jx_S0  (As := [.int j, .int m]) (rest := []) hb1 C (c_X4_hasCells (A 4 b1) (A 5 b1) (ln b1) (la b1) (cf b1) (j) (m)) gX7_copy_X4_hasCells rfl 2 rfl (by decide +kernel) (by decide) (Nat.le_of_ble_eq_true rfl) dX7_copy_95 rfl (fun _ _ => ?_)
              show J X (wX A cy (nI 0) dT (nI N, nI B, kf, pf, lf, tf) tT (nI c) df mf gf tv ln la cf) 98 [(7, .ref (A 4 b1)), (6, .ref (A 4 a1)), (0, .ref (A 3 0)), (1, .int (nI a1)), (2, .int i), (3, .int (nI b1)), (4, .int j), (5, .int m)] [.int (nI (bN (¬ j < 0 ∧ ¬ ln b1 < j ∧ ¬ m < 0 ∧ ¬ ln b1 - j < m)))]
              refine j_if_neN (tgt := 107) C dX7_copy_98 (by decide) (bN_lt _) (fun c98 => ?_) (fun c98 => ?_)
              · have c98 := bN_1.mp c98
                rw [hS.hln hb1 qk, cells_i (hS.l60 hb1 qk)] at c98
                have p60 := hS.l60 ha1 qh
                have q60 := hS.l60 hb1 qk
                obtain ⟨i1, m1, hm1, rfl, rfl⟩ := cells_y p60 c86
                obtain ⟨j1, m2, hm2, rfl, em⟩ := cells_y q60 c98
                have em2 : m2 = m1 := ((nI_eq (by omega) (by omega)).mp em).symm
                subst em2
                have g1 := c86
                have g2 := c98
                have t1 := tC60 (m := i1) (by omega)
                have t2 := tC60 (m := j1) (by omega)
                have t3 := tC60 (m := m2) (by omega)
                show J X (wX A cy (nI 0) dT (nI N, nI B, kf, pf, lf, tf) tT (nI c) df mf gf tv ln la cf) 107 [(7, .ref (A 4 b1)), (6, .ref (A 4 a1)), (0, .ref (A 3 0)), (1, .int (nI a1)), (2, .int (nI i1)), (3, .int (nI b1)), (4, .int (nI j1)), (5, .int (nI m2))] []
                refine j_aload C 1 dX7_copy_107 rfl ?_
                refine j_getN C mh3 0 (by decide +kernel) (52 + 2 * a1) (wX_sh (by omega)) rfl (by decide) rfl rfl dX7_copy_109 ?_
                refine j_iload_n C 4 dX7_copy_112 rfl rfl ?_
                refine j_aload C 0 dX7_copy_113 rfl ?_
                refine j_getN C mh3 0 (by decide +kernel) (52 + 2 * b1) (wX_sh (by omega)) rfl (by decide) rfl rfl dX7_copy_115 ?_
                refine j_iload C 6 dX7_copy_118 rfl ?_
                refine j_iload C 7 dX7_copy_120 rfl ?_
                refine j_copyi (ws' := wX A cy (nI 0) dT (nI N, nI B, kf, pf, lf, tf) tT (nI c) df mf gf tv ln la (updR cf b1 (va_cpy (cf a1) (cf b1) i1 j1 m2))) C mh4 mh5 mh6 mh7 (53 + 2 * a1) (53 + 2 * b1) (wX_sc (by omega)) (wX_sc (by omega)) (by omega) (by omega) (by decide) (by decide) ⟨by decide, by decide⟩ (wX_scs (by omega)) dX7_copy_122 ?_
                refine j_iload C 7 dX7_copy_125 rfl ?_
                exact j_iret C E dX7_copy_127 (nI 0, dT, (nI N, nI B, kf, pf, lf, tf), tT, nI c, df, mf, gf, tv, ln, la, updR cf b1 (va_cpy (cf a1) (cf b1) i1 j1 m2)) (by rw [show m_copy ((N, B, k, p), (c, rd, rl, ra), (hs, sl, sa, sc), tv, fl) (nI a1) (nI i1) (nI b1) (nI j1) (nI m2) = (nI m2, ((N, B, k, p), (c, rd, rl, ra), (hs, sl, sa, updR sc b1 (va_cpy (sc a1) (sc b1) i1 j1 m2)), tv, nI 0)) from (by simp only [m_copy, qa1, qb1, qh, qk, qv, g1, g2, t1, t2, t3, reduceCtorEq, if_true, if_false, Bool.false_eq_true, ne_eq, not_true_eq_false, not_false_eq_true, and_true, true_and, and_false, false_and, or_true, true_or, or_false, false_or])]; exact XI.mk hB hN2 hT hR (hS.copy ha1 hb1 qh qk (by omega))) (by rw [show m_copy ((N, B, k, p), (c, rd, rl, ra), (hs, sl, sa, sc), tv, fl) (nI a1) (nI i1) (nI b1) (nI j1) (nI m2) = (nI m2, ((N, B, k, p), (c, rd, rl, ra), (hs, sl, sa, updR sc b1 (va_cpy (sc a1) (sc b1) i1 j1 m2)), tv, nI 0)) from (by simp only [m_copy, qa1, qb1, qh, qk, qv, g1, g2, t1, t2, t3, reduceCtorEq, if_true, if_false, Bool.false_eq_true, ne_eq, not_true_eq_false, not_false_eq_true, and_true, true_and, and_false, false_and, or_true, true_or, or_false, false_or])]) rfl
              · have c98 := bN_0.mp c98
                rw [hS.hln hb1 qk, cells_i (hS.l60 hb1 qk)] at c98
                refine j_aload_n C 2 dX7_copy_101 rfl rfl ?_
                refine j_iconst (v := nI 3) C dX7_copy_102 (by decide) ?_
                refine j_callV0 (As := [.int (nI 3)]) (rest := []) C (c_X7_faulted A (nI 0) dT tT N B kf pf lf tf c df mf gf tv ln la cf 3) gX7_copy_X7_faulted rfl 1 rfl (by decide +kernel) (by decide) 0 rfl rfl (Nat.le_of_ble_eq_true rfl) dX7_copy_103 rfl (fun _ _ => ?_)
                show J X (wX A cy (nI 3) dT (nI N, nI B, kf, pf, lf, tf) tT (nI c) df mf gf tv ln la cf) 106 [(7, .ref (A 4 b1)), (6, .ref (A 4 a1)), (0, .ref (A 3 0)), (1, .int (nI a1)), (2, .int i), (3, .int (nI b1)), (4, .int j), (5, .int m)] [.int ((-10) - nI 3)]
                exact j_iret C E dX7_copy_106 (nI 3, dT, (nI N, nI B, kf, pf, lf, tf), tT, nI c, df, mf, gf, tv, ln, la, cf) (by rw [show m_copy ((N, B, k, p), (c, rd, rl, ra), (hs, sl, sa, sc), tv, fl) (nI a1) i (nI b1) j m = ((-10) - nI 3, ((N, B, k, p), (c, rd, rl, ra), (hs, sl, sa, sc), tv, nI 3)) from (by simp only [m_copy, qa1, qb1, qh, qk, qv, c98, reduceCtorEq, if_true, if_false, Bool.false_eq_true, ne_eq, not_true_eq_false, not_false_eq_true, and_true, true_and, and_false, false_and, or_true, true_or, or_false, false_or])]; exact XI.mk hB hN2 hT hR hS) (by rw [show m_copy ((N, B, k, p), (c, rd, rl, ra), (hs, sl, sa, sc), tv, fl) (nI a1) i (nI b1) j m = ((-10) - nI 3, ((N, B, k, p), (c, rd, rl, ra), (hs, sl, sa, sc), tv, nI 3)) from (by simp only [m_copy, qa1, qb1, qh, qk, qv, c98, reduceCtorEq, if_true, if_false, Bool.false_eq_true, ne_eq, not_true_eq_false, not_false_eq_true, and_true, true_and, and_false, false_and, or_true, true_or, or_false, false_or])]) rfl
          · have c69 := bN_0.mp c69
            have qv : ¬ sa a1 = sa b1 := fun z => c69 (Or.inr (by rw [hS.hla ha1 qh, hS.hla hb1 qk, z]))
            refine j_aload_n C 2 dX7_copy_72 rfl rfl ?_
            refine j_iconst (v := nI 2) C dX7_copy_73 (by decide) ?_
            refine j_callV0 (As := [.int (nI 2)]) (rest := []) C (c_X7_faulted A (nI 0) dT tT N B kf pf lf tf c df mf gf tv ln la cf 2) gX7_copy_X7_faulted rfl 1 rfl (by decide +kernel) (by decide) 0 rfl rfl (Nat.le_of_ble_eq_true rfl) dX7_copy_74 rfl (fun _ _ => ?_)
            show J X (wX A cy (nI 2) dT (nI N, nI B, kf, pf, lf, tf) tT (nI c) df mf gf tv ln la cf) 77 [(7, .ref (A 4 b1)), (6, .ref (A 4 a1)), (0, .ref (A 3 0)), (1, .int (nI a1)), (2, .int i), (3, .int (nI b1)), (4, .int j), (5, .int m)] [.int ((-10) - nI 2)]
            exact j_iret C E dX7_copy_77 (nI 2, dT, (nI N, nI B, kf, pf, lf, tf), tT, nI c, df, mf, gf, tv, ln, la, cf) (by rw [show m_copy ((N, B, k, p), (c, rd, rl, ra), (hs, sl, sa, sc), tv, fl) (nI a1) i (nI b1) j m = ((-10) - nI 2, ((N, B, k, p), (c, rd, rl, ra), (hs, sl, sa, sc), tv, nI 2)) from (by simp only [m_copy, qa1, qb1, qh, qk, qv, reduceCtorEq, if_true, if_false, Bool.false_eq_true, ne_eq, not_true_eq_false, not_false_eq_true, and_true, true_and, and_false, false_and, or_true, true_or, or_false, false_or])]; exact XI.mk hB hN2 hT hR hS) (by rw [show m_copy ((N, B, k, p), (c, rd, rl, ra), (hs, sl, sa, sc), tv, fl) (nI a1) i (nI b1) j m = ((-10) - nI 2, ((N, B, k, p), (c, rd, rl, ra), (hs, sl, sa, sc), tv, nI 2)) from (by simp only [m_copy, qa1, qb1, qh, qk, qv, reduceCtorEq, if_true, if_false, Bool.false_eq_true, ne_eq, not_true_eq_false, not_false_eq_true, and_true, true_and, and_false, false_and, or_true, true_or, or_false, false_or])]) rfl
        · have c50 := bN_1.mp c50
          have qk := hS.f hb1 c50
          refine j_aload_n C 2 dX7_copy_53 rfl rfl ?_
          refine j_iconst (v := nI 1) C dX7_copy_54 (by decide) ?_
          refine j_callV0 (As := [.int (nI 1)]) (rest := []) C (c_X7_faulted A (nI 0) dT tT N B kf pf lf tf c df mf gf tv ln la cf 1) gX7_copy_X7_faulted rfl 1 rfl (by decide +kernel) (by decide) 0 rfl rfl (Nat.le_of_ble_eq_true rfl) dX7_copy_55 rfl (fun _ _ => ?_)
          show J X (wX A cy (nI 1) dT (nI N, nI B, kf, pf, lf, tf) tT (nI c) df mf gf tv ln la cf) 58 [(7, .ref (A 4 b1)), (6, .ref (A 4 a1)), (0, .ref (A 3 0)), (1, .int (nI a1)), (2, .int i), (3, .int (nI b1)), (4, .int j), (5, .int m)] [.int ((-10) - nI 1)]
          exact j_iret C E dX7_copy_58 (nI 1, dT, (nI N, nI B, kf, pf, lf, tf), tT, nI c, df, mf, gf, tv, ln, la, cf) (by rw [show m_copy ((N, B, k, p), (c, rd, rl, ra), (hs, sl, sa, sc), tv, fl) (nI a1) i (nI b1) j m = ((-10) - nI 1, ((N, B, k, p), (c, rd, rl, ra), (hs, sl, sa, sc), tv, nI 1)) from (by simp only [m_copy, qa1, qb1, qh, qk, reduceCtorEq, if_true, if_false, Bool.false_eq_true, ne_eq, not_true_eq_false, not_false_eq_true, and_true, true_and, and_false, false_and, or_true, true_or, or_false, false_or])]; exact XI.mk hB hN2 hT hR hS) (by rw [show m_copy ((N, B, k, p), (c, rd, rl, ra), (hs, sl, sa, sc), tv, fl) (nI a1) i (nI b1) j m = ((-10) - nI 1, ((N, B, k, p), (c, rd, rl, ra), (hs, sl, sa, sc), tv, nI 1)) from (by simp only [m_copy, qa1, qb1, qh, qk, reduceCtorEq, if_true, if_false, Bool.false_eq_true, ne_eq, not_true_eq_false, not_false_eq_true, and_true, true_and, and_false, false_and, or_true, true_or, or_false, false_or])]) rfl
    · have c16 := bN_0.mp c16
      have qb1 := pOf_n c16
      refine j_iconst (v := (-1)) C dX7_copy_19 (by decide) ?_
      exact j_iret C E dX7_copy_20 (nI 0, dT, (nI N, nI B, kf, pf, lf, tf), tT, nI c, df, mf, gf, tv, ln, la, cf) (by rw [show m_copy ((N, B, k, p), (c, rd, rl, ra), (hs, sl, sa, sc), tv, fl) (nI a1) i o j m = ((-1), ((N, B, k, p), (c, rd, rl, ra), (hs, sl, sa, sc), tv, nI 0)) from (by simp only [m_copy, qa1, qb1, reduceCtorEq, if_true, if_false, Bool.false_eq_true, ne_eq, not_true_eq_false, not_false_eq_true, and_true, true_and, and_false, false_and, or_true, true_or, or_false, false_or]; try rfl)]; exact XI.mk hB hN2 hT hR hS) (by rw [show m_copy ((N, B, k, p), (c, rd, rl, ra), (hs, sl, sa, sc), tv, fl) (nI a1) i o j m = ((-1), ((N, B, k, p), (c, rd, rl, ra), (hs, sl, sa, sc), tv, nI 0)) from (by simp only [m_copy, qa1, qb1, reduceCtorEq, if_true, if_false, Bool.false_eq_true, ne_eq, not_true_eq_false, not_false_eq_true, and_true, true_and, and_false, false_and, or_true, true_or, or_false, false_or]; try rfl)]) rfl
