set_option maxHeartbeats 4000000 in
set_option maxRecDepth 20000 in
theorem c_X8_dusks {l : Launch} {D : va_G} {cy : Nat → ClassId} (mm : Nat → Nat) (fl tv : Int32) (so sg ce : Nat → Int32) (N B : Nat) (kf pf : Nat → Int32) (vat vrm vrb : Int32) (rk rp lf tf kp : Nat → Int32) (c : Nat) (df mf gf : Nat → Int32) (k : Nat → Nat) (p : Nat → Nat → Nat) (rd rl : Nat → Nat) (ra : Nat → Option Nat) (hs : Nat → Bool) (sl sa : Nat → Nat) (sc : Nat → Nat → Int32) (hX : MI ((N, B, k, p), (c, rd, rl, ra), (hs, sl, sa, sc), tv, fl) (fl, tv, so, sg, ce, nI N, nI B, kf, pf, vat, vrm, vrb, rk, rp, lf, tf, kp, nI c, df, mf, gf)) (v : Int32)  : Ct l yX8_dusks wsX8_dusks ({ frames := 6, cells := 0, slots := 0, locals := 134 }) D cy [.ref (mm 0), .int v] (wM mm cy fl tv so sg ce (nI N) (nI B) kf pf vat vrm vrb rk rp lf tf kp (nI c) df mf gf) (fun u : MS => MI (m_dusks ((N, B, k, p), (c, rd, rl, ra), (hs, sl, sa, sc), tv, fl) v).2 u) (fun _ => some (.int (m_dusks ((N, B, k, p), (c, rd, rl, ra), (hs, sl, sa, sc), tv, fl) v).1)) (fun u => wMu mm cy u) := by
  refine Ct.of (cc := cX8_dusks) (nL := 3) (ret := (some .int)) rfl (by decide) ⟨rfl, rfl⟩ (Nat.le_of_ble_eq_true rfl) ?_
  intro X C E
  have C : Cx X l D cy cX8_dusks 3 wsX8_dusks RX8 ({ frames := 6, cells := 0, slots := 0, locals := 134 }) := C
  have mh0 : ∀ w ∈ u_ws RX8 TX8 21, w ∈ wsX8_dusks := by decide +kernel
  have mh1 : Cond.fieldLink RX8 60 RX8 (TX8 5).2.1 (TX8 5).2.2.1 ∈ wsX8_dusks := by decide +kernel
  obtain ⟨-, ⟨hB, hN2⟩, hT, hR, hS⟩ := hX
  have hN := hT.n
  have hc8 := hR.1
  have hN30 : N ≤ 2 ^ 30 := by omega
  show J X (wM mm cy fl tv so sg ce (nI N) (nI B) kf pf vat vrm vrb rk rp lf tf kp (nI c) df mf gf) 0 [(0, .ref (mm 0)), (1, .int v)] []
  refine j_iload_n C 1 dX8_dusks_0 rfl rfl ?_
  refine j_iconst (v := nI 0) C dX8_dusks_1 (by decide) ?_
  refine j_bipush (v := nI 60) C dX8_dusks_2 (by decide) ?_
  refine j_callP (As := [.int v, .int (nI 0), .int (nI 60)]) (rest := []) C (c_X8_withinP (v) 60 (by omega)) gX8_dusks_X8_within rfl 3 rfl (by decide +kernel) (by decide) (Nat.le_of_ble_eq_true rfl) dX8_dusks_4 rfl (fun _ _ => ?_)
  show J X (wM mm cy fl tv so sg ce (nI N) (nI B) kf pf vat vrm vrb rk rp lf tf kp (nI c) df mf gf) 7 [(0, .ref (mm 0)), (1, .int v)] [.int (nI (bN ((pOf 61 (v)).isSome = true)))]
  refine j_if_neN (tgt := 13) C dX8_dusks_7 (by decide) (bN_lt _) (fun c7 => ?_) (fun c7 => ?_)
  · have c7 := bN_1.mp c7
    obtain ⟨m1, hm1, rfl⟩ := pY (by decide) c7
    have qm1 := pI hm1 (by decide)
    show J X (wM mm cy fl tv so sg ce (nI N) (nI B) kf pf vat vrm vrb rk rp lf tf kp (nI c) df mf gf) 13 [(0, .ref (mm 0)), (1, .int (nI m1))] []
    refine j_aload_n C 0 dX8_dusks_13 rfl rfl ?_
    refine j_get C mh0 5 mh1 0 rfl rfl (by decide) rfl rfl dX8_dusks_14 ?_
    refine j_if_neN (tgt := 23) C dX8_dusks_17 (by decide) (by omega) (fun c17 => ?_) (fun c17 => ?_)
    · refine j_iconst (v := nI 0) C dX8_dusks_23 (by decide) ?_
      refine j_istore_n (lv' := [(2, .int (nI 0)), (0, .ref (mm 0)), (1, .int (nI m1))]) C dX8_dusks_24 rfl (by decide) rfl ?_
      refine J.sub [1, 2, 0] rfl ?_
      have L25 : ∀ (n : Nat) (i : Nat) (pf1 lf1 tf1 : Nat → Int32), m1 - i < n → i ≤ m1 → Ag N k (dks N B k i p) kf (PF pf1) → J X (wM mm cy fl tv so sg ce (nI N) (nI B) kf pf1 vat vrm vrb rk rp lf1 tf1 kp (nI c) df mf gf) 25 [(0, .ref (mm 0)), (1, .int (nI m1)), (2, .int (nI i))] [] := by
        intro n
        induction n with
        | zero => intro i pf1 lf1 tf1 hm; exact absurd hm (Nat.not_lt_zero _)
        | succ n ih25 =>
          intro i pf1 lf1 tf1 h25_0 h25_1 h25_2
          refine j_iload_n C 2 dX8_dusks_25 rfl rfl ?_
          refine j_iload_n C 1 dX8_dusks_26 rfl rfl ?_
          refine j_icmp_geN (tgt := 40) C dX8_dusks_27 (by decide) (by omega) (by omega) (fun c27 => ?_) (fun c27 => ?_)
          · have e1 : i = m1 := by omega
            refine j_aload_n C 0 dX8_dusks_40 rfl rfl ?_
            refine j_callV0 (As := []) (rest := []) C (c_X8_lit mm fl tv so sg ce N B kf pf1 vat vrm vrb rk rp lf1 tf1 kp c df mf gf k (dks N B k i p) h25_2 ) gX8_dusks_X8_lit rfl 0 rfl (by decide +kernel) (by decide) 0 rfl rfl (Nat.le_of_ble_eq_true rfl) dX8_dusks_41 rfl (fun _ _ => ?_)
            have hlit := litS_lt (k := k) (p := dks N B k i p) hN
            show J X (wM mm cy fl tv so sg ce (nI N) (nI B) kf pf1 vat vrm vrb rk rp lf1 tf1 kp (nI c) df mf gf) 44 [(0, .ref (mm 0)), (1, .int (nI m1)), (2, .int (nI i))] [.int (nI (litS N k (dks N B k i p)))]
            exact j_iret C E dX8_dusks_44 (fl, tv, so, sg, ce, nI N, nI B, kf, pf1, vat, vrm, vrb, rk, rp, lf1, tf1, kp, nI c, df, mf, gf) (by rw [show m_dusks ((N, B, k, p), (c, rd, rl, ra), (hs, sl, sa, sc), tv, fl) (nI m1) = (nI (litS N k (dks N B k i p)), ((N, B, k, dks N B k i p), (c, rd, rl, ra), (hs, sl, sa, sc), tv, fl)) from (by simp only [m_dusks, qm1, c17, if_false, e1]; try rfl)]; exact MI.mk hB hN2 h25_2 hR hS) (by rw [show m_dusks ((N, B, k, p), (c, rd, rl, ra), (hs, sl, sa, sc), tv, fl) (nI m1) = (nI (litS N k (dks N B k i p)), ((N, B, k, dks N B k i p), (c, rd, rl, ra), (hs, sl, sa, sc), tv, fl)) from (by simp only [m_dusks, qm1, c17, if_false, e1]; try rfl)]) rfl
          · refine j_aload_n C 0 dX8_dusks_30 rfl rfl ?_
            refine j_callV0 (As := []) (rest := []) C (c_X8_goDusk mm fl tv so sg ce N B kf pf1 vat vrm vrb rk rp lf1 tf1 kp c df mf gf k (dks N B k i p) h25_2 hB) gX8_dusks_X8_goDusk rfl 0 rfl (by decide +kernel) (by decide) 0 rfl rfl (Nat.le_of_ble_eq_true rfl) dX8_dusks_31 rfl (fun _ _ => ?_)
            show J X (wM mm cy fl tv so sg ce (nI N) (nI B) kf (pfM N B k (dks N B k i p) pf1 N) vat vrm vrb rk rp (fil (lgF N k (dks N B k i p)) lf1 N) (fil (tI N B k (dks N B k i p)) tf1 N) kp (nI c) df mf gf) 34 [(0, .ref (mm 0)), (1, .int (nI m1)), (2, .int (nI i))] []
            refine j_iinc (v := nI (i + 1)) (lv' := [(2, .int (nI (i + 1))), (0, .ref (mm 0)), (1, .int (nI m1))]) C 2 dX8_dusks_34 rfl (nI_inc i) (by decide) rfl ?_
            refine j_goto (tgt := 25) C dX8_dusks_37 (by decide) ?_
            refine J.sub [1, 2, 0] rfl ?_
            have e := ih25 (i + 1) (pfM N B k (dks N B k i p) pf1 N) (fil (lgF N k (dks N B k i p)) lf1 N) (fil (tI N B k (dks N B k i p)) tf1 N) (by omega) (by omega) (ag_dkM h25_2)
            exact e
      have e := L25 (m1 + 1) 0 pf lf tf (by omega) (by omega) hT
      exact e
    · have c17 : N = 0 := by omega
      refine j_bipush (v := (-3)) C dX8_dusks_20 (by decide) ?_
      exact j_iret C E dX8_dusks_22 (fl, tv, so, sg, ce, nI N, nI B, kf, pf, vat, vrm, vrb, rk, rp, lf, tf, kp, nI c, df, mf, gf) (by rw [show m_dusks ((N, B, k, p), (c, rd, rl, ra), (hs, sl, sa, sc), tv, fl) (nI m1) = ((-3), ((N, B, k, p), (c, rd, rl, ra), (hs, sl, sa, sc), tv, fl)) from (by simp only [m_dusks, qm1, c17, if_true]; try rfl)]; exact MI.mk hB hN2 hT hR hS) (by rw [show m_dusks ((N, B, k, p), (c, rd, rl, ra), (hs, sl, sa, sc), tv, fl) (nI m1) = ((-3), ((N, B, k, p), (c, rd, rl, ra), (hs, sl, sa, sc), tv, fl)) from (by simp only [m_dusks, qm1, c17, if_true]; try rfl)]) rfl
  · have c7 := bN_0.mp c7
    have qm1 := pOf_n c7
    refine j_bipush (v := (-2)) C dX8_dusks_10 (by decide) ?_
    exact j_iret C E dX8_dusks_12 (fl, tv, so, sg, ce, nI N, nI B, kf, pf, vat, vrm, vrb, rk, rp, lf, tf, kp, nI c, df, mf, gf) (by rw [show m_dusks ((N, B, k, p), (c, rd, rl, ra), (hs, sl, sa, sc), tv, fl) v = ((-2), ((N, B, k, p), (c, rd, rl, ra), (hs, sl, sa, sc), tv, fl)) from (by simp only [m_dusks, qm1]; try rfl)]; exact MI.mk hB hN2 hT hR hS) (by rw [show m_dusks ((N, B, k, p), (c, rd, rl, ra), (hs, sl, sa, sc), tv, fl) v = ((-2), ((N, B, k, p), (c, rd, rl, ra), (hs, sl, sa, sc), tv, fl)) from (by simp only [m_dusks, qm1]; try rfl)]) rfl
set_option maxHeartbeats 4000000 in
set_option maxRecDepth 20000 in
theorem c_X8_later {l : Launch} {D : va_G} {cy : Nat → ClassId} (mm : Nat → Nat) (fl tv : Int32) (so sg ce : Nat → Int32) (N B : Nat) (kf pf : Nat → Int32) (vat vrm vrb : Int32) (rk rp lf tf kp : Nat → Int32) (c : Nat) (df mf gf : Nat → Int32) (k : Nat → Nat) (p : Nat → Nat → Nat) (rd rl : Nat → Nat) (ra : Nat → Option Nat) (hs : Nat → Bool) (sl sa : Nat → Nat) (sc : Nat → Nat → Int32) (hX : MI ((N, B, k, p), (c, rd, rl, ra), (hs, sl, sa, sc), tv, fl) (fl, tv, so, sg, ce, nI N, nI B, kf, pf, vat, vrm, vrb, rk, rp, lf, tf, kp, nI c, df, mf, gf)) (x v : Int32)  : Ct l yX8_later wsX8_later ({ frames := 6, cells := 0, slots := 0, locals := 134 }) D cy [.ref (mm 0), .int x, .int v] (wM mm cy fl tv so sg ce (nI N) (nI B) kf pf vat vrm vrb rk rp lf tf kp (nI c) df mf gf) (fun u : MS => MI (m_later ((N, B, k, p), (c, rd, rl, ra), (hs, sl, sa, sc), tv, fl) x v).2 u) (fun _ => some (.int (m_later ((N, B, k, p), (c, rd, rl, ra), (hs, sl, sa, sc), tv, fl) x v).1)) (fun u => wMu mm cy u) := by
  refine Ct.of (cc := cX8_later) (nL := 4) (ret := (some .int)) rfl (by decide) ⟨rfl, rfl⟩ (Nat.le_of_ble_eq_true rfl) ?_
  intro X C E
  have C : Cx X l D cy cX8_later 4 wsX8_later RX8 ({ frames := 6, cells := 0, slots := 0, locals := 134 }) := C
  obtain ⟨-, ⟨hB, hN2⟩, hT, hR, hS⟩ := hX
  have hN := hT.n
  have hc8 := hR.1
  have hN30 : N ≤ 2 ^ 30 := by omega
  show J X (wM mm cy fl tv so sg ce (nI N) (nI B) kf pf vat vrm vrb rk rp lf tf kp (nI c) df mf gf) 0 [(0, .ref (mm 0)), (1, .int x), (2, .int v)] []
  refine j_aload_n C 0 dX8_later_0 rfl rfl ?_
  refine j_iload_n C 1 dX8_later_1 rfl rfl ?_
  refine j_callV0 (As := [.int x]) (rest := []) C (c_X8_isPerson mm fl tv so sg ce N B kf pf vat vrm vrb rk rp lf tf kp c df mf gf (x) hN) gX8_later_X8_isPerson rfl 1 rfl (by decide +kernel) (by decide) 0 rfl rfl (Nat.le_of_ble_eq_true rfl) dX8_later_2 rfl (fun _ _ => ?_)
  show J X (wM mm cy fl tv so sg ce (nI N) (nI B) kf pf vat vrm vrb rk rp lf tf kp (nI c) df mf gf) 5 [(0, .ref (mm 0)), (1, .int x), (2, .int v)] [.int (nI (bN ((pOf N (x)).isSome = true)))]
  refine j_if_neN (tgt := 10) C dX8_later_5 (by decide) (bN_lt _) (fun c5 => ?_) (fun c5 => ?_)
  · have c5 := bN_1.mp c5
    obtain ⟨b1, hb1, rfl⟩ := pY hN30 c5
    have qb1 := pI hb1 hN30
    show J X (wM mm cy fl tv so sg ce (nI N) (nI B) kf pf vat vrm vrb rk rp lf tf kp (nI c) df mf gf) 10 [(0, .ref (mm 0)), (1, .int (nI b1)), (2, .int v)] []
    refine j_iload_n C 2 dX8_later_10 rfl rfl ?_
    refine j_iconst (v := nI 0) C dX8_later_11 (by decide) ?_
    refine j_bipush (v := nI 60) C dX8_later_12 (by decide) ?_
    refine j_callP (As := [.int v, .int (nI 0), .int (nI 60)]) (rest := []) C (c_X8_withinP (v) 60 (by omega)) gX8_later_X8_within rfl 3 rfl (by decide +kernel) (by decide) (Nat.le_of_ble_eq_true rfl) dX8_later_14 rfl (fun _ _ => ?_)
    show J X (wM mm cy fl tv so sg ce (nI N) (nI B) kf pf vat vrm vrb rk rp lf tf kp (nI c) df mf gf) 17 [(0, .ref (mm 0)), (1, .int (nI b1)), (2, .int v)] [.int (nI (bN ((pOf 61 (v)).isSome = true)))]
    refine j_if_neN (tgt := 23) C dX8_later_17 (by decide) (bN_lt _) (fun c17 => ?_) (fun c17 => ?_)
    · have c17 := bN_1.mp c17
      obtain ⟨m1, hm1, rfl⟩ := pY (by decide) c17
      have qm1 := pI hm1 (by decide)
      show J X (wM mm cy fl tv so sg ce (nI N) (nI B) kf pf vat vrm vrb rk rp lf tf kp (nI c) df mf gf) 23 [(0, .ref (mm 0)), (1, .int (nI b1)), (2, .int (nI m1))] []
      refine j_aload_n C 0 dX8_later_23 rfl rfl ?_
      refine j_callV0 (As := []) (rest := []) C (c_X8_keep mm fl tv so sg ce N B kf pf vat vrm vrb rk rp lf tf kp c df mf gf ) gX8_later_X8_keep rfl 0 rfl (by decide +kernel) (by decide) 0 rfl rfl (Nat.le_of_ble_eq_true rfl) dX8_later_24 rfl (fun _ _ => ?_)
      show J X (wM mm cy fl tv so sg ce (nI N) (nI B) kf pf vat vrm vrb rk rp lf tf (fil pf kp 36) (nI c) df mf gf) 27 [(0, .ref (mm 0)), (1, .int (nI b1)), (2, .int (nI m1))] []
      refine j_iconst (v := nI 0) C dX8_later_27 (by decide) ?_
      refine j_istore_n (lv' := [(3, .int (nI 0)), (0, .ref (mm 0)), (1, .int (nI b1)), (2, .int (nI m1))]) C dX8_later_28 rfl (by decide) rfl ?_
      refine J.sub [1, 2, 3, 0] rfl ?_
      have L29 : ∀ (n : Nat) (i : Nat) (pf1 lf1 tf1 : Nat → Int32), m1 - i < n → i ≤ m1 → Ag N k (dks N B k i p) kf (PF pf1) → J X (wM mm cy fl tv so sg ce (nI N) (nI B) kf pf1 vat vrm vrb rk rp lf1 tf1 (fil pf kp 36) (nI c) df mf gf) 29 [(0, .ref (mm 0)), (1, .int (nI b1)), (2, .int (nI m1)), (3, .int (nI i))] [] := by
        intro n
        induction n with
        | zero => intro i pf1 lf1 tf1 hm; exact absurd hm (Nat.not_lt_zero _)
        | succ n ih29 =>
          intro i pf1 lf1 tf1 h29_0 h29_1 h29_2
          refine j_iload_n C 3 dX8_later_29 rfl rfl ?_
          refine j_iload_n C 2 dX8_later_30 rfl rfl ?_
          refine j_icmp_geN (tgt := 44) C dX8_later_31 (by decide) (by omega) (by omega) (fun c31 => ?_) (fun c31 => ?_)
          · have e1 : i = m1 := by omega
            refine j_aload_n C 0 dX8_later_44 rfl rfl ?_
            refine j_iload_n C 1 dX8_later_45 rfl rfl ?_
            refine j_callV0 (As := [.int (nI b1)]) (rest := []) C (c_X8_lighterOf mm fl tv so sg ce N B kf pf1 vat vrm vrb rk rp lf1 tf1 (fil pf kp 36) c df mf gf k (dks N B k i p) h29_2 b1 (by omega)) gX8_later_X8_lighterOf rfl 1 rfl (by decide +kernel) (by decide) 0 rfl rfl (Nat.le_of_ble_eq_true rfl) dX8_later_46 rfl (fun _ _ => ?_)
            show J X (wM mm cy fl tv so sg ce (nI N) (nI B) kf pf1 vat vrm vrb rk rp lf1 tf1 (fil pf kp 36) (nI c) df mf gf) 49 [(0, .ref (mm 0)), (1, .int (nI b1)), (2, .int (nI m1)), (3, .int (nI i))] [.int (lI (lg N k (dks N B k i p) b1))]
            refine j_istore_n (lv' := [(3, .int (lI (lg N k (dks N B k i p) b1))), (0, .ref (mm 0)), (1, .int (nI b1)), (2, .int (nI m1))]) C dX8_later_49 rfl (by decide) rfl ?_
            refine j_aload_n C 1 dX8_later_50 rfl rfl ?_
            refine j_callV0 (As := []) (rest := []) C (c_X8_restore mm fl tv so sg ce N B kf pf1 vat vrm vrb rk rp lf1 tf1 (fil pf kp 36) c df mf gf ) gX8_later_X8_restore rfl 0 rfl (by decide +kernel) (by decide) 0 rfl rfl (Nat.le_of_ble_eq_true rfl) dX8_later_51 rfl (fun _ _ => ?_)
            show J X (wM mm cy fl tv so sg ce (nI N) (nI B) kf (fil (fil pf kp 36) pf1 36) vat vrm vrb rk rp lf1 tf1 (fil pf kp 36) (nI c) df mf gf) 54 [(3, .int (lI (lg N k (dks N B k i p) b1))), (0, .ref (mm 0)), (1, .int (nI b1)), (2, .int (nI m1))] []
            refine j_iload_n C 0 dX8_later_54 rfl rfl ?_
            exact j_iret C E dX8_later_55 (fl, tv, so, sg, ce, nI N, nI B, kf, fil (fil pf kp 36) pf1 36, vat, vrm, vrb, rk, rp, lf1, tf1, fil pf kp 36, nI c, df, mf, gf) (by rw [show m_later ((N, B, k, p), (c, rd, rl, ra), (hs, sl, sa, sc), tv, fl) (nI b1) (nI m1) = (lI (lg N k (dks N B k i p) b1), ((N, B, k, p), (c, rd, rl, ra), (hs, sl, sa, sc), tv, fl)) from (by simp only [m_later, qb1, qm1, e1]; try rfl)]; exact MI.mk hB hN2 hT.rs hR hS) (by rw [show m_later ((N, B, k, p), (c, rd, rl, ra), (hs, sl, sa, sc), tv, fl) (nI b1) (nI m1) = (lI (lg N k (dks N B k i p) b1), ((N, B, k, p), (c, rd, rl, ra), (hs, sl, sa, sc), tv, fl)) from (by simp only [m_later, qb1, qm1, e1]; try rfl)]) rfl
          · refine j_aload_n C 0 dX8_later_34 rfl rfl ?_
            refine j_callV0 (As := []) (rest := []) C (c_X8_goDusk mm fl tv so sg ce N B kf pf1 vat vrm vrb rk rp lf1 tf1 (fil pf kp 36) c df mf gf k (dks N B k i p) h29_2 hB) gX8_later_X8_goDusk rfl 0 rfl (by decide +kernel) (by decide) 0 rfl rfl (Nat.le_of_ble_eq_true rfl) dX8_later_35 rfl (fun _ _ => ?_)
            show J X (wM mm cy fl tv so sg ce (nI N) (nI B) kf (pfM N B k (dks N B k i p) pf1 N) vat vrm vrb rk rp (fil (lgF N k (dks N B k i p)) lf1 N) (fil (tI N B k (dks N B k i p)) tf1 N) (fil pf kp 36) (nI c) df mf gf) 38 [(0, .ref (mm 0)), (1, .int (nI b1)), (2, .int (nI m1)), (3, .int (nI i))] []
            refine j_iinc (v := nI (i + 1)) (lv' := [(3, .int (nI (i + 1))), (0, .ref (mm 0)), (1, .int (nI b1)), (2, .int (nI m1))]) C 3 dX8_later_38 rfl (nI_inc i) (by decide) rfl ?_
            refine j_goto (tgt := 29) C dX8_later_41 (by decide) ?_
            refine J.sub [1, 2, 3, 0] rfl ?_
            have e := ih29 (i + 1) (pfM N B k (dks N B k i p) pf1 N) (fil (lgF N k (dks N B k i p)) lf1 N) (fil (tI N B k (dks N B k i p)) tf1 N) (by omega) (by omega) (ag_dkM h29_2)
            exact e
      have e := L29 (m1 + 1) 0 pf lf tf (by omega) (by omega) hT
      exact e
    · have c17 := bN_0.mp c17
      have qm1 := pOf_n c17
      refine j_bipush (v := (-2)) C dX8_later_20 (by decide) ?_
      exact j_iret C E dX8_later_22 (fl, tv, so, sg, ce, nI N, nI B, kf, pf, vat, vrm, vrb, rk, rp, lf, tf, kp, nI c, df, mf, gf) (by rw [show m_later ((N, B, k, p), (c, rd, rl, ra), (hs, sl, sa, sc), tv, fl) (nI b1) v = ((-2), ((N, B, k, p), (c, rd, rl, ra), (hs, sl, sa, sc), tv, fl)) from (by simp only [m_later, qb1, qm1]; try rfl)]; exact MI.mk hB hN2 hT hR hS) (by rw [show m_later ((N, B, k, p), (c, rd, rl, ra), (hs, sl, sa, sc), tv, fl) (nI b1) v = ((-2), ((N, B, k, p), (c, rd, rl, ra), (hs, sl, sa, sc), tv, fl)) from (by simp only [m_later, qb1, qm1]; try rfl)]) rfl
  · have c5 := bN_0.mp c5
    have qb1 := pOf_n c5
    refine j_iconst (v := (-1)) C dX8_later_8 (by decide) ?_
    exact j_iret C E dX8_later_9 (fl, tv, so, sg, ce, nI N, nI B, kf, pf, vat, vrm, vrb, rk, rp, lf, tf, kp, nI c, df, mf, gf) (by rw [show m_later ((N, B, k, p), (c, rd, rl, ra), (hs, sl, sa, sc), tv, fl) x v = ((-1), ((N, B, k, p), (c, rd, rl, ra), (hs, sl, sa, sc), tv, fl)) from (by simp only [m_later, qb1]; try rfl)]; exact MI.mk hB hN2 hT hR hS) (by rw [show m_later ((N, B, k, p), (c, rd, rl, ra), (hs, sl, sa, sc), tv, fl) x v = ((-1), ((N, B, k, p), (c, rd, rl, ra), (hs, sl, sa, sc), tv, fl)) from (by simp only [m_later, qb1]; try rfl)]) rfl
set_option maxHeartbeats 4000000 in
set_option maxRecDepth 20000 in
theorem c_X8_dark {l : Launch} {D : va_G} {cy : Nat → ClassId} (mm : Nat → Nat) (fl tv : Int32) (so sg ce : Nat → Int32) (N B : Nat) (kf pf : Nat → Int32) (vat vrm vrb : Int32) (rk rp lf tf kp : Nat → Int32) (c : Nat) (df mf gf : Nat → Int32) (k : Nat → Nat) (p : Nat → Nat → Nat) (rd rl : Nat → Nat) (ra : Nat → Option Nat) (hs : Nat → Bool) (sl sa : Nat → Nat) (sc : Nat → Nat → Int32) (hX : MI ((N, B, k, p), (c, rd, rl, ra), (hs, sl, sa, sc), tv, fl) (fl, tv, so, sg, ce, nI N, nI B, kf, pf, vat, vrm, vrb, rk, rp, lf, tf, kp, nI c, df, mf, gf))  : Ct l yX8_dark wsX8_dark ({ frames := 6, cells := 0, slots := 0, locals := 134 }) D cy [.ref (mm 0)] (wM mm cy fl tv so sg ce (nI N) (nI B) kf pf vat vrm vrb rk rp lf tf kp (nI c) df mf gf) (fun u : MS => MI (m_dark ((N, B, k, p), (c, rd, rl, ra), (hs, sl, sa, sc), tv, fl)).2 u) (fun _ => some (.int (m_dark ((N, B, k, p), (c, rd, rl, ra), (hs, sl, sa, sc), tv, fl)).1)) (fun u => wMu mm cy u) := by
  refine Ct.of (cc := cX8_dark) (nL := 2) (ret := (some .int)) rfl (by decide) ⟨rfl, rfl⟩ (Nat.le_of_ble_eq_true rfl) ?_
  intro X C E
  have C : Cx X l D cy cX8_dark 2 wsX8_dark RX8 ({ frames := 6, cells := 0, slots := 0, locals := 134 }) := C
  have mh0 : ∀ w ∈ u_ws RX8 TX8 21, w ∈ wsX8_dark := by decide +kernel
  have mh1 : Cond.fieldLink RX8 60 RX8 (TX8 5).2.1 (TX8 5).2.2.1 ∈ wsX8_dark := by decide +kernel
  obtain ⟨-, ⟨hB, hN2⟩, hT, hR, hS⟩ := hX
  have hN := hT.n
  have hc8 := hR.1
  have hN30 : N ≤ 2 ^ 30 := by omega
  show J X (wM mm cy fl tv so sg ce (nI N) (nI B) kf pf vat vrm vrb rk rp lf tf kp (nI c) df mf gf) 0 [(0, .ref (mm 0))] []
  refine j_aload_n C 0 dX8_dark_0 rfl rfl ?_
  refine j_get C mh0 5 mh1 0 rfl rfl (by decide) rfl rfl dX8_dark_1 ?_
  refine j_if_neN (tgt := 10) C dX8_dark_4 (by decide) (by omega) (fun c4 => ?_) (fun c4 => ?_)
  · refine j_aload_n C 0 dX8_dark_10 rfl rfl ?_
    refine j_callV0 (As := []) (rest := []) C (c_X8_keep mm fl tv so sg ce N B kf pf vat vrm vrb rk rp lf tf kp c df mf gf ) gX8_dark_X8_keep rfl 0 rfl (by decide +kernel) (by decide) 0 rfl rfl (Nat.le_of_ble_eq_true rfl) dX8_dark_11 rfl (fun _ _ => ?_)
    show J X (wM mm cy fl tv so sg ce (nI N) (nI B) kf pf vat vrm vrb rk rp lf tf (fil pf kp 36) (nI c) df mf gf) 14 [(0, .ref (mm 0))] []
    refine j_iconst (v := nI 0) C dX8_dark_14 (by decide) ?_
    refine j_istore_n (lv' := [(1, .int (nI 0)), (0, .ref (mm 0))]) C dX8_dark_15 rfl (by decide) rfl ?_
    refine J.sub [1, 0] rfl ?_
    have L16 : ∀ (n : Nat) (i : Nat) (pf1 lf1 tf1 : Nat → Int32), 61 - i < n → i ≤ 61 → Ag N k (dks N B k i p) kf (PF pf1) → (∀ t, t < i → litB N B k p t = true) → J X (wM mm cy fl tv so sg ce (nI N) (nI B) kf pf1 vat vrm vrb rk rp lf1 tf1 (fil pf kp 36) (nI c) df mf gf) 16 [(0, .ref (mm 0)), (1, .int (nI i))] [] := by
      intro n
      induction n with
      | zero => intro i pf1 lf1 tf1 hm; exact absurd hm (Nat.not_lt_zero _)
      | succ n ih16 =>
        intro i pf1 lf1 tf1 h16_0 h16_1 h16_2 h16_3
        refine j_iload_n C 1 dX8_dark_16 rfl rfl ?_
        refine j_bipush (v := nI 60) C dX8_dark_17 (by decide) ?_
        refine j_icmp_gtN (tgt := 39) C dX8_dark_19 (by decide) (by omega) (by omega) (fun c19 => ?_) (fun c19 => ?_)
        · have e2 : ffs (litB N B k p) 61 = 61 := by rw [show i = 61 by omega] at h16_3; exact ffs_all h16_3
          refine j_aload_n C 0 dX8_dark_39 rfl rfl ?_
          refine j_callV0 (As := []) (rest := []) C (c_X8_restore mm fl tv so sg ce N B kf pf1 vat vrm vrb rk rp lf1 tf1 (fil pf kp 36) c df mf gf ) gX8_dark_X8_restore rfl 0 rfl (by decide +kernel) (by decide) 0 rfl rfl (Nat.le_of_ble_eq_true rfl) dX8_dark_40 rfl (fun _ _ => ?_)
          show J X (wM mm cy fl tv so sg ce (nI N) (nI B) kf (fil (fil pf kp 36) pf1 36) vat vrm vrb rk rp lf1 tf1 (fil pf kp 36) (nI c) df mf gf) 43 [(0, .ref (mm 0)), (1, .int (nI i))] []
          refine j_iload_n C 1 dX8_dark_43 rfl rfl ?_
          refine j_bipush (v := nI 60) C dX8_dark_44 (by decide) ?_
          refine j_icmp_leN (tgt := 54) C dX8_dark_46 (by decide) (by omega) (by omega) (fun c46 => ?_) (fun c46 => ?_)
          · refine j_iload_n C 1 dX8_dark_54 rfl rfl ?_
            exact j_iret C E dX8_dark_55 (fl, tv, so, sg, ce, nI N, nI B, kf, fil (fil pf kp 36) pf1 36, vat, vrm, vrb, rk, rp, lf1, tf1, fil pf kp 36, nI c, df, mf, gf) (by rw [show m_dark ((N, B, k, p), (c, rd, rl, ra), (hs, sl, sa, sc), tv, fl) = (nI i, ((N, B, k, p), (c, rd, rl, ra), (hs, sl, sa, sc), tv, fl)) from (by first | exact absurd c46 (by omega) | (simp only [m_dark, c4, e2, if_false, e3, if_true]; done) | (simp only [m_dark, c4, e2, if_false]; rfl))]; exact MI.mk hB hN2 hT.rs hR hS) (by rw [show m_dark ((N, B, k, p), (c, rd, rl, ra), (hs, sl, sa, sc), tv, fl) = (nI i, ((N, B, k, p), (c, rd, rl, ra), (hs, sl, sa, sc), tv, fl)) from (by first | exact absurd c46 (by omega) | (simp only [m_dark, c4, e2, if_false, e3, if_true]; done) | (simp only [m_dark, c4, e2, if_false]; rfl))]) rfl
          · refine j_bipush (v := (-9)) C dX8_dark_49 (by decide) ?_
            refine j_goto (tgt := 55) C dX8_dark_51 (by decide) ?_
            exact j_iret C E dX8_dark_55 (fl, tv, so, sg, ce, nI N, nI B, kf, fil (fil pf kp 36) pf1 36, vat, vrm, vrb, rk, rp, lf1, tf1, fil pf kp 36, nI c, df, mf, gf) (by rw [show m_dark ((N, B, k, p), (c, rd, rl, ra), (hs, sl, sa, sc), tv, fl) = ((-9), ((N, B, k, p), (c, rd, rl, ra), (hs, sl, sa, sc), tv, fl)) from (by first | exact absurd c46 (by omega) | (simp only [m_dark, c4, e2, if_false, e3, if_true]; done) | (simp only [m_dark, c4, e2, if_false]; rfl))]; exact MI.mk hB hN2 hT.rs hR hS) (by rw [show m_dark ((N, B, k, p), (c, rd, rl, ra), (hs, sl, sa, sc), tv, fl) = ((-9), ((N, B, k, p), (c, rd, rl, ra), (hs, sl, sa, sc), tv, fl)) from (by first | exact absurd c46 (by omega) | (simp only [m_dark, c4, e2, if_false, e3, if_true]; done) | (simp only [m_dark, c4, e2, if_false]; rfl))]) rfl
        · refine j_aload_n C 0 dX8_dark_22 rfl rfl ?_
          refine j_callV0 (As := []) (rest := []) C (c_X8_lit mm fl tv so sg ce N B kf pf1 vat vrm vrb rk rp lf1 tf1 (fil pf kp 36) c df mf gf k (dks N B k i p) h16_2 ) gX8_dark_X8_lit rfl 0 rfl (by decide +kernel) (by decide) 0 rfl rfl (Nat.le_of_ble_eq_true rfl) dX8_dark_23 rfl (fun _ _ => ?_)
          have hlit := litS_lt (k := k) (p := dks N B k i p) hN
          show J X (wM mm cy fl tv so sg ce (nI N) (nI B) kf pf1 vat vrm vrb rk rp lf1 tf1 (fil pf kp 36) (nI c) df mf gf) 26 [(0, .ref (mm 0)), (1, .int (nI i))] [.int (nI (litS N k (dks N B k i p)))]
          refine j_if_eqN (tgt := 39) C dX8_dark_26 (by decide) (by omega) (fun c26 => ?_) (fun c26 => ?_)
          · have e2 : ffs (litB N B k p) 61 = i := ffs_stop h16_3 (decide_eq_false (fun z => z c26)) (by omega)
            have e3 : i ≤ 60 := by omega
            refine j_aload_n C 0 dX8_dark_39 rfl rfl ?_
            refine j_callV0 (As := []) (rest := []) C (c_X8_restore mm fl tv so sg ce N B kf pf1 vat vrm vrb rk rp lf1 tf1 (fil pf kp 36) c df mf gf ) gX8_dark_X8_restore rfl 0 rfl (by decide +kernel) (by decide) 0 rfl rfl (Nat.le_of_ble_eq_true rfl) dX8_dark_40 rfl (fun _ _ => ?_)
            show J X (wM mm cy fl tv so sg ce (nI N) (nI B) kf (fil (fil pf kp 36) pf1 36) vat vrm vrb rk rp lf1 tf1 (fil pf kp 36) (nI c) df mf gf) 43 [(0, .ref (mm 0)), (1, .int (nI i))] []
            refine j_iload_n C 1 dX8_dark_43 rfl rfl ?_
            refine j_bipush (v := nI 60) C dX8_dark_44 (by decide) ?_
            refine j_icmp_leN (tgt := 54) C dX8_dark_46 (by decide) (by omega) (by omega) (fun c46 => ?_) (fun c46 => ?_)
            · refine j_iload_n C 1 dX8_dark_54 rfl rfl ?_
              exact j_iret C E dX8_dark_55 (fl, tv, so, sg, ce, nI N, nI B, kf, fil (fil pf kp 36) pf1 36, vat, vrm, vrb, rk, rp, lf1, tf1, fil pf kp 36, nI c, df, mf, gf) (by rw [show m_dark ((N, B, k, p), (c, rd, rl, ra), (hs, sl, sa, sc), tv, fl) = (nI i, ((N, B, k, p), (c, rd, rl, ra), (hs, sl, sa, sc), tv, fl)) from (by first | exact absurd c46 (by omega) | (simp only [m_dark, c4, e2, if_false, e3, if_true]; done) | (simp only [m_dark, c4, e2, if_false]; rfl))]; exact MI.mk hB hN2 hT.rs hR hS) (by rw [show m_dark ((N, B, k, p), (c, rd, rl, ra), (hs, sl, sa, sc), tv, fl) = (nI i, ((N, B, k, p), (c, rd, rl, ra), (hs, sl, sa, sc), tv, fl)) from (by first | exact absurd c46 (by omega) | (simp only [m_dark, c4, e2, if_false, e3, if_true]; done) | (simp only [m_dark, c4, e2, if_false]; rfl))]) rfl
            · refine j_bipush (v := (-9)) C dX8_dark_49 (by decide) ?_
              refine j_goto (tgt := 55) C dX8_dark_51 (by decide) ?_
              exact j_iret C E dX8_dark_55 (fl, tv, so, sg, ce, nI N, nI B, kf, fil (fil pf kp 36) pf1 36, vat, vrm, vrb, rk, rp, lf1, tf1, fil pf kp 36, nI c, df, mf, gf) (by rw [show m_dark ((N, B, k, p), (c, rd, rl, ra), (hs, sl, sa, sc), tv, fl) = ((-9), ((N, B, k, p), (c, rd, rl, ra), (hs, sl, sa, sc), tv, fl)) from (by first | exact absurd c46 (by omega) | (simp only [m_dark, c4, e2, if_false, e3, if_true]; done) | (simp only [m_dark, c4, e2, if_false]; rfl))]; exact MI.mk hB hN2 hT.rs hR hS) (by rw [show m_dark ((N, B, k, p), (c, rd, rl, ra), (hs, sl, sa, sc), tv, fl) = ((-9), ((N, B, k, p), (c, rd, rl, ra), (hs, sl, sa, sc), tv, fl)) from (by first | exact absurd c46 (by omega) | (simp only [m_dark, c4, e2, if_false, e3, if_true]; done) | (simp only [m_dark, c4, e2, if_false]; rfl))]) rfl
          · refine j_aload_n C 0 dX8_dark_29 rfl rfl ?_
            refine j_callV0 (As := []) (rest := []) C (c_X8_goDusk mm fl tv so sg ce N B kf pf1 vat vrm vrb rk rp lf1 tf1 (fil pf kp 36) c df mf gf k (dks N B k i p) h16_2 hB) gX8_dark_X8_goDusk rfl 0 rfl (by decide +kernel) (by decide) 0 rfl rfl (Nat.le_of_ble_eq_true rfl) dX8_dark_30 rfl (fun _ _ => ?_)
            show J X (wM mm cy fl tv so sg ce (nI N) (nI B) kf (pfM N B k (dks N B k i p) pf1 N) vat vrm vrb rk rp (fil (lgF N k (dks N B k i p)) lf1 N) (fil (tI N B k (dks N B k i p)) tf1 N) (fil pf kp 36) (nI c) df mf gf) 33 [(0, .ref (mm 0)), (1, .int (nI i))] []
            refine j_iinc (v := nI (i + 1)) (lv' := [(1, .int (nI (i + 1))), (0, .ref (mm 0))]) C 1 dX8_dark_33 rfl (nI_inc i) (by decide) rfl ?_
            refine j_goto (tgt := 16) C dX8_dark_36 (by decide) ?_
            refine J.sub [1, 0] rfl ?_
            have e := ih16 (i + 1) (pfM N B k (dks N B k i p) pf1 N) (fil (lgF N k (dks N B k i p)) lf1 N) (fil (tI N B k (dks N B k i p)) tf1 N) (by omega) (by omega) (ag_dkM h16_2) (fun t ht => by rcases Nat.lt_or_ge t i with z | z; exact h16_3 t z; rw [show t = i by omega]; exact decide_eq_true c26)
            exact e
    have e := L16 62 0 pf lf tf (by omega) (by omega) hT (fun t ht => by omega)
    exact e
  · have c4 : N = 0 := by omega
    refine j_bipush (v := (-3)) C dX8_dark_7 (by decide) ?_
    exact j_iret C E dX8_dark_9 (fl, tv, so, sg, ce, nI N, nI B, kf, pf, vat, vrm, vrb, rk, rp, lf, tf, kp, nI c, df, mf, gf) (by rw [show m_dark ((N, B, k, p), (c, rd, rl, ra), (hs, sl, sa, sc), tv, fl) = ((-3), ((N, B, k, p), (c, rd, rl, ra), (hs, sl, sa, sc), tv, fl)) from (by simp only [m_dark, c4, if_true]; try rfl)]; exact MI.mk hB hN2 hT hR hS) (by rw [show m_dark ((N, B, k, p), (c, rd, rl, ra), (hs, sl, sa, sc), tv, fl) = ((-3), ((N, B, k, p), (c, rd, rl, ra), (hs, sl, sa, sc), tv, fl)) from (by simp only [m_dark, c4, if_true]; try rfl)]) rfl
set_option maxHeartbeats 4000000 in
set_option maxRecDepth 20000 in
theorem c_X8_haste {l : Launch} {D : va_G} {cy : Nat → ClassId} (mm : Nat → Nat) (fl tv : Int32) (so sg ce : Nat → Int32) (N B : Nat) (kf pf : Nat → Int32) (vat vrm vrb : Int32) (rk rp lf tf kp : Nat → Int32) (c : Nat) (df mf gf : Nat → Int32) (k : Nat → Nat) (p : Nat → Nat → Nat) (rd rl : Nat → Nat) (ra : Nat → Option Nat) (hs : Nat → Bool) (sl sa : Nat → Nat) (sc : Nat → Nat → Int32) (hX : MI ((N, B, k, p), (c, rd, rl, ra), (hs, sl, sa, sc), tv, fl) (fl, tv, so, sg, ce, nI N, nI B, kf, pf, vat, vrm, vrb, rk, rp, lf, tf, kp, nI c, df, mf, gf))  : Ct l yX8_haste wsX8_haste ({ frames := 4, cells := 0, slots := 0, locals := 90 }) D cy [.ref (mm 0)] (wM mm cy fl tv so sg ce (nI N) (nI B) kf pf vat vrm vrb rk rp lf tf kp (nI c) df mf gf) (fun u : MS => MI (m_haste ((N, B, k, p), (c, rd, rl, ra), (hs, sl, sa, sc), tv, fl)).2 u) (fun _ => some (.int (m_haste ((N, B, k, p), (c, rd, rl, ra), (hs, sl, sa, sc), tv, fl)).1)) (fun u => wMu mm cy u) := by
  refine Ct.of (cc := cX8_haste) (nL := 4) (ret := (some .int)) rfl (by decide) ⟨rfl, rfl⟩ (Nat.le_of_ble_eq_true rfl) ?_
  intro X C E
  have C : Cx X l D cy cX8_haste 4 wsX8_haste RX8 ({ frames := 4, cells := 0, slots := 0, locals := 90 }) := C
  have mh0 : ∀ w ∈ u_ws RX8 TX8 21, w ∈ wsX8_haste := by decide +kernel
  have mh1 : Cond.fieldLink RX8 60 RX8 (TX8 5).2.1 (TX8 5).2.2.1 ∈ wsX8_haste := by decide +kernel
  obtain ⟨-, ⟨hB, hN2⟩, hT, hR, hS⟩ := hX
  have hN := hT.n
  have hc8 := hR.1
  have hN30 : N ≤ 2 ^ 30 := by omega
  show J X (wM mm cy fl tv so sg ce (nI N) (nI B) kf pf vat vrm vrb rk rp lf tf kp (nI c) df mf gf) 0 [(0, .ref (mm 0))] []
  refine j_aload_n C 0 dX8_haste_0 rfl rfl ?_
  refine j_get C mh0 5 mh1 0 rfl rfl (by decide) rfl rfl dX8_haste_1 ?_
  refine j_if_neN (tgt := 10) C dX8_haste_4 (by decide) (by omega) (fun c4 => ?_) (fun c4 => ?_)
  · refine j_iconst (v := nI 0) C dX8_haste_10 (by decide) ?_
    refine j_istore_n (lv' := [(1, .int (nI 0)), (0, .ref (mm 0))]) C dX8_haste_11 rfl (by decide) rfl ?_
    refine j_iconst (v := nI 0) C dX8_haste_12 (by decide) ?_
    refine j_istore_n (lv' := [(2, .int (nI 0)), (1, .int (nI 0)), (0, .ref (mm 0))]) C dX8_haste_13 rfl (by decide) rfl ?_
    refine J.sub [2, 1, 0] rfl ?_
    have L14 : ∀ (n : Nat) (i : Nat), N - i < n → i ≤ N → J X (wM mm cy fl tv so sg ce (nI N) (nI B) kf pf vat vrm vrb rk rp lf tf kp (nI c) df mf gf) 14 [(0, .ref (mm 0)), (1, .int (nI (hst N k p i))), (2, .int (nI i))] [] := by
      intro n
      induction n with
      | zero => intro i hm; exact absurd hm (Nat.not_lt_zero _)
      | succ n ih14 =>
        intro i h14_0 h14_1
        have hh := hst_le (k := k) (p := p) hN (i := i) (by omega)
        refine j_iload_n C 2 dX8_haste_14 rfl rfl ?_
        refine j_aload_n C 0 dX8_haste_15 rfl rfl ?_
        refine j_get C mh0 5 mh1 0 rfl rfl (by decide) rfl rfl dX8_haste_16 ?_
        refine j_icmp_geN (tgt := 50) C dX8_haste_19 (by decide) (by omega) (by omega) (fun c19 => ?_) (fun c19 => ?_)
        · refine j_iload_n C 1 dX8_haste_50 rfl rfl ?_
          exact j_iret C E dX8_haste_51 (fl, tv, so, sg, ce, nI N, nI B, kf, pf, vat, vrm, vrb, rk, rp, lf, tf, kp, nI c, df, mf, gf) (by rw [show m_haste ((N, B, k, p), (c, rd, rl, ra), (hs, sl, sa, sc), tv, fl) = (nI (hst N k p i), ((N, B, k, p), (c, rd, rl, ra), (hs, sl, sa, sc), tv, fl)) from (by simp only [m_haste, c4, if_false, show i = N by omega]; try rfl)]; exact MI.mk hB hN2 hT hR hS) (by rw [show m_haste ((N, B, k, p), (c, rd, rl, ra), (hs, sl, sa, sc), tv, fl) = (nI (hst N k p i), ((N, B, k, p), (c, rd, rl, ra), (hs, sl, sa, sc), tv, fl)) from (by simp only [m_haste, c4, if_false, show i = N by omega]; try rfl)]) rfl
        · refine j_aload_n C 0 dX8_haste_22 rfl rfl ?_
          refine j_iload_n C 2 dX8_haste_23 rfl rfl ?_
          refine j_aload_n C 0 dX8_haste_24 rfl rfl ?_
          refine j_iload_n C 2 dX8_haste_25 rfl rfl ?_
          refine j_callV0 (As := [.int (nI i)]) (rest := [.int (nI i), .ref (mm 0)]) C (c_X8_roundOf mm fl tv so sg ce N B kf pf vat vrm vrb rk rp lf tf kp c df mf gf k p hT i (by omega)) gX8_haste_X8_roundOf rfl 1 rfl (by decide +kernel) (by decide) 0 rfl rfl (Nat.le_of_ble_eq_true rfl) dX8_haste_26 rfl (fun _ _ => ?_)
          have hrl := rnd_lt (k := k) (p := p) hN i
          show J X (wM mm cy fl tv so sg ce (nI N) (nI B) kf pf vat vrm vrb rk rp lf tf kp (nI c) df mf gf) 29 [(0, .ref (mm 0)), (1, .int (nI (hst N k p i))), (2, .int (nI i))] [.int (nI (rnd N k p i)), .int (nI i), .ref (mm 0)]
          refine j_callV0 (As := [.int (nI i), .int (nI (rnd N k p i))]) (rest := []) C (c_X8_steps mm fl tv so sg ce N B kf pf vat vrm vrb rk rp lf tf kp c df mf gf i (rnd N k p i) hN (by omega) (by omega)) gX8_haste_X8_steps rfl 2 rfl (by decide +kernel) (by decide) 0 rfl rfl (Nat.le_of_ble_eq_true rfl) dX8_haste_29 rfl (fun _ _ => ?_)
          have hsp := sps_le (k := k) (p := p) hN (q := i) (by omega)
          show J X (wM mm cy fl tv so sg ce (nI N) (nI B) kf pf vat vrm vrb rk rp lf tf kp (nI c) df mf gf) 32 [(0, .ref (mm 0)), (1, .int (nI (hst N k p i))), (2, .int (nI i))] [.int (nI (sps N k p i))]
          refine j_istore_n (lv' := [(3, .int (nI (sps N k p i))), (0, .ref (mm 0)), (1, .int (nI (hst N k p i))), (2, .int (nI i))]) C dX8_haste_32 rfl (by decide) rfl ?_
          refine j_iload_n C 0 dX8_haste_33 rfl rfl ?_
          refine j_iload_n C 2 dX8_haste_34 rfl rfl ?_
          refine j_icmp_leN (tgt := 42) C dX8_haste_35 (by decide) (by omega) (by omega) (fun c35 => ?_) (fun c35 => ?_)
          · refine j_iload_n C 2 dX8_haste_42 rfl rfl ?_
            refine j_istore_n (lv' := [(1, .int (nI (hst N k p i))), (3, .int (nI (sps N k p i))), (0, .ref (mm 0)), (2, .int (nI i))]) C dX8_haste_43 rfl (by decide) rfl ?_
            refine j_iinc (v := nI (i + 1)) (lv' := [(2, .int (nI (i + 1))), (1, .int (nI (hst N k p i))), (3, .int (nI (sps N k p i))), (0, .ref (mm 0))]) C 3 dX8_haste_44 rfl (nI_inc i) (by decide) rfl ?_
            refine j_goto (tgt := 14) C dX8_haste_47 (by decide) ?_
            refine J.sub [3, 1, 0] rfl ?_
            have e := ih14 (i + 1) (by omega) (by omega)
            first
              | (rw [show hst N k p (i + 1) = hst N k p i from Nat.max_eq_left c35] at e; exact e)
              | (rw [show hst N k p (i + 1) = sps N k p i from Nat.max_eq_right (by omega)] at e; exact e)
          · refine j_iload_n C 0 dX8_haste_38 rfl rfl ?_
            refine j_goto (tgt := 43) C dX8_haste_39 (by decide) ?_
            refine j_istore_n (lv' := [(1, .int (nI (sps N k p i))), (3, .int (nI (sps N k p i))), (0, .ref (mm 0)), (2, .int (nI i))]) C dX8_haste_43 rfl (by decide) rfl ?_
            refine j_iinc (v := nI (i + 1)) (lv' := [(2, .int (nI (i + 1))), (1, .int (nI (sps N k p i))), (3, .int (nI (sps N k p i))), (0, .ref (mm 0))]) C 3 dX8_haste_44 rfl (nI_inc i) (by decide) rfl ?_
            refine j_goto (tgt := 14) C dX8_haste_47 (by decide) ?_
            refine J.sub [3, 1, 0] rfl ?_
            have e := ih14 (i + 1) (by omega) (by omega)
            first
              | (rw [show hst N k p (i + 1) = hst N k p i from Nat.max_eq_left c35] at e; exact e)
              | (rw [show hst N k p (i + 1) = sps N k p i from Nat.max_eq_right (by omega)] at e; exact e)
    have e := L14 (N + 1) 0 (by omega) (by omega)
    exact e
  · have c4 : N = 0 := by omega
    refine j_bipush (v := (-3)) C dX8_haste_7 (by decide) ?_
    exact j_iret C E dX8_haste_9 (fl, tv, so, sg, ce, nI N, nI B, kf, pf, vat, vrm, vrb, rk, rp, lf, tf, kp, nI c, df, mf, gf) (by rw [show m_haste ((N, B, k, p), (c, rd, rl, ra), (hs, sl, sa, sc), tv, fl) = ((-3), ((N, B, k, p), (c, rd, rl, ra), (hs, sl, sa, sc), tv, fl)) from (by simp only [m_haste, c4, if_true]; try rfl)]; exact MI.mk hB hN2 hT hR hS) (by rw [show m_haste ((N, B, k, p), (c, rd, rl, ra), (hs, sl, sa, sc), tv, fl) = ((-3), ((N, B, k, p), (c, rd, rl, ra), (hs, sl, sa, sc), tv, fl)) from (by simp only [m_haste, c4, if_true]; try rfl)]) rfl
set_option maxHeartbeats 4000000 in
set_option maxRecDepth 20000 in
theorem c_X8_ring {l : Launch} {D : va_G} {cy : Nat → ClassId} (mm : Nat → Nat) (fl tv : Int32) (so sg ce : Nat → Int32) (N B : Nat) (kf pf : Nat → Int32) (vat vrm vrb : Int32) (rk rp lf tf kp : Nat → Int32) (c : Nat) (df mf gf : Nat → Int32) (k : Nat → Nat) (p : Nat → Nat → Nat) (rd rl : Nat → Nat) (ra : Nat → Option Nat) (hs : Nat → Bool) (sl sa : Nat → Nat) (sc : Nat → Nat → Int32) (hX : MI ((N, B, k, p), (c, rd, rl, ra), (hs, sl, sa, sc), tv, fl) (fl, tv, so, sg, ce, nI N, nI B, kf, pf, vat, vrm, vrb, rk, rp, lf, tf, kp, nI c, df, mf, gf)) (x : Int32)  : Ct l yX8_ring wsX8_ring ({ frames := 3, cells := 0, slots := 0, locals := 67 }) D cy [.ref (mm 0), .int x] (wM mm cy fl tv so sg ce (nI N) (nI B) kf pf vat vrm vrb rk rp lf tf kp (nI c) df mf gf) (fun u : MS => MI (m_ring ((N, B, k, p), (c, rd, rl, ra), (hs, sl, sa, sc), tv, fl) x).2 u) (fun _ => some (.int (m_ring ((N, B, k, p), (c, rd, rl, ra), (hs, sl, sa, sc), tv, fl) x).1)) (fun u => wMu mm cy u) := by
  refine Ct.of (cc := cX8_ring) (nL := 4) (ret := (some .int)) rfl (by decide) ⟨rfl, rfl⟩ (Nat.le_of_ble_eq_true rfl) ?_
  intro X C E
  have C : Cx X l D cy cX8_ring 4 wsX8_ring RX8 ({ frames := 3, cells := 0, slots := 0, locals := 67 }) := C
  have mh0 : ∀ w ∈ u_ws RX8 TX8 21, w ∈ wsX8_ring := by decide +kernel
  have mh1 : Cond.fieldLink RX8 60 RX8 (TX8 5).2.1 (TX8 5).2.2.1 ∈ wsX8_ring := by decide +kernel
  obtain ⟨-, ⟨hB, hN2⟩, hT, hR, hS⟩ := hX
  have hN := hT.n
  have hc8 := hR.1
  have hN30 : N ≤ 2 ^ 30 := by omega
  show J X (wM mm cy fl tv so sg ce (nI N) (nI B) kf pf vat vrm vrb rk rp lf tf kp (nI c) df mf gf) 0 [(0, .ref (mm 0)), (1, .int x)] []
  refine j_aload_n C 0 dX8_ring_0 rfl rfl ?_
  refine j_iload_n C 1 dX8_ring_1 rfl rfl ?_
  refine j_callV0 (As := [.int x]) (rest := []) C (c_X8_isPerson mm fl tv so sg ce N B kf pf vat vrm vrb rk rp lf tf kp c df mf gf (x) hN) gX8_ring_X8_isPerson rfl 1 rfl (by decide +kernel) (by decide) 0 rfl rfl (Nat.le_of_ble_eq_true rfl) dX8_ring_2 rfl (fun _ _ => ?_)
  show J X (wM mm cy fl tv so sg ce (nI N) (nI B) kf pf vat vrm vrb rk rp lf tf kp (nI c) df mf gf) 5 [(0, .ref (mm 0)), (1, .int x)] [.int (nI (bN ((pOf N (x)).isSome = true)))]
  refine j_if_neN (tgt := 10) C dX8_ring_5 (by decide) (bN_lt _) (fun c5 => ?_) (fun c5 => ?_)
  · have c5 := bN_1.mp c5
    obtain ⟨b1, hb1, rfl⟩ := pY hN30 c5
    have qb1 := pI hb1 hN30
    show J X (wM mm cy fl tv so sg ce (nI N) (nI B) kf pf vat vrm vrb rk rp lf tf kp (nI c) df mf gf) 10 [(0, .ref (mm 0)), (1, .int (nI b1))] []
    refine j_iload_n C 1 dX8_ring_10 rfl rfl ?_
    refine j_istore_n (lv' := [(2, .int (nI b1)), (0, .ref (mm 0)), (1, .int (nI b1))]) C dX8_ring_11 rfl (by decide) rfl ?_
    refine j_iconst (v := nI 0) C dX8_ring_12 (by decide) ?_
    refine j_istore_n (lv' := [(3, .int (nI 0)), (2, .int (nI b1)), (0, .ref (mm 0)), (1, .int (nI b1))]) C dX8_ring_13 rfl (by decide) rfl ?_
    refine J.sub [2, 3, 1, 0] rfl ?_
    have L14 : ∀ (n : Nat) (i a : Nat), N - i < n → i ≤ N → goL N k p b1 i = some a → a < N → J X (wM mm cy fl tv so sg ce (nI N) (nI B) kf pf vat vrm vrb rk rp lf tf kp (nI c) df mf gf) 14 [(0, .ref (mm 0)), (1, .int (nI b1)), (2, .int (nI a)), (3, .int (nI i))] [] := by
      intro n
      induction n with
      | zero => intro i a hm; exact absurd hm (Nat.not_lt_zero _)
      | succ n ih14 =>
        intro i a h14_0 h14_1 h14_2 h14_3
        refine j_iload_n C 3 dX8_ring_14 rfl rfl ?_
        refine j_aload_n C 0 dX8_ring_15 rfl rfl ?_
        refine j_get C mh0 5 mh1 0 rfl rfl (by decide) rfl rfl dX8_ring_16 ?_
        refine j_icmp_geN (tgt := 43) C dX8_ring_19 (by decide) (by omega) (by omega) (fun c19 => ?_) (fun c19 => ?_)
        · have e0 : goL N k p b1 N = some a := by have z := h14_2; rw [show i = N by omega] at z; exact z
          refine j_iconst (v := nI 0) C dX8_ring_43 (by decide) ?_
          refine j_istore_n (lv' := [(3, .int (nI 0)), (0, .ref (mm 0)), (1, .int (nI b1)), (2, .int (nI a))]) C dX8_ring_44 rfl (by decide) rfl ?_
          refine J.sub [1, 3, 0] rfl ?_
          have L45 : ∀ (n : Nat) (j a' : Nat), N - j < n → j ≤ N → goL N k p a j = some a' → a' < N → (∀ x y, x < y → y < j → goL N k p a x ≠ goL N k p a y) → J X (wM mm cy fl tv so sg ce (nI N) (nI B) kf pf vat vrm vrb rk rp lf tf kp (nI c) df mf gf) 45 [(0, .ref (mm 0)), (2, .int (nI a')), (3, .int (nI (orb N k p a j)))] [] := by
            intro n
            induction n with
            | zero => intro j a' hm; exact absurd hm (Nat.not_lt_zero _)
            | succ n ih45 =>
              intro j a' h45_0 h45_1 h45_2 h45_3 h45_4
              have hol := orb_lt (k := k) (p := p) hN h14_3 j
              refine j_iload_n C 2 dX8_ring_45 rfl rfl ?_
              refine j_iload_n C 1 dX8_ring_46 rfl rfl ?_
              refine j_ishr (v := nI ((orb N k p a j) / 2 ^ a')) C dX8_ring_47 (sh_r (by omega) (by omega)) ?_
              refine j_iconst (v := nI 1) C dX8_ring_48 (by decide) ?_
              refine j_iand (v := nI (((orb N k p a j) / 2 ^ a') % 2)) C dX8_ring_49 (an_1 _) ?_
              refine j_if_neN (tgt := 68) C dX8_ring_50 (by decide) (by omega) (fun c50 => ?_) (fun c50 => ?_)
              · have hbit : Nat.testBit (orb N k p a j) a' = true := bit_tb.mp (by omega)
                have hend := orb_end h45_2 hbit N h45_1
                refine j_iload_n C 2 dX8_ring_68 rfl rfl ?_
                exact j_iret C E dX8_ring_69 (fl, tv, so, sg, ce, nI N, nI B, kf, pf, vat, vrm, vrb, rk, rp, lf, tf, kp, nI c, df, mf, gf) (by rw [show m_ring ((N, B, k, p), (c, rd, rl, ra), (hs, sl, sa, sc), tv, fl) (nI b1) = (nI (orb N k p a j), ((N, B, k, p), (c, rd, rl, ra), (hs, sl, sa, sc), tv, fl)) from (by simp only [m_ring, qb1, e0, hend]; try rfl)]; exact MI.mk hB hN2 hT hR hS) (by rw [show m_ring ((N, B, k, p), (c, rd, rl, ra), (hs, sl, sa, sc), tv, fl) (nI b1) = (nI (orb N k p a j), ((N, B, k, p), (c, rd, rl, ra), (hs, sl, sa, sc), tv, fl)) from (by simp only [m_ring, qb1, e0, hend]; try rfl)]) rfl
              · have hnb : ¬ Nat.testBit (orb N k p a j) a' = true := fun z => by have := bit_tb.mpr z; omega
                have hfew := orb_few h14_3 (goL_cyc hb1 e0) h45_4 h45_2 hnb
                have hsm := orb_s h45_2
                refine j_iload_n C 2 dX8_ring_53 rfl rfl ?_
                refine j_iconst (v := nI 1) C dX8_ring_54 (by decide) ?_
                refine j_iload_n C 1 dX8_ring_55 rfl rfl ?_
                refine j_ishl (v := nI (2 ^ a')) C dX8_ring_56 (sh_l (by omega)) ?_
                refine j_ior (v := nI (orb N k p a (j + 1))) C dX8_ring_57 (by rw [hsm]; exact nn_or _ _) ?_
                refine j_istore_n (lv' := [(3, .int (nI (orb N k p a (j + 1)))), (0, .ref (mm 0)), (2, .int (nI a'))]) C dX8_ring_58 rfl (by decide) rfl ?_
                refine j_aload_n C 1 dX8_ring_59 rfl rfl ?_
                refine j_iload_n C 2 dX8_ring_60 rfl rfl ?_
                refine j_callV0 (As := [.int (nI a')]) (rest := []) C (c_X8_lighterOf mm fl tv so sg ce N B kf pf vat vrm vrb rk rp lf tf kp c df mf gf k p hT a' (by omega)) gX8_ring_X8_lighterOf rfl 1 rfl (by decide +kernel) (by decide) 0 rfl rfl (Nat.le_of_ble_eq_true rfl) dX8_ring_61 rfl (fun _ _ => ?_)
                show J X (wM mm cy fl tv so sg ce (nI N) (nI B) kf pf vat vrm vrb rk rp lf tf kp (nI c) df mf gf) 64 [(3, .int (nI (orb N k p a (j + 1)))), (0, .ref (mm 0)), (2, .int (nI a'))] [.int (lI (lg N k p a'))]
                refine j_istore_n (lv' := [(2, .int (lI (lg N k p a'))), (3, .int (nI (orb N k p a (j + 1)))), (0, .ref (mm 0))]) C dX8_ring_64 rfl (by decide) rfl ?_
                obtain ⟨a3, ha3⟩ : ∃ c9, lg N k p a' = some c9 := (by obtain ⟨c9, h9⟩ := goL_cyc hb1 e0 (j + 1); have w : (goL N k p a j).bind (lg N k p) = some c9 := h9; rw [h45_2] at w; exact ⟨c9, w⟩)
                have h3N := lg_lt ha3
                refine j_goto (tgt := 45) C dX8_ring_65 (by decide) ?_
                refine J.sub [2, 0, 1] rfl ?_
                have e := ih45 (j + 1) a3 (by omega) (by omega) (by show (goL N k p a j).bind (lg N k p) = _; rw [h45_2]; exact ha3) h3N hfew.2
                rw [ha3]
                exact e
          have e := L45 (N + 1) 0 a (by omega) (by omega) rfl h14_3 (fun x y _ h => absurd h (Nat.not_lt_zero y))
          exact e
        · refine j_aload_n C 0 dX8_ring_22 rfl rfl ?_
          refine j_iload_n C 2 dX8_ring_23 rfl rfl ?_
          refine j_callV0 (As := [.int (nI a)]) (rest := []) C (c_X8_lighterOf mm fl tv so sg ce N B kf pf vat vrm vrb rk rp lf tf kp c df mf gf k p hT a (by omega)) gX8_ring_X8_lighterOf rfl 1 rfl (by decide +kernel) (by decide) 0 rfl rfl (Nat.le_of_ble_eq_true rfl) dX8_ring_24 rfl (fun _ _ => ?_)
          show J X (wM mm cy fl tv so sg ce (nI N) (nI B) kf pf vat vrm vrb rk rp lf tf kp (nI c) df mf gf) 27 [(0, .ref (mm 0)), (1, .int (nI b1)), (2, .int (nI a)), (3, .int (nI i))] [.int (lI (lg N k p a))]
          refine j_istore_n (lv' := [(2, .int (lI (lg N k p a))), (0, .ref (mm 0)), (1, .int (nI b1)), (3, .int (nI i))]) C dX8_ring_27 rfl (by decide) rfl ?_
          refine j_iload_n C 0 dX8_ring_28 rfl rfl ?_
          refine j_bipush (v := (-9)) C dX8_ring_29 (by decide) ?_
          refine j_icmp_ne (tgt := 37) C dX8_ring_31 (by decide) (fun c31 => ?_) (fun c31 => ?_)
          · obtain ⟨a2, ha2⟩ := some_of c31
            have h2N := lg_lt ha2
            rw [ha2]
            show J X (wM mm cy fl tv so sg ce (nI N) (nI B) kf pf vat vrm vrb rk rp lf tf kp (nI c) df mf gf) 37 [(2, .int (nI a2)), (0, .ref (mm 0)), (1, .int (nI b1)), (3, .int (nI i))] []
            refine j_iinc (v := nI (i + 1)) (lv' := [(3, .int (nI (i + 1))), (2, .int (nI a2)), (0, .ref (mm 0)), (1, .int (nI b1))]) C 3 dX8_ring_37 rfl (nI_inc i) (by decide) rfl ?_
            refine j_goto (tgt := 14) C dX8_ring_40 (by decide) ?_
            refine J.sub [2, 3, 1, 0] rfl ?_
            have e := ih14 (i + 1) a2 (by omega) (by omega) (by show (goL N k p b1 i).bind (lg N k p) = _; rw [h14_2]; exact ha2) h2N
            exact e
          · have eN : goL N k p b1 N = none := goL_none (m := i + 1) (by show (goL N k p b1 i).bind (lg N k p) = none; rw [h14_2]; exact (lI_none (lg_31 hN)).mp c31) (by omega)
            refine j_bipush (v := (-9)) C dX8_ring_34 (by decide) ?_
            exact j_iret C E dX8_ring_36 (fl, tv, so, sg, ce, nI N, nI B, kf, pf, vat, vrm, vrb, rk, rp, lf, tf, kp, nI c, df, mf, gf) (by rw [show m_ring ((N, B, k, p), (c, rd, rl, ra), (hs, sl, sa, sc), tv, fl) (nI b1) = ((-9), ((N, B, k, p), (c, rd, rl, ra), (hs, sl, sa, sc), tv, fl)) from (by simp only [m_ring, qb1, eN, eN]; try rfl)]; exact MI.mk hB hN2 hT hR hS) (by rw [show m_ring ((N, B, k, p), (c, rd, rl, ra), (hs, sl, sa, sc), tv, fl) (nI b1) = ((-9), ((N, B, k, p), (c, rd, rl, ra), (hs, sl, sa, sc), tv, fl)) from (by simp only [m_ring, qb1, eN, eN]; try rfl)]) rfl
    have e := L14 (N + 1) 0 b1 (by omega) (by omega) rfl hb1
    exact e
  · have c5 := bN_0.mp c5
    have qb1 := pOf_n c5
    refine j_iconst (v := (-1)) C dX8_ring_8 (by decide) ?_
    exact j_iret C E dX8_ring_9 (fl, tv, so, sg, ce, nI N, nI B, kf, pf, vat, vrm, vrb, rk, rp, lf, tf, kp, nI c, df, mf, gf) (by rw [show m_ring ((N, B, k, p), (c, rd, rl, ra), (hs, sl, sa, sc), tv, fl) x = ((-1), ((N, B, k, p), (c, rd, rl, ra), (hs, sl, sa, sc), tv, fl)) from (by simp only [m_ring, qb1]; try rfl)]; exact MI.mk hB hN2 hT hR hS) (by rw [show m_ring ((N, B, k, p), (c, rd, rl, ra), (hs, sl, sa, sc), tv, fl) x = ((-1), ((N, B, k, p), (c, rd, rl, ra), (hs, sl, sa, sc), tv, fl)) from (by simp only [m_ring, qb1]; try rfl)]) rfl
set_option maxHeartbeats 4000000 in
set_option maxRecDepth 20000 in
theorem c_X8_free {l : Launch} {D : va_G} {cy : Nat → ClassId} (mm : Nat → Nat) (fl tv : Int32) (so sg ce : Nat → Int32) (N B : Nat) (kf pf : Nat → Int32) (vat vrm vrb : Int32) (rk rp lf tf kp : Nat → Int32) (c : Nat) (df mf gf : Nat → Int32) (k : Nat → Nat) (p : Nat → Nat → Nat) (rd rl : Nat → Nat) (ra : Nat → Option Nat) (hs : Nat → Bool) (sl sa : Nat → Nat) (sc : Nat → Nat → Int32) (hX : MI ((N, B, k, p), (c, rd, rl, ra), (hs, sl, sa, sc), tv, fl) (fl, tv, so, sg, ce, nI N, nI B, kf, pf, vat, vrm, vrb, rk, rp, lf, tf, kp, nI c, df, mf, gf)) (x : Int32)  : Ct l yX8_free wsX8_free ({ frames := 3, cells := 0, slots := 0, locals := 67 }) D cy [.ref (mm 0), .int x] (wM mm cy fl tv so sg ce (nI N) (nI B) kf pf vat vrm vrb rk rp lf tf kp (nI c) df mf gf) (fun u : MS => MI (m_free ((N, B, k, p), (c, rd, rl, ra), (hs, sl, sa, sc), tv, fl) x).2 u) (fun _ => some (.int (m_free ((N, B, k, p), (c, rd, rl, ra), (hs, sl, sa, sc), tv, fl) x).1)) (fun u => wMu mm cy u) := by
  refine Ct.of (cc := cX8_free) (nL := 5) (ret := (some .int)) rfl (by decide) ⟨rfl, rfl⟩ (Nat.le_of_ble_eq_true rfl) ?_
  intro X C E
  have C : Cx X l D cy cX8_free 5 wsX8_free RX8 ({ frames := 3, cells := 0, slots := 0, locals := 67 }) := C
  have mh0 : ∀ w ∈ u_ws RX8 TX8 21, w ∈ wsX8_free := by decide +kernel
  have mh1 : Cond.fieldLink RX8 60 RX8 (TX8 5).2.1 (TX8 5).2.2.1 ∈ wsX8_free := by decide +kernel
  have mh2 : Cond.fieldLink RX8 22 RX8 (TX8 8).2.1 (TX8 8).2.2.1 ∈ wsX8_free := by decide +kernel
  obtain ⟨-, ⟨hB, hN2⟩, hT, hR, hS⟩ := hX
  have hN := hT.n
  have hc8 := hR.1
  have hN30 : N ≤ 2 ^ 30 := by omega
  show J X (wM mm cy fl tv so sg ce (nI N) (nI B) kf pf vat vrm vrb rk rp lf tf kp (nI c) df mf gf) 0 [(0, .ref (mm 0)), (1, .int x)] []
  refine j_aload_n C 0 dX8_free_0 rfl rfl ?_
  refine j_iload_n C 1 dX8_free_1 rfl rfl ?_
  refine j_callV0 (As := [.int x]) (rest := []) C (c_X8_isPerson mm fl tv so sg ce N B kf pf vat vrm vrb rk rp lf tf kp c df mf gf (x) hN) gX8_free_X8_isPerson rfl 1 rfl (by decide +kernel) (by decide) 0 rfl rfl (Nat.le_of_ble_eq_true rfl) dX8_free_2 rfl (fun _ _ => ?_)
  show J X (wM mm cy fl tv so sg ce (nI N) (nI B) kf pf vat vrm vrb rk rp lf tf kp (nI c) df mf gf) 5 [(0, .ref (mm 0)), (1, .int x)] [.int (nI (bN ((pOf N (x)).isSome = true)))]
  refine j_if_neN (tgt := 10) C dX8_free_5 (by decide) (bN_lt _) (fun c5 => ?_) (fun c5 => ?_)
  · have c5 := bN_1.mp c5
    obtain ⟨q1, hq1, rfl⟩ := pY hN30 c5
    have qq1 := pI hq1 hN30
    show J X (wM mm cy fl tv so sg ce (nI N) (nI B) kf pf vat vrm vrb rk rp lf tf kp (nI c) df mf gf) 10 [(0, .ref (mm 0)), (1, .int (nI q1))] []
    refine j_iconst (v := nI 0) C dX8_free_10 (by decide) ?_
    refine j_istore_n (lv' := [(2, .int (nI 0)), (0, .ref (mm 0)), (1, .int (nI q1))]) C dX8_free_11 rfl (by decide) rfl ?_
    refine j_iconst (v := nI 0) C dX8_free_12 (by decide) ?_
    refine j_istore_n (lv' := [(3, .int (nI 0)), (2, .int (nI 0)), (0, .ref (mm 0)), (1, .int (nI q1))]) C dX8_free_13 rfl (by decide) rfl ?_
    refine J.sub [2, 3, 1, 0] rfl ?_
    have L14 : ∀ (n : Nat) (b : Nat) (pf1 : Nat → Int32), N - b < n → b ≤ N → (∀ j, j < 36 → pf1 j = pf j) → J X (wM mm cy fl tv so sg ce (nI N) (nI B) kf pf1 vat vrm vrb rk rp lf tf kp (nI c) df mf gf) 14 [(0, .ref (mm 0)), (1, .int (nI q1)), (2, .int (nI (fre N k p q1 b))), (3, .int (nI b))] [] := by
      intro n
      induction n with
      | zero => intro b pf1 hm; exact absurd hm (Nat.not_lt_zero _)
      | succ n ih14 =>
        intro b pf1 h14_0 h14_1 h14_2
        refine j_iload_n C 3 dX8_free_14 rfl rfl ?_
        refine j_aload_n C 0 dX8_free_15 rfl rfl ?_
        refine j_get C mh0 5 mh1 0 rfl rfl (by decide) rfl rfl dX8_free_16 ?_
        refine j_icmp_geN (tgt := 81) C dX8_free_19 (by decide) (by omega) (by omega) (fun c19 => ?_) (fun c19 => ?_)
        · refine j_iload_n C 2 dX8_free_81 rfl rfl ?_
          exact j_iret C E dX8_free_82 (fl, tv, so, sg, ce, nI N, nI B, kf, pf1, vat, vrm, vrb, rk, rp, lf, tf, kp, nI c, df, mf, gf) (by rw [show m_free ((N, B, k, p), (c, rd, rl, ra), (hs, sl, sa, sc), tv, fl) (nI q1) = (nI (fre N k p q1 b), ((N, B, k, p), (c, rd, rl, ra), (hs, sl, sa, sc), tv, fl)) from (by simp only [m_free, qq1, show b = N by omega]; try rfl)]; exact MI.mk hB hN2 (hT.eq36 h14_2) hR hS) (by rw [show m_free ((N, B, k, p), (c, rd, rl, ra), (hs, sl, sa, sc), tv, fl) (nI q1) = (nI (fre N k p q1 b), ((N, B, k, p), (c, rd, rl, ra), (hs, sl, sa, sc), tv, fl)) from (by simp only [m_free, qq1, show b = N by omega]; try rfl)]) rfl
        · refine j_aload_n C 0 dX8_free_22 rfl rfl ?_
          refine j_get C mh0 8 mh2 0 rfl rfl (by decide) rfl rfl dX8_free_23 ?_
          refine j_iload_n C 1 dX8_free_26 rfl rfl ?_
          refine j_iload_n C 3 dX8_free_27 rfl rfl ?_
          refine j_callP (As := [.int (nI q1), .int (nI b)]) (rest := [.ref (mm 5)]) C (c_X8_spot q1 b) gX8_free_X8_spot rfl 2 rfl (by decide +kernel) (by decide) (Nat.le_of_ble_eq_true rfl) dX8_free_28 rfl (fun _ _ => ?_)
          show J X (wM mm cy fl tv so sg ce (nI N) (nI B) kf pf1 vat vrm vrb rk rp lf tf kp (nI c) df mf gf) 31 [(0, .ref (mm 0)), (1, .int (nI q1)), (2, .int (nI (fre N k p q1 b))), (3, .int (nI b))] [.int (nI (6 * q1 + b)), .ref (mm 5)]
          have hp9 := hT.p9 (a := q1) (b := b) hq1 (by omega)
          have hab := ag_id (b := b) hT hq1 (by omega) h14_2
          refine j_iald (v := nI (p q1 b)) C 5 rfl (by omega) (by decide) ((h14_2 _ (by omega)).trans (hT.pp hq1 (by omega))) dX8_free_31 ?_
          refine j_istore (lv' := [(4, .int (nI (p q1 b))), (0, .ref (mm 0)), (1, .int (nI q1)), (2, .int (nI (fre N k p q1 b))), (3, .int (nI b))]) C dX8_free_32 (by decide) rfl ?_
          refine J.sub [1, 2, 3, 4, 0] rfl ?_
          have L34 : ∀ (n : Nat) (v t : Nat), v < n → v ≤ 9 → t + payv N k p q1 b v = fre N k p q1 b + payv N k p q1 b (p q1 b) → t + v ≤ 9 * b + 9 → Ag N k (setp p q1 b v) kf (PF (upd pf1 (6 * q1 + b) (nI v))) → J X (wM mm cy fl tv so sg ce (nI N) (nI B) kf (upd pf1 (6 * q1 + b) (nI v)) vat vrm vrb rk rp lf tf kp (nI c) df mf gf) 34 [(0, .ref (mm 0)), (1, .int (nI q1)), (2, .int (nI t)), (3, .int (nI b)), (4, .int (nI (p q1 b)))] [] := by
            intro n
            induction n with
            | zero => intro v t hm; exact absurd hm (Nat.not_lt_zero _)
            | succ n ih34 =>
              intro v t h34_0 h34_1 h34_2 h34_3 h34_4
              refine j_aload_n C 0 dX8_free_34 rfl rfl ?_
              refine j_iload_n C 3 dX8_free_35 rfl rfl ?_
              refine j_callV0 (As := [.int (nI b)]) (rest := []) C (c_X8_lighterOf mm fl tv so sg ce N B kf (upd pf1 (6 * q1 + b) (nI v)) vat vrm vrb rk rp lf tf kp c df mf gf k (setp p q1 b v) h34_4 b (by omega)) gX8_free_X8_lighterOf rfl 1 rfl (by decide +kernel) (by decide) 0 rfl rfl (Nat.le_of_ble_eq_true rfl) dX8_free_36 rfl (fun _ _ => ?_)
              show J X (wM mm cy fl tv so sg ce (nI N) (nI B) kf (upd pf1 (6 * q1 + b) (nI v)) vat vrm vrb rk rp lf tf kp (nI c) df mf gf) 39 [(0, .ref (mm 0)), (1, .int (nI q1)), (2, .int (nI t)), (3, .int (nI b)), (4, .int (nI (p q1 b)))] [.int (lI (lg N k (setp p q1 b v) b))]
              refine j_iload_n C 1 dX8_free_39 rfl rfl ?_
              refine j_icmp_ne (tgt := 63) C dX8_free_40 (by decide) (fun c40 => ?_) (fun c40 => ?_)
              · have hpn := payv_n (fun z => c40 (by rw [z]; rfl)) (N := N) (k := k) (p := p) (q := q1) (b := b) (v := v)
                refine j_aload_n C 0 dX8_free_63 rfl rfl ?_
                refine j_get C mh0 8 mh2 0 rfl rfl (by decide) rfl rfl dX8_free_64 ?_
                refine j_iload_n C 1 dX8_free_67 rfl rfl ?_
                refine j_iload_n C 3 dX8_free_68 rfl rfl ?_
                refine j_callP (As := [.int (nI q1), .int (nI b)]) (rest := [.ref (mm 5)]) C (c_X8_spot q1 b) gX8_free_X8_spot rfl 2 rfl (by decide +kernel) (by decide) (Nat.le_of_ble_eq_true rfl) dX8_free_69 rfl (fun _ _ => ?_)
                show J X (wM mm cy fl tv so sg ce (nI N) (nI B) kf (upd pf1 (6 * q1 + b) (nI v)) vat vrm vrb rk rp lf tf kp (nI c) df mf gf) 72 [(0, .ref (mm 0)), (1, .int (nI q1)), (2, .int (nI t)), (3, .int (nI b)), (4, .int (nI (p q1 b)))] [.int (nI (6 * q1 + b)), .ref (mm 5)]
                refine j_iload C 4 dX8_free_72 rfl ?_
                refine j_iast (ws' := wM mm cy fl tv so sg ce (nI N) (nI B) kf (upd (upd pf1 (6 * q1 + b) (nI v)) (6 * q1 + b) (nI (p q1 b))) vat vrm vrb rk rp lf tf kp (nI c) df mf gf) C 5 rfl (by omega) (by decide) rfl dX8_free_74 ?_
                refine j_iinc (v := nI (b + 1)) (lv' := [(3, .int (nI (b + 1))), (0, .ref (mm 0)), (1, .int (nI q1)), (2, .int (nI t)), (4, .int (nI (p q1 b)))]) C 3 dX8_free_75 rfl (nI_inc b) (by decide) rfl ?_
                refine j_goto (tgt := 14) C dX8_free_78 (by decide) ?_
                refine J.sub [1, 2, 3, 0] rfl ?_
                have e := ih14 (b + 1) (upd (upd pf1 (6 * q1 + b) (nI v)) (6 * q1 + b) (nI (p q1 b))) (by omega) (by omega) (fun j hj => by rw [upd_2]; by_cases z : j = 6 * q1 + b; rw [z, pk_us]; exact (hT.pp hq1 (by omega)).symm; rw [pk_un z]; exact h14_2 j hj)
                rw [show fre N k p q1 (b + 1) = t from by show fre N k p q1 b + payv N k p q1 b (p q1 b) = t; omega] at e
                exact e
              · have hlg := (lI_eq (lg_31 hN) (by omega)).mp c40
                have hne := h34_4.ne (by omega) hlg
                have hv0 := h34_4.pos hlg
                rw [setp_s] at hv0
                have hpy := payv_y hv0 hlg
                refine j_aload_n C 0 dX8_free_43 rfl rfl ?_
                refine j_get C mh0 8 mh2 0 rfl rfl (by decide) rfl rfl dX8_free_44 ?_
                refine j_iload_n C 1 dX8_free_47 rfl rfl ?_
                refine j_iload_n C 3 dX8_free_48 rfl rfl ?_
                refine j_callP (As := [.int (nI q1), .int (nI b)]) (rest := [.ref (mm 5)]) C (c_X8_spot q1 b) gX8_free_X8_spot rfl 2 rfl (by decide +kernel) (by decide) (Nat.le_of_ble_eq_true rfl) dX8_free_49 rfl (fun _ _ => ?_)
                show J X (wM mm cy fl tv so sg ce (nI N) (nI B) kf (upd pf1 (6 * q1 + b) (nI v)) vat vrm vrb rk rp lf tf kp (nI c) df mf gf) 52 [(0, .ref (mm 0)), (1, .int (nI q1)), (2, .int (nI t)), (3, .int (nI b)), (4, .int (nI (p q1 b)))] [.int (nI (6 * q1 + b)), .ref (mm 5)]
                refine j_dup2 C dX8_free_52 rfl rfl ?_
                refine j_iald (v := nI v) C 5 rfl (by omega) (by decide) pk_us dX8_free_53 ?_
                refine j_iconst (v := nI 1) C dX8_free_54 (by decide) ?_
                refine j_isub (v := nI (v - 1)) C dX8_free_55 (pk_sub (by omega)) ?_
                refine j_iast (ws' := wM mm cy fl tv so sg ce (nI N) (nI B) kf (upd (upd pf1 (6 * q1 + b) (nI v)) (6 * q1 + b) (nI (v - 1))) vat vrm vrb rk rp lf tf kp (nI c) df mf gf) C 5 rfl (by omega) (by decide) rfl dX8_free_56 ?_
                refine j_iinc (v := nI (t + 1)) (lv' := [(2, .int (nI (t + 1))), (0, .ref (mm 0)), (1, .int (nI q1)), (3, .int (nI b)), (4, .int (nI (p q1 b)))]) C 2 dX8_free_57 rfl (nI_inc t) (by decide) rfl ?_
                refine j_goto (tgt := 34) C dX8_free_60 (by decide) ?_
                refine J.sub [1, 2, 0, 3, 4] rfl ?_
                have e := ih34 (v - 1) (t + 1) (by omega) (by omega) (by omega) (by omega) (ag_alm hT hq1 (by omega) hne (by omega) (fun j hj _ => h14_2 j hj))
                rw [upd_2]
                exact e
          have e := L34 (p q1 b + 1) (p q1 b) (fre N k p q1 b) (by omega) hp9 rfl (by have := fre_le (q := q1) hT hq1 (i := b) (by omega); omega) hab
          rw [upd_id (f := pf1) ((h14_2 _ (by omega)).trans (hT.pp hq1 (by omega)))] at e
          exact e
    have e := L14 (N + 1) 0 pf (by omega) (by omega) (fun _ _ => rfl)
    exact e
  · have c5 := bN_0.mp c5
    have qq1 := pOf_n c5
    refine j_iconst (v := (-1)) C dX8_free_8 (by decide) ?_
    exact j_iret C E dX8_free_9 (fl, tv, so, sg, ce, nI N, nI B, kf, pf, vat, vrm, vrb, rk, rp, lf, tf, kp, nI c, df, mf, gf) (by rw [show m_free ((N, B, k, p), (c, rd, rl, ra), (hs, sl, sa, sc), tv, fl) x = ((-1), ((N, B, k, p), (c, rd, rl, ra), (hs, sl, sa, sc), tv, fl)) from (by simp only [m_free, qq1]; try rfl)]; exact MI.mk hB hN2 hT hR hS) (by rw [show m_free ((N, B, k, p), (c, rd, rl, ra), (hs, sl, sa, sc), tv, fl) x = ((-1), ((N, B, k, p), (c, rd, rl, ra), (hs, sl, sa, sc), tv, fl)) from (by simp only [m_free, qq1]; try rfl)]) rfl
