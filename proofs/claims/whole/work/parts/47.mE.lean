set_option maxHeartbeats 4000000 in
set_option maxRecDepth 20000 in
theorem c_X8_reading {l : Launch} {D : va_G} {cy : Nat → ClassId} (mm : Nat → Nat) (fl tv : Int32) (so sg ce : Nat → Int32) (N B : Nat) (kf pf : Nat → Int32) (vat vrm vrb : Int32) (rk rp lf tf kp : Nat → Int32) (c : Nat) (df mf gf : Nat → Int32) (k : Nat → Nat) (p : Nat → Nat → Nat) (rd rl : Nat → Nat) (ra : Nat → Option Nat) (hs : Nat → Bool) (sl sa : Nat → Nat) (sc : Nat → Nat → Int32) (hX : MI ((N, B, k, p), (c, rd, rl, ra), (hs, sl, sa, sc), tv, fl) (fl, tv, so, sg, ce, nI N, nI B, kf, pf, vat, vrm, vrb, rk, rp, lf, tf, kp, nI c, df, mf, gf)) (t b a : Int32)  : Ct l yX8_reading wsX8_reading ({ frames := 1, cells := 0, slots := 0, locals := 22 }) D cy [.ref (mm 0), .int t, .int b, .int a] (wM mm cy fl tv so sg ce (nI N) (nI B) kf pf vat vrm vrb rk rp lf tf kp (nI c) df mf gf) (fun u : MS => MI (m_reading ((N, B, k, p), (c, rd, rl, ra), (hs, sl, sa, sc), tv, fl) t b a).2 u) (fun _ => some (.int (m_reading ((N, B, k, p), (c, rd, rl, ra), (hs, sl, sa, sc), tv, fl) t b a).1)) (fun u => wMu mm cy u) := by
  refine Ct.of (cc := cX8_reading) (nL := 4) (ret := (some .int)) rfl (by decide) ⟨rfl, rfl⟩ (Nat.le_of_ble_eq_true rfl) ?_
  intro X C E
  have C : Cx X l D cy cX8_reading 4 wsX8_reading RX8 ({ frames := 1, cells := 0, slots := 0, locals := 22 }) := C
  have mh0 : ∀ w ∈ u_ws RX8 TX8 21, w ∈ wsX8_reading := by decide +kernel
  have mh1 : Cond.fieldLink RX8 96 RX8 (TX8 17).2.1 (TX8 17).2.2.1 ∈ wsX8_reading := by decide +kernel
  have mh2 : Cond.fieldLink RX8 41 RX8 (TX8 18).2.1 (TX8 18).2.2.1 ∈ wsX8_reading := by decide +kernel
  have mh3 : Cond.fieldLink RX8 44 RX8 (TX8 19).2.1 (TX8 19).2.2.1 ∈ wsX8_reading := by decide +kernel
  have mh4 : Cond.fieldLink RX8 47 RX8 (TX8 20).2.1 (TX8 20).2.2.1 ∈ wsX8_reading := by decide +kernel
  obtain ⟨-, ⟨hB, hN2⟩, hT, hR, hS⟩ := hX
  have hN := hT.n
  have hc8 := hR.1
  have hN30 : N ≤ 2 ^ 30 := by omega
  show J X (wM mm cy fl tv so sg ce (nI N) (nI B) kf pf vat vrm vrb rk rp lf tf kp (nI c) df mf gf) 0 [(0, .ref (mm 0)), (1, .int t), (2, .int b), (3, .int a)] []
  refine j_aload_n C 0 dX8_reading_0 rfl rfl ?_
  refine j_iload_n C 2 dX8_reading_1 rfl rfl ?_
  refine j_callV0 (As := [.int b]) (rest := []) C (c_X8_isPerson mm fl tv so sg ce N B kf pf vat vrm vrb rk rp lf tf kp c df mf gf (b) hN) gX8_reading_X8_isPerson rfl 1 rfl (by decide +kernel) (by decide) 0 rfl rfl (Nat.le_of_ble_eq_true rfl) dX8_reading_2 rfl (fun _ _ => ?_)
  show J X (wM mm cy fl tv so sg ce (nI N) (nI B) kf pf vat vrm vrb rk rp lf tf kp (nI c) df mf gf) 5 [(0, .ref (mm 0)), (1, .int t), (2, .int b), (3, .int a)] [.int (nI (bN ((pOf N (b)).isSome = true)))]
  refine j_if_eqN (tgt := 22) C dX8_reading_5 (by decide) (bN_lt _) (fun c5 => ?_) (fun c5 => ?_)
  · have c5 := bN_0.mp c5
    have qb1 := pOf_n c5
    refine j_iconst (v := (-1)) C dX8_reading_22 (by decide) ?_
    exact j_iret C E dX8_reading_23 (fl, tv, so, sg, ce, nI N, nI B, kf, pf, vat, vrm, vrb, rk, rp, lf, tf, kp, nI c, df, mf, gf) (by rw [show m_reading ((N, B, k, p), (c, rd, rl, ra), (hs, sl, sa, sc), tv, fl) t b a = ((-1), ((N, B, k, p), (c, rd, rl, ra), (hs, sl, sa, sc), tv, fl)) from (by simp only [m_reading, qb1]; try rfl)]; exact MI.mk hB hN2 hT hR hS) (by rw [show m_reading ((N, B, k, p), (c, rd, rl, ra), (hs, sl, sa, sc), tv, fl) t b a = ((-1), ((N, B, k, p), (c, rd, rl, ra), (hs, sl, sa, sc), tv, fl)) from (by simp only [m_reading, qb1]; try rfl)]) rfl
  · have c5 := bN_1.mp c5
    obtain ⟨b1, hb1, rfl⟩ := pY hN30 c5
    have qb1 := pI hb1 hN30
    show J X (wM mm cy fl tv so sg ce (nI N) (nI B) kf pf vat vrm vrb rk rp lf tf kp (nI c) df mf gf) 8 [(0, .ref (mm 0)), (1, .int t), (2, .int (nI b1)), (3, .int a)] []
    refine j_iload_n C 3 dX8_reading_8 rfl rfl ?_
    refine j_bipush (v := (-9)) C dX8_reading_9 (by decide) ?_
    refine j_icmp_eq (tgt := 24) C dX8_reading_11 (by decide) (fun c11 => ?_) (fun c11 => ?_)
    · subst c11
      have z1 := aOf_9 (N := N)
      show J X (wM mm cy fl tv so sg ce (nI N) (nI B) kf pf vat vrm vrb rk rp lf tf kp (nI c) df mf gf) 24 [(0, .ref (mm 0)), (1, .int t), (2, .int (nI b1)), (3, .int ((-9)))] []
      refine j_iload_n C 1 dX8_reading_24 rfl rfl ?_
      refine j_iconst (v := nI 0) C dX8_reading_25 (by decide) ?_
      refine j_bipush (v := nI 10) C dX8_reading_26 (by decide) ?_
      refine j_callP (As := [.int t, .int (nI 0), .int (nI 10)]) (rest := []) C (c_X8_withinP (t) 10 (by omega)) gX8_reading_X8_within rfl 3 rfl (by decide +kernel) (by decide) (Nat.le_of_ble_eq_true rfl) dX8_reading_28 rfl (fun _ _ => ?_)
      show J X (wM mm cy fl tv so sg ce (nI N) (nI B) kf pf vat vrm vrb rk rp lf tf kp (nI c) df mf gf) 31 [(0, .ref (mm 0)), (1, .int t), (2, .int (nI b1)), (3, .int ((-9)))] [.int (nI (bN ((pOf 11 (t)).isSome = true)))]
      refine j_if_neN (tgt := 37) C dX8_reading_31 (by decide) (bN_lt _) (fun c31 => ?_) (fun c31 => ?_)
      · have c31 := bN_1.mp c31
        obtain ⟨t1, ht1, rfl⟩ := pY (by decide) c31
        have qt1 := pI ht1 (by decide)
        show J X (wM mm cy fl tv so sg ce (nI N) (nI B) kf pf vat vrm vrb rk rp lf tf kp (nI c) df mf gf) 37 [(0, .ref (mm 0)), (1, .int (nI t1)), (2, .int (nI b1)), (3, .int ((-9)))] []
        refine j_aload_n C 0 dX8_reading_37 rfl rfl ?_
        refine j_get C mh0 17 mh1 0 rfl rfl (by decide) rfl rfl dX8_reading_38 ?_
        refine j_bipush (v := nI 8) C dX8_reading_41 (by decide) ?_
        refine j_icmp_neN (tgt := 49) C dX8_reading_43 (by decide) (by omega) (by omega) (fun c43 => ?_) (fun c43 => ?_)
        · have nc : ¬ 8 ≤ c := by omega
          refine j_aload_n C 0 dX8_reading_49 rfl rfl ?_
          refine j_get C mh0 18 mh2 0 rfl rfl (by decide) rfl rfl dX8_reading_50 ?_
          refine j_aload_n C 0 dX8_reading_53 rfl rfl ?_
          refine j_get C mh0 17 mh1 0 rfl rfl (by decide) rfl rfl dX8_reading_54 ?_
          refine j_iload_n C 1 dX8_reading_57 rfl rfl ?_
          refine j_iast (ws' := wM mm cy fl tv so sg ce (nI N) (nI B) kf pf vat vrm vrb rk rp lf tf kp (nI c) (upd df c (nI t1)) mf gf) C 11 rfl (by omega) (by decide) rfl dX8_reading_58 ?_
          refine j_aload_n C 0 dX8_reading_59 rfl rfl ?_
          refine j_get C mh0 19 mh3 0 rfl rfl (by decide) rfl rfl dX8_reading_60 ?_
          refine j_aload_n C 0 dX8_reading_63 rfl rfl ?_
          refine j_get C mh0 17 mh1 0 rfl rfl (by decide) rfl rfl dX8_reading_64 ?_
          refine j_iload_n C 2 dX8_reading_67 rfl rfl ?_
          refine j_iast (ws' := wM mm cy fl tv so sg ce (nI N) (nI B) kf pf vat vrm vrb rk rp lf tf kp (nI c) (upd df c (nI t1)) (upd mf c (nI b1)) gf) C 12 rfl (by omega) (by decide) rfl dX8_reading_68 ?_
          refine j_aload_n C 0 dX8_reading_69 rfl rfl ?_
          refine j_get C mh0 20 mh4 0 rfl rfl (by decide) rfl rfl dX8_reading_70 ?_
          refine j_aload_n C 0 dX8_reading_73 rfl rfl ?_
          refine j_get C mh0 17 mh1 0 rfl rfl (by decide) rfl rfl dX8_reading_74 ?_
          refine j_iload_n C 3 dX8_reading_77 rfl rfl ?_
          refine j_iast (ws' := wM mm cy fl tv so sg ce (nI N) (nI B) kf pf vat vrm vrb rk rp lf tf kp (nI c) (upd df c (nI t1)) (upd mf c (nI b1)) (upd gf c ((-9)))) C 13 rfl (by omega) (by decide) rfl dX8_reading_78 ?_
          refine j_aload_n C 0 dX8_reading_79 rfl rfl ?_
          refine j_dup C dX8_reading_80 rfl ?_
          refine j_get C mh0 17 mh1 0 rfl rfl (by decide) rfl rfl dX8_reading_81 ?_
          refine j_iconst (v := nI 1) C dX8_reading_84 (by decide) ?_
          refine j_iadd (v := nI (c + 1)) C dX8_reading_85 (nI_add _ _) ?_
          refine j_put (ws' := wM mm cy fl tv so sg ce (nI N) (nI B) kf pf vat vrm vrb rk rp lf tf kp (nI (c + 1)) (upd df c (nI t1)) (upd mf c (nI b1)) (upd gf c ((-9)))) C mh0 17 mh1 tyX8 tyX8_ok nmX8 0 rfl rfl (by decide) rfl rfl (by decide +kernel) (Nat.le_of_ble_eq_true rfl) rfl dX8_reading_86 ?_
          refine j_aload_n C 0 dX8_reading_89 rfl rfl ?_
          refine j_get C mh0 17 mh1 0 rfl rfl (by decide) rfl rfl dX8_reading_90 ?_
          refine j_iconst (v := nI 1) C dX8_reading_93 (by decide) ?_
          refine j_isub (v := nI c) C dX8_reading_94 (by rw [pk_sub (by omega)]; rfl) ?_
          exact j_iret C E dX8_reading_95 (fl, tv, so, sg, ce, nI N, nI B, kf, pf, vat, vrm, vrb, rk, rp, lf, tf, kp, nI (c + 1), upd df c (nI t1), upd mf c (nI b1), upd gf c ((-9))) (by rw [show m_reading ((N, B, k, p), (c, rd, rl, ra), (hs, sl, sa, sc), tv, fl) (nI t1) (nI b1) (-9) = (nI c, ((N, B, k, p), (c + 1, upN rd c t1, upN rl c b1, upO ra c (none)), (hs, sl, sa, sc), tv, fl)) from (by simp only [m_reading, qb1, z1, qt1, nc, if_false]; try rfl)]; exact MI.mk hB hN2 hT (hR.add (by omega) (by omega) hb1 (fun a e => by cases e) rfl) hS) (by rw [show m_reading ((N, B, k, p), (c, rd, rl, ra), (hs, sl, sa, sc), tv, fl) (nI t1) (nI b1) (-9) = (nI c, ((N, B, k, p), (c + 1, upN rd c t1, upN rl c b1, upO ra c (none)), (hs, sl, sa, sc), tv, fl)) from (by simp only [m_reading, qb1, z1, qt1, nc, if_false]; try rfl)]) rfl
        · have c8 : 8 ≤ c := by omega
          refine j_bipush (v := (-4)) C dX8_reading_46 (by decide) ?_
          exact j_iret C E dX8_reading_48 (fl, tv, so, sg, ce, nI N, nI B, kf, pf, vat, vrm, vrb, rk, rp, lf, tf, kp, nI c, df, mf, gf) (by rw [show m_reading ((N, B, k, p), (c, rd, rl, ra), (hs, sl, sa, sc), tv, fl) (nI t1) (nI b1) (-9) = ((-4), ((N, B, k, p), (c, rd, rl, ra), (hs, sl, sa, sc), tv, fl)) from (by simp only [m_reading, qb1, z1, qt1, c8, if_true]; try rfl)]; exact MI.mk hB hN2 hT hR hS) (by rw [show m_reading ((N, B, k, p), (c, rd, rl, ra), (hs, sl, sa, sc), tv, fl) (nI t1) (nI b1) (-9) = ((-4), ((N, B, k, p), (c, rd, rl, ra), (hs, sl, sa, sc), tv, fl)) from (by simp only [m_reading, qb1, z1, qt1, c8, if_true]; try rfl)]) rfl
      · have c31 := bN_0.mp c31
        have qt1 := pOf_n c31
        refine j_bipush (v := (-2)) C dX8_reading_34 (by decide) ?_
        exact j_iret C E dX8_reading_36 (fl, tv, so, sg, ce, nI N, nI B, kf, pf, vat, vrm, vrb, rk, rp, lf, tf, kp, nI c, df, mf, gf) (by rw [show m_reading ((N, B, k, p), (c, rd, rl, ra), (hs, sl, sa, sc), tv, fl) t (nI b1) (-9) = ((-2), ((N, B, k, p), (c, rd, rl, ra), (hs, sl, sa, sc), tv, fl)) from (by simp only [m_reading, qb1, z1, qt1]; try rfl)]; exact MI.mk hB hN2 hT hR hS) (by rw [show m_reading ((N, B, k, p), (c, rd, rl, ra), (hs, sl, sa, sc), tv, fl) t (nI b1) (-9) = ((-2), ((N, B, k, p), (c, rd, rl, ra), (hs, sl, sa, sc), tv, fl)) from (by simp only [m_reading, qb1, z1, qt1]; try rfl)]) rfl
    · refine j_aload_n C 0 dX8_reading_14 rfl rfl ?_
      refine j_iload_n C 3 dX8_reading_15 rfl rfl ?_
      refine j_callV0 (As := [.int a]) (rest := []) C (c_X8_isPerson mm fl tv so sg ce N B kf pf vat vrm vrb rk rp lf tf kp c df mf gf (a) hN) gX8_reading_X8_isPerson rfl 1 rfl (by decide +kernel) (by decide) 0 rfl rfl (Nat.le_of_ble_eq_true rfl) dX8_reading_16 rfl (fun _ _ => ?_)
      show J X (wM mm cy fl tv so sg ce (nI N) (nI B) kf pf vat vrm vrb rk rp lf tf kp (nI c) df mf gf) 19 [(0, .ref (mm 0)), (1, .int t), (2, .int (nI b1)), (3, .int a)] [.int (nI (bN ((pOf N (a)).isSome = true)))]
      refine j_if_neN (tgt := 24) C dX8_reading_19 (by decide) (bN_lt _) (fun c19 => ?_) (fun c19 => ?_)
      · have c19 := bN_1.mp c19
        obtain ⟨a1, ha1, rfl⟩ := pY hN30 c19
        have qa1 := pI ha1 hN30
        have z1 := aOf_y ha1 hN30
        show J X (wM mm cy fl tv so sg ce (nI N) (nI B) kf pf vat vrm vrb rk rp lf tf kp (nI c) df mf gf) 24 [(0, .ref (mm 0)), (1, .int t), (2, .int (nI b1)), (3, .int (nI a1))] []
        refine j_iload_n C 1 dX8_reading_24 rfl rfl ?_
        refine j_iconst (v := nI 0) C dX8_reading_25 (by decide) ?_
        refine j_bipush (v := nI 10) C dX8_reading_26 (by decide) ?_
        refine j_callP (As := [.int t, .int (nI 0), .int (nI 10)]) (rest := []) C (c_X8_withinP (t) 10 (by omega)) gX8_reading_X8_within rfl 3 rfl (by decide +kernel) (by decide) (Nat.le_of_ble_eq_true rfl) dX8_reading_28 rfl (fun _ _ => ?_)
        show J X (wM mm cy fl tv so sg ce (nI N) (nI B) kf pf vat vrm vrb rk rp lf tf kp (nI c) df mf gf) 31 [(0, .ref (mm 0)), (1, .int t), (2, .int (nI b1)), (3, .int (nI a1))] [.int (nI (bN ((pOf 11 (t)).isSome = true)))]
        refine j_if_neN (tgt := 37) C dX8_reading_31 (by decide) (bN_lt _) (fun c31 => ?_) (fun c31 => ?_)
        · have c31 := bN_1.mp c31
          obtain ⟨t1, ht1, rfl⟩ := pY (by decide) c31
          have qt1 := pI ht1 (by decide)
          show J X (wM mm cy fl tv so sg ce (nI N) (nI B) kf pf vat vrm vrb rk rp lf tf kp (nI c) df mf gf) 37 [(0, .ref (mm 0)), (1, .int (nI t1)), (2, .int (nI b1)), (3, .int (nI a1))] []
          refine j_aload_n C 0 dX8_reading_37 rfl rfl ?_
          refine j_get C mh0 17 mh1 0 rfl rfl (by decide) rfl rfl dX8_reading_38 ?_
          refine j_bipush (v := nI 8) C dX8_reading_41 (by decide) ?_
          refine j_icmp_neN (tgt := 49) C dX8_reading_43 (by decide) (by omega) (by omega) (fun c43 => ?_) (fun c43 => ?_)
          · have nc : ¬ 8 ≤ c := by omega
            refine j_aload_n C 0 dX8_reading_49 rfl rfl ?_
            refine j_get C mh0 18 mh2 0 rfl rfl (by decide) rfl rfl dX8_reading_50 ?_
            refine j_aload_n C 0 dX8_reading_53 rfl rfl ?_
            refine j_get C mh0 17 mh1 0 rfl rfl (by decide) rfl rfl dX8_reading_54 ?_
            refine j_iload_n C 1 dX8_reading_57 rfl rfl ?_
            refine j_iast (ws' := wM mm cy fl tv so sg ce (nI N) (nI B) kf pf vat vrm vrb rk rp lf tf kp (nI c) (upd df c (nI t1)) mf gf) C 11 rfl (by omega) (by decide) rfl dX8_reading_58 ?_
            refine j_aload_n C 0 dX8_reading_59 rfl rfl ?_
            refine j_get C mh0 19 mh3 0 rfl rfl (by decide) rfl rfl dX8_reading_60 ?_
            refine j_aload_n C 0 dX8_reading_63 rfl rfl ?_
            refine j_get C mh0 17 mh1 0 rfl rfl (by decide) rfl rfl dX8_reading_64 ?_
            refine j_iload_n C 2 dX8_reading_67 rfl rfl ?_
            refine j_iast (ws' := wM mm cy fl tv so sg ce (nI N) (nI B) kf pf vat vrm vrb rk rp lf tf kp (nI c) (upd df c (nI t1)) (upd mf c (nI b1)) gf) C 12 rfl (by omega) (by decide) rfl dX8_reading_68 ?_
            refine j_aload_n C 0 dX8_reading_69 rfl rfl ?_
            refine j_get C mh0 20 mh4 0 rfl rfl (by decide) rfl rfl dX8_reading_70 ?_
            refine j_aload_n C 0 dX8_reading_73 rfl rfl ?_
            refine j_get C mh0 17 mh1 0 rfl rfl (by decide) rfl rfl dX8_reading_74 ?_
            refine j_iload_n C 3 dX8_reading_77 rfl rfl ?_
            refine j_iast (ws' := wM mm cy fl tv so sg ce (nI N) (nI B) kf pf vat vrm vrb rk rp lf tf kp (nI c) (upd df c (nI t1)) (upd mf c (nI b1)) (upd gf c (nI a1))) C 13 rfl (by omega) (by decide) rfl dX8_reading_78 ?_
            refine j_aload_n C 0 dX8_reading_79 rfl rfl ?_
            refine j_dup C dX8_reading_80 rfl ?_
            refine j_get C mh0 17 mh1 0 rfl rfl (by decide) rfl rfl dX8_reading_81 ?_
            refine j_iconst (v := nI 1) C dX8_reading_84 (by decide) ?_
            refine j_iadd (v := nI (c + 1)) C dX8_reading_85 (nI_add _ _) ?_
            refine j_put (ws' := wM mm cy fl tv so sg ce (nI N) (nI B) kf pf vat vrm vrb rk rp lf tf kp (nI (c + 1)) (upd df c (nI t1)) (upd mf c (nI b1)) (upd gf c (nI a1))) C mh0 17 mh1 tyX8 tyX8_ok nmX8 0 rfl rfl (by decide) rfl rfl (by decide +kernel) (Nat.le_of_ble_eq_true rfl) rfl dX8_reading_86 ?_
            refine j_aload_n C 0 dX8_reading_89 rfl rfl ?_
            refine j_get C mh0 17 mh1 0 rfl rfl (by decide) rfl rfl dX8_reading_90 ?_
            refine j_iconst (v := nI 1) C dX8_reading_93 (by decide) ?_
            refine j_isub (v := nI c) C dX8_reading_94 (by rw [pk_sub (by omega)]; rfl) ?_
            exact j_iret C E dX8_reading_95 (fl, tv, so, sg, ce, nI N, nI B, kf, pf, vat, vrm, vrb, rk, rp, lf, tf, kp, nI (c + 1), upd df c (nI t1), upd mf c (nI b1), upd gf c (nI a1)) (by rw [show m_reading ((N, B, k, p), (c, rd, rl, ra), (hs, sl, sa, sc), tv, fl) (nI t1) (nI b1) (nI a1) = (nI c, ((N, B, k, p), (c + 1, upN rd c t1, upN rl c b1, upO ra c (some a1)), (hs, sl, sa, sc), tv, fl)) from (by simp only [m_reading, qb1, z1, qa1, qt1, nc, if_false]; try rfl)]; exact MI.mk hB hN2 hT (hR.add (by omega) (by omega) hb1 (fun a e => by cases e; exact ha1) rfl) hS) (by rw [show m_reading ((N, B, k, p), (c, rd, rl, ra), (hs, sl, sa, sc), tv, fl) (nI t1) (nI b1) (nI a1) = (nI c, ((N, B, k, p), (c + 1, upN rd c t1, upN rl c b1, upO ra c (some a1)), (hs, sl, sa, sc), tv, fl)) from (by simp only [m_reading, qb1, z1, qa1, qt1, nc, if_false]; try rfl)]) rfl
          · have c8 : 8 ≤ c := by omega
            refine j_bipush (v := (-4)) C dX8_reading_46 (by decide) ?_
            exact j_iret C E dX8_reading_48 (fl, tv, so, sg, ce, nI N, nI B, kf, pf, vat, vrm, vrb, rk, rp, lf, tf, kp, nI c, df, mf, gf) (by rw [show m_reading ((N, B, k, p), (c, rd, rl, ra), (hs, sl, sa, sc), tv, fl) (nI t1) (nI b1) (nI a1) = ((-4), ((N, B, k, p), (c, rd, rl, ra), (hs, sl, sa, sc), tv, fl)) from (by simp only [m_reading, qb1, z1, qa1, qt1, c8, if_true]; try rfl)]; exact MI.mk hB hN2 hT hR hS) (by rw [show m_reading ((N, B, k, p), (c, rd, rl, ra), (hs, sl, sa, sc), tv, fl) (nI t1) (nI b1) (nI a1) = ((-4), ((N, B, k, p), (c, rd, rl, ra), (hs, sl, sa, sc), tv, fl)) from (by simp only [m_reading, qb1, z1, qa1, qt1, c8, if_true]; try rfl)]) rfl
        · have c31 := bN_0.mp c31
          have qt1 := pOf_n c31
          refine j_bipush (v := (-2)) C dX8_reading_34 (by decide) ?_
          exact j_iret C E dX8_reading_36 (fl, tv, so, sg, ce, nI N, nI B, kf, pf, vat, vrm, vrb, rk, rp, lf, tf, kp, nI c, df, mf, gf) (by rw [show m_reading ((N, B, k, p), (c, rd, rl, ra), (hs, sl, sa, sc), tv, fl) t (nI b1) (nI a1) = ((-2), ((N, B, k, p), (c, rd, rl, ra), (hs, sl, sa, sc), tv, fl)) from (by simp only [m_reading, qb1, z1, qa1, qt1]; try rfl)]; exact MI.mk hB hN2 hT hR hS) (by rw [show m_reading ((N, B, k, p), (c, rd, rl, ra), (hs, sl, sa, sc), tv, fl) t (nI b1) (nI a1) = ((-2), ((N, B, k, p), (c, rd, rl, ra), (hs, sl, sa, sc), tv, fl)) from (by simp only [m_reading, qb1, z1, qa1, qt1]; try rfl)]) rfl
      · have c19 := bN_0.mp c19
        have qa1 := pOf_n c19
        have z1 := aOf_n c11 qa1
        refine j_iconst (v := (-1)) C dX8_reading_22 (by decide) ?_
        exact j_iret C E dX8_reading_23 (fl, tv, so, sg, ce, nI N, nI B, kf, pf, vat, vrm, vrb, rk, rp, lf, tf, kp, nI c, df, mf, gf) (by rw [show m_reading ((N, B, k, p), (c, rd, rl, ra), (hs, sl, sa, sc), tv, fl) t (nI b1) a = ((-1), ((N, B, k, p), (c, rd, rl, ra), (hs, sl, sa, sc), tv, fl)) from (by simp only [m_reading, qb1, z1, qa1]; try rfl)]; exact MI.mk hB hN2 hT hR hS) (by rw [show m_reading ((N, B, k, p), (c, rd, rl, ra), (hs, sl, sa, sc), tv, fl) t (nI b1) a = ((-1), ((N, B, k, p), (c, rd, rl, ra), (hs, sl, sa, sc), tv, fl)) from (by simp only [m_reading, qb1, z1, qa1]; try rfl)]) rfl
set_option maxHeartbeats 4000000 in
set_option maxRecDepth 20000 in
theorem c_X8_back {l : Launch} {D : va_G} {cy : Nat → ClassId} (mm : Nat → Nat) (fl tv : Int32) (so sg ce : Nat → Int32) (N B : Nat) (kf pf : Nat → Int32) (vat vrm vrb : Int32) (rk rp lf tf kp : Nat → Int32) (c : Nat) (df mf gf : Nat → Int32) (k : Nat → Nat) (p : Nat → Nat → Nat) (rd rl : Nat → Nat) (ra : Nat → Option Nat) (hs : Nat → Bool) (sl sa : Nat → Nat) (sc : Nat → Nat → Int32) (hX : MI ((N, B, k, p), (c, rd, rl, ra), (hs, sl, sa, sc), tv, fl) (fl, tv, so, sg, ce, nI N, nI B, kf, pf, vat, vrm, vrb, rk, rp, lf, tf, kp, nI c, df, mf, gf)) (v : Int32)  : Ct l yX8_back wsX8_back ({ frames := 1, cells := 0, slots := 0, locals := 22 }) D cy [.ref (mm 0), .int v] (wM mm cy fl tv so sg ce (nI N) (nI B) kf pf vat vrm vrb rk rp lf tf kp (nI c) df mf gf) (fun u : MS => MI (m_back ((N, B, k, p), (c, rd, rl, ra), (hs, sl, sa, sc), tv, fl) v).2 u) (fun _ => some (.int (m_back ((N, B, k, p), (c, rd, rl, ra), (hs, sl, sa, sc), tv, fl) v).1)) (fun u => wMu mm cy u) := by
  refine Ct.of (cc := cX8_back) (nL := 2) (ret := (some .int)) rfl (by decide) ⟨rfl, rfl⟩ (Nat.le_of_ble_eq_true rfl) ?_
  intro X C E
  have C : Cx X l D cy cX8_back 2 wsX8_back RX8 ({ frames := 1, cells := 0, slots := 0, locals := 22 }) := C
  have mh0 : ∀ w ∈ u_ws RX8 TX8 21, w ∈ wsX8_back := by decide +kernel
  have mh1 : Cond.fieldLink RX8 96 RX8 (TX8 17).2.1 (TX8 17).2.2.1 ∈ wsX8_back := by decide +kernel
  obtain ⟨-, ⟨hB, hN2⟩, hT, hR, hS⟩ := hX
  have hN := hT.n
  have hc8 := hR.1
  have hN30 : N ≤ 2 ^ 30 := by omega
  show J X (wM mm cy fl tv so sg ce (nI N) (nI B) kf pf vat vrm vrb rk rp lf tf kp (nI c) df mf gf) 0 [(0, .ref (mm 0)), (1, .int v)] []
  refine j_iload_n C 1 dX8_back_0 rfl rfl ?_
  refine j_iconst (v := nI 0) C dX8_back_1 (by decide) ?_
  refine j_aload_n C 0 dX8_back_2 rfl rfl ?_
  refine j_get C mh0 17 mh1 0 rfl rfl (by decide) rfl rfl dX8_back_3 ?_
  refine j_callP (As := [.int v, .int (nI 0), .int (nI c)]) (rest := []) C (c_X8_withinP (v) c (by omega)) gX8_back_X8_within rfl 3 rfl (by decide +kernel) (by decide) (Nat.le_of_ble_eq_true rfl) dX8_back_6 rfl (fun _ _ => ?_)
  show J X (wM mm cy fl tv so sg ce (nI N) (nI B) kf pf vat vrm vrb rk rp lf tf kp (nI c) df mf gf) 9 [(0, .ref (mm 0)), (1, .int v)] [.int (nI (bN ((pOf (c + 1) (v)).isSome = true)))]
  refine j_if_neN (tgt := 15) C dX8_back_9 (by decide) (bN_lt _) (fun c9 => ?_) (fun c9 => ?_)
  · have c9 := bN_1.mp c9
    obtain ⟨m1, hm1, rfl⟩ := pY (by omega) c9
    have qm1 := pI hm1 (by omega)
    show J X (wM mm cy fl tv so sg ce (nI N) (nI B) kf pf vat vrm vrb rk rp lf tf kp (nI c) df mf gf) 15 [(0, .ref (mm 0)), (1, .int (nI m1))] []
    refine j_aload_n C 0 dX8_back_15 rfl rfl ?_
    refine j_dup C dX8_back_16 rfl ?_
    refine j_get C mh0 17 mh1 0 rfl rfl (by decide) rfl rfl dX8_back_17 ?_
    refine j_iload_n C 1 dX8_back_20 rfl rfl ?_
    refine j_isub (v := nI (c - m1)) C dX8_back_21 (pk_sub (by omega)) ?_
    refine j_put (ws' := wM mm cy fl tv so sg ce (nI N) (nI B) kf pf vat vrm vrb rk rp lf tf kp (nI (c - m1)) df mf gf) C mh0 17 mh1 tyX8 tyX8_ok nmX8 0 rfl rfl (by decide) rfl rfl (by decide +kernel) (Nat.le_of_ble_eq_true rfl) rfl dX8_back_22 ?_
    refine j_aload_n C 0 dX8_back_25 rfl rfl ?_
    refine j_get C mh0 17 mh1 0 rfl rfl (by decide) rfl rfl dX8_back_26 ?_
    exact j_iret C E dX8_back_29 (fl, tv, so, sg, ce, nI N, nI B, kf, pf, vat, vrm, vrb, rk, rp, lf, tf, kp, nI (c - m1), df, mf, gf) (by rw [show m_back ((N, B, k, p), (c, rd, rl, ra), (hs, sl, sa, sc), tv, fl) (nI m1) = (nI (c - m1), ((N, B, k, p), (c - m1, rd, rl, ra), (hs, sl, sa, sc), tv, fl)) from (by simp only [m_back, qm1]; try rfl)]; exact MI.mk hB hN2 hT (hR.sub (by omega)) hS) (by rw [show m_back ((N, B, k, p), (c, rd, rl, ra), (hs, sl, sa, sc), tv, fl) (nI m1) = (nI (c - m1), ((N, B, k, p), (c - m1, rd, rl, ra), (hs, sl, sa, sc), tv, fl)) from (by simp only [m_back, qm1]; try rfl)]) rfl
  · have c9 := bN_0.mp c9
    have qm1 := pOf_n c9
    refine j_bipush (v := (-2)) C dX8_back_12 (by decide) ?_
    exact j_iret C E dX8_back_14 (fl, tv, so, sg, ce, nI N, nI B, kf, pf, vat, vrm, vrb, rk, rp, lf, tf, kp, nI c, df, mf, gf) (by rw [show m_back ((N, B, k, p), (c, rd, rl, ra), (hs, sl, sa, sc), tv, fl) v = ((-2), ((N, B, k, p), (c, rd, rl, ra), (hs, sl, sa, sc), tv, fl)) from (by simp only [m_back, qm1]; try rfl)]; exact MI.mk hB hN2 hT hR hS) (by rw [show m_back ((N, B, k, p), (c, rd, rl, ra), (hs, sl, sa, sc), tv, fl) v = ((-2), ((N, B, k, p), (c, rd, rl, ra), (hs, sl, sa, sc), tv, fl)) from (by simp only [m_back, qm1]; try rfl)]) rfl
set_option maxHeartbeats 4000000 in
set_option maxRecDepth 20000 in
theorem c_X8_debts {l : Launch} {D : va_G} {cy : Nat → ClassId} (mm : Nat → Nat) (fl tv : Int32) (so sg ce : Nat → Int32) (N B : Nat) (kf pf : Nat → Int32) (vat vrm vrb : Int32) (rk rp lf tf kp : Nat → Int32) (c : Nat) (df mf gf : Nat → Int32) (k : Nat → Nat) (p : Nat → Nat → Nat) (rd rl : Nat → Nat) (ra : Nat → Option Nat) (hs : Nat → Bool) (sl sa : Nat → Nat) (sc : Nat → Nat → Int32) (hX : MI ((N, B, k, p), (c, rd, rl, ra), (hs, sl, sa, sc), tv, fl) (fl, tv, so, sg, ce, nI N, nI B, kf, pf, vat, vrm, vrb, rk, rp, lf, tf, kp, nI c, df, mf, gf)) (x y : Int32)  : Ct l yX8_debts wsX8_debts ({ frames := 7, cells := 0, slots := 0, locals := 157 }) D cy [.ref (mm 0), .int x, .int y] (wM mm cy fl tv so sg ce (nI N) (nI B) kf pf vat vrm vrb rk rp lf tf kp (nI c) df mf gf) (fun u : MS => MI (m_debts ((N, B, k, p), (c, rd, rl, ra), (hs, sl, sa, sc), tv, fl) x y).2 u) (fun _ => some (.int (m_debts ((N, B, k, p), (c, rd, rl, ra), (hs, sl, sa, sc), tv, fl) x y).1)) (fun u => wMu mm cy u) := by
  refine Ct.of (cc := cX8_debts) (nL := 6) (ret := (some .int)) rfl (by decide) ⟨rfl, rfl⟩ (Nat.le_of_ble_eq_true rfl) ?_
  intro X C E
  have C : Cx X l D cy cX8_debts 6 wsX8_debts RX8 ({ frames := 7, cells := 0, slots := 0, locals := 157 }) := C
  have mh0 : ∀ w ∈ u_ws RX8 TX8 21, w ∈ wsX8_debts := by decide +kernel
  have mh1 : Cond.fieldLink RX8 22 RX8 (TX8 8).2.1 (TX8 8).2.2.1 ∈ wsX8_debts := by decide +kernel
  obtain ⟨-, ⟨hB, hN2⟩, hT, hR, hS⟩ := hX
  have hN := hT.n
  have hc8 := hR.1
  have hN30 : N ≤ 2 ^ 30 := by omega
  show J X (wM mm cy fl tv so sg ce (nI N) (nI B) kf pf vat vrm vrb rk rp lf tf kp (nI c) df mf gf) 0 [(0, .ref (mm 0)), (1, .int x), (2, .int y)] []
  refine j_aload_n C 0 dX8_debts_0 rfl rfl ?_
  refine j_iload_n C 1 dX8_debts_1 rfl rfl ?_
  refine j_iload_n C 2 dX8_debts_2 rfl rfl ?_
  refine j_callV0 (As := [.int x, .int y]) (rest := []) C (c_X8_areTwo mm fl tv so sg ce N B kf pf vat vrm vrb rk rp lf tf kp c df mf gf (x) (y) hN) gX8_debts_X8_areTwo rfl 2 rfl (by decide +kernel) (by decide) 0 rfl rfl (Nat.le_of_ble_eq_true rfl) dX8_debts_3 rfl (fun _ _ => ?_)
  show J X (wM mm cy fl tv so sg ce (nI N) (nI B) kf pf vat vrm vrb rk rp lf tf kp (nI c) df mf gf) 6 [(0, .ref (mm 0)), (1, .int x), (2, .int y)] [.int (nI (bN ((pOf N x).isSome = true ∧ (pOf N y).isSome = true ∧ ¬ x = y)))]
  refine j_if_neN (tgt := 11) C dX8_debts_6 (by decide) (bN_lt _) (fun c6 => ?_) (fun c6 => ?_)
  · have c6 := bN_1.mp c6
    obtain ⟨a1, ha1, rfl⟩ := pY hN30 c6.1
    obtain ⟨a2, ha2, rfl⟩ := pY hN30 c6.2.1
    have qa1 := pI ha1 hN30
    have qa2 := pI ha2 hN30
    have qne : ¬ a1 = a2 := fun z => c6.2.2 (by rw [z])
    show J X (wM mm cy fl tv so sg ce (nI N) (nI B) kf pf vat vrm vrb rk rp lf tf kp (nI c) df mf gf) 11 [(0, .ref (mm 0)), (1, .int (nI a1)), (2, .int (nI a2))] []
    refine j_aload_n C 0 dX8_debts_11 rfl rfl ?_
    refine j_get C mh0 8 mh1 0 rfl rfl (by decide) rfl rfl dX8_debts_12 ?_
    refine j_iload_n C 1 dX8_debts_15 rfl rfl ?_
    refine j_iload_n C 2 dX8_debts_16 rfl rfl ?_
    refine j_callP (As := [.int (nI a1), .int (nI a2)]) (rest := [.ref (mm 5)]) C (c_X8_spot a1 a2) gX8_debts_X8_spot rfl 2 rfl (by decide +kernel) (by decide) (Nat.le_of_ble_eq_true rfl) dX8_debts_17 rfl (fun _ _ => ?_)
    show J X (wM mm cy fl tv so sg ce (nI N) (nI B) kf pf vat vrm vrb rk rp lf tf kp (nI c) df mf gf) 20 [(0, .ref (mm 0)), (1, .int (nI a1)), (2, .int (nI a2))] [.int (nI (6 * a1 + a2)), .ref (mm 5)]
    have := hT.p9 (a := a1) (b := a2) (by omega) (by omega)
    refine j_iald (v := nI (p a1 a2)) C 5 rfl (by omega) (by decide) (hT.pp (a := a1) (b := a2) (by omega) (by omega)) dX8_debts_20 ?_
    refine j_istore_n (lv' := [(3, .int (nI (p a1 a2))), (0, .ref (mm 0)), (1, .int (nI a1)), (2, .int (nI a2))]) C dX8_debts_21 rfl (by decide) rfl ?_
    refine j_iconst (v := nI 0) C dX8_debts_22 (by decide) ?_
    refine j_istore (lv' := [(4, .int (nI 0)), (3, .int (nI (p a1 a2))), (0, .ref (mm 0)), (1, .int (nI a1)), (2, .int (nI a2))]) C dX8_debts_23 (by decide) rfl ?_
    refine j_iconst (v := nI 0) C dX8_debts_25 (by decide) ?_
    refine j_istore (lv' := [(5, .int (nI 0)), (4, .int (nI 0)), (3, .int (nI (p a1 a2))), (0, .ref (mm 0)), (1, .int (nI a1)), (2, .int (nI a2))]) C dX8_debts_26 (by decide) rfl ?_
    refine J.sub [3, 4, 5, 2, 1, 0] rfl ?_
    have L28 : ∀ (n : Nat) (i : Nat) (pf1 lf1 tf1 kp1 : Nat → Int32), 10 - i < n → i ≤ 10 → (∀ j, j < 36 → j ≠ 6 * a1 + a2 → pf1 j = pf j) → J X (wM mm cy fl tv so sg ce (nI N) (nI B) kf pf1 vat vrm vrb rk rp lf1 tf1 kp1 (nI c) df mf gf) 28 [(0, .ref (mm 0)), (1, .int (nI a1)), (2, .int (nI a2)), (3, .int (nI (p a1 a2))), (4, .int (nI (bset (fun v => soT N B c k (setp p a1 a2 v) rd rl ra 11) i))), (5, .int (nI i))] [] := by
      intro n
      induction n with
      | zero => intro i pf1 lf1 tf1 kp1 hm; exact absurd hm (Nat.not_lt_zero _)
      | succ n ih28 =>
        intro i pf1 lf1 tf1 kp1 h28_0 h28_1 h28_2
        refine j_iload C 5 dX8_debts_28 rfl ?_
        refine j_bipush (v := nI 9) C dX8_debts_30 (by decide) ?_
        refine j_icmp_gtN (tgt := 73) C dX8_debts_32 (by decide) (by omega) (by omega) (fun c32 => ?_) (fun c32 => ?_)
        · refine j_aload_n C 0 dX8_debts_73 rfl rfl ?_
          refine j_get C mh0 8 mh1 0 rfl rfl (by decide) rfl rfl dX8_debts_74 ?_
          refine j_iload_n C 1 dX8_debts_77 rfl rfl ?_
          refine j_iload_n C 2 dX8_debts_78 rfl rfl ?_
          refine j_callP (As := [.int (nI a1), .int (nI a2)]) (rest := [.ref (mm 5)]) C (c_X8_spot a1 a2) gX8_debts_X8_spot rfl 2 rfl (by decide +kernel) (by decide) (Nat.le_of_ble_eq_true rfl) dX8_debts_79 rfl (fun _ _ => ?_)
          show J X (wM mm cy fl tv so sg ce (nI N) (nI B) kf pf1 vat vrm vrb rk rp lf1 tf1 kp1 (nI c) df mf gf) 82 [(0, .ref (mm 0)), (1, .int (nI a1)), (2, .int (nI a2)), (3, .int (nI (p a1 a2))), (4, .int (nI (bset (fun v => soT N B c k (setp p a1 a2 v) rd rl ra 11) i))), (5, .int (nI i))] [.int (nI (6 * a1 + a2)), .ref (mm 5)]
          refine j_iload_n C 3 dX8_debts_82 rfl rfl ?_
          refine j_iast (ws' := wM mm cy fl tv so sg ce (nI N) (nI B) kf (upd pf1 (6 * a1 + a2) (nI (p a1 a2))) vat vrm vrb rk rp lf1 tf1 kp1 (nI c) df mf gf) C 5 rfl (by omega) (by decide) rfl dX8_debts_83 ?_
          refine j_iload C 4 dX8_debts_84 rfl ?_
          exact j_iret C E dX8_debts_86 (fl, tv, so, sg, ce, nI N, nI B, kf, upd pf1 (6 * a1 + a2) (nI (p a1 a2)), vat, vrm, vrb, rk, rp, lf1, tf1, kp1, nI c, df, mf, gf) (by rw [show m_debts ((N, B, k, p), (c, rd, rl, ra), (hs, sl, sa, sc), tv, fl) (nI a1) (nI a2) = (nI (bset (fun v => soT N B c k (setp p a1 a2 v) rd rl ra 11) i), ((N, B, k, p), (c, rd, rl, ra), (hs, sl, sa, sc), tv, fl)) from (by simp only [m_debts, qa1, qa2, qne, if_false, show i = 10 by omega]; try rfl)]; exact MI.mk hB hN2 (hT.eq36 (back36 hT ha1 ha2 h28_2)) hR hS) (by rw [show m_debts ((N, B, k, p), (c, rd, rl, ra), (hs, sl, sa, sc), tv, fl) (nI a1) (nI a2) = (nI (bset (fun v => soT N B c k (setp p a1 a2 v) rd rl ra 11) i), ((N, B, k, p), (c, rd, rl, ra), (hs, sl, sa, sc), tv, fl)) from (by simp only [m_debts, qa1, qa2, qne, if_false, show i = 10 by omega]; try rfl)]) rfl
        · refine j_aload_n C 0 dX8_debts_35 rfl rfl ?_
          refine j_get C mh0 8 mh1 0 rfl rfl (by decide) rfl rfl dX8_debts_36 ?_
          refine j_iload_n C 1 dX8_debts_39 rfl rfl ?_
          refine j_iload_n C 2 dX8_debts_40 rfl rfl ?_
          refine j_callP (As := [.int (nI a1), .int (nI a2)]) (rest := [.ref (mm 5)]) C (c_X8_spot a1 a2) gX8_debts_X8_spot rfl 2 rfl (by decide +kernel) (by decide) (Nat.le_of_ble_eq_true rfl) dX8_debts_41 rfl (fun _ _ => ?_)
          show J X (wM mm cy fl tv so sg ce (nI N) (nI B) kf pf1 vat vrm vrb rk rp lf1 tf1 kp1 (nI c) df mf gf) 44 [(0, .ref (mm 0)), (1, .int (nI a1)), (2, .int (nI a2)), (3, .int (nI (p a1 a2))), (4, .int (nI (bset (fun v => soT N B c k (setp p a1 a2 v) rd rl ra 11) i))), (5, .int (nI i))] [.int (nI (6 * a1 + a2)), .ref (mm 5)]
          refine j_iload C 5 dX8_debts_44 rfl ?_
          refine j_iast (ws' := wM mm cy fl tv so sg ce (nI N) (nI B) kf (upd pf1 (6 * a1 + a2) (nI i)) vat vrm vrb rk rp lf1 tf1 kp1 (nI c) df mf gf) C 5 rfl (by omega) (by decide) rfl dX8_debts_46 ?_
          refine j_iload C 4 dX8_debts_47 rfl ?_
          refine j_aload_n C 0 dX8_debts_49 rfl rfl ?_
          refine j_callV0 (As := []) (rest := [.int (nI (bset (fun v => soT N B c k (setp p a1 a2 v) rd rl ra 11) i))]) C (c_X8_areSo mm fl tv so sg ce N B kf (upd pf1 (6 * a1 + a2) (nI i)) vat vrm vrb rk rp lf1 tf1 kp1 c df mf gf k (setp p a1 a2 i) (ag_alm hT ha1 ha2 qne (by omega) h28_2) rd rl ra hR hB) gX8_debts_X8_areSo rfl 0 rfl (by decide +kernel) (by decide) 0 rfl rfl (Nat.le_of_ble_eq_true rfl) dX8_debts_50 rfl (fun u hu => ?_)
          show J X (wM mm cy fl tv so sg ce (nI N) (nI B) kf u.1 vat vrm vrb rk rp u.2.1 u.2.2.1 u.2.2.2 (nI c) df mf gf) 53 [(0, .ref (mm 0)), (1, .int (nI a1)), (2, .int (nI a2)), (3, .int (nI (p a1 a2))), (4, .int (nI (bset (fun v => soT N B c k (setp p a1 a2 v) rd rl ra 11) i))), (5, .int (nI i))] [.int (nI (bN (soT N B c k (setp p a1 a2 i) rd rl ra 11 = true))), .int (nI (bset (fun v => soT N B c k (setp p a1 a2 v) rd rl ra 11) i))]
          refine j_if_eqN (tgt := 63) C dX8_debts_53 (by decide) (bN_lt _) (fun c53 => ?_) (fun c53 => ?_)
          · have c53 := bN_0.mp c53
            refine j_iconst (v := nI 0) C dX8_debts_63 (by decide) ?_
            refine j_ior (v := nI (bset (fun v => soT N B c k (setp p a1 a2 v) rd rl ra 11) (i + 1))) C dX8_debts_64 (by first | exact bs_n (P := (fun v => soT N B c k (setp p a1 a2 v) rd rl ra 11)) (n := i) (Bool.eq_false_iff.mpr c53) | exact bs_y (P := (fun v => soT N B c k (setp p a1 a2 v) rd rl ra 11)) (n := i) c53) ?_
            refine j_istore (lv' := [(4, .int (nI (bset (fun v => soT N B c k (setp p a1 a2 v) rd rl ra 11) (i + 1)))), (0, .ref (mm 0)), (1, .int (nI a1)), (2, .int (nI a2)), (3, .int (nI (p a1 a2))), (5, .int (nI i))]) C dX8_debts_65 (by decide) rfl ?_
            refine j_iinc (v := nI (i + 1)) (lv' := [(5, .int (nI (i + 1))), (4, .int (nI (bset (fun v => soT N B c k (setp p a1 a2 v) rd rl ra 11) (i + 1)))), (0, .ref (mm 0)), (1, .int (nI a1)), (2, .int (nI a2)), (3, .int (nI (p a1 a2)))]) C 5 dX8_debts_67 rfl (nI_inc i) (by decide) rfl ?_
            refine j_goto (tgt := 28) C dX8_debts_70 (by decide) ?_
            refine J.sub [2, 3, 4, 5, 1, 0] rfl ?_
            have e := ih28 (i + 1) u.1 u.2.1 u.2.2.1 u.2.2.2 (by omega) (by omega) (fun j hj z => by rw [hu j hj, pk_un z]; exact h28_2 j hj z)
            exact e
          · have c53 := bN_1.mp c53
            refine j_iconst (v := nI 1) C dX8_debts_56 (by decide) ?_
            refine j_iload C 5 dX8_debts_57 rfl ?_
            refine j_ishl (v := nI (2 ^ i)) C dX8_debts_59 (sh_l (by omega)) ?_
            refine j_goto (tgt := 64) C dX8_debts_60 (by decide) ?_
            refine j_ior (v := nI (bset (fun v => soT N B c k (setp p a1 a2 v) rd rl ra 11) (i + 1))) C dX8_debts_64 (by first | exact bs_n (P := (fun v => soT N B c k (setp p a1 a2 v) rd rl ra 11)) (n := i) (Bool.eq_false_iff.mpr c53) | exact bs_y (P := (fun v => soT N B c k (setp p a1 a2 v) rd rl ra 11)) (n := i) c53) ?_
            refine j_istore (lv' := [(4, .int (nI (bset (fun v => soT N B c k (setp p a1 a2 v) rd rl ra 11) (i + 1)))), (0, .ref (mm 0)), (1, .int (nI a1)), (2, .int (nI a2)), (3, .int (nI (p a1 a2))), (5, .int (nI i))]) C dX8_debts_65 (by decide) rfl ?_
            refine j_iinc (v := nI (i + 1)) (lv' := [(5, .int (nI (i + 1))), (4, .int (nI (bset (fun v => soT N B c k (setp p a1 a2 v) rd rl ra 11) (i + 1)))), (0, .ref (mm 0)), (1, .int (nI a1)), (2, .int (nI a2)), (3, .int (nI (p a1 a2)))]) C 5 dX8_debts_67 rfl (nI_inc i) (by decide) rfl ?_
            refine j_goto (tgt := 28) C dX8_debts_70 (by decide) ?_
            refine J.sub [2, 3, 4, 5, 1, 0] rfl ?_
            have e := ih28 (i + 1) u.1 u.2.1 u.2.2.1 u.2.2.2 (by omega) (by omega) (fun j hj z => by rw [hu j hj, pk_un z]; exact h28_2 j hj z)
            exact e
    have e := L28 11 0 pf lf tf kp (by omega) (by omega) (fun _ _ _ => rfl)
    exact e
  · have c6 := bN_0.mp c6
    refine j_iconst (v := (-1)) C dX8_debts_9 (by decide) ?_
    exact j_iret C E dX8_debts_10 (fl, tv, so, sg, ce, nI N, nI B, kf, pf, vat, vrm, vrb, rk, rp, lf, tf, kp, nI c, df, mf, gf) (by rw [show m_debts ((N, B, k, p), (c, rd, rl, ra), (hs, sl, sa, sc), tv, fl) x y = ((-1), ((N, B, k, p), (c, rd, rl, ra), (hs, sl, sa, sc), tv, fl)) from (by rcases two_n hN c6 with e | ⟨a, e, e2⟩ | ⟨a, e, e2⟩ <;> first | (simp only [m_debts, e]; done) | (simp only [m_debts, e]; rfl) | (simp only [m_debts, e, e2]; done) | (simp only [m_debts, e, e2]; rfl) | (simp only [m_debts, e, e2, if_true]; done))]; exact MI.mk hB hN2 hT hR hS) (by rw [show m_debts ((N, B, k, p), (c, rd, rl, ra), (hs, sl, sa, sc), tv, fl) x y = ((-1), ((N, B, k, p), (c, rd, rl, ra), (hs, sl, sa, sc), tv, fl)) from (by rcases two_n hN c6 with e | ⟨a, e, e2⟩ | ⟨a, e, e2⟩ <;> first | (simp only [m_debts, e]; done) | (simp only [m_debts, e]; rfl) | (simp only [m_debts, e, e2]; done) | (simp only [m_debts, e, e2]; rfl) | (simp only [m_debts, e, e2, if_true]; done))]) rfl
set_option maxHeartbeats 4000000 in
set_option maxRecDepth 20000 in
theorem c_X8_kinds {l : Launch} {D : va_G} {cy : Nat → ClassId} (mm : Nat → Nat) (fl tv : Int32) (so sg ce : Nat → Int32) (N B : Nat) (kf pf : Nat → Int32) (vat vrm vrb : Int32) (rk rp lf tf kp : Nat → Int32) (c : Nat) (df mf gf : Nat → Int32) (k : Nat → Nat) (p : Nat → Nat → Nat) (rd rl : Nat → Nat) (ra : Nat → Option Nat) (hs : Nat → Bool) (sl sa : Nat → Nat) (sc : Nat → Nat → Int32) (hX : MI ((N, B, k, p), (c, rd, rl, ra), (hs, sl, sa, sc), tv, fl) (fl, tv, so, sg, ce, nI N, nI B, kf, pf, vat, vrm, vrb, rk, rp, lf, tf, kp, nI c, df, mf, gf)) (x : Int32)  : Ct l yX8_kinds wsX8_kinds ({ frames := 7, cells := 0, slots := 0, locals := 157 }) D cy [.ref (mm 0), .int x] (wM mm cy fl tv so sg ce (nI N) (nI B) kf pf vat vrm vrb rk rp lf tf kp (nI c) df mf gf) (fun u : MS => MI (m_kinds ((N, B, k, p), (c, rd, rl, ra), (hs, sl, sa, sc), tv, fl) x).2 u) (fun _ => some (.int (m_kinds ((N, B, k, p), (c, rd, rl, ra), (hs, sl, sa, sc), tv, fl) x).1)) (fun u => wMu mm cy u) := by
  refine Ct.of (cc := cX8_kinds) (nL := 5) (ret := (some .int)) rfl (by decide) ⟨rfl, rfl⟩ (Nat.le_of_ble_eq_true rfl) ?_
  intro X C E
  have C : Cx X l D cy cX8_kinds 5 wsX8_kinds RX8 ({ frames := 7, cells := 0, slots := 0, locals := 157 }) := C
  have mh0 : ∀ w ∈ u_ws RX8 TX8 21, w ∈ wsX8_kinds := by decide +kernel
  have mh1 : Cond.fieldLink RX8 19 RX8 (TX8 7).2.1 (TX8 7).2.2.1 ∈ wsX8_kinds := by decide +kernel
  obtain ⟨-, ⟨hB, hN2⟩, hT, hR, hS⟩ := hX
  have hN := hT.n
  have hc8 := hR.1
  have hN30 : N ≤ 2 ^ 30 := by omega
  show J X (wM mm cy fl tv so sg ce (nI N) (nI B) kf pf vat vrm vrb rk rp lf tf kp (nI c) df mf gf) 0 [(0, .ref (mm 0)), (1, .int x)] []
  refine j_aload_n C 0 dX8_kinds_0 rfl rfl ?_
  refine j_iload_n C 1 dX8_kinds_1 rfl rfl ?_
  refine j_callV0 (As := [.int x]) (rest := []) C (c_X8_isPerson mm fl tv so sg ce N B kf pf vat vrm vrb rk rp lf tf kp c df mf gf (x) hN) gX8_kinds_X8_isPerson rfl 1 rfl (by decide +kernel) (by decide) 0 rfl rfl (Nat.le_of_ble_eq_true rfl) dX8_kinds_2 rfl (fun _ _ => ?_)
  show J X (wM mm cy fl tv so sg ce (nI N) (nI B) kf pf vat vrm vrb rk rp lf tf kp (nI c) df mf gf) 5 [(0, .ref (mm 0)), (1, .int x)] [.int (nI (bN ((pOf N (x)).isSome = true)))]
  refine j_if_neN (tgt := 10) C dX8_kinds_5 (by decide) (bN_lt _) (fun c5 => ?_) (fun c5 => ?_)
  · have c5 := bN_1.mp c5
    obtain ⟨a1, ha1, rfl⟩ := pY hN30 c5
    have qa1 := pI ha1 hN30
    show J X (wM mm cy fl tv so sg ce (nI N) (nI B) kf pf vat vrm vrb rk rp lf tf kp (nI c) df mf gf) 10 [(0, .ref (mm 0)), (1, .int (nI a1))] []
    refine j_aload_n C 0 dX8_kinds_10 rfl rfl ?_
    refine j_get C mh0 7 mh1 0 rfl rfl (by decide) rfl rfl dX8_kinds_11 ?_
    refine j_iload_n C 1 dX8_kinds_14 rfl rfl ?_
    have := hT.k2 (a := a1) (by omega)
    refine j_iald (v := nI (k a1)) C 4 rfl (by omega) (by decide) (hT.kk (by omega)) dX8_kinds_15 ?_
    refine j_istore_n (lv' := [(2, .int (nI (k a1))), (0, .ref (mm 0)), (1, .int (nI a1))]) C dX8_kinds_16 rfl (by decide) rfl ?_
    refine j_iconst (v := nI 0) C dX8_kinds_17 (by decide) ?_
    refine j_istore_n (lv' := [(3, .int (nI 0)), (2, .int (nI (k a1))), (0, .ref (mm 0)), (1, .int (nI a1))]) C dX8_kinds_18 rfl (by decide) rfl ?_
    refine j_iconst (v := nI 0) C dX8_kinds_19 (by decide) ?_
    refine j_istore (lv' := [(4, .int (nI 0)), (3, .int (nI 0)), (2, .int (nI (k a1))), (0, .ref (mm 0)), (1, .int (nI a1))]) C dX8_kinds_20 (by decide) rfl ?_
    refine J.sub [3, 4, 2, 1, 0] rfl ?_
    have L22 : ∀ (n : Nat) (i : Nat) (kf1 pf1 lf1 tf1 kp1 : Nat → Int32), 3 - i < n → i ≤ 3 → (∀ j, j < N → j ≠ a1 → kf1 j = kf j) → (∀ j, j < 36 → pf1 j = pf j) → J X (wM mm cy fl tv so sg ce (nI N) (nI B) kf1 pf1 vat vrm vrb rk rp lf1 tf1 kp1 (nI c) df mf gf) 22 [(0, .ref (mm 0)), (1, .int (nI a1)), (2, .int (nI (k a1))), (3, .int (nI (bset (fun v => soT N B c (upN k a1 v) p rd rl ra 11) i))), (4, .int (nI i))] [] := by
      intro n
      induction n with
      | zero => intro i kf1 pf1 lf1 tf1 kp1 hm; exact absurd hm (Nat.not_lt_zero _)
      | succ n ih22 =>
        intro i kf1 pf1 lf1 tf1 kp1 h22_0 h22_1 h22_2 h22_3
        refine j_iload C 4 dX8_kinds_22 rfl ?_
        refine j_iconst (v := nI 3) C dX8_kinds_24 (by decide) ?_
        refine j_icmp_geN (tgt := 60) C dX8_kinds_25 (by decide) (by omega) (by omega) (fun c25 => ?_) (fun c25 => ?_)
        · refine j_aload_n C 0 dX8_kinds_60 rfl rfl ?_
          refine j_get C mh0 7 mh1 0 rfl rfl (by decide) rfl rfl dX8_kinds_61 ?_
          refine j_iload_n C 1 dX8_kinds_64 rfl rfl ?_
          refine j_iload_n C 2 dX8_kinds_65 rfl rfl ?_
          refine j_iast (ws' := wM mm cy fl tv so sg ce (nI N) (nI B) (upd kf1 a1 (nI (k a1))) pf1 vat vrm vrb rk rp lf1 tf1 kp1 (nI c) df mf gf) C 4 rfl (by omega) (by decide) rfl dX8_kinds_66 ?_
          refine j_iload_n C 3 dX8_kinds_67 rfl rfl ?_
          exact j_iret C E dX8_kinds_68 (fl, tv, so, sg, ce, nI N, nI B, upd kf1 a1 (nI (k a1)), pf1, vat, vrm, vrb, rk, rp, lf1, tf1, kp1, nI c, df, mf, gf) (by rw [show m_kinds ((N, B, k, p), (c, rd, rl, ra), (hs, sl, sa, sc), tv, fl) (nI a1) = (nI (bset (fun v => soT N B c (upN k a1 v) p rd rl ra 11) i), ((N, B, k, p), (c, rd, rl, ra), (hs, sl, sa, sc), tv, fl)) from (by simp only [m_kinds, qa1, show i = 3 by omega]; try rfl)]; exact MI.mk hB hN2 (ag_kid (hT.eq36 h22_3) ha1 h22_2) hR hS) (by rw [show m_kinds ((N, B, k, p), (c, rd, rl, ra), (hs, sl, sa, sc), tv, fl) (nI a1) = (nI (bset (fun v => soT N B c (upN k a1 v) p rd rl ra 11) i), ((N, B, k, p), (c, rd, rl, ra), (hs, sl, sa, sc), tv, fl)) from (by simp only [m_kinds, qa1, show i = 3 by omega]; try rfl)]) rfl
        · refine j_aload_n C 0 dX8_kinds_28 rfl rfl ?_
          refine j_get C mh0 7 mh1 0 rfl rfl (by decide) rfl rfl dX8_kinds_29 ?_
          refine j_iload_n C 1 dX8_kinds_32 rfl rfl ?_
          refine j_iload C 4 dX8_kinds_33 rfl ?_
          refine j_iast (ws' := wM mm cy fl tv so sg ce (nI N) (nI B) (upd kf1 a1 (nI i)) pf1 vat vrm vrb rk rp lf1 tf1 kp1 (nI c) df mf gf) C 4 rfl (by omega) (by decide) rfl dX8_kinds_35 ?_
          refine j_iload_n C 3 dX8_kinds_36 rfl rfl ?_
          refine j_aload_n C 0 dX8_kinds_37 rfl rfl ?_
          refine j_callV0 (As := []) (rest := [.int (nI (bset (fun v => soT N B c (upN k a1 v) p rd rl ra 11) i))]) C (c_X8_areSo mm fl tv so sg ce N B (upd kf1 a1 (nI i)) pf1 vat vrm vrb rk rp lf1 tf1 kp1 c df mf gf (upN k a1 i) p ((ag_kset hT (by omega) h22_2).eq36 h22_3) rd rl ra hR hB) gX8_kinds_X8_areSo rfl 0 rfl (by decide +kernel) (by decide) 0 rfl rfl (Nat.le_of_ble_eq_true rfl) dX8_kinds_38 rfl (fun u hu => ?_)
          show J X (wM mm cy fl tv so sg ce (nI N) (nI B) (upd kf1 a1 (nI i)) u.1 vat vrm vrb rk rp u.2.1 u.2.2.1 u.2.2.2 (nI c) df mf gf) 41 [(0, .ref (mm 0)), (1, .int (nI a1)), (2, .int (nI (k a1))), (3, .int (nI (bset (fun v => soT N B c (upN k a1 v) p rd rl ra 11) i))), (4, .int (nI i))] [.int (nI (bN (soT N B c (upN k a1 i) p rd rl ra 11 = true))), .int (nI (bset (fun v => soT N B c (upN k a1 v) p rd rl ra 11) i))]
          refine j_if_eqN (tgt := 51) C dX8_kinds_41 (by decide) (bN_lt _) (fun c41 => ?_) (fun c41 => ?_)
          · have c41 := bN_0.mp c41
            refine j_iconst (v := nI 0) C dX8_kinds_51 (by decide) ?_
            refine j_ior (v := nI (bset (fun v => soT N B c (upN k a1 v) p rd rl ra 11) (i + 1))) C dX8_kinds_52 (by first | exact bs_n (P := (fun v => soT N B c (upN k a1 v) p rd rl ra 11)) (n := i) (Bool.eq_false_iff.mpr c41) | exact bs_y (P := (fun v => soT N B c (upN k a1 v) p rd rl ra 11)) (n := i) c41) ?_
            refine j_istore_n (lv' := [(3, .int (nI (bset (fun v => soT N B c (upN k a1 v) p rd rl ra 11) (i + 1)))), (0, .ref (mm 0)), (1, .int (nI a1)), (2, .int (nI (k a1))), (4, .int (nI i))]) C dX8_kinds_53 rfl (by decide) rfl ?_
            refine j_iinc (v := nI (i + 1)) (lv' := [(4, .int (nI (i + 1))), (3, .int (nI (bset (fun v => soT N B c (upN k a1 v) p rd rl ra 11) (i + 1)))), (0, .ref (mm 0)), (1, .int (nI a1)), (2, .int (nI (k a1)))]) C 4 dX8_kinds_54 rfl (nI_inc i) (by decide) rfl ?_
            refine j_goto (tgt := 22) C dX8_kinds_57 (by decide) ?_
            refine J.sub [2, 3, 4, 1, 0] rfl ?_
            have e := ih22 (i + 1) (upd kf1 a1 (nI i)) u.1 u.2.1 u.2.2.1 u.2.2.2 (by omega) (by omega) (fun j hj z => by rw [pk_un z]; exact h22_2 j hj z) (fun j hj => by rw [hu j hj]; exact h22_3 j hj)
            exact e
          · have c41 := bN_1.mp c41
            refine j_iconst (v := nI 1) C dX8_kinds_44 (by decide) ?_
            refine j_iload C 4 dX8_kinds_45 rfl ?_
            refine j_ishl (v := nI (2 ^ i)) C dX8_kinds_47 (sh_l (by omega)) ?_
            refine j_goto (tgt := 52) C dX8_kinds_48 (by decide) ?_
            refine j_ior (v := nI (bset (fun v => soT N B c (upN k a1 v) p rd rl ra 11) (i + 1))) C dX8_kinds_52 (by first | exact bs_n (P := (fun v => soT N B c (upN k a1 v) p rd rl ra 11)) (n := i) (Bool.eq_false_iff.mpr c41) | exact bs_y (P := (fun v => soT N B c (upN k a1 v) p rd rl ra 11)) (n := i) c41) ?_
            refine j_istore_n (lv' := [(3, .int (nI (bset (fun v => soT N B c (upN k a1 v) p rd rl ra 11) (i + 1)))), (0, .ref (mm 0)), (1, .int (nI a1)), (2, .int (nI (k a1))), (4, .int (nI i))]) C dX8_kinds_53 rfl (by decide) rfl ?_
            refine j_iinc (v := nI (i + 1)) (lv' := [(4, .int (nI (i + 1))), (3, .int (nI (bset (fun v => soT N B c (upN k a1 v) p rd rl ra 11) (i + 1)))), (0, .ref (mm 0)), (1, .int (nI a1)), (2, .int (nI (k a1)))]) C 4 dX8_kinds_54 rfl (nI_inc i) (by decide) rfl ?_
            refine j_goto (tgt := 22) C dX8_kinds_57 (by decide) ?_
            refine J.sub [2, 3, 4, 1, 0] rfl ?_
            have e := ih22 (i + 1) (upd kf1 a1 (nI i)) u.1 u.2.1 u.2.2.1 u.2.2.2 (by omega) (by omega) (fun j hj z => by rw [pk_un z]; exact h22_2 j hj z) (fun j hj => by rw [hu j hj]; exact h22_3 j hj)
            exact e
    have e := L22 4 0 kf pf lf tf kp (by omega) (by omega) (fun _ _ _ => rfl) (fun _ _ => rfl)
    exact e
  · have c5 := bN_0.mp c5
    have qa1 := pOf_n c5
    refine j_iconst (v := (-1)) C dX8_kinds_8 (by decide) ?_
    exact j_iret C E dX8_kinds_9 (fl, tv, so, sg, ce, nI N, nI B, kf, pf, vat, vrm, vrb, rk, rp, lf, tf, kp, nI c, df, mf, gf) (by rw [show m_kinds ((N, B, k, p), (c, rd, rl, ra), (hs, sl, sa, sc), tv, fl) x = ((-1), ((N, B, k, p), (c, rd, rl, ra), (hs, sl, sa, sc), tv, fl)) from (by simp only [m_kinds, qa1]; try rfl)]; exact MI.mk hB hN2 hT hR hS) (by rw [show m_kinds ((N, B, k, p), (c, rd, rl, ra), (hs, sl, sa, sc), tv, fl) x = ((-1), ((N, B, k, p), (c, rd, rl, ra), (hs, sl, sa, sc), tv, fl)) from (by simp only [m_kinds, qa1]; try rfl)]) rfl
set_option maxHeartbeats 4000000 in
set_option maxRecDepth 20000 in
theorem c_X8_bells {l : Launch} {D : va_G} {cy : Nat → ClassId} (mm : Nat → Nat) (fl tv : Int32) (so sg ce : Nat → Int32) (N B : Nat) (kf pf : Nat → Int32) (vat vrm vrb : Int32) (rk rp lf tf kp : Nat → Int32) (c : Nat) (df mf gf : Nat → Int32) (k : Nat → Nat) (p : Nat → Nat → Nat) (rd rl : Nat → Nat) (ra : Nat → Option Nat) (hs : Nat → Bool) (sl sa : Nat → Nat) (sc : Nat → Nat → Int32) (hX : MI ((N, B, k, p), (c, rd, rl, ra), (hs, sl, sa, sc), tv, fl) (fl, tv, so, sg, ce, nI N, nI B, kf, pf, vat, vrm, vrb, rk, rp, lf, tf, kp, nI c, df, mf, gf))  : Ct l yX8_bells wsX8_bells ({ frames := 7, cells := 0, slots := 0, locals := 157 }) D cy [.ref (mm 0)] (wM mm cy fl tv so sg ce (nI N) (nI B) kf pf vat vrm vrb rk rp lf tf kp (nI c) df mf gf) (fun u : MS => MI (m_bells ((N, B, k, p), (c, rd, rl, ra), (hs, sl, sa, sc), tv, fl)).2 u) (fun _ => some (.int (m_bells ((N, B, k, p), (c, rd, rl, ra), (hs, sl, sa, sc), tv, fl)).1)) (fun u => wMu mm cy u) := by
  refine Ct.of (cc := cX8_bells) (nL := 4) (ret := (some .int)) rfl (by decide) ⟨rfl, rfl⟩ (Nat.le_of_ble_eq_true rfl) ?_
  intro X C E
  have C : Cx X l D cy cX8_bells 4 wsX8_bells RX8 ({ frames := 7, cells := 0, slots := 0, locals := 157 }) := C
  have mh0 : ∀ w ∈ u_ws RX8 TX8 21, w ∈ wsX8_bells := by decide +kernel
  have mh1 : Cond.fieldLink RX8 60 RX8 (TX8 5).2.1 (TX8 5).2.2.1 ∈ wsX8_bells := by decide +kernel
  have mh2 : Cond.fieldLink RX8 93 RX8 (TX8 6).2.1 (TX8 6).2.2.1 ∈ wsX8_bells := by decide +kernel
  obtain ⟨-, ⟨hB, hN2⟩, hT, hR, hS⟩ := hX
  have hN := hT.n
  have hc8 := hR.1
  have hN30 : N ≤ 2 ^ 30 := by omega
  show J X (wM mm cy fl tv so sg ce (nI N) (nI B) kf pf vat vrm vrb rk rp lf tf kp (nI c) df mf gf) 0 [(0, .ref (mm 0))] []
  refine j_aload_n C 0 dX8_bells_0 rfl rfl ?_
  refine j_get C mh0 5 mh1 0 rfl rfl (by decide) rfl rfl dX8_bells_1 ?_
  refine j_if_neN (tgt := 10) C dX8_bells_4 (by decide) (by omega) (fun c4 => ?_) (fun c4 => ?_)
  · refine j_aload_n C 0 dX8_bells_10 rfl rfl ?_
    refine j_get C mh0 6 mh2 0 rfl rfl (by decide) rfl rfl dX8_bells_11 ?_
    refine j_istore_n (lv' := [(1, .int (nI B)), (0, .ref (mm 0))]) C dX8_bells_14 rfl (by decide) rfl ?_
    refine j_iconst (v := nI 0) C dX8_bells_15 (by decide) ?_
    refine j_istore_n (lv' := [(2, .int (nI 0)), (1, .int (nI B)), (0, .ref (mm 0))]) C dX8_bells_16 rfl (by decide) rfl ?_
    refine j_iconst (v := nI 0) C dX8_bells_17 (by decide) ?_
    refine j_istore_n (lv' := [(3, .int (nI 0)), (2, .int (nI 0)), (1, .int (nI B)), (0, .ref (mm 0))]) C dX8_bells_18 rfl (by decide) rfl ?_
    refine J.sub [3, 2, 1, 0] rfl ?_
    have L19 : ∀ (n : Nat) (i : Nat) (vB1 : Int32) (pf1 lf1 tf1 kp1 : Nat → Int32), 10 - i < n → i ≤ 10 → (∀ j, j < 36 → pf1 j = pf j) → J X (wM mm cy fl tv so sg ce (nI N) vB1 kf pf1 vat vrm vrb rk rp lf1 tf1 kp1 (nI c) df mf gf) 19 [(0, .ref (mm 0)), (1, .int (nI B)), (2, .int (nI (bset (fun v => soT N v c k p rd rl ra 11) i))), (3, .int (nI i))] [] := by
      intro n
      induction n with
      | zero => intro i vB1 pf1 lf1 tf1 kp1 hm; exact absurd hm (Nat.not_lt_zero _)
      | succ n ih19 =>
        intro i vB1 pf1 lf1 tf1 kp1 h19_0 h19_1 h19_2
        refine j_iload_n C 3 dX8_bells_19 rfl rfl ?_
        refine j_bipush (v := nI 9) C dX8_bells_20 (by decide) ?_
        refine j_icmp_gtN (tgt := 53) C dX8_bells_22 (by decide) (by omega) (by omega) (fun c22 => ?_) (fun c22 => ?_)
        · refine j_aload_n C 0 dX8_bells_53 rfl rfl ?_
          refine j_iload_n C 1 dX8_bells_54 rfl rfl ?_
          refine j_put (ws' := wM mm cy fl tv so sg ce (nI N) (nI B) kf pf1 vat vrm vrb rk rp lf1 tf1 kp1 (nI c) df mf gf) C mh0 6 mh2 tyX8 tyX8_ok nmX8 0 rfl rfl (by decide) rfl rfl (by decide +kernel) (Nat.le_of_ble_eq_true rfl) rfl dX8_bells_55 ?_
          refine j_iload_n C 2 dX8_bells_58 rfl rfl ?_
          exact j_iret C E dX8_bells_59 (fl, tv, so, sg, ce, nI N, nI B, kf, pf1, vat, vrm, vrb, rk, rp, lf1, tf1, kp1, nI c, df, mf, gf) (by rw [show m_bells ((N, B, k, p), (c, rd, rl, ra), (hs, sl, sa, sc), tv, fl) = (nI (bset (fun v => soT N v c k p rd rl ra 11) i), ((N, B, k, p), (c, rd, rl, ra), (hs, sl, sa, sc), tv, fl)) from (by simp only [m_bells, c4, if_false, show i = 10 by omega]; try rfl)]; exact MI.mk hB hN2 (hT.eq36 h19_2) hR hS) (by rw [show m_bells ((N, B, k, p), (c, rd, rl, ra), (hs, sl, sa, sc), tv, fl) = (nI (bset (fun v => soT N v c k p rd rl ra 11) i), ((N, B, k, p), (c, rd, rl, ra), (hs, sl, sa, sc), tv, fl)) from (by simp only [m_bells, c4, if_false, show i = 10 by omega]; try rfl)]) rfl
        · refine j_aload_n C 0 dX8_bells_25 rfl rfl ?_
          refine j_iload_n C 3 dX8_bells_26 rfl rfl ?_
          refine j_put (ws' := wM mm cy fl tv so sg ce (nI N) (nI i) kf pf1 vat vrm vrb rk rp lf1 tf1 kp1 (nI c) df mf gf) C mh0 6 mh2 tyX8 tyX8_ok nmX8 0 rfl rfl (by decide) rfl rfl (by decide +kernel) (Nat.le_of_ble_eq_true rfl) rfl dX8_bells_27 ?_
          refine j_iload_n C 2 dX8_bells_30 rfl rfl ?_
          refine j_aload_n C 0 dX8_bells_31 rfl rfl ?_
          refine j_callV0 (As := []) (rest := [.int (nI (bset (fun v => soT N v c k p rd rl ra 11) i))]) C (c_X8_areSo mm fl tv so sg ce N i kf pf1 vat vrm vrb rk rp lf1 tf1 kp1 c df mf gf k p (hT.eq36 h19_2) rd rl ra hR (by omega)) gX8_bells_X8_areSo rfl 0 rfl (by decide +kernel) (by decide) 0 rfl rfl (Nat.le_of_ble_eq_true rfl) dX8_bells_32 rfl (fun u hu => ?_)
          show J X (wM mm cy fl tv so sg ce (nI N) (nI i) kf u.1 vat vrm vrb rk rp u.2.1 u.2.2.1 u.2.2.2 (nI c) df mf gf) 35 [(0, .ref (mm 0)), (1, .int (nI B)), (2, .int (nI (bset (fun v => soT N v c k p rd rl ra 11) i))), (3, .int (nI i))] [.int (nI (bN (soT N i c k p rd rl ra 11 = true))), .int (nI (bset (fun v => soT N v c k p rd rl ra 11) i))]
          refine j_if_eqN (tgt := 44) C dX8_bells_35 (by decide) (bN_lt _) (fun c35 => ?_) (fun c35 => ?_)
          · have c35 := bN_0.mp c35
            refine j_iconst (v := nI 0) C dX8_bells_44 (by decide) ?_
            refine j_ior (v := nI (bset (fun v => soT N v c k p rd rl ra 11) (i + 1))) C dX8_bells_45 (by first | exact bs_n (P := (fun v => soT N v c k p rd rl ra 11)) (n := i) (Bool.eq_false_iff.mpr c35) | exact bs_y (P := (fun v => soT N v c k p rd rl ra 11)) (n := i) c35) ?_
            refine j_istore_n (lv' := [(2, .int (nI (bset (fun v => soT N v c k p rd rl ra 11) (i + 1)))), (0, .ref (mm 0)), (1, .int (nI B)), (3, .int (nI i))]) C dX8_bells_46 rfl (by decide) rfl ?_
            refine j_iinc (v := nI (i + 1)) (lv' := [(3, .int (nI (i + 1))), (2, .int (nI (bset (fun v => soT N v c k p rd rl ra 11) (i + 1)))), (0, .ref (mm 0)), (1, .int (nI B))]) C 3 dX8_bells_47 rfl (nI_inc i) (by decide) rfl ?_
            refine j_goto (tgt := 19) C dX8_bells_50 (by decide) ?_
            refine J.sub [2, 3, 1, 0] rfl ?_
            have e := ih19 (i + 1) (nI i) u.1 u.2.1 u.2.2.1 u.2.2.2 (by omega) (by omega) (fun j hj => by rw [hu j hj]; exact h19_2 j hj)
            exact e
          · have c35 := bN_1.mp c35
            refine j_iconst (v := nI 1) C dX8_bells_38 (by decide) ?_
            refine j_iload_n C 3 dX8_bells_39 rfl rfl ?_
            refine j_ishl (v := nI (2 ^ i)) C dX8_bells_40 (sh_l (by omega)) ?_
            refine j_goto (tgt := 45) C dX8_bells_41 (by decide) ?_
            refine j_ior (v := nI (bset (fun v => soT N v c k p rd rl ra 11) (i + 1))) C dX8_bells_45 (by first | exact bs_n (P := (fun v => soT N v c k p rd rl ra 11)) (n := i) (Bool.eq_false_iff.mpr c35) | exact bs_y (P := (fun v => soT N v c k p rd rl ra 11)) (n := i) c35) ?_
            refine j_istore_n (lv' := [(2, .int (nI (bset (fun v => soT N v c k p rd rl ra 11) (i + 1)))), (0, .ref (mm 0)), (1, .int (nI B)), (3, .int (nI i))]) C dX8_bells_46 rfl (by decide) rfl ?_
            refine j_iinc (v := nI (i + 1)) (lv' := [(3, .int (nI (i + 1))), (2, .int (nI (bset (fun v => soT N v c k p rd rl ra 11) (i + 1)))), (0, .ref (mm 0)), (1, .int (nI B))]) C 3 dX8_bells_47 rfl (nI_inc i) (by decide) rfl ?_
            refine j_goto (tgt := 19) C dX8_bells_50 (by decide) ?_
            refine J.sub [2, 3, 1, 0] rfl ?_
            have e := ih19 (i + 1) (nI i) u.1 u.2.1 u.2.2.1 u.2.2.2 (by omega) (by omega) (fun j hj => by rw [hu j hj]; exact h19_2 j hj)
            exact e
    have e := L19 11 0 (nI B) pf lf tf kp (by omega) (by omega) (fun _ _ => rfl)
    exact e
  · have c4 : N = 0 := by omega
    refine j_bipush (v := (-3)) C dX8_bells_7 (by decide) ?_
    exact j_iret C E dX8_bells_9 (fl, tv, so, sg, ce, nI N, nI B, kf, pf, vat, vrm, vrb, rk, rp, lf, tf, kp, nI c, df, mf, gf) (by rw [show m_bells ((N, B, k, p), (c, rd, rl, ra), (hs, sl, sa, sc), tv, fl) = ((-3), ((N, B, k, p), (c, rd, rl, ra), (hs, sl, sa, sc), tv, fl)) from (by simp only [m_bells, c4, if_true]; try rfl)]; exact MI.mk hB hN2 hT hR hS) (by rw [show m_bells ((N, B, k, p), (c, rd, rl, ra), (hs, sl, sa, sc), tv, fl) = ((-3), ((N, B, k, p), (c, rd, rl, ra), (hs, sl, sa, sc), tv, fl)) from (by simp only [m_bells, c4, if_true]; try rfl)]) rfl
set_option maxHeartbeats 4000000 in
set_option maxRecDepth 20000 in
theorem c_X8_many {l : Launch} {D : va_G} {cy : Nat → ClassId} (mm : Nat → Nat) (fl tv : Int32) (so sg ce : Nat → Int32) (N B : Nat) (kf pf : Nat → Int32) (vat vrm vrb : Int32) (rk rp lf tf kp : Nat → Int32) (c : Nat) (df mf gf : Nat → Int32) (k : Nat → Nat) (p : Nat → Nat → Nat) (rd rl : Nat → Nat) (ra : Nat → Option Nat) (hs : Nat → Bool) (sl sa : Nat → Nat) (sc : Nat → Nat → Int32) (hX : MI ((N, B, k, p), (c, rd, rl, ra), (hs, sl, sa, sc), tv, fl) (fl, tv, so, sg, ce, nI N, nI B, kf, pf, vat, vrm, vrb, rk, rp, lf, tf, kp, nI c, df, mf, gf)) (w : Int32)  : Ct l yX8_many wsX8_many ({ frames := 4, cells := 0, slots := 0, locals := 89 }) D cy [.ref (mm 0), .int w] (wM mm cy fl tv so sg ce (nI N) (nI B) kf pf vat vrm vrb rk rp lf tf kp (nI c) df mf gf) (fun u : MS => MI (m_many ((N, B, k, p), (c, rd, rl, ra), (hs, sl, sa, sc), tv, fl) w).2 u) (fun _ => some (.int (m_many ((N, B, k, p), (c, rd, rl, ra), (hs, sl, sa, sc), tv, fl) w).1)) (fun u => wMu mm cy u) := by
  refine Ct.of (cc := cX8_many) (nL := 2) (ret := (some .int)) rfl (by decide) ⟨rfl, rfl⟩ (Nat.le_of_ble_eq_true rfl) ?_
  intro X C E
  have C : Cx X l D cy cX8_many 2 wsX8_many RX8 ({ frames := 4, cells := 0, slots := 0, locals := 89 }) := C
  have mh0 : ∀ w ∈ u_ws RX8 TX8 21, w ∈ wsX8_many := by decide +kernel
  have mh1 : Cond.fieldLink RX8 96 RX8 (TX8 17).2.1 (TX8 17).2.2.1 ∈ wsX8_many := by decide +kernel
  have mh2 : Cond.fieldLink RX8 93 RX8 (TX8 6).2.1 (TX8 6).2.2.1 ∈ wsX8_many := by decide +kernel
  have mh3 : Cond.fieldLink RX8 60 RX8 (TX8 5).2.1 (TX8 5).2.2.1 ∈ wsX8_many := by decide +kernel
  obtain ⟨-, ⟨hB, hN2⟩, hT, hR, hS⟩ := hX
  have hN := hT.n
  have hc8 := hR.1
  have hN30 : N ≤ 2 ^ 30 := by omega
  show J X (wM mm cy fl tv so sg ce (nI N) (nI B) kf pf vat vrm vrb rk rp lf tf kp (nI c) df mf gf) 0 [(0, .ref (mm 0)), (1, .int w)] []
  refine j_iload_n C 1 dX8_many_0 rfl rfl ?_
  refine j_if_ne (tgt := 11) C dX8_many_1 (by decide) (fun c1 => ?_) (fun c1 => ?_)
  · refine j_iload_n C 1 dX8_many_11 rfl rfl ?_
    refine j_iconst (v := nI 1) C dX8_many_12 (by decide) ?_
    refine j_icmp_ne (tgt := 23) C dX8_many_13 (by decide) (fun c13 => ?_) (fun c13 => ?_)
    · refine j_iload_n C 1 dX8_many_23 rfl rfl ?_
      refine j_iconst (v := nI 2) C dX8_many_24 (by decide) ?_
      refine j_icmp_ne (tgt := 35) C dX8_many_25 (by decide) (fun c25 => ?_) (fun c25 => ?_)
      · refine j_iload_n C 1 dX8_many_35 rfl rfl ?_
        refine j_iconst (v := nI 3) C dX8_many_36 (by decide) ?_
        refine j_icmp_ne (tgt := 47) C dX8_many_37 (by decide) (fun c37 => ?_) (fun c37 => ?_)
        · refine j_bipush (v := (-2)) C dX8_many_47 (by decide) ?_
          exact j_iret C E dX8_many_49 (fl, tv, so, sg, ce, nI N, nI B, kf, pf, vat, vrm, vrb, rk, rp, lf, tf, kp, nI c, df, mf, gf) (by rw [show m_many ((N, B, k, p), (c, rd, rl, ra), (hs, sl, sa, sc), tv, fl) w = ((-2), ((N, B, k, p), (c, rd, rl, ra), (hs, sl, sa, sc), tv, fl)) from (by rw [show m_many ((N, B, k, p), (c, rd, rl, ra), (hs, sl, sa, sc), tv, fl) w = ((-2 : Int32), ((N, B, k, p), (c, rd, rl, ra), (hs, sl, sa, sc), tv, fl)) from by simp only [m_many, many_n c1 c13 c25 c37]])]; exact MI.mk hB hN2 hT hR hS) (by rw [show m_many ((N, B, k, p), (c, rd, rl, ra), (hs, sl, sa, sc), tv, fl) w = ((-2), ((N, B, k, p), (c, rd, rl, ra), (hs, sl, sa, sc), tv, fl)) from (by rw [show m_many ((N, B, k, p), (c, rd, rl, ra), (hs, sl, sa, sc), tv, fl) w = ((-2 : Int32), ((N, B, k, p), (c, rd, rl, ra), (hs, sl, sa, sc), tv, fl)) from by simp only [m_many, many_n c1 c13 c25 c37]])]) rfl
        · subst c37
          show J X (wM mm cy fl tv so sg ce (nI N) (nI B) kf pf vat vrm vrb rk rp lf tf kp (nI c) df mf gf) 40 [(0, .ref (mm 0)), (1, .int (nI 3))] []
          refine j_aload_n C 0 dX8_many_40 rfl rfl ?_
          refine j_get C mh0 17 mh1 0 rfl rfl (by decide) rfl rfl dX8_many_41 ?_
          refine j_goto (tgt := 49) C dX8_many_44 (by decide) ?_
          exact j_iret C E dX8_many_49 (fl, tv, so, sg, ce, nI N, nI B, kf, pf, vat, vrm, vrb, rk, rp, lf, tf, kp, nI c, df, mf, gf) (by rw [show m_many ((N, B, k, p), (c, rd, rl, ra), (hs, sl, sa, sc), tv, fl) (nI 3) = (nI c, ((N, B, k, p), (c, rd, rl, ra), (hs, sl, sa, sc), tv, fl)) from (by simp only [m_many, pI (n := 4) (j := 0) (by decide) (by decide), pI (n := 4) (j := 1) (by decide) (by decide), pI (n := 4) (j := 2) (by decide) (by decide), pI (n := 4) (j := 3) (by decide) (by decide)]; try rfl)]; exact MI.mk hB hN2 hT hR hS) (by rw [show m_many ((N, B, k, p), (c, rd, rl, ra), (hs, sl, sa, sc), tv, fl) (nI 3) = (nI c, ((N, B, k, p), (c, rd, rl, ra), (hs, sl, sa, sc), tv, fl)) from (by simp only [m_many, pI (n := 4) (j := 0) (by decide) (by decide), pI (n := 4) (j := 1) (by decide) (by decide), pI (n := 4) (j := 2) (by decide) (by decide), pI (n := 4) (j := 3) (by decide) (by decide)]; try rfl)]) rfl
      · subst c25
        show J X (wM mm cy fl tv so sg ce (nI N) (nI B) kf pf vat vrm vrb rk rp lf tf kp (nI c) df mf gf) 28 [(0, .ref (mm 0)), (1, .int (nI 2))] []
        refine j_aload_n C 0 dX8_many_28 rfl rfl ?_
        refine j_callV0 (As := []) (rest := []) C (c_X8_litNow mm fl tv so sg ce N B kf pf vat vrm vrb rk rp lf tf kp c df mf gf k p hT ) gX8_many_X8_litNow rfl 0 rfl (by decide +kernel) (by decide) 0 rfl rfl (Nat.le_of_ble_eq_true rfl) dX8_many_29 rfl (fun _ _ => ?_)
        show J X (wM mm cy fl tv so sg ce (nI N) (nI B) kf pf vat vrm vrb rk rp lf tf kp (nI c) df mf gf) 32 [(0, .ref (mm 0)), (1, .int (nI 2))] [.int (nI (cntB (fun b => (lg N k p b).isSome) N))]
        refine j_goto (tgt := 49) C dX8_many_32 (by decide) ?_
        exact j_iret C E dX8_many_49 (fl, tv, so, sg, ce, nI N, nI B, kf, pf, vat, vrm, vrb, rk, rp, lf, tf, kp, nI c, df, mf, gf) (by rw [show m_many ((N, B, k, p), (c, rd, rl, ra), (hs, sl, sa, sc), tv, fl) (nI 2) = (nI (cntB (fun b => (lg N k p b).isSome) N), ((N, B, k, p), (c, rd, rl, ra), (hs, sl, sa, sc), tv, fl)) from (by simp only [m_many, pI (n := 4) (j := 0) (by decide) (by decide), pI (n := 4) (j := 1) (by decide) (by decide), pI (n := 4) (j := 2) (by decide) (by decide), pI (n := 4) (j := 3) (by decide) (by decide)]; try rfl)]; exact MI.mk hB hN2 hT hR hS) (by rw [show m_many ((N, B, k, p), (c, rd, rl, ra), (hs, sl, sa, sc), tv, fl) (nI 2) = (nI (cntB (fun b => (lg N k p b).isSome) N), ((N, B, k, p), (c, rd, rl, ra), (hs, sl, sa, sc), tv, fl)) from (by simp only [m_many, pI (n := 4) (j := 0) (by decide) (by decide), pI (n := 4) (j := 1) (by decide) (by decide), pI (n := 4) (j := 2) (by decide) (by decide), pI (n := 4) (j := 3) (by decide) (by decide)]; try rfl)]) rfl
    · subst c13
      show J X (wM mm cy fl tv so sg ce (nI N) (nI B) kf pf vat vrm vrb rk rp lf tf kp (nI c) df mf gf) 16 [(0, .ref (mm 0)), (1, .int (nI 1))] []
      refine j_aload_n C 0 dX8_many_16 rfl rfl ?_
      refine j_get C mh0 6 mh2 0 rfl rfl (by decide) rfl rfl dX8_many_17 ?_
      refine j_goto (tgt := 49) C dX8_many_20 (by decide) ?_
      exact j_iret C E dX8_many_49 (fl, tv, so, sg, ce, nI N, nI B, kf, pf, vat, vrm, vrb, rk, rp, lf, tf, kp, nI c, df, mf, gf) (by rw [show m_many ((N, B, k, p), (c, rd, rl, ra), (hs, sl, sa, sc), tv, fl) (nI 1) = (nI B, ((N, B, k, p), (c, rd, rl, ra), (hs, sl, sa, sc), tv, fl)) from (by simp only [m_many, pI (n := 4) (j := 0) (by decide) (by decide), pI (n := 4) (j := 1) (by decide) (by decide), pI (n := 4) (j := 2) (by decide) (by decide), pI (n := 4) (j := 3) (by decide) (by decide)]; try rfl)]; exact MI.mk hB hN2 hT hR hS) (by rw [show m_many ((N, B, k, p), (c, rd, rl, ra), (hs, sl, sa, sc), tv, fl) (nI 1) = (nI B, ((N, B, k, p), (c, rd, rl, ra), (hs, sl, sa, sc), tv, fl)) from (by simp only [m_many, pI (n := 4) (j := 0) (by decide) (by decide), pI (n := 4) (j := 1) (by decide) (by decide), pI (n := 4) (j := 2) (by decide) (by decide), pI (n := 4) (j := 3) (by decide) (by decide)]; try rfl)]) rfl
  · have q0 : w = nI 0 := c1
    subst q0
    show J X (wM mm cy fl tv so sg ce (nI N) (nI B) kf pf vat vrm vrb rk rp lf tf kp (nI c) df mf gf) 4 [(0, .ref (mm 0)), (1, .int (nI 0))] []
    refine j_aload_n C 0 dX8_many_4 rfl rfl ?_
    refine j_get C mh0 5 mh3 0 rfl rfl (by decide) rfl rfl dX8_many_5 ?_
    refine j_goto (tgt := 49) C dX8_many_8 (by decide) ?_
    exact j_iret C E dX8_many_49 (fl, tv, so, sg, ce, nI N, nI B, kf, pf, vat, vrm, vrb, rk, rp, lf, tf, kp, nI c, df, mf, gf) (by rw [show m_many ((N, B, k, p), (c, rd, rl, ra), (hs, sl, sa, sc), tv, fl) (nI 0) = (nI N, ((N, B, k, p), (c, rd, rl, ra), (hs, sl, sa, sc), tv, fl)) from (by simp only [m_many, pI (n := 4) (j := 0) (by decide) (by decide), pI (n := 4) (j := 1) (by decide) (by decide), pI (n := 4) (j := 2) (by decide) (by decide), pI (n := 4) (j := 3) (by decide) (by decide)]; try rfl)]; exact MI.mk hB hN2 hT hR hS) (by rw [show m_many ((N, B, k, p), (c, rd, rl, ra), (hs, sl, sa, sc), tv, fl) (nI 0) = (nI N, ((N, B, k, p), (c, rd, rl, ra), (hs, sl, sa, sc), tv, fl)) from (by simp only [m_many, pI (n := 4) (j := 0) (by decide) (by decide), pI (n := 4) (j := 1) (by decide) (by decide), pI (n := 4) (j := 2) (by decide) (by decide), pI (n := 4) (j := 3) (by decide) (by decide)]; try rfl)]) rfl
set_option maxHeartbeats 4000000 in
set_option maxRecDepth 20000 in
theorem c_X8_tell {l : Launch} {D : va_G} {cy : Nat → ClassId} (mm : Nat → Nat) (fl tv : Int32) (so sg ce : Nat → Int32) (N B : Nat) (kf pf : Nat → Int32) (vat vrm vrb : Int32) (rk rp lf tf kp : Nat → Int32) (c : Nat) (df mf gf : Nat → Int32) (k : Nat → Nat) (p : Nat → Nat → Nat) (rd rl : Nat → Nat) (ra : Nat → Option Nat) (hs : Nat → Bool) (sl sa : Nat → Nat) (sc : Nat → Nat → Int32) (hX : MI ((N, B, k, p), (c, rd, rl, ra), (hs, sl, sa, sc), tv, fl) (fl, tv, so, sg, ce, nI N, nI B, kf, pf, vat, vrm, vrb, rk, rp, lf, tf, kp, nI c, df, mf, gf)) (x : Int32)  : Ct l yX8_tell wsX8_tell ({ frames := 2, cells := 0, slots := 0, locals := 44 }) D cy [.ref (mm 0), .int x] (wM mm cy fl tv so sg ce (nI N) (nI B) kf pf vat vrm vrb rk rp lf tf kp (nI c) df mf gf) (fun u : MS => MI (m_tell ((N, B, k, p), (c, rd, rl, ra), (hs, sl, sa, sc), tv, fl) x).2 u) (fun _ => some (.int (m_tell ((N, B, k, p), (c, rd, rl, ra), (hs, sl, sa, sc), tv, fl) x).1)) (fun u => wMu mm cy u) := by
  refine Ct.of (cc := cX8_tell) (nL := 3) (ret := (some .int)) rfl (by decide) ⟨rfl, rfl⟩ (Nat.le_of_ble_eq_true rfl) ?_
  intro X C E
  have C : Cx X l D cy cX8_tell 3 wsX8_tell RX8 ({ frames := 2, cells := 0, slots := 0, locals := 44 }) := C
  have mh0 : ∀ w ∈ u_ws RX8 TX8 21, w ∈ wsX8_tell := by decide +kernel
  have mh1 : Cond.fieldLink RX8 19 RX8 (TX8 7).2.1 (TX8 7).2.2.1 ∈ wsX8_tell := by decide +kernel
  obtain ⟨-, ⟨hB, hN2⟩, hT, hR, hS⟩ := hX
  have hN := hT.n
  have hc8 := hR.1
  have hN30 : N ≤ 2 ^ 30 := by omega
  show J X (wM mm cy fl tv so sg ce (nI N) (nI B) kf pf vat vrm vrb rk rp lf tf kp (nI c) df mf gf) 0 [(0, .ref (mm 0)), (1, .int x)] []
  refine j_aload_n C 0 dX8_tell_0 rfl rfl ?_
  refine j_iload_n C 1 dX8_tell_1 rfl rfl ?_
  refine j_callV0 (As := [.int x]) (rest := []) C (c_X8_isPerson mm fl tv so sg ce N B kf pf vat vrm vrb rk rp lf tf kp c df mf gf (x) hN) gX8_tell_X8_isPerson rfl 1 rfl (by decide +kernel) (by decide) 0 rfl rfl (Nat.le_of_ble_eq_true rfl) dX8_tell_2 rfl (fun _ _ => ?_)
  show J X (wM mm cy fl tv so sg ce (nI N) (nI B) kf pf vat vrm vrb rk rp lf tf kp (nI c) df mf gf) 5 [(0, .ref (mm 0)), (1, .int x)] [.int (nI (bN ((pOf N (x)).isSome = true)))]
  refine j_if_neN (tgt := 10) C dX8_tell_5 (by decide) (bN_lt _) (fun c5 => ?_) (fun c5 => ?_)
  · have c5 := bN_1.mp c5
    obtain ⟨a1, ha1, rfl⟩ := pY hN30 c5
    have qa1 := pI ha1 hN30
    show J X (wM mm cy fl tv so sg ce (nI N) (nI B) kf pf vat vrm vrb rk rp lf tf kp (nI c) df mf gf) 10 [(0, .ref (mm 0)), (1, .int (nI a1))] []
    refine j_aload_n C 0 dX8_tell_10 rfl rfl ?_
    refine j_iload_n C 1 dX8_tell_11 rfl rfl ?_
    refine j_callV0 (As := [.int (nI a1)]) (rest := []) C (c_X8_owesAll mm fl tv so sg ce N B kf pf vat vrm vrb rk rp lf tf kp c df mf gf k p hT a1 (by omega)) gX8_tell_X8_owesAll rfl 1 rfl (by decide +kernel) (by decide) 0 rfl rfl (Nat.le_of_ble_eq_true rfl) dX8_tell_12 rfl (fun _ _ => ?_)
    show J X (wM mm cy fl tv so sg ce (nI N) (nI B) kf pf vat vrm vrb rk rp lf tf kp (nI c) df mf gf) 15 [(0, .ref (mm 0)), (1, .int (nI a1))] [.int (nI (psum p a1 N))]
    refine j_istore_n (lv' := [(2, .int (nI (psum p a1 N))), (0, .ref (mm 0)), (1, .int (nI a1))]) C dX8_tell_15 rfl (by decide) rfl ?_
    refine j_aload_n C 1 dX8_tell_16 rfl rfl ?_
    refine j_get C mh0 7 mh1 0 rfl rfl (by decide) rfl rfl dX8_tell_17 ?_
    refine j_iload_n C 2 dX8_tell_20 rfl rfl ?_
    have := hT.k2 (a := a1) (by omega)
    refine j_iald (v := nI (k a1)) C 4 rfl (by omega) (by decide) (hT.kk (by omega)) dX8_tell_21 ?_
    have hk2 := hT.k2 (a := a1) (by omega)
    have hk3 : k a1 = 0 ∨ k a1 = 1 ∨ k a1 = 2 := by omega
    rcases hk3 with e | e | e
    · rw [e]
      refine j_lookup (off := 68) (tgt := 90) C dX8_tell_22 (by decide +kernel) (by decide +kernel) (by decide) ?_
      refine j_aload_n C 1 dX8_tell_90 rfl rfl ?_
      refine j_iconst (v := nI 1) C dX8_tell_91 (by decide) ?_
      refine j_callV0 (As := [.int (nI 1)]) (rest := []) C (c_X8_begins mm fl tv so sg ce N B kf pf vat vrm vrb rk rp lf tf kp c df mf gf 1) gX8_tell_X8_begins rfl 1 rfl (by decide +kernel) (by decide) 0 rfl rfl (Nat.le_of_ble_eq_true rfl) dX8_tell_92 rfl (fun _ _ => ?_)
      show J X (wM mm cy fl (tr tv 1) so sg ce (nI N) (nI B) kf pf vat vrm vrb rk rp lf tf kp (nI c) df mf gf) 95 [(2, .int (nI (psum p a1 N))), (0, .ref (mm 0)), (1, .int (nI a1))] []
      refine j_iload_n C 0 dX8_tell_95 rfl rfl ?_
      exact j_iret C E dX8_tell_96 (fl, tr tv 1, so, sg, ce, nI N, nI B, kf, pf, vat, vrm, vrb, rk, rp, lf, tf, kp, nI c, df, mf, gf) (by rw [show m_tell ((N, B, k, p), (c, rd, rl, ra), (hs, sl, sa, sc), tv, fl) (nI a1) = (nI (psum p a1 N), ((N, B, k, p), (c, rd, rl, ra), (hs, sl, sa, sc), tr tv 1, fl)) from (by simp only [m_tell, qa1, e, reduceIte])]; exact MI.mk hB hN2 hT hR hS) (by rw [show m_tell ((N, B, k, p), (c, rd, rl, ra), (hs, sl, sa, sc), tv, fl) (nI a1) = (nI (psum p a1 N), ((N, B, k, p), (c, rd, rl, ra), (hs, sl, sa, sc), tr tv 1, fl)) from (by simp only [m_tell, qa1, e, reduceIte])]) rfl
    · rw [e]
      refine j_lookup (off := 26) (tgt := 48) C dX8_tell_22 (by decide +kernel) (by decide +kernel) (by decide) ?_
      refine j_aload_n C 1 dX8_tell_48 rfl rfl ?_
      refine j_iconst (v := nI 2) C dX8_tell_49 (by decide) ?_
      refine j_callV0 (As := [.int (nI 2)]) (rest := []) C (c_X8_begins mm fl tv so sg ce N B kf pf vat vrm vrb rk rp lf tf kp c df mf gf 2) gX8_tell_X8_begins rfl 1 rfl (by decide +kernel) (by decide) 0 rfl rfl (Nat.le_of_ble_eq_true rfl) dX8_tell_50 rfl (fun _ _ => ?_)
      show J X (wM mm cy fl (tr tv 2) so sg ce (nI N) (nI B) kf pf vat vrm vrb rk rp lf tf kp (nI c) df mf gf) 53 [(2, .int (nI (psum p a1 N))), (0, .ref (mm 0)), (1, .int (nI a1))] []
      refine j_aload_n C 1 dX8_tell_53 rfl rfl ?_
      refine j_iconst (v := nI 1) C dX8_tell_54 (by decide) ?_
      refine j_callV0 (As := [.int (nI 1)]) (rest := []) C (c_X8_begins mm fl (tr tv 2) so sg ce N B kf pf vat vrm vrb rk rp lf tf kp c df mf gf 1) gX8_tell_X8_begins rfl 1 rfl (by decide +kernel) (by decide) 0 rfl rfl (Nat.le_of_ble_eq_true rfl) dX8_tell_55 rfl (fun _ _ => ?_)
      show J X (wM mm cy fl (tr (tr tv 2) 1) so sg ce (nI N) (nI B) kf pf vat vrm vrb rk rp lf tf kp (nI c) df mf gf) 58 [(2, .int (nI (psum p a1 N))), (0, .ref (mm 0)), (1, .int (nI a1))] []
      refine j_iload_n C 0 dX8_tell_58 rfl rfl ?_
      refine j_bipush (v := nI 100) C dX8_tell_59 (by decide) ?_
      refine j_iadd (v := nI ((psum p a1 N) + 100)) C dX8_tell_61 (nI_add _ _) ?_
      exact j_iret C E dX8_tell_62 (fl, tr (tr tv 2) 1, so, sg, ce, nI N, nI B, kf, pf, vat, vrm, vrb, rk, rp, lf, tf, kp, nI c, df, mf, gf) (by rw [show m_tell ((N, B, k, p), (c, rd, rl, ra), (hs, sl, sa, sc), tv, fl) (nI a1) = (nI ((psum p a1 N) + 100), ((N, B, k, p), (c, rd, rl, ra), (hs, sl, sa, sc), tr (tr tv 2) 1, fl)) from (by simp only [m_tell, qa1, e, reduceIte]; rfl)]; exact MI.mk hB hN2 hT hR hS) (by rw [show m_tell ((N, B, k, p), (c, rd, rl, ra), (hs, sl, sa, sc), tv, fl) (nI a1) = (nI ((psum p a1 N) + 100), ((N, B, k, p), (c, rd, rl, ra), (hs, sl, sa, sc), tr (tr tv 2) 1, fl)) from (by simp only [m_tell, qa1, e, reduceIte]; rfl)]) rfl
    · rw [e]
      refine j_lookup (off := 41) (tgt := 63) C dX8_tell_22 (by decide +kernel) (by decide +kernel) (by decide) ?_
      refine j_aload_n C 1 dX8_tell_63 rfl rfl ?_
      refine j_iconst (v := nI 3) C dX8_tell_64 (by decide) ?_
      refine j_callV0 (As := [.int (nI 3)]) (rest := []) C (c_X8_begins mm fl tv so sg ce N B kf pf vat vrm vrb rk rp lf tf kp c df mf gf 3) gX8_tell_X8_begins rfl 1 rfl (by decide +kernel) (by decide) 0 rfl rfl (Nat.le_of_ble_eq_true rfl) dX8_tell_65 rfl (fun _ _ => ?_)
      show J X (wM mm cy fl (tr tv 3) so sg ce (nI N) (nI B) kf pf vat vrm vrb rk rp lf tf kp (nI c) df mf gf) 68 [(2, .int (nI (psum p a1 N))), (0, .ref (mm 0)), (1, .int (nI a1))] []
      refine j_aload_n C 1 dX8_tell_68 rfl rfl ?_
      refine j_iconst (v := nI 2) C dX8_tell_69 (by decide) ?_
      refine j_callV0 (As := [.int (nI 2)]) (rest := []) C (c_X8_begins mm fl (tr tv 3) so sg ce N B kf pf vat vrm vrb rk rp lf tf kp c df mf gf 2) gX8_tell_X8_begins rfl 1 rfl (by decide +kernel) (by decide) 0 rfl rfl (Nat.le_of_ble_eq_true rfl) dX8_tell_70 rfl (fun _ _ => ?_)
      show J X (wM mm cy fl (tr (tr tv 3) 2) so sg ce (nI N) (nI B) kf pf vat vrm vrb rk rp lf tf kp (nI c) df mf gf) 73 [(2, .int (nI (psum p a1 N))), (0, .ref (mm 0)), (1, .int (nI a1))] []
      refine j_aload_n C 1 dX8_tell_73 rfl rfl ?_
      refine j_iconst (v := nI 1) C dX8_tell_74 (by decide) ?_
      refine j_callV0 (As := [.int (nI 1)]) (rest := []) C (c_X8_begins mm fl (tr (tr tv 3) 2) so sg ce N B kf pf vat vrm vrb rk rp lf tf kp c df mf gf 1) gX8_tell_X8_begins rfl 1 rfl (by decide +kernel) (by decide) 0 rfl rfl (Nat.le_of_ble_eq_true rfl) dX8_tell_75 rfl (fun _ _ => ?_)
      show J X (wM mm cy fl (tr (tr (tr tv 3) 2) 1) so sg ce (nI N) (nI B) kf pf vat vrm vrb rk rp lf tf kp (nI c) df mf gf) 78 [(2, .int (nI (psum p a1 N))), (0, .ref (mm 0)), (1, .int (nI a1))] []
      refine j_aload_n C 1 dX8_tell_78 rfl rfl ?_
      refine j_iconst (v := nI 1) C dX8_tell_79 (by decide) ?_
      refine j_callV0 (As := [.int (nI 1)]) (rest := []) C (c_X8_begins mm fl (tr (tr (tr tv 3) 2) 1) so sg ce N B kf pf vat vrm vrb rk rp lf tf kp c df mf gf 1) gX8_tell_X8_begins rfl 1 rfl (by decide +kernel) (by decide) 0 rfl rfl (Nat.le_of_ble_eq_true rfl) dX8_tell_80 rfl (fun _ _ => ?_)
      show J X (wM mm cy fl (tr (tr (tr (tr tv 3) 2) 1) 1) so sg ce (nI N) (nI B) kf pf vat vrm vrb rk rp lf tf kp (nI c) df mf gf) 83 [(2, .int (nI (psum p a1 N))), (0, .ref (mm 0)), (1, .int (nI a1))] []
      refine j_iconst (v := nI 2) C dX8_tell_83 (by decide) ?_
      refine j_iload_n C 0 dX8_tell_84 rfl rfl ?_
      refine j_imul (v := nI (2 * (psum p a1 N))) C dX8_tell_85 (pk_mul _ _) ?_
      refine j_bipush (v := nI 100) C dX8_tell_86 (by decide) ?_
      refine j_iadd (v := nI ((2 * (psum p a1 N)) + 100)) C dX8_tell_88 (nI_add _ _) ?_
      exact j_iret C E dX8_tell_89 (fl, tr (tr (tr (tr tv 3) 2) 1) 1, so, sg, ce, nI N, nI B, kf, pf, vat, vrm, vrb, rk, rp, lf, tf, kp, nI c, df, mf, gf) (by rw [show m_tell ((N, B, k, p), (c, rd, rl, ra), (hs, sl, sa, sc), tv, fl) (nI a1) = (nI ((2 * (psum p a1 N)) + 100), ((N, B, k, p), (c, rd, rl, ra), (hs, sl, sa, sc), tr (tr (tr (tr tv 3) 2) 1) 1, fl)) from (by simp only [m_tell, qa1, e, reduceIte]; rw [show 2 * psum p a1 N + 100 = psum p a1 N + 100 + psum p a1 N by omega]; try rfl)]; exact MI.mk hB hN2 hT hR hS) (by rw [show m_tell ((N, B, k, p), (c, rd, rl, ra), (hs, sl, sa, sc), tv, fl) (nI a1) = (nI ((2 * (psum p a1 N)) + 100), ((N, B, k, p), (c, rd, rl, ra), (hs, sl, sa, sc), tr (tr (tr (tr tv 3) 2) 1) 1, fl)) from (by simp only [m_tell, qa1, e, reduceIte]; rw [show 2 * psum p a1 N + 100 = psum p a1 N + 100 + psum p a1 N by omega]; try rfl)]) rfl
  · have c5 := bN_0.mp c5
    have qa1 := pOf_n c5
    refine j_iconst (v := (-1)) C dX8_tell_8 (by decide) ?_
    exact j_iret C E dX8_tell_9 (fl, tv, so, sg, ce, nI N, nI B, kf, pf, vat, vrm, vrb, rk, rp, lf, tf, kp, nI c, df, mf, gf) (by rw [show m_tell ((N, B, k, p), (c, rd, rl, ra), (hs, sl, sa, sc), tv, fl) x = ((-1), ((N, B, k, p), (c, rd, rl, ra), (hs, sl, sa, sc), tv, fl)) from (by simp only [m_tell, qa1]; try rfl)]; exact MI.mk hB hN2 hT hR hS) (by rw [show m_tell ((N, B, k, p), (c, rd, rl, ra), (hs, sl, sa, sc), tv, fl) x = ((-1), ((N, B, k, p), (c, rd, rl, ra), (hs, sl, sa, sc), tv, fl)) from (by simp only [m_tell, qa1]; try rfl)]) rfl
set_option maxHeartbeats 4000000 in
set_option maxRecDepth 20000 in
theorem c_X8_hail {l : Launch} {D : va_G} {cy : Nat → ClassId} (mm : Nat → Nat) (fl tv : Int32) (so sg ce : Nat → Int32) (N B : Nat) (kf pf : Nat → Int32) (vat vrm vrb : Int32) (rk rp lf tf kp : Nat → Int32) (c : Nat) (df mf gf : Nat → Int32) (k : Nat → Nat) (p : Nat → Nat → Nat) (rd rl : Nat → Nat) (ra : Nat → Option Nat) (hs : Nat → Bool) (sl sa : Nat → Nat) (sc : Nat → Nat → Int32) (hX : MI ((N, B, k, p), (c, rd, rl, ra), (hs, sl, sa, sc), tv, fl) (fl, tv, so, sg, ce, nI N, nI B, kf, pf, vat, vrm, vrb, rk, rp, lf, tf, kp, nI c, df, mf, gf)) (x : Int32)  : Ct l yX8_hail wsX8_hail ({ frames := 1, cells := 0, slots := 0, locals := 21 }) D cy [.ref (mm 0), .int x] (wM mm cy fl tv so sg ce (nI N) (nI B) kf pf vat vrm vrb rk rp lf tf kp (nI c) df mf gf) (fun u : MS => MI (m_hail ((N, B, k, p), (c, rd, rl, ra), (hs, sl, sa, sc), tv, fl) x).2 u) (fun _ => some (.int (m_hail ((N, B, k, p), (c, rd, rl, ra), (hs, sl, sa, sc), tv, fl) x).1)) (fun u => wMu mm cy u) := by
  refine Ct.of (cc := cX8_hail) (nL := 2) (ret := (some .int)) rfl (by decide) ⟨rfl, rfl⟩ (Nat.le_of_ble_eq_true rfl) ?_
  intro X C E
  have C : Cx X l D cy cX8_hail 2 wsX8_hail RX8 ({ frames := 1, cells := 0, slots := 0, locals := 21 }) := C
  have mh0 : ∀ w ∈ u_ws RX8 TX8 21, w ∈ wsX8_hail := by decide +kernel
  have mh1 : Cond.fieldLink RX8 19 RX8 (TX8 7).2.1 (TX8 7).2.2.1 ∈ wsX8_hail := by decide +kernel
  obtain ⟨-, ⟨hB, hN2⟩, hT, hR, hS⟩ := hX
  have hN := hT.n
  have hc8 := hR.1
  have hN30 : N ≤ 2 ^ 30 := by omega
  show J X (wM mm cy fl tv so sg ce (nI N) (nI B) kf pf vat vrm vrb rk rp lf tf kp (nI c) df mf gf) 0 [(0, .ref (mm 0)), (1, .int x)] []
  refine j_aload_n C 0 dX8_hail_0 rfl rfl ?_
  refine j_iload_n C 1 dX8_hail_1 rfl rfl ?_
  refine j_callV0 (As := [.int x]) (rest := []) C (c_X8_isPerson mm fl tv so sg ce N B kf pf vat vrm vrb rk rp lf tf kp c df mf gf (x) hN) gX8_hail_X8_isPerson rfl 1 rfl (by decide +kernel) (by decide) 0 rfl rfl (Nat.le_of_ble_eq_true rfl) dX8_hail_2 rfl (fun _ _ => ?_)
  show J X (wM mm cy fl tv so sg ce (nI N) (nI B) kf pf vat vrm vrb rk rp lf tf kp (nI c) df mf gf) 5 [(0, .ref (mm 0)), (1, .int x)] [.int (nI (bN ((pOf N (x)).isSome = true)))]
  refine j_if_neN (tgt := 10) C dX8_hail_5 (by decide) (bN_lt _) (fun c5 => ?_) (fun c5 => ?_)
  · have c5 := bN_1.mp c5
    obtain ⟨a1, ha1, rfl⟩ := pY hN30 c5
    have qa1 := pI ha1 hN30
    show J X (wM mm cy fl tv so sg ce (nI N) (nI B) kf pf vat vrm vrb rk rp lf tf kp (nI c) df mf gf) 10 [(0, .ref (mm 0)), (1, .int (nI a1))] []
    refine j_aload_n C 0 dX8_hail_10 rfl rfl ?_
    refine j_aload_n C 0 dX8_hail_11 rfl rfl ?_
    refine j_get C mh0 7 mh1 0 rfl rfl (by decide) rfl rfl dX8_hail_12 ?_
    refine j_iload_n C 1 dX8_hail_15 rfl rfl ?_
    have := hT.k2 (a := a1) (by omega)
    refine j_iald (v := nI (k a1)) C 4 rfl (by omega) (by decide) (hT.kk (by omega)) dX8_hail_16 ?_
    refine j_iconst (v := nI 2) C dX8_hail_17 (by decide) ?_
    refine j_icmp_neN (tgt := 25) C dX8_hail_18 (by decide) (by omega) (by omega) (fun c18 => ?_) (fun c18 => ?_)
    · refine j_iconst (v := nI 4) C dX8_hail_25 (by decide) ?_
      refine j_callV0 (As := [.int (nI 4)]) (rest := []) C (c_X8_begins mm fl tv so sg ce N B kf pf vat vrm vrb rk rp lf tf kp c df mf gf 4) gX8_hail_X8_begins rfl 1 rfl (by decide +kernel) (by decide) 0 rfl rfl (Nat.le_of_ble_eq_true rfl) dX8_hail_26 rfl (fun _ _ => ?_)
      show J X (wM mm cy fl (tr tv 4) so sg ce (nI N) (nI B) kf pf vat vrm vrb rk rp lf tf kp (nI c) df mf gf) 29 [(0, .ref (mm 0)), (1, .int (nI a1))] []
      refine j_aload_n C 0 dX8_hail_29 rfl rfl ?_
      refine j_get C mh0 7 mh1 0 rfl rfl (by decide) rfl rfl dX8_hail_30 ?_
      refine j_iload_n C 1 dX8_hail_33 rfl rfl ?_
      have := hT.k2 (a := a1) (by omega)
      refine j_iald (v := nI (k a1)) C 4 rfl (by omega) (by decide) (hT.kk (by omega)) dX8_hail_34 ?_
      refine j_iconst (v := nI 2) C dX8_hail_35 (by decide) ?_
      refine j_icmp_neN (tgt := 44) C dX8_hail_36 (by decide) (by omega) (by omega) (fun c36 => ?_) (fun c36 => ?_)
      · refine j_iload_n C 1 dX8_hail_44 rfl rfl ?_
        exact j_iret C E dX8_hail_45 (fl, tr tv 4, so, sg, ce, nI N, nI B, kf, pf, vat, vrm, vrb, rk, rp, lf, tf, kp, nI c, df, mf, gf) (by rw [show m_hail ((N, B, k, p), (c, rd, rl, ra), (hs, sl, sa, sc), tv, fl) (nI a1) = (nI a1, ((N, B, k, p), (c, rd, rl, ra), (hs, sl, sa, sc), tr tv 4, fl)) from (by first | exact absurd c18 c36 | exact absurd c36 c18 | (simp only [m_hail, qa1, if_neg c18]; done) | (simp only [m_hail, qa1, if_pos c18]; done))]; exact MI.mk hB hN2 hT hR hS) (by rw [show m_hail ((N, B, k, p), (c, rd, rl, ra), (hs, sl, sa, sc), tv, fl) (nI a1) = (nI a1, ((N, B, k, p), (c, rd, rl, ra), (hs, sl, sa, sc), tr tv 4, fl)) from (by first | exact absurd c18 c36 | exact absurd c36 c18 | (simp only [m_hail, qa1, if_neg c18]; done) | (simp only [m_hail, qa1, if_pos c18]; done))]) rfl
      · refine j_bipush (v := nI 50) C dX8_hail_39 (by decide) ?_
        refine j_goto (tgt := 45) C dX8_hail_41 (by decide) ?_
        exact j_iret C E dX8_hail_45 (fl, tr tv 4, so, sg, ce, nI N, nI B, kf, pf, vat, vrm, vrb, rk, rp, lf, tf, kp, nI c, df, mf, gf) (by rw [show m_hail ((N, B, k, p), (c, rd, rl, ra), (hs, sl, sa, sc), tv, fl) (nI a1) = (nI 50, ((N, B, k, p), (c, rd, rl, ra), (hs, sl, sa, sc), tr tv 4, fl)) from (by first | exact absurd c18 c36 | exact absurd c36 c18 | (simp only [m_hail, qa1, if_neg c18]; done) | (simp only [m_hail, qa1, if_pos c18]; done))]; exact MI.mk hB hN2 hT hR hS) (by rw [show m_hail ((N, B, k, p), (c, rd, rl, ra), (hs, sl, sa, sc), tv, fl) (nI a1) = (nI 50, ((N, B, k, p), (c, rd, rl, ra), (hs, sl, sa, sc), tr tv 4, fl)) from (by first | exact absurd c18 c36 | exact absurd c36 c18 | (simp only [m_hail, qa1, if_neg c18]; done) | (simp only [m_hail, qa1, if_pos c18]; done))]) rfl
    · refine j_iconst (v := nI 5) C dX8_hail_21 (by decide) ?_
      refine j_goto (tgt := 26) C dX8_hail_22 (by decide) ?_
      refine j_callV0 (As := [.int (nI 5)]) (rest := []) C (c_X8_begins mm fl tv so sg ce N B kf pf vat vrm vrb rk rp lf tf kp c df mf gf 5) gX8_hail_X8_begins rfl 1 rfl (by decide +kernel) (by decide) 0 rfl rfl (Nat.le_of_ble_eq_true rfl) dX8_hail_26 rfl (fun _ _ => ?_)
      show J X (wM mm cy fl (tr tv 5) so sg ce (nI N) (nI B) kf pf vat vrm vrb rk rp lf tf kp (nI c) df mf gf) 29 [(0, .ref (mm 0)), (1, .int (nI a1))] []
      refine j_aload_n C 0 dX8_hail_29 rfl rfl ?_
      refine j_get C mh0 7 mh1 0 rfl rfl (by decide) rfl rfl dX8_hail_30 ?_
      refine j_iload_n C 1 dX8_hail_33 rfl rfl ?_
      have := hT.k2 (a := a1) (by omega)
      refine j_iald (v := nI (k a1)) C 4 rfl (by omega) (by decide) (hT.kk (by omega)) dX8_hail_34 ?_
      refine j_iconst (v := nI 2) C dX8_hail_35 (by decide) ?_
      refine j_icmp_neN (tgt := 44) C dX8_hail_36 (by decide) (by omega) (by omega) (fun c36 => ?_) (fun c36 => ?_)
      · refine j_iload_n C 1 dX8_hail_44 rfl rfl ?_
        exact j_iret C E dX8_hail_45 (fl, tr tv 5, so, sg, ce, nI N, nI B, kf, pf, vat, vrm, vrb, rk, rp, lf, tf, kp, nI c, df, mf, gf) (by rw [show m_hail ((N, B, k, p), (c, rd, rl, ra), (hs, sl, sa, sc), tv, fl) (nI a1) = (nI a1, ((N, B, k, p), (c, rd, rl, ra), (hs, sl, sa, sc), tr tv 5, fl)) from (by first | exact absurd c18 c36 | exact absurd c36 c18 | (simp only [m_hail, qa1, if_neg c18]; done) | (simp only [m_hail, qa1, if_pos c18]; done))]; exact MI.mk hB hN2 hT hR hS) (by rw [show m_hail ((N, B, k, p), (c, rd, rl, ra), (hs, sl, sa, sc), tv, fl) (nI a1) = (nI a1, ((N, B, k, p), (c, rd, rl, ra), (hs, sl, sa, sc), tr tv 5, fl)) from (by first | exact absurd c18 c36 | exact absurd c36 c18 | (simp only [m_hail, qa1, if_neg c18]; done) | (simp only [m_hail, qa1, if_pos c18]; done))]) rfl
      · refine j_bipush (v := nI 50) C dX8_hail_39 (by decide) ?_
        refine j_goto (tgt := 45) C dX8_hail_41 (by decide) ?_
        exact j_iret C E dX8_hail_45 (fl, tr tv 5, so, sg, ce, nI N, nI B, kf, pf, vat, vrm, vrb, rk, rp, lf, tf, kp, nI c, df, mf, gf) (by rw [show m_hail ((N, B, k, p), (c, rd, rl, ra), (hs, sl, sa, sc), tv, fl) (nI a1) = (nI 50, ((N, B, k, p), (c, rd, rl, ra), (hs, sl, sa, sc), tr tv 5, fl)) from (by first | exact absurd c18 c36 | exact absurd c36 c18 | (simp only [m_hail, qa1, if_neg c18]; done) | (simp only [m_hail, qa1, if_pos c18]; done))]; exact MI.mk hB hN2 hT hR hS) (by rw [show m_hail ((N, B, k, p), (c, rd, rl, ra), (hs, sl, sa, sc), tv, fl) (nI a1) = (nI 50, ((N, B, k, p), (c, rd, rl, ra), (hs, sl, sa, sc), tr tv 5, fl)) from (by first | exact absurd c18 c36 | exact absurd c36 c18 | (simp only [m_hail, qa1, if_neg c18]; done) | (simp only [m_hail, qa1, if_pos c18]; done))]) rfl
  · have c5 := bN_0.mp c5
    have qa1 := pOf_n c5
    refine j_iconst (v := (-1)) C dX8_hail_8 (by decide) ?_
    exact j_iret C E dX8_hail_9 (fl, tv, so, sg, ce, nI N, nI B, kf, pf, vat, vrm, vrb, rk, rp, lf, tf, kp, nI c, df, mf, gf) (by rw [show m_hail ((N, B, k, p), (c, rd, rl, ra), (hs, sl, sa, sc), tv, fl) x = ((-1), ((N, B, k, p), (c, rd, rl, ra), (hs, sl, sa, sc), tv, fl)) from (by simp only [m_hail, qa1]; try rfl)]; exact MI.mk hB hN2 hT hR hS) (by rw [show m_hail ((N, B, k, p), (c, rd, rl, ra), (hs, sl, sa, sc), tv, fl) x = ((-1), ((N, B, k, p), (c, rd, rl, ra), (hs, sl, sa, sc), tv, fl)) from (by simp only [m_hail, qa1]; try rfl)]) rfl
