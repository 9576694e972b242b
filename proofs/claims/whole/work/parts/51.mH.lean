set_option maxHeartbeats 4000000 in
set_option maxRecDepth 20000 in
theorem c_X8_inLeastTerms {l : Launch} {D : va_G} {cy : Nat → ClassId} (U V w : Nat) (hV : 0 < V) (hU6 : U ≤ 64) (hV6 : V ≤ 64) (hw : w < 2) : Ct l yX8_inLeastTerms wsX8_inLeastTerms ({ frames := 0, cells := 0, slots := 0, locals := 0 }) D cy [.long (lN U), .long (lN V), .int (nI w)] (([] : va_W) ) (fun _ : Unit => True) (fun _ => some (.long (lN (if w = 0 then U / Nat.gcd U V else V / Nat.gcd U V)))) (fun _ => []) := by
  refine Ct.of (cc := cX8_inLeastTerms) (nL := 11) (ret := (some .long)) rfl (by decide) ⟨rfl, rfl⟩ (Nat.le_of_ble_eq_true rfl) ?_
  intro X C E
  have C : Cx X l D cy cX8_inLeastTerms 11 wsX8_inLeastTerms RX8 ({ frames := 0, cells := 0, slots := 0, locals := 0 }) := C
  show J X (([] : va_W) ) 0 [(0, .long (lN U)), (2, .long (lN V)), (4, .int (nI w))] []
  refine j_lload_n C 0 dX8_inLeastTerms_0 rfl rfl ?_
  refine j_lstore (lv' := [(5, .long (lN U)), (0, .long (lN U)), (2, .long (lN V)), (4, .int (nI w))]) C dX8_inLeastTerms_1 (by decide) rfl ?_
  refine j_lload_n C 2 dX8_inLeastTerms_3 rfl rfl ?_
  refine j_lstore (lv' := [(7, .long (lN V)), (5, .long (lN U)), (0, .long (lN U)), (2, .long (lN V)), (4, .int (nI w))]) C dX8_inLeastTerms_4 (by decide) rfl ?_
  refine J.sub [2, 3, 4, 1, 0] rfl ?_
  have L6 : ∀ (n : Nat) (x y : Nat), y < n → Nat.gcd x y = Nat.gcd U V → (x ≤ 64 ∧ y ≤ 64) → J X (([] : va_W) ) 6 [(0, .long (lN U)), (2, .long (lN V)), (4, .int (nI w)), (5, .long (lN x)), (7, .long (lN y))] [] := by
    intro n
    induction n with
    | zero => intro x y hm; exact absurd hm (Nat.not_lt_zero _)
    | succ n ih6 =>
      intro x y h6_0 h6_1 h6_2
      refine j_lload C 4 dX8_inLeastTerms_6 rfl ?_
      refine j_lconst (v := lN 0) C dX8_inLeastTerms_8 (by decide) ?_
      refine j_lcmp (v := nI (bN (¬ y = 0))) C dX8_inLeastTerms_9 (lc_0 (by omega)) ?_
      refine j_if_eqN (tgt := 31) C dX8_inLeastTerms_10 (by decide) (bN_lt _) (fun c10 => ?_) (fun c10 => ?_)
      · have c10 := bN_0.mp c10
        have hy0 : y = 0 := Classical.byContradiction (fun z => c10 z)
        have hxg : x = Nat.gcd U V := by rw [← h6_1, hy0, Nat.gcd_zero_right]
        have hgp : 0 < Nat.gcd U V := Nat.gcd_pos_of_pos_right U hV
        refine j_iload C 2 dX8_inLeastTerms_31 rfl ?_
        refine j_if_neN (tgt := 43) C dX8_inLeastTerms_33 (by decide) (by omega) (fun c33 => ?_) (fun c33 => ?_)
        · refine j_lload_n C 1 dX8_inLeastTerms_43 rfl rfl ?_
          refine j_lload C 3 dX8_inLeastTerms_44 rfl ?_
          refine j_ldiv (v := lN (V / Nat.gcd U V)) C dX8_inLeastTerms_46 (fun z => by have z2 := (lN_eq (a := x) (b := 0) (by omega) (by decide)).mp z; omega) (by rw [← hxg]; exact pk_lDiv (by omega) (by omega) (by omega)) ?_
          exact j_lret C E dX8_inLeastTerms_47 () trivial (by first | (rw [if_pos c33]; done) | (rw [if_neg c33]; done)) rfl
        · refine j_lload_n C 0 dX8_inLeastTerms_36 rfl rfl ?_
          refine j_lload C 3 dX8_inLeastTerms_37 rfl ?_
          refine j_ldiv (v := lN (U / Nat.gcd U V)) C dX8_inLeastTerms_39 (fun z => by have z2 := (lN_eq (a := x) (b := 0) (by omega) (by decide)).mp z; omega) (by rw [← hxg]; exact pk_lDiv (by omega) (by omega) (by omega)) ?_
          refine j_goto (tgt := 47) C dX8_inLeastTerms_40 (by decide) ?_
          exact j_lret C E dX8_inLeastTerms_47 () trivial (by first | (rw [if_pos c33]; done) | (rw [if_neg c33]; done)) rfl
      · have c10 := bN_1.mp c10
        have hrl := Nat.mod_lt x (Nat.pos_of_ne_zero c10)
        refine j_lload C 3 dX8_inLeastTerms_13 rfl ?_
        refine j_lload C 4 dX8_inLeastTerms_15 rfl ?_
        refine j_lrem (v := lN (x % y)) C dX8_inLeastTerms_17 (fun z => c10 ((lN_eq (by omega) (by decide)).mp z)) (pk_lRem (by omega) (by omega) (by omega)) ?_
        refine j_lstore (lv' := [(9, .long (lN (x % y))), (0, .long (lN U)), (2, .long (lN V)), (4, .int (nI w)), (5, .long (lN x)), (7, .long (lN y))]) C dX8_inLeastTerms_18 (by decide) rfl ?_
        refine j_lload C 5 dX8_inLeastTerms_20 rfl ?_
        refine j_lstore (lv' := [(5, .long (lN y)), (9, .long (lN (x % y))), (0, .long (lN U)), (2, .long (lN V)), (4, .int (nI w)), (7, .long (lN y))]) C dX8_inLeastTerms_22 (by decide) rfl ?_
        refine j_lload C 1 dX8_inLeastTerms_24 rfl ?_
        refine j_lstore (lv' := [(7, .long (lN (x % y))), (5, .long (lN y)), (9, .long (lN (x % y))), (0, .long (lN U)), (2, .long (lN V)), (4, .int (nI w))]) C dX8_inLeastTerms_26 (by decide) rfl ?_
        refine j_goto (tgt := 6) C dX8_inLeastTerms_28 (by decide) ?_
        refine J.sub [3, 4, 5, 1, 0] rfl ?_
        have e := ih6 y (x % y) (by omega) (by rw [← h6_1, Nat.gcd_comm x y, Nat.gcd_rec y x, Nat.gcd_comm]) ⟨by omega, by omega⟩
        exact e
  have e := L6 (V + 1) U V (by omega) rfl ⟨hU6, hV6⟩
  exact e
set_option maxHeartbeats 4000000 in
set_option maxRecDepth 20000 in
theorem c_X8_odds {l : Launch} {D : va_G} {cy : Nat → ClassId} (mm : Nat → Nat) (fl tv : Int32) (so sg ce : Nat → Int32) (N B : Nat) (kf pf : Nat → Int32) (vat vrm vrb : Int32) (rk rp lf tf kp : Nat → Int32) (c : Nat) (df mf gf : Nat → Int32) (k : Nat → Nat) (p : Nat → Nat → Nat) (rd rl : Nat → Nat) (ra : Nat → Option Nat) (hs : Nat → Bool) (sl sa : Nat → Nat) (sc : Nat → Nat → Int32) (hX : MI ((N, B, k, p), (c, rd, rl, ra), (hs, sl, sa, sc), tv, fl) (fl, tv, so, sg, ce, nI N, nI B, kf, pf, vat, vrm, vrb, rk, rp, lf, tf, kp, nI c, df, mf, gf)) (b a w : Int32)  : Ct l yX8_odds wsX8_odds ({ frames := 3, cells := 0, slots := 0, locals := 67 }) D cy [.ref (mm 0), .int b, .int a, .int w] (wM mm cy fl tv so sg ce (nI N) (nI B) kf pf vat vrm vrb rk rp lf tf kp (nI c) df mf gf) (fun u : MS => MI (m_odds ((N, B, k, p), (c, rd, rl, ra), (hs, sl, sa, sc), tv, fl) b a w).2 u) (fun _ => some (.long (m_odds ((N, B, k, p), (c, rd, rl, ra), (hs, sl, sa, sc), tv, fl) b a w).1)) (fun u => wMu mm cy u) := by
  refine Ct.of (cc := cX8_odds) (nL := 9) (ret := (some .long)) rfl (by decide) ⟨rfl, rfl⟩ (Nat.le_of_ble_eq_true rfl) ?_
  intro X C E
  have C : Cx X l D cy cX8_odds 9 wsX8_odds RX8 ({ frames := 3, cells := 0, slots := 0, locals := 67 }) := C
  have mh0 : Cond.constantLong RX8 54 lostV ∈ wsX8_odds := by decide +kernel
  have mh1 : ∀ w ∈ u_ws RX8 TX8 21, w ∈ wsX8_odds := by decide +kernel
  have mh2 : Cond.fieldLink RX8 60 RX8 (TX8 5).2.1 (TX8 5).2.2.1 ∈ wsX8_odds := by decide +kernel
  have mh3 : Cond.fieldLink RX8 22 RX8 (TX8 8).2.1 (TX8 8).2.2.1 ∈ wsX8_odds := by decide +kernel
  have mh4 : Cond.fieldLink RX8 38 RX8 (TX8 16).2.1 (TX8 16).2.2.1 ∈ wsX8_odds := by decide +kernel
  obtain ⟨-, ⟨hB, hN2⟩, hT, hR, hS⟩ := hX
  have hN := hT.n
  have hc8 := hR.1
  have hN30 : N ≤ 2 ^ 30 := by omega
  show J X (wM mm cy fl tv so sg ce (nI N) (nI B) kf pf vat vrm vrb rk rp lf tf kp (nI c) df mf gf) 0 [(0, .ref (mm 0)), (1, .int b), (2, .int a), (3, .int w)] []
  refine j_aload_n C 0 dX8_odds_0 rfl rfl ?_
  refine j_iload_n C 1 dX8_odds_1 rfl rfl ?_
  refine j_callV0 (As := [.int b]) (rest := []) C (c_X8_isPerson mm fl tv so sg ce N B kf pf vat vrm vrb rk rp lf tf kp c df mf gf (b) hN) gX8_odds_X8_isPerson rfl 1 rfl (by decide +kernel) (by decide) 0 rfl rfl (Nat.le_of_ble_eq_true rfl) dX8_odds_2 rfl (fun _ _ => ?_)
  show J X (wM mm cy fl tv so sg ce (nI N) (nI B) kf pf vat vrm vrb rk rp lf tf kp (nI c) df mf gf) 5 [(0, .ref (mm 0)), (1, .int b), (2, .int a), (3, .int w)] [.int (nI (bN ((pOf N (b)).isSome = true)))]
  refine j_if_eqN (tgt := 25) C dX8_odds_5 (by decide) (bN_lt _) (fun c5 => ?_) (fun c5 => ?_)
  · have c5 := bN_0.mp c5
    have qb1 := pOf_n c5
    refine j_ldc2 (v := lostV) C mh0 dX8_odds_25 ?_
    exact j_lret C E dX8_odds_28 (fl, tv, so, sg, ce, nI N, nI B, kf, pf, vat, vrm, vrb, rk, rp, lf, tf, kp, nI c, df, mf, gf) (by rw [show m_odds ((N, B, k, p), (c, rd, rl, ra), (hs, sl, sa, sc), tv, fl) b a w = (lostV, ((N, B, k, p), (c, rd, rl, ra), (hs, sl, sa, sc), tv, fl)) from (by simp only [m_odds, qb1]; try rfl)]; exact MI.mk hB hN2 hT hR hS) (by rw [show m_odds ((N, B, k, p), (c, rd, rl, ra), (hs, sl, sa, sc), tv, fl) b a w = (lostV, ((N, B, k, p), (c, rd, rl, ra), (hs, sl, sa, sc), tv, fl)) from (by simp only [m_odds, qb1]; try rfl)]) rfl
  · have c5 := bN_1.mp c5
    obtain ⟨b1, hb1, rfl⟩ := pY hN30 c5
    have qb1 := pI hb1 hN30
    show J X (wM mm cy fl tv so sg ce (nI N) (nI B) kf pf vat vrm vrb rk rp lf tf kp (nI c) df mf gf) 8 [(0, .ref (mm 0)), (1, .int (nI b1)), (2, .int a), (3, .int w)] []
    refine j_aload_n C 0 dX8_odds_8 rfl rfl ?_
    refine j_iload_n C 2 dX8_odds_9 rfl rfl ?_
    refine j_callV0 (As := [.int a]) (rest := []) C (c_X8_isPerson mm fl tv so sg ce N B kf pf vat vrm vrb rk rp lf tf kp c df mf gf (a) hN) gX8_odds_X8_isPerson rfl 1 rfl (by decide +kernel) (by decide) 0 rfl rfl (Nat.le_of_ble_eq_true rfl) dX8_odds_10 rfl (fun _ _ => ?_)
    show J X (wM mm cy fl tv so sg ce (nI N) (nI B) kf pf vat vrm vrb rk rp lf tf kp (nI c) df mf gf) 13 [(0, .ref (mm 0)), (1, .int (nI b1)), (2, .int a), (3, .int w)] [.int (nI (bN ((pOf N (a)).isSome = true)))]
    refine j_if_eqN (tgt := 25) C dX8_odds_13 (by decide) (bN_lt _) (fun c13 => ?_) (fun c13 => ?_)
    · have c13 := bN_0.mp c13
      have qa1 := pOf_n c13
      refine j_ldc2 (v := lostV) C mh0 dX8_odds_25 ?_
      exact j_lret C E dX8_odds_28 (fl, tv, so, sg, ce, nI N, nI B, kf, pf, vat, vrm, vrb, rk, rp, lf, tf, kp, nI c, df, mf, gf) (by rw [show m_odds ((N, B, k, p), (c, rd, rl, ra), (hs, sl, sa, sc), tv, fl) (nI b1) a w = (lostV, ((N, B, k, p), (c, rd, rl, ra), (hs, sl, sa, sc), tv, fl)) from (by simp only [m_odds, qb1, qa1]; try rfl)]; exact MI.mk hB hN2 hT hR hS) (by rw [show m_odds ((N, B, k, p), (c, rd, rl, ra), (hs, sl, sa, sc), tv, fl) (nI b1) a w = (lostV, ((N, B, k, p), (c, rd, rl, ra), (hs, sl, sa, sc), tv, fl)) from (by simp only [m_odds, qb1, qa1]; try rfl)]) rfl
    · have c13 := bN_1.mp c13
      obtain ⟨a1, ha1, rfl⟩ := pY hN30 c13
      have qa1 := pI ha1 hN30
      show J X (wM mm cy fl tv so sg ce (nI N) (nI B) kf pf vat vrm vrb rk rp lf tf kp (nI c) df mf gf) 16 [(0, .ref (mm 0)), (1, .int (nI b1)), (2, .int (nI a1)), (3, .int w)] []
      refine j_iload_n C 3 dX8_odds_16 rfl rfl ?_
      refine j_iconst (v := nI 0) C dX8_odds_17 (by decide) ?_
      refine j_iconst (v := nI 1) C dX8_odds_18 (by decide) ?_
      refine j_callP (As := [.int w, .int (nI 0), .int (nI 1)]) (rest := []) C (c_X8_withinP (w) 1 (by omega)) gX8_odds_X8_within rfl 3 rfl (by decide +kernel) (by decide) (Nat.le_of_ble_eq_true rfl) dX8_odds_19 rfl (fun _ _ => ?_)
      show J X (wM mm cy fl tv so sg ce (nI N) (nI B) kf pf vat vrm vrb rk rp lf tf kp (nI c) df mf gf) 22 [(0, .ref (mm 0)), (1, .int (nI b1)), (2, .int (nI a1)), (3, .int w)] [.int (nI (bN ((pOf 2 (w)).isSome = true)))]
      refine j_if_neN (tgt := 29) C dX8_odds_22 (by decide) (bN_lt _) (fun c22 => ?_) (fun c22 => ?_)
      · have c22 := bN_1.mp c22
        obtain ⟨w1, hw1, rfl⟩ := pY (by decide) c22
        have qw1 := pI hw1 (by decide)
        show J X (wM mm cy fl tv so sg ce (nI N) (nI B) kf pf vat vrm vrb rk rp lf tf kp (nI c) df mf gf) 29 [(0, .ref (mm 0)), (1, .int (nI b1)), (2, .int (nI a1)), (3, .int (nI w1))] []
        obtain ⟨T, hTT⟩ : ∃ T, T = 2 ^ N := ⟨_, rfl⟩
        have hT6 : T ≤ 64 := by rw [hTT]; exact pw6 hN
        have hOT : owS N p b1 < 2 ^ N := bset_lt _ _
        have hO : owS N p b1 < 64 := bset_le6 _ hN
        refine j_iconst (v := nI 0) C dX8_odds_29 (by decide) ?_
        refine j_istore (lv' := [(4, .int (nI 0)), (0, .ref (mm 0)), (1, .int (nI b1)), (2, .int (nI a1)), (3, .int (nI w1))]) C dX8_odds_30 (by decide) rfl ?_
        refine j_iconst (v := nI 0) C dX8_odds_32 (by decide) ?_
        refine j_istore (lv' := [(5, .int (nI 0)), (4, .int (nI 0)), (0, .ref (mm 0)), (1, .int (nI b1)), (2, .int (nI a1)), (3, .int (nI w1))]) C dX8_odds_33 (by decide) rfl ?_
        refine J.sub [2, 3, 4, 5, 1, 0] rfl ?_
        have L35 : ∀ (n : Nat) (i : Nat), N - i < n → i ≤ N → J X (wM mm cy fl tv so sg ce (nI N) (nI B) kf pf vat vrm vrb rk rp lf tf kp (nI c) df mf gf) 35 [(0, .ref (mm 0)), (1, .int (nI b1)), (2, .int (nI a1)), (3, .int (nI w1)), (4, .int (nI (bset (fun a => decide (0 < p a b1)) i))), (5, .int (nI i))] [] := by
          intro n
          induction n with
          | zero => intro i hm; exact absurd hm (Nat.not_lt_zero _)
          | succ n ih35 =>
            intro i h35_0 h35_1
            refine j_iload C 5 dX8_odds_35 rfl ?_
            refine j_aload_n C 0 dX8_odds_37 rfl rfl ?_
            refine j_get C mh1 5 mh2 0 rfl rfl (by decide) rfl rfl dX8_odds_38 ?_
            refine j_icmp_geN (tgt := 77) C dX8_odds_41 (by decide) (by omega) (by omega) (fun c41 => ?_) (fun c41 => ?_)
            · refine j_aload_n C 0 dX8_odds_77 rfl rfl ?_
              refine j_callV0 (As := []) (rest := []) C (c_X8_keep mm fl tv so sg ce N B kf pf vat vrm vrb rk rp lf tf kp c df mf gf ) gX8_odds_X8_keep rfl 0 rfl (by decide +kernel) (by decide) 0 rfl rfl (Nat.le_of_ble_eq_true rfl) dX8_odds_78 rfl (fun _ _ => ?_)
              show J X (wM mm cy fl tv so sg ce (nI N) (nI B) kf pf vat vrm vrb rk rp lf tf (fil pf kp 36) (nI c) df mf gf) 81 [(0, .ref (mm 0)), (1, .int (nI b1)), (2, .int (nI a1)), (3, .int (nI w1)), (4, .int (nI (bset (fun a => decide (0 < p a b1)) i))), (5, .int (nI i))] []
              refine j_iconst (v := nI 0) C dX8_odds_81 (by decide) ?_
              refine j_istore (lv' := [(5, .int (nI 0)), (0, .ref (mm 0)), (1, .int (nI b1)), (2, .int (nI a1)), (3, .int (nI w1)), (4, .int (nI (bset (fun a => decide (0 < p a b1)) i)))]) C dX8_odds_82 (by decide) rfl ?_
              refine j_iconst (v := nI 0) C dX8_odds_84 (by decide) ?_
              refine j_istore (lv' := [(6, .int (nI 0)), (5, .int (nI 0)), (0, .ref (mm 0)), (1, .int (nI b1)), (2, .int (nI a1)), (3, .int (nI w1)), (4, .int (nI (bset (fun a => decide (0 < p a b1)) i)))]) C dX8_odds_85 (by decide) rfl ?_
              refine j_iconst (v := nI 0) C dX8_odds_87 (by decide) ?_
              refine j_istore (lv' := [(7, .int (nI 0)), (6, .int (nI 0)), (5, .int (nI 0)), (0, .ref (mm 0)), (1, .int (nI b1)), (2, .int (nI a1)), (3, .int (nI w1)), (4, .int (nI (bset (fun a => decide (0 < p a b1)) i)))]) C dX8_odds_88 (by decide) rfl ?_
              refine J.sub [3, 4, 5, 6, 7, 2, 1, 0] rfl ?_
              have L90 : ∀ (n : Nat) (x : Nat) (pf1 : Nat → Int32), T - x < n → x ≤ T → (∀ j, j < 36 → j % 6 ≠ b1 → pf1 j = pf j) → J X (wM mm cy fl tv so sg ce (nI N) (nI B) kf pf1 vat vrm vrb rk rp lf tf (fil pf kp 36) (nI c) df mf gf) 90 [(0, .ref (mm 0)), (1, .int (nI b1)), (2, .int (nI a1)), (3, .int (nI w1)), (4, .int (nI (owS N p b1))), (5, .int (nI (cntB (oYes N (owS N p b1) k p b1 a1) x))), (6, .int (nI (cntB (oIn (owS N p b1)) x))), (7, .int (nI x))] [] := by
                intro n
                induction n with
                | zero => intro x pf1 hm; exact absurd hm (Nat.not_lt_zero _)
                | succ n ih90 =>
                  intro x pf1 h90_0 h90_1 h90_2
                  refine j_iload C 7 dX8_odds_90 rfl ?_
                  refine j_iconst (v := nI 1) C dX8_odds_92 (by decide) ?_
                  refine j_aload_n C 0 dX8_odds_93 rfl rfl ?_
                  refine j_get C mh1 5 mh2 0 rfl rfl (by decide) rfl rfl dX8_odds_94 ?_
                  refine j_ishl (v := nI T) C dX8_odds_97 (by rw [hTT]; exact sh_l (by omega)) ?_
                  refine j_icmp_geN (tgt := 194) C dX8_odds_98 (by decide) (by omega) (by omega) (fun c98 => ?_) (fun c98 => ?_)
                  · have hxT : x = 2 ^ N := by omega
                    have eU : cntB (oYes N (owS N p b1) k p b1 a1) 64 = cntB (oYes N (owS N p b1) k p b1 a1) x := by rw [hxT]; exact cnt_ye hN hOT
                    have eV : cntB (oIn (owS N p b1)) 64 = cntB (oIn (owS N p b1)) x := by rw [hxT]; exact cnt_in hN hOT
                    have hV0 := cnt_in0 hO
                    rw [eV] at hV0
                    have hU := cntB_le (P := oYes N (owS N p b1) k p b1 a1) x
                    have hV := cntB_le (P := oIn (owS N p b1)) x
                    refine j_aload_n C 0 dX8_odds_194 rfl rfl ?_
                    refine j_callV0 (As := []) (rest := []) C (c_X8_restore mm fl tv so sg ce N B kf pf1 vat vrm vrb rk rp lf tf (fil pf kp 36) c df mf gf ) gX8_odds_X8_restore rfl 0 rfl (by decide +kernel) (by decide) 0 rfl rfl (Nat.le_of_ble_eq_true rfl) dX8_odds_195 rfl (fun _ _ => ?_)
                    show J X (wM mm cy fl tv so sg ce (nI N) (nI B) kf (fil (fil pf kp 36) pf1 36) vat vrm vrb rk rp lf tf (fil pf kp 36) (nI c) df mf gf) 198 [(0, .ref (mm 0)), (1, .int (nI b1)), (2, .int (nI a1)), (3, .int (nI w1)), (4, .int (nI (owS N p b1))), (5, .int (nI (cntB (oYes N (owS N p b1) k p b1 a1) x))), (6, .int (nI (cntB (oIn (owS N p b1)) x))), (7, .int (nI x))] []
                    refine j_iload C 5 dX8_odds_198 rfl ?_
                    refine j_i2l (v := lN (cntB (oYes N (owS N p b1) k p b1 a1) x)) C dX8_odds_200 (nI_l (by omega)) ?_
                    refine j_iload C 6 dX8_odds_201 rfl ?_
                    refine j_i2l (v := lN (cntB (oIn (owS N p b1)) x)) C dX8_odds_203 (nI_l (by omega)) ?_
                    refine j_iload_n C 3 dX8_odds_204 rfl rfl ?_
                    refine j_callP (As := [.long (lN (cntB (oYes N (owS N p b1) k p b1 a1) x)), .long (lN (cntB (oIn (owS N p b1)) x)), .int (nI w1)]) (rest := []) C (c_X8_inLeastTerms (cntB (oYes N (owS N p b1) k p b1 a1) x) (cntB (oIn (owS N p b1)) x) w1 hV0 (by omega) (by omega) hw1) gX8_odds_X8_inLeastTerms rfl 3 rfl (by decide +kernel) (by decide) (Nat.le_of_ble_eq_true rfl) dX8_odds_205 rfl (fun _ _ => ?_)
                    show J X (wM mm cy fl tv so sg ce (nI N) (nI B) kf (fil (fil pf kp 36) pf1 36) vat vrm vrb rk rp lf tf (fil pf kp 36) (nI c) df mf gf) 208 [(0, .ref (mm 0)), (1, .int (nI b1)), (2, .int (nI a1)), (3, .int (nI w1)), (4, .int (nI (owS N p b1))), (5, .int (nI (cntB (oYes N (owS N p b1) k p b1 a1) x))), (6, .int (nI (cntB (oIn (owS N p b1)) x))), (7, .int (nI x))] [.long (lN (if w1 = 0 then cntB (oYes N (owS N p b1) k p b1 a1) x / Nat.gcd (cntB (oYes N (owS N p b1) k p b1 a1) x) (cntB (oIn (owS N p b1)) x) else cntB (oIn (owS N p b1)) x / Nat.gcd (cntB (oYes N (owS N p b1) k p b1 a1) x) (cntB (oIn (owS N p b1)) x)))]
                    exact j_lret C E dX8_odds_208 (fl, tv, so, sg, ce, nI N, nI B, kf, fil (fil pf kp 36) pf1 36, vat, vrm, vrb, rk, rp, lf, tf, fil pf kp 36, nI c, df, mf, gf) (by rw [show m_odds ((N, B, k, p), (c, rd, rl, ra), (hs, sl, sa, sc), tv, fl) (nI b1) (nI a1) (nI w1) = (lN (if w1 = 0 then cntB (oYes N (owS N p b1) k p b1 a1) x / Nat.gcd (cntB (oYes N (owS N p b1) k p b1 a1) x) (cntB (oIn (owS N p b1)) x) else cntB (oIn (owS N p b1)) x / Nat.gcd (cntB (oYes N (owS N p b1) k p b1 a1) x) (cntB (oIn (owS N p b1)) x)), ((N, B, k, p), (c, rd, rl, ra), (hs, sl, sa, sc), tv, fl)) from (by simp only [m_odds, qb1, qa1, qw1, eU, eV]; by_cases z : w1 = 0; (rw [if_pos z, if_pos z]); (rw [if_neg z, if_neg z]))]; exact MI.mk hB hN2 hT.rs hR hS) (by rw [show m_odds ((N, B, k, p), (c, rd, rl, ra), (hs, sl, sa, sc), tv, fl) (nI b1) (nI a1) (nI w1) = (lN (if w1 = 0 then cntB (oYes N (owS N p b1) k p b1 a1) x / Nat.gcd (cntB (oYes N (owS N p b1) k p b1 a1) x) (cntB (oIn (owS N p b1)) x) else cntB (oIn (owS N p b1)) x / Nat.gcd (cntB (oYes N (owS N p b1) k p b1 a1) x) (cntB (oIn (owS N p b1)) x)), ((N, B, k, p), (c, rd, rl, ra), (hs, sl, sa, sc), tv, fl)) from (by simp only [m_odds, qb1, qa1, qw1, eU, eV]; by_cases z : w1 = 0; (rw [if_pos z, if_pos z]); (rw [if_neg z, if_neg z]))]) rfl
                  · refine j_iload C 7 dX8_odds_101 rfl ?_
                    refine j_iload C 4 dX8_odds_103 rfl ?_
                    refine j_iconst (v := (-1)) C dX8_odds_105 (by decide) ?_
                    refine j_ixor (v := nI (owS N p b1) ^^^ (-1)) C dX8_odds_106 rfl ?_
                    refine j_iand (v := nI x &&& (nI (owS N p b1) ^^^ (-1))) C dX8_odds_107 rfl ?_
                    refine j_if_ne (tgt := 188) C dX8_odds_108 (by decide) (fun c108 => ?_) (fun c108 => ?_)
                    · have hin : oIn (owS N p b1) x = false := Bool.eq_false_iff.mpr (fun z => c108 ((oIn_i x (by omega) _ hO).mpr z))
                      refine j_iinc (v := nI (x + 1)) (lv' := [(7, .int (nI (x + 1))), (0, .ref (mm 0)), (1, .int (nI b1)), (2, .int (nI a1)), (3, .int (nI w1)), (4, .int (nI (owS N p b1))), (5, .int (nI (cntB (oYes N (owS N p b1) k p b1 a1) x))), (6, .int (nI (cntB (oIn (owS N p b1)) x)))]) C 7 dX8_odds_188 rfl (nI_inc x) (by decide) rfl ?_
                      refine j_goto (tgt := 90) C dX8_odds_191 (by decide) ?_
                      refine J.sub [1, 2, 3, 4, 5, 6, 7, 0] rfl ?_
                      have e := ih90 (x + 1) pf1 (by omega) (by omega) h90_2
                      first
                        | (rw [cntB_n (P := oYes N (owS N p b1) k p b1 a1) (n := x) (by show (oIn (owS N p b1) x && _) = false; rw [hin]; rfl), cntB_n (P := oIn (owS N p b1)) (n := x) hin] at e; exact e)
                        | (rw [cntB_y (P := oIn (owS N p b1)) (n := x) hin] at e; exact e)
                    · have hin : oIn (owS N p b1) x = true := (oIn_i x (by omega) _ hO).mp c108
                      refine j_iinc (v := nI ((cntB (oIn (owS N p b1)) x) + 1)) (lv' := [(6, .int (nI ((cntB (oIn (owS N p b1)) x) + 1))), (0, .ref (mm 0)), (1, .int (nI b1)), (2, .int (nI a1)), (3, .int (nI w1)), (4, .int (nI (owS N p b1))), (5, .int (nI (cntB (oYes N (owS N p b1) k p b1 a1) x))), (7, .int (nI x))]) C 6 dX8_odds_111 rfl (nI_inc (cntB (oIn (owS N p b1)) x)) (by decide) rfl ?_
                      refine j_iconst (v := nI 0) C dX8_odds_114 (by decide) ?_
                      refine j_istore (lv' := [(8, .int (nI 0)), (6, .int (nI ((cntB (oIn (owS N p b1)) x) + 1))), (0, .ref (mm 0)), (1, .int (nI b1)), (2, .int (nI a1)), (3, .int (nI w1)), (4, .int (nI (owS N p b1))), (5, .int (nI (cntB (oYes N (owS N p b1) k p b1 a1) x))), (7, .int (nI x))]) C dX8_odds_115 (by decide) rfl ?_
                      refine J.sub [2, 3, 4, 5, 6, 7, 1, 8, 0] rfl ?_
                      have L117 : ∀ (n : Nat) (i : Nat) (pf2 : Nat → Int32), N - i < n → i ≤ N → (∀ a, a < i → pf2 (6 * a + b1) = if x / 2 ^ a % 2 = 1 then nI 0 else nI (p a b1)) → (∀ j, j < 36 → j % 6 ≠ b1 → pf2 j = pf j) → J X (wM mm cy fl tv so sg ce (nI N) (nI B) kf pf2 vat vrm vrb rk rp lf tf (fil pf kp 36) (nI c) df mf gf) 117 [(0, .ref (mm 0)), (1, .int (nI b1)), (2, .int (nI a1)), (3, .int (nI w1)), (4, .int (nI (owS N p b1))), (5, .int (nI (cntB (oYes N (owS N p b1) k p b1 a1) x))), (6, .int (nI (cntB (oIn (owS N p b1)) x + 1))), (7, .int (nI x)), (8, .int (nI i))] [] := by
                        intro n
                        induction n with
                        | zero => intro i pf2 hm; exact absurd hm (Nat.not_lt_zero _)
                        | succ n ih117 =>
                          intro i pf2 h117_0 h117_1 h117_2 h117_3
                          refine j_iload C 8 dX8_odds_117 rfl ?_
                          refine j_aload_n C 0 dX8_odds_119 rfl rfl ?_
                          refine j_get C mh1 5 mh2 0 rfl rfl (by decide) rfl rfl dX8_odds_120 ?_
                          refine j_icmp_geN (tgt := 169) C dX8_odds_123 (by decide) (by omega) (by omega) (fun c123 => ?_) (fun c123 => ?_)
                          · have hag := ag_pX (x := x) hT hb1 (fun a ha => h117_2 a (by omega)) h117_3
                            refine j_iload C 5 dX8_odds_169 rfl ?_
                            refine j_aload_n C 0 dX8_odds_171 rfl rfl ?_
                            refine j_iload_n C 1 dX8_odds_172 rfl rfl ?_
                            refine j_callV0 (As := [.int (nI b1)]) (rest := [.int (nI (cntB (oYes N (owS N p b1) k p b1 a1) x))]) C (c_X8_lighterOf mm fl tv so sg ce N B kf pf2 vat vrm vrb rk rp lf tf (fil pf kp 36) c df mf gf k (pX p b1 x) hag b1 (by omega)) gX8_odds_X8_lighterOf rfl 1 rfl (by decide +kernel) (by decide) 0 rfl rfl (Nat.le_of_ble_eq_true rfl) dX8_odds_173 rfl (fun _ _ => ?_)
                            show J X (wM mm cy fl tv so sg ce (nI N) (nI B) kf pf2 vat vrm vrb rk rp lf tf (fil pf kp 36) (nI c) df mf gf) 176 [(0, .ref (mm 0)), (1, .int (nI b1)), (2, .int (nI a1)), (3, .int (nI w1)), (4, .int (nI (owS N p b1))), (5, .int (nI (cntB (oYes N (owS N p b1) k p b1 a1) x))), (6, .int (nI (cntB (oIn (owS N p b1)) x + 1))), (7, .int (nI x)), (8, .int (nI i))] [.int (lI (lg N k (pX p b1 x) b1)), .int (nI (cntB (oYes N (owS N p b1) k p b1 a1) x))]
                            refine j_iload_n C 2 dX8_odds_176 rfl rfl ?_
                            refine j_icmp_ne (tgt := 184) C dX8_odds_177 (by decide) (fun c177 => ?_) (fun c177 => ?_)
                            · have hye : oYes N (owS N p b1) k p b1 a1 x = false := by show (oIn (owS N p b1) x && _) = false; rw [hin]; exact beq_eq_false_iff_ne.mpr (fun z => c177 (by rw [lg_pX, z]; rfl))
                              refine j_iconst (v := nI 0) C dX8_odds_184 (by decide) ?_
                              refine j_iadd (v := nI (cntB (oYes N (owS N p b1) k p b1 a1) (x + 1))) C dX8_odds_185 (by first | (rw [cntB_n (P := oYes N (owS N p b1) k p b1 a1) (n := x) hye]; exact nI_add _ 0) | (rw [cntB_y (P := oYes N (owS N p b1) k p b1 a1) (n := x) hye]; exact nI_add _ 1)) ?_
                              refine j_istore (lv' := [(5, .int (nI (cntB (oYes N (owS N p b1) k p b1 a1) (x + 1)))), (0, .ref (mm 0)), (1, .int (nI b1)), (2, .int (nI a1)), (3, .int (nI w1)), (4, .int (nI (owS N p b1))), (6, .int (nI (cntB (oIn (owS N p b1)) x + 1))), (7, .int (nI x)), (8, .int (nI i))]) C dX8_odds_186 (by decide) rfl ?_
                              refine j_iinc (v := nI (x + 1)) (lv' := [(7, .int (nI (x + 1))), (5, .int (nI (cntB (oYes N (owS N p b1) k p b1 a1) (x + 1)))), (0, .ref (mm 0)), (1, .int (nI b1)), (2, .int (nI a1)), (3, .int (nI w1)), (4, .int (nI (owS N p b1))), (6, .int (nI (cntB (oIn (owS N p b1)) x + 1))), (8, .int (nI i))]) C 7 dX8_odds_188 rfl (nI_inc x) (by decide) rfl ?_
                              refine j_goto (tgt := 90) C dX8_odds_191 (by decide) ?_
                              refine J.sub [2, 3, 4, 5, 6, 1, 7, 0] rfl ?_
                              have e := ih90 (x + 1) pf2 (by omega) (by omega) h117_3
                              first
                                | (rw [cntB_n (P := oYes N (owS N p b1) k p b1 a1) (n := x) (by show (oIn (owS N p b1) x && _) = false; rw [hin]; rfl), cntB_n (P := oIn (owS N p b1)) (n := x) hin] at e; exact e)
                                | (rw [cntB_y (P := oIn (owS N p b1)) (n := x) hin] at e; exact e)
                            · have hye : oYes N (owS N p b1) k p b1 a1 x = true := by show (oIn (owS N p b1) x && _) = true; rw [hin, ← lg_pX, (lI_eq (lg_31 hN) (by omega)).mp c177]; exact beq_self_eq_true _
                              refine j_iconst (v := nI 1) C dX8_odds_180 (by decide) ?_
                              refine j_goto (tgt := 185) C dX8_odds_181 (by decide) ?_
                              refine j_iadd (v := nI (cntB (oYes N (owS N p b1) k p b1 a1) (x + 1))) C dX8_odds_185 (by first | (rw [cntB_n (P := oYes N (owS N p b1) k p b1 a1) (n := x) hye]; exact nI_add _ 0) | (rw [cntB_y (P := oYes N (owS N p b1) k p b1 a1) (n := x) hye]; exact nI_add _ 1)) ?_
                              refine j_istore (lv' := [(5, .int (nI (cntB (oYes N (owS N p b1) k p b1 a1) (x + 1)))), (0, .ref (mm 0)), (1, .int (nI b1)), (2, .int (nI a1)), (3, .int (nI w1)), (4, .int (nI (owS N p b1))), (6, .int (nI (cntB (oIn (owS N p b1)) x + 1))), (7, .int (nI x)), (8, .int (nI i))]) C dX8_odds_186 (by decide) rfl ?_
                              refine j_iinc (v := nI (x + 1)) (lv' := [(7, .int (nI (x + 1))), (5, .int (nI (cntB (oYes N (owS N p b1) k p b1 a1) (x + 1)))), (0, .ref (mm 0)), (1, .int (nI b1)), (2, .int (nI a1)), (3, .int (nI w1)), (4, .int (nI (owS N p b1))), (6, .int (nI (cntB (oIn (owS N p b1)) x + 1))), (8, .int (nI i))]) C 7 dX8_odds_188 rfl (nI_inc x) (by decide) rfl ?_
                              refine j_goto (tgt := 90) C dX8_odds_191 (by decide) ?_
                              refine J.sub [2, 3, 4, 5, 6, 1, 7, 0] rfl ?_
                              have e := ih90 (x + 1) pf2 (by omega) (by omega) h117_3
                              first
                                | (rw [cntB_n (P := oYes N (owS N p b1) k p b1 a1) (n := x) (by show (oIn (owS N p b1) x && _) = false; rw [hin]; rfl), cntB_n (P := oIn (owS N p b1)) (n := x) hin] at e; exact e)
                                | (rw [cntB_y (P := oIn (owS N p b1)) (n := x) hin] at e; exact e)
                          · refine j_aload_n C 0 dX8_odds_126 rfl rfl ?_
                            refine j_get C mh1 8 mh3 0 rfl rfl (by decide) rfl rfl dX8_odds_127 ?_
                            refine j_iload C 8 dX8_odds_130 rfl ?_
                            refine j_iload_n C 1 dX8_odds_132 rfl rfl ?_
                            refine j_callP (As := [.int (nI i), .int (nI b1)]) (rest := [.ref (mm 5)]) C (c_X8_spot i b1) gX8_odds_X8_spot rfl 2 rfl (by decide +kernel) (by decide) (Nat.le_of_ble_eq_true rfl) dX8_odds_133 rfl (fun _ _ => ?_)
                            show J X (wM mm cy fl tv so sg ce (nI N) (nI B) kf pf2 vat vrm vrb rk rp lf tf (fil pf kp 36) (nI c) df mf gf) 136 [(0, .ref (mm 0)), (1, .int (nI b1)), (2, .int (nI a1)), (3, .int (nI w1)), (4, .int (nI (owS N p b1))), (5, .int (nI (cntB (oYes N (owS N p b1) k p b1 a1) x))), (6, .int (nI (cntB (oIn (owS N p b1)) x + 1))), (7, .int (nI x)), (8, .int (nI i))] [.int (nI (6 * i + b1)), .ref (mm 5)]
                            refine j_iload C 7 dX8_odds_136 rfl ?_
                            refine j_iload C 8 dX8_odds_138 rfl ?_
                            refine j_ishr (v := nI (x / 2 ^ i)) C dX8_odds_140 (sh_r (by omega) (by omega)) ?_
                            refine j_iconst (v := nI 1) C dX8_odds_141 (by decide) ?_
                            refine j_iand (v := nI ((x / 2 ^ i) % 2)) C dX8_odds_142 (an_1 _) ?_
                            refine j_iconst (v := nI 1) C dX8_odds_143 (by decide) ?_
                            refine j_icmp_neN (tgt := 151) C dX8_odds_144 (by decide) (by omega) (by omega) (fun c144 => ?_) (fun c144 => ?_)
                            · refine j_aload_n C 0 dX8_odds_151 rfl rfl ?_
                              refine j_get C mh1 16 mh4 0 rfl rfl (by decide) rfl rfl dX8_odds_152 ?_
                              refine j_iload C 8 dX8_odds_155 rfl ?_
                              refine j_iload_n C 1 dX8_odds_157 rfl rfl ?_
                              refine j_callP (As := [.int (nI i), .int (nI b1)]) (rest := [.ref (mm 10), .int (nI (6 * i + b1)), .ref (mm 5)]) C (c_X8_spot i b1) gX8_odds_X8_spot rfl 2 rfl (by decide +kernel) (by decide) (Nat.le_of_ble_eq_true rfl) dX8_odds_158 rfl (fun _ _ => ?_)
                              show J X (wM mm cy fl tv so sg ce (nI N) (nI B) kf pf2 vat vrm vrb rk rp lf tf (fil pf kp 36) (nI c) df mf gf) 161 [(0, .ref (mm 0)), (1, .int (nI b1)), (2, .int (nI a1)), (3, .int (nI w1)), (4, .int (nI (owS N p b1))), (5, .int (nI (cntB (oYes N (owS N p b1) k p b1 a1) x))), (6, .int (nI (cntB (oIn (owS N p b1)) x + 1))), (7, .int (nI x)), (8, .int (nI i))] [.int (nI (6 * i + b1)), .ref (mm 10), .int (nI (6 * i + b1)), .ref (mm 5)]
                              have := hT.p9 (a := i) (b := b1) (by omega) hb1
                              refine j_iald (v := nI (p i b1)) C 10 rfl (by omega) (by decide) ((fil_in (by omega)).trans (hT.pp (a := i) (by omega) hb1)) dX8_odds_161 ?_
                              refine j_iast (ws' := wM mm cy fl tv so sg ce (nI N) (nI B) kf (upd pf2 (6 * i + b1) (nI (p i b1))) vat vrm vrb rk rp lf tf (fil pf kp 36) (nI c) df mf gf) C 5 rfl (by omega) (by decide) rfl dX8_odds_162 ?_
                              refine j_iinc (v := nI (i + 1)) (lv' := [(8, .int (nI (i + 1))), (0, .ref (mm 0)), (1, .int (nI b1)), (2, .int (nI a1)), (3, .int (nI w1)), (4, .int (nI (owS N p b1))), (5, .int (nI (cntB (oYes N (owS N p b1) k p b1 a1) x))), (6, .int (nI (cntB (oIn (owS N p b1)) x + 1))), (7, .int (nI x))]) C 8 dX8_odds_163 rfl (nI_inc i) (by decide) rfl ?_
                              refine j_goto (tgt := 117) C dX8_odds_166 (by decide) ?_
                              refine J.sub [1, 2, 3, 4, 5, 6, 7, 8, 0] rfl ?_
                              have e := ih117 (i + 1) (upd pf2 (6 * i + b1) (nI (p i b1))) (by omega) (by omega) (fun a ha => if z : a = i then (by rw [z, pk_us]; first | exact (if_pos c144).symm | exact (if_neg c144).symm) else (by rw [pk_un (by omega)]; exact h117_2 a (by omega))) (fun j hj z => by rw [pk_un (by omega)]; exact h117_3 j hj z)
                              exact e
                            · refine j_iconst (v := nI 0) C dX8_odds_147 (by decide) ?_
                              refine j_goto (tgt := 162) C dX8_odds_148 (by decide) ?_
                              refine j_iast (ws' := wM mm cy fl tv so sg ce (nI N) (nI B) kf (upd pf2 (6 * i + b1) (nI 0)) vat vrm vrb rk rp lf tf (fil pf kp 36) (nI c) df mf gf) C 5 rfl (by omega) (by decide) rfl dX8_odds_162 ?_
                              refine j_iinc (v := nI (i + 1)) (lv' := [(8, .int (nI (i + 1))), (0, .ref (mm 0)), (1, .int (nI b1)), (2, .int (nI a1)), (3, .int (nI w1)), (4, .int (nI (owS N p b1))), (5, .int (nI (cntB (oYes N (owS N p b1) k p b1 a1) x))), (6, .int (nI (cntB (oIn (owS N p b1)) x + 1))), (7, .int (nI x))]) C 8 dX8_odds_163 rfl (nI_inc i) (by decide) rfl ?_
                              refine j_goto (tgt := 117) C dX8_odds_166 (by decide) ?_
                              refine J.sub [1, 2, 3, 4, 5, 6, 7, 8, 0] rfl ?_
                              have e := ih117 (i + 1) (upd pf2 (6 * i + b1) (nI 0)) (by omega) (by omega) (fun a ha => if z : a = i then (by rw [z, pk_us]; first | exact (if_pos c144).symm | exact (if_neg c144).symm) else (by rw [pk_un (by omega)]; exact h117_2 a (by omega))) (fun j hj z => by rw [pk_un (by omega)]; exact h117_3 j hj z)
                              exact e
                      have e := L117 (N + 1) 0 pf1 (by omega) (by omega) (fun a h => absurd h (Nat.not_lt_zero a)) h90_2
                      exact e
              have e := L90 (T + 1) 0 pf (by omega) (by omega) (fun _ _ _ => rfl)
              rw [show i = N by omega]
              exact e
            · refine j_iload C 4 dX8_odds_44 rfl ?_
              refine j_aload_n C 0 dX8_odds_46 rfl rfl ?_
              refine j_get C mh1 8 mh3 0 rfl rfl (by decide) rfl rfl dX8_odds_47 ?_
              refine j_iload C 5 dX8_odds_50 rfl ?_
              refine j_iload_n C 1 dX8_odds_52 rfl rfl ?_
              refine j_callP (As := [.int (nI i), .int (nI b1)]) (rest := [.ref (mm 5), .int (nI (bset (fun a => decide (0 < p a b1)) i))]) C (c_X8_spot i b1) gX8_odds_X8_spot rfl 2 rfl (by decide +kernel) (by decide) (Nat.le_of_ble_eq_true rfl) dX8_odds_53 rfl (fun _ _ => ?_)
              show J X (wM mm cy fl tv so sg ce (nI N) (nI B) kf pf vat vrm vrb rk rp lf tf kp (nI c) df mf gf) 56 [(0, .ref (mm 0)), (1, .int (nI b1)), (2, .int (nI a1)), (3, .int (nI w1)), (4, .int (nI (bset (fun a => decide (0 < p a b1)) i))), (5, .int (nI i))] [.int (nI (6 * i + b1)), .ref (mm 5), .int (nI (bset (fun a => decide (0 < p a b1)) i))]
              have := hT.p9 (a := i) (b := b1) (by omega) (by omega)
              refine j_iald (v := nI (p i b1)) C 5 rfl (by omega) (by decide) (hT.pp (a := i) (b := b1) (by omega) (by omega)) dX8_odds_56 ?_
              refine j_if_leN (tgt := 67) C dX8_odds_57 (by decide) (by omega) (fun c57 => ?_) (fun c57 => ?_)
              · refine j_iconst (v := nI 0) C dX8_odds_67 (by decide) ?_
                refine j_ior (v := nI (bset (fun a => decide (0 < p a b1)) (i + 1))) C dX8_odds_68 (by first | exact bs_n (P := (fun a => decide (0 < p a b1))) (n := i) (decide_eq_false (by omega)) | exact bs_y (P := (fun a => decide (0 < p a b1))) (n := i) (decide_eq_true (by omega))) ?_
                refine j_istore (lv' := [(4, .int (nI (bset (fun a => decide (0 < p a b1)) (i + 1)))), (0, .ref (mm 0)), (1, .int (nI b1)), (2, .int (nI a1)), (3, .int (nI w1)), (5, .int (nI i))]) C dX8_odds_69 (by decide) rfl ?_
                refine j_iinc (v := nI (i + 1)) (lv' := [(5, .int (nI (i + 1))), (4, .int (nI (bset (fun a => decide (0 < p a b1)) (i + 1)))), (0, .ref (mm 0)), (1, .int (nI b1)), (2, .int (nI a1)), (3, .int (nI w1))]) C 5 dX8_odds_71 rfl (nI_inc i) (by decide) rfl ?_
                refine j_goto (tgt := 35) C dX8_odds_74 (by decide) ?_
                refine J.sub [2, 3, 4, 5, 1, 0] rfl ?_
                have e := ih35 (i + 1) (by omega) (by omega)
                exact e
              · refine j_iconst (v := nI 1) C dX8_odds_60 (by decide) ?_
                refine j_iload C 5 dX8_odds_61 rfl ?_
                refine j_ishl (v := nI (2 ^ i)) C dX8_odds_63 (sh_l (by omega)) ?_
                refine j_goto (tgt := 68) C dX8_odds_64 (by decide) ?_
                refine j_ior (v := nI (bset (fun a => decide (0 < p a b1)) (i + 1))) C dX8_odds_68 (by first | exact bs_n (P := (fun a => decide (0 < p a b1))) (n := i) (decide_eq_false (by omega)) | exact bs_y (P := (fun a => decide (0 < p a b1))) (n := i) (decide_eq_true (by omega))) ?_
                refine j_istore (lv' := [(4, .int (nI (bset (fun a => decide (0 < p a b1)) (i + 1)))), (0, .ref (mm 0)), (1, .int (nI b1)), (2, .int (nI a1)), (3, .int (nI w1)), (5, .int (nI i))]) C dX8_odds_69 (by decide) rfl ?_
                refine j_iinc (v := nI (i + 1)) (lv' := [(5, .int (nI (i + 1))), (4, .int (nI (bset (fun a => decide (0 < p a b1)) (i + 1)))), (0, .ref (mm 0)), (1, .int (nI b1)), (2, .int (nI a1)), (3, .int (nI w1))]) C 5 dX8_odds_71 rfl (nI_inc i) (by decide) rfl ?_
                refine j_goto (tgt := 35) C dX8_odds_74 (by decide) ?_
                refine J.sub [2, 3, 4, 5, 1, 0] rfl ?_
                have e := ih35 (i + 1) (by omega) (by omega)
                exact e
        have e := L35 (N + 1) 0 (by omega) (by omega)
        exact e
      · have c22 := bN_0.mp c22
        have qw1 := pOf_n c22
        refine j_ldc2 (v := lostV) C mh0 dX8_odds_25 ?_
        exact j_lret C E dX8_odds_28 (fl, tv, so, sg, ce, nI N, nI B, kf, pf, vat, vrm, vrb, rk, rp, lf, tf, kp, nI c, df, mf, gf) (by rw [show m_odds ((N, B, k, p), (c, rd, rl, ra), (hs, sl, sa, sc), tv, fl) (nI b1) (nI a1) w = (lostV, ((N, B, k, p), (c, rd, rl, ra), (hs, sl, sa, sc), tv, fl)) from (by simp only [m_odds, qb1, qa1, qw1]; try rfl)]; exact MI.mk hB hN2 hT hR hS) (by rw [show m_odds ((N, B, k, p), (c, rd, rl, ra), (hs, sl, sa, sc), tv, fl) (nI b1) (nI a1) w = (lostV, ((N, B, k, p), (c, rd, rl, ra), (hs, sl, sa, sc), tv, fl)) from (by simp only [m_odds, qb1, qa1, qw1]; try rfl)]) rfl
