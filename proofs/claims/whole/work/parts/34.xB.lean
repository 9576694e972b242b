set_option maxHeartbeats 4000000 in
set_option maxRecDepth 20000 in
theorem c_J6_bitCount_0f7a4 {l : Launch} {D : va_G} {cy : Nat → ClassId} (s : Nat) (hs : s < 64) : Ct l yJ6_bitCount_0f7a4 wsJ6_bitCount_0f7a4 ({ frames := 0, cells := 0, slots := 0, locals := 0 }) D cy [.int (nI s)] (([] : va_W) ) (fun _ : Unit => True) (fun _ => some (.int (nI (cntB (bitP s) 6)))) (fun _ => []) := by
  refine Ct.of (cc := cJ6_bitCount_0f7a4) (nL := 1) (ret := (some .int)) rfl (by decide) ⟨rfl, rfl⟩ (Nat.le_of_ble_eq_true rfl) ?_
  intro X C E
  have C : Cx X l D cy cJ6_bitCount_0f7a4 1 wsJ6_bitCount_0f7a4 RJ6 ({ frames := 0, cells := 0, slots := 0, locals := 0 }) := C
  have mh0 : Cond.constant RJ6 265 1431655765 ∈ wsJ6_bitCount_0f7a4 := by decide +kernel
  have mh1 : Cond.constant RJ6 266 858993459 ∈ wsJ6_bitCount_0f7a4 := by decide +kernel
  have mh2 : Cond.constant RJ6 267 252645135 ∈ wsJ6_bitCount_0f7a4 := by decide +kernel
  show J X (([] : va_W) ) 0 [(0, .int (nI s))] []
  refine j_iload_n C 0 dJ6_bitCount_0f7a4_0 rfl rfl ?_
  refine j_iload_n C 0 dJ6_bitCount_0f7a4_1 rfl rfl ?_
  refine j_iconst (v := nI 1) C dJ6_bitCount_0f7a4_2 (by decide) ?_
  refine j_iushr (v := us (nI s) (nI 1)) C dJ6_bitCount_0f7a4_3 rfl ?_
  refine j_ldcw (v := 1431655765) C mh0 dJ6_bitCount_0f7a4_4 ?_
  refine j_iand (v := (us (nI s) (nI 1)) &&& 1431655765) C dJ6_bitCount_0f7a4_7 rfl ?_
  refine j_isub (v := bc1 (nI s)) C dJ6_bitCount_0f7a4_8 rfl ?_
  refine j_istore_n (lv' := [(0, .int (bc1 (nI s)))]) C dJ6_bitCount_0f7a4_9 rfl (by decide) rfl ?_
  refine j_iload_n C 0 dJ6_bitCount_0f7a4_10 rfl rfl ?_
  refine j_ldcw (v := 858993459) C mh1 dJ6_bitCount_0f7a4_11 ?_
  refine j_iand (v := (bc1 (nI s)) &&& 858993459) C dJ6_bitCount_0f7a4_14 rfl ?_
  refine j_iload_n C 0 dJ6_bitCount_0f7a4_15 rfl rfl ?_
  refine j_iconst (v := nI 2) C dJ6_bitCount_0f7a4_16 (by decide) ?_
  refine j_iushr (v := us (bc1 (nI s)) (nI 2)) C dJ6_bitCount_0f7a4_17 rfl ?_
  refine j_ldcw (v := 858993459) C mh1 dJ6_bitCount_0f7a4_18 ?_
  refine j_iand (v := (us (bc1 (nI s)) (nI 2)) &&& 858993459) C dJ6_bitCount_0f7a4_21 rfl ?_
  refine j_iadd (v := bc2 (bc1 (nI s))) C dJ6_bitCount_0f7a4_22 rfl ?_
  refine j_istore_n (lv' := [(0, .int (bc2 (bc1 (nI s))))]) C dJ6_bitCount_0f7a4_23 rfl (by decide) rfl ?_
  refine j_iload_n C 0 dJ6_bitCount_0f7a4_24 rfl rfl ?_
  refine j_iload_n C 0 dJ6_bitCount_0f7a4_25 rfl rfl ?_
  refine j_iconst (v := nI 4) C dJ6_bitCount_0f7a4_26 (by decide) ?_
  refine j_iushr (v := us (bc2 (bc1 (nI s))) (nI 4)) C dJ6_bitCount_0f7a4_27 rfl ?_
  refine j_iadd (v := (bc2 (bc1 (nI s))) + (us (bc2 (bc1 (nI s))) (nI 4))) C dJ6_bitCount_0f7a4_28 rfl ?_
  refine j_ldcw (v := 252645135) C mh2 dJ6_bitCount_0f7a4_29 ?_
  refine j_iand (v := bc3 (bc2 (bc1 (nI s)))) C dJ6_bitCount_0f7a4_32 rfl ?_
  refine j_istore_n (lv' := [(0, .int (bc3 (bc2 (bc1 (nI s)))))]) C dJ6_bitCount_0f7a4_33 rfl (by decide) rfl ?_
  refine j_iload_n C 0 dJ6_bitCount_0f7a4_34 rfl rfl ?_
  refine j_iload_n C 0 dJ6_bitCount_0f7a4_35 rfl rfl ?_
  refine j_bipush (v := nI 8) C dJ6_bitCount_0f7a4_36 (by decide) ?_
  refine j_iushr (v := us (bc3 (bc2 (bc1 (nI s)))) (nI 8)) C dJ6_bitCount_0f7a4_38 rfl ?_
  refine j_iadd (v := bc4 (bc3 (bc2 (bc1 (nI s))))) C dJ6_bitCount_0f7a4_39 rfl ?_
  refine j_istore_n (lv' := [(0, .int (bc4 (bc3 (bc2 (bc1 (nI s))))))]) C dJ6_bitCount_0f7a4_40 rfl (by decide) rfl ?_
  refine j_iload_n C 0 dJ6_bitCount_0f7a4_41 rfl rfl ?_
  refine j_iload_n C 0 dJ6_bitCount_0f7a4_42 rfl rfl ?_
  refine j_bipush (v := nI 16) C dJ6_bitCount_0f7a4_43 (by decide) ?_
  refine j_iushr (v := us (bc4 (bc3 (bc2 (bc1 (nI s))))) (nI 16)) C dJ6_bitCount_0f7a4_45 rfl ?_
  refine j_iadd (v := bc5 (bc4 (bc3 (bc2 (bc1 (nI s)))))) C dJ6_bitCount_0f7a4_46 rfl ?_
  refine j_istore_n (lv' := [(0, .int (bc5 (bc4 (bc3 (bc2 (bc1 (nI s)))))))]) C dJ6_bitCount_0f7a4_47 rfl (by decide) rfl ?_
  refine j_iload_n C 0 dJ6_bitCount_0f7a4_48 rfl rfl ?_
  refine j_bipush (v := nI 63) C dJ6_bitCount_0f7a4_49 (by decide) ?_
  refine j_iand (v := (bc5 (bc4 (bc3 (bc2 (bc1 (nI s)))))) &&& (nI 63)) C dJ6_bitCount_0f7a4_51 rfl ?_
  exact j_iret C E dJ6_bitCount_0f7a4_52 () trivial (by rw [← bc_ok s hs]) rfl
set_option maxHeartbeats 4000000 in
set_option maxRecDepth 20000 in
theorem c_X7_many {l : Launch} {D : va_G} {cy : Nat → ClassId} (A : Nat → Nat → Nat) (fl : Int32) (dT tT : TwS) (N B : Nat) (kf : Nat → Int32) (pf : Nat → Nat → Int32) (lf tf : Nat → Int32) (c : Nat) (df mf gf : Nat → Int32) (tv : Int32) (ln la : Nat → Int32) (cf : Nat → Nat → Int32) (k : Nat → Nat) (p : Nat → Nat → Nat) (rd rl : Nat → Nat) (ra : Nat → Option Nat) (hs : Nat → Bool) (sl sa : Nat → Nat) (sc : Nat → Nat → Int32) (hX : XI ((N, B, k, p), (c, rd, rl, ra), (hs, sl, sa, sc), tv, fl) (fl, dT, (nI N, nI B, kf, pf, lf, tf), tT, nI c, df, mf, gf, tv, ln, la, cf)) (w : Int32)  : Ct l yX7_many wsX7_many ({ frames := 4, cells := 0, slots := 0, locals := 91 }) D cy [.ref (A 3 0), .int w] (wX A cy fl dT (nI N, nI B, kf, pf, lf, tf) tT (nI c) df mf gf tv ln la cf) (fun u : XS => XI (m_many ((N, B, k, p), (c, rd, rl, ra), (hs, sl, sa, sc), tv, fl) w).2 u) (fun _ => some (.int (m_many ((N, B, k, p), (c, rd, rl, ra), (hs, sl, sa, sc), tv, fl) w).1)) (fun u => wXu A cy u) := by
  refine Ct.of (cc := cX7_many) (nL := 2) (ret := (some .int)) rfl (by decide) ⟨rfl, rfl⟩ (Nat.le_of_ble_eq_true rfl) ?_
  intro X C E
  have C : Cx X l D cy cX7_many 2 wsX7_many RX7 ({ frames := 4, cells := 0, slots := 0, locals := 91 }) := C
  have mh0 : ∀ w ∈ u_ws RX7 TX7 7, w ∈ wsX7_many := by decide +kernel
  have mh1 : Cond.fieldLink RX7 12 RX7 (TX7 0).2.1 (TX7 0).2.2.1 ∈ wsX7_many := by decide +kernel
  have mh2 : ∀ w ∈ u_ws RX5 TX5 7, w ∈ wsX7_many := by decide +kernel
  have mh3 : Cond.fieldLink RX7 34 RX7 (TX7 4).2.1 (TX7 4).2.2.1 ∈ wsX7_many := by decide +kernel
  have mh4 : ∀ w ∈ u_ws RX2 TX2 4, w ∈ wsX7_many := by decide +kernel
  obtain ⟨-, ⟨hB, hN2⟩, hT, hR, hS⟩ := hX
  have hN := hT.n
  have hc8 := hR.1
  have hN30 : N ≤ 2 ^ 30 := by omega
  show J X (wX A cy fl dT (nI N, nI B, kf, pf, lf, tf) tT (nI c) df mf gf tv ln la cf) 0 [(0, .ref (A 3 0)), (1, .int w)] []
  refine j_iload_n C 1 dX7_many_0 rfl rfl ?_
  refine j_table C dX7_many_1 67 (by decide) (fun hw => ?_) (fun h1 h2 => ?_)
  · have qw := tb_n (m := 3) hw
    refine j_bipush (v := (-2)) C dX7_many_67 (by decide) ?_
    exact j_iret C E dX7_many_69 (fl, dT, (nI N, nI B, kf, pf, lf, tf), tT, nI c, df, mf, gf, tv, ln, la, cf) (by rw [show m_many ((N, B, k, p), (c, rd, rl, ra), (hs, sl, sa, sc), tv, fl) w = ((-2), ((N, B, k, p), (c, rd, rl, ra), (hs, sl, sa, sc), tv, fl)) from (by simp only [m_many, qw])]; exact XI.mk hB hN2 hT hR hS) (by rw [show m_many ((N, B, k, p), (c, rd, rl, ra), (hs, sl, sa, sc), tv, fl) w = ((-2), ((N, B, k, p), (c, rd, rl, ra), (hs, sl, sa, sc), tv, fl)) from (by simp only [m_many, qw])]) rfl
  · obtain ⟨z, hz, rfl⟩ := tb_y (m := 3) (by decide) h1 h2
    match z, hz with
    | 0, _ =>
      refine ⟨31, 32, by decide +kernel, by decide, ?_⟩
      have qw := pI (n := 4) (j := 0) (by decide) (by decide)
      refine j_aload_n C 0 dX7_many_32 rfl rfl ?_
      refine j_get C mh0 0 mh1 0 rfl rfl (by decide) rfl rfl dX7_many_33 ?_
      refine j_getN C mh2 5 (by decide +kernel) 16 rfl rfl (by decide) rfl rfl dX7_many_36 ?_
      exact j_iret C E dX7_many_39 (fl, dT, (nI N, nI B, kf, pf, lf, tf), tT, nI c, df, mf, gf, tv, ln, la, cf) (by rw [show m_many ((N, B, k, p), (c, rd, rl, ra), (hs, sl, sa, sc), tv, fl) (nI 0) = (nI N, ((N, B, k, p), (c, rd, rl, ra), (hs, sl, sa, sc), tv, fl)) from (by simp only [m_many, qw])]; exact XI.mk hB hN2 hT hR hS) (by rw [show m_many ((N, B, k, p), (c, rd, rl, ra), (hs, sl, sa, sc), tv, fl) (nI 0) = (nI N, ((N, B, k, p), (c, rd, rl, ra), (hs, sl, sa, sc), tv, fl)) from (by simp only [m_many, qw])]) rfl
    | 1, _ =>
      refine ⟨39, 40, by decide +kernel, by decide, ?_⟩
      have qw := pI (n := 4) (j := 1) (by decide) (by decide)
      refine j_aload_n C 0 dX7_many_40 rfl rfl ?_
      refine j_get C mh0 0 mh1 0 rfl rfl (by decide) rfl rfl dX7_many_41 ?_
      refine j_getN C mh2 6 (by decide +kernel) 16 rfl rfl (by decide) rfl rfl dX7_many_44 ?_
      exact j_iret C E dX7_many_47 (fl, dT, (nI N, nI B, kf, pf, lf, tf), tT, nI c, df, mf, gf, tv, ln, la, cf) (by rw [show m_many ((N, B, k, p), (c, rd, rl, ra), (hs, sl, sa, sc), tv, fl) (nI 1) = (nI B, ((N, B, k, p), (c, rd, rl, ra), (hs, sl, sa, sc), tv, fl)) from (by simp only [m_many, qw])]; exact XI.mk hB hN2 hT hR hS) (by rw [show m_many ((N, B, k, p), (c, rd, rl, ra), (hs, sl, sa, sc), tv, fl) (nI 1) = (nI B, ((N, B, k, p), (c, rd, rl, ra), (hs, sl, sa, sc), tv, fl)) from (by simp only [m_many, qw])]) rfl
    | 2, _ =>
      refine ⟨47, 48, by decide +kernel, by decide, ?_⟩
      have qw := pI (n := 4) (j := 2) (by decide) (by decide)
      refine j_aload_n C 0 dX7_many_48 rfl rfl ?_
      refine j_get C mh0 0 mh1 0 rfl rfl (by decide) rfl rfl dX7_many_49 ?_
      refine jx_N (nT' := fun _ => (nI N, nI B, kf, pf, lf, tf)) (As := []) (rest := []) C (c_X5_litLamps (A 1) N B kf pf lf tf k p hT ) gX7_many_X5_litLamps rfl 0 rfl (by decide +kernel) (by decide) (Nat.le_of_ble_eq_true rfl) dX7_many_52 rfl (fun _ _ => ?_)
      have hlit := litS_lt (k := k) (p := p) hN
      show J X (wX A cy fl dT (nI N, nI B, kf, pf, lf, tf) tT (nI c) df mf gf tv ln la cf) 55 [(0, .ref (A 3 0)), (1, .int (nI 2))] [.int (nI (litS N k p))]
      refine j_callP (As := [.int (nI (litS N k p))]) (rest := []) C (c_J6_bitCount_0f7a4 (litS N k p) hlit) gX7_many_J6_bitCount_0f7a4 rfl 1 rfl (by decide +kernel) (by decide) (Nat.le_of_ble_eq_true rfl) dX7_many_55 rfl (fun _ _ => ?_)
      rw [cnt_lit hN]
      show J X (wX A cy fl dT (nI N, nI B, kf, pf, lf, tf) tT (nI c) df mf gf tv ln la cf) 58 [(0, .ref (A 3 0)), (1, .int (nI 2))] [.int (nI (cntB (fun b => (lg N k p b).isSome) N))]
      exact j_iret C E dX7_many_58 (fl, dT, (nI N, nI B, kf, pf, lf, tf), tT, nI c, df, mf, gf, tv, ln, la, cf) (by rw [show m_many ((N, B, k, p), (c, rd, rl, ra), (hs, sl, sa, sc), tv, fl) (nI 2) = (nI (cntB (fun b => (lg N k p b).isSome) N), ((N, B, k, p), (c, rd, rl, ra), (hs, sl, sa, sc), tv, fl)) from (by simp only [m_many, qw])]; exact XI.mk hB hN2 hT hR hS) (by rw [show m_many ((N, B, k, p), (c, rd, rl, ra), (hs, sl, sa, sc), tv, fl) (nI 2) = (nI (cntB (fun b => (lg N k p b).isSome) N), ((N, B, k, p), (c, rd, rl, ra), (hs, sl, sa, sc), tv, fl)) from (by simp only [m_many, qw])]) rfl
    | 3, _ =>
      refine ⟨58, 59, by decide +kernel, by decide, ?_⟩
      have qw := pI (n := 4) (j := 3) (by decide) (by decide)
      refine j_aload_n C 0 dX7_many_59 rfl rfl ?_
      refine j_get C mh0 4 mh3 0 rfl rfl (by decide) rfl rfl dX7_many_60 ?_
      refine j_getN C mh4 3 (by decide +kernel) 46 rfl rfl (by decide) rfl rfl dX7_many_63 ?_
      exact j_iret C E dX7_many_66 (fl, dT, (nI N, nI B, kf, pf, lf, tf), tT, nI c, df, mf, gf, tv, ln, la, cf) (by rw [show m_many ((N, B, k, p), (c, rd, rl, ra), (hs, sl, sa, sc), tv, fl) (nI 3) = (nI c, ((N, B, k, p), (c, rd, rl, ra), (hs, sl, sa, sc), tv, fl)) from (by simp only [m_many, qw])]; exact XI.mk hB hN2 hT hR hS) (by rw [show m_many ((N, B, k, p), (c, rd, rl, ra), (hs, sl, sa, sc), tv, fl) (nI 3) = (nI c, ((N, B, k, p), (c, rd, rl, ra), (hs, sl, sa, sc), tv, fl)) from (by simp only [m_many, qw])]) rfl
    | z + 4, hz => exact absurd hz (by omega)
set_option maxHeartbeats 4000000 in
set_option maxRecDepth 20000 in
theorem c_X7_reading {l : Launch} {D : va_G} {cy : Nat → ClassId} (A : Nat → Nat → Nat) (fl : Int32) (dT tT : TwS) (N B : Nat) (kf : Nat → Int32) (pf : Nat → Nat → Int32) (lf tf : Nat → Int32) (c : Nat) (df mf gf : Nat → Int32) (tv : Int32) (ln la : Nat → Int32) (cf : Nat → Nat → Int32) (k : Nat → Nat) (p : Nat → Nat → Nat) (rd rl : Nat → Nat) (ra : Nat → Option Nat) (hs : Nat → Bool) (sl sa : Nat → Nat) (sc : Nat → Nat → Int32) (hX : XI ((N, B, k, p), (c, rd, rl, ra), (hs, sl, sa, sc), tv, fl) (fl, dT, (nI N, nI B, kf, pf, lf, tf), tT, nI c, df, mf, gf, tv, ln, la, cf)) (t b a : Int32)  : Ct l yX7_reading wsX7_reading ({ frames := 1, cells := 0, slots := 0, locals := 23 }) D cy [.ref (A 3 0), .int t, .int b, .int a] (wX A cy fl dT (nI N, nI B, kf, pf, lf, tf) tT (nI c) df mf gf tv ln la cf) (fun u : XS => XI (m_reading ((N, B, k, p), (c, rd, rl, ra), (hs, sl, sa, sc), tv, fl) t b a).2 u) (fun _ => some (.int (m_reading ((N, B, k, p), (c, rd, rl, ra), (hs, sl, sa, sc), tv, fl) t b a).1)) (fun u => wXu A cy u) := by
  refine Ct.of (cc := cX7_reading) (nL := 4) (ret := (some .int)) rfl (by decide) ⟨rfl, rfl⟩ (Nat.le_of_ble_eq_true rfl) ?_
  intro X C E
  have C : Cx X l D cy cX7_reading 4 wsX7_reading RX7 ({ frames := 1, cells := 0, slots := 0, locals := 23 }) := C
  have mh0 : ∀ w ∈ u_ws RX7 TX7 7, w ∈ wsX7_reading := by decide +kernel
  have mh1 : Cond.fieldLink RX7 34 RX7 (TX7 4).2.1 (TX7 4).2.2.1 ∈ wsX7_reading := by decide +kernel
  obtain ⟨-, ⟨hB, hN2⟩, hT, hR, hS⟩ := hX
  have hN := hT.n
  have hc8 := hR.1
  have hN30 : N ≤ 2 ^ 30 := by omega
  show J X (wX A cy fl dT (nI N, nI B, kf, pf, lf, tf) tT (nI c) df mf gf tv ln la cf) 0 [(0, .ref (A 3 0)), (1, .int t), (2, .int b), (3, .int a)] []
  refine j_aload_n C 0 dX7_reading_0 rfl rfl ?_
  refine j_iload_n C 2 dX7_reading_1 rfl rfl ?_
  refine j_callV0 (As := [.int b]) (rest := []) C (c_X7_isPerson A fl dT tT N B kf pf lf tf c df mf gf tv ln la cf (b) hN) gX7_reading_X7_isPerson rfl 1 rfl (by decide +kernel) (by decide) 0 rfl rfl (Nat.le_of_ble_eq_true rfl) dX7_reading_2 rfl (fun _ _ => ?_)
  show J X (wX A cy fl dT (nI N, nI B, kf, pf, lf, tf) tT (nI c) df mf gf tv ln la cf) 5 [(0, .ref (A 3 0)), (1, .int t), (2, .int b), (3, .int a)] [.int (nI (bN ((pOf N (b)).isSome = true)))]
  refine j_if_eqN (tgt := 22) C dX7_reading_5 (by decide) (bN_lt _) (fun c5 => ?_) (fun c5 => ?_)
  · have c5 := bN_0.mp c5
    have qb1 := pOf_n c5
    refine j_iconst (v := (-1)) C dX7_reading_22 (by decide) ?_
    exact j_iret C E dX7_reading_23 (fl, dT, (nI N, nI B, kf, pf, lf, tf), tT, nI c, df, mf, gf, tv, ln, la, cf) (by rw [show m_reading ((N, B, k, p), (c, rd, rl, ra), (hs, sl, sa, sc), tv, fl) t b a = ((-1), ((N, B, k, p), (c, rd, rl, ra), (hs, sl, sa, sc), tv, fl)) from (by simp only [m_reading, qb1]; try rfl)]; exact XI.mk hB hN2 hT hR hS) (by rw [show m_reading ((N, B, k, p), (c, rd, rl, ra), (hs, sl, sa, sc), tv, fl) t b a = ((-1), ((N, B, k, p), (c, rd, rl, ra), (hs, sl, sa, sc), tv, fl)) from (by simp only [m_reading, qb1]; try rfl)]) rfl
  · have c5 := bN_1.mp c5
    obtain ⟨b1, hb1, rfl⟩ := pY hN30 c5
    have qb1 := pI hb1 hN30
    show J X (wX A cy fl dT (nI N, nI B, kf, pf, lf, tf) tT (nI c) df mf gf tv ln la cf) 8 [(0, .ref (A 3 0)), (1, .int t), (2, .int (nI b1)), (3, .int a)] []
    refine j_aload_n C 0 dX7_reading_8 rfl rfl ?_
    refine j_iload_n C 3 dX7_reading_9 rfl rfl ?_
    refine j_callV0 (As := [.int a]) (rest := []) C (c_X7_isPerson A fl dT tT N B kf pf lf tf c df mf gf tv ln la cf (a) hN) gX7_reading_X7_isPerson rfl 1 rfl (by decide +kernel) (by decide) 0 rfl rfl (Nat.le_of_ble_eq_true rfl) dX7_reading_10 rfl (fun _ _ => ?_)
    show J X (wX A cy fl dT (nI N, nI B, kf, pf, lf, tf) tT (nI c) df mf gf tv ln la cf) 13 [(0, .ref (A 3 0)), (1, .int t), (2, .int (nI b1)), (3, .int a)] [.int (nI (bN ((pOf N (a)).isSome = true)))]
    refine j_if_neN (tgt := 24) C dX7_reading_13 (by decide) (bN_lt _) (fun c13 => ?_) (fun c13 => ?_)
    · have c13 := bN_1.mp c13
      obtain ⟨a1, ha1, rfl⟩ := pY hN30 c13
      have qa1 := pI ha1 hN30
      have z1 := aOf_y ha1 hN30
      show J X (wX A cy fl dT (nI N, nI B, kf, pf, lf, tf) tT (nI c) df mf gf tv ln la cf) 24 [(0, .ref (A 3 0)), (1, .int t), (2, .int (nI b1)), (3, .int (nI a1))] []
      refine j_iload_n C 1 dX7_reading_24 rfl rfl ?_
      refine j_bipush (v := nI 10) C dX7_reading_25 (by decide) ?_
      refine j_callP (As := [.int t, .int (nI 10)]) (rest := []) C (c_X7_isWithin (t) 10 (by omega)) gX7_reading_X7_isWithin rfl 2 rfl (by decide +kernel) (by decide) (Nat.le_of_ble_eq_true rfl) dX7_reading_27 rfl (fun _ _ => ?_)
      show J X (wX A cy fl dT (nI N, nI B, kf, pf, lf, tf) tT (nI c) df mf gf tv ln la cf) 30 [(0, .ref (A 3 0)), (1, .int t), (2, .int (nI b1)), (3, .int (nI a1))] [.int (nI (bN ((pOf 11 (t)).isSome = true)))]
      refine j_if_neN (tgt := 36) C dX7_reading_30 (by decide) (bN_lt _) (fun c30 => ?_) (fun c30 => ?_)
      · have c30 := bN_1.mp c30
        obtain ⟨t1, ht1, rfl⟩ := pY (by decide) c30
        have qt1 := pI ht1 (by decide)
        show J X (wX A cy fl dT (nI N, nI B, kf, pf, lf, tf) tT (nI c) df mf gf tv ln la cf) 36 [(0, .ref (A 3 0)), (1, .int (nI t1)), (2, .int (nI b1)), (3, .int (nI a1))] []
        refine j_aload_n C 0 dX7_reading_36 rfl rfl ?_
        refine j_get C mh0 4 mh1 0 rfl rfl (by decide) rfl rfl dX7_reading_37 ?_
        refine j_iload_n C 1 dX7_reading_40 rfl rfl ?_
        refine j_iload_n C 2 dX7_reading_41 rfl rfl ?_
        refine j_iload_n C 3 dX7_reading_42 rfl rfl ?_
        by_cases c45 : c < 8
        · have nc45 : ¬ 8 ≤ c := by omega
          refine jx_R (ct' := fun _ => nI (c + 1)) (df' := fun _ => upd df c (nI t1)) (mf' := fun _ => upd mf c (nI b1)) (gf' := fun _ => upd gf c (nI a1)) (As := [.int (nI t1), .int (nI b1), .int (nI a1)]) (rest := []) C (c_X2_add (A 3 1) (A 3 2) (A 3 3) (A 3 4) c df mf gf (nI t1) (nI b1) (nI a1) c45) gX7_reading_X2_add rfl 3 rfl (by decide +kernel) (by decide) (Nat.le_of_ble_eq_true rfl) dX7_reading_43 rfl (fun _ _ => ?_)
          show J X (wX A cy fl dT (nI N, nI B, kf, pf, lf, tf) tT (nI (c + 1)) (upd df c (nI t1)) (upd mf c (nI b1)) (upd gf c (nI a1)) tv ln la cf) 46 [(0, .ref (A 3 0)), (1, .int (nI t1)), (2, .int (nI b1)), (3, .int (nI a1))] [.int (nI c)]
          exact j_iret C E dX7_reading_46 (fl, dT, (nI N, nI B, kf, pf, lf, tf), tT, nI (c + 1), upd df c (nI t1), upd mf c (nI b1), upd gf c (nI a1), tv, ln, la, cf) (by rw [show m_reading ((N, B, k, p), (c, rd, rl, ra), (hs, sl, sa, sc), tv, fl) (nI t1) (nI b1) (nI a1) = (nI c, ((N, B, k, p), (c + 1, upN rd c t1, upN rl c b1, upO ra c (some a1)), (hs, sl, sa, sc), tv, fl)) from (by simp only [m_reading, qb1, z1, qa1, qt1, nc45, if_false, if_true]; try rfl)]; exact XI.mk hB hN2 hT (hR.add c45 (by omega) hb1 (fun a e => by cases e; exact ha1) rfl) hS) (by rw [show m_reading ((N, B, k, p), (c, rd, rl, ra), (hs, sl, sa, sc), tv, fl) (nI t1) (nI b1) (nI a1) = (nI c, ((N, B, k, p), (c + 1, upN rd c t1, upN rl c b1, upO ra c (some a1)), (hs, sl, sa, sc), tv, fl)) from (by simp only [m_reading, qb1, z1, qa1, qt1, nc45, if_false, if_true]; try rfl)]) rfl
        · have c45 : 8 ≤ c := by omega
          refine jx_R (ct' := fun _ => nI c) (df' := fun _ => df) (mf' := fun _ => mf) (gf' := fun _ => gf) (As := [.int (nI t1), .int (nI b1), .int (nI a1)]) (rest := []) C (c_X2_addF (A 3 1) (A 3 2) (A 3 3) (A 3 4) c df mf gf (nI t1) (nI b1) (nI a1) c45 hc8) gX7_reading_X2_add rfl 3 rfl (by decide +kernel) (by decide) (Nat.le_of_ble_eq_true rfl) dX7_reading_43 rfl (fun _ _ => ?_)
          show J X (wX A cy fl dT (nI N, nI B, kf, pf, lf, tf) tT (nI c) df mf gf tv ln la cf) 46 [(0, .ref (A 3 0)), (1, .int (nI t1)), (2, .int (nI b1)), (3, .int (nI a1))] [.int ((-4))]
          exact j_iret C E dX7_reading_46 (fl, dT, (nI N, nI B, kf, pf, lf, tf), tT, nI c, df, mf, gf, tv, ln, la, cf) (by rw [show m_reading ((N, B, k, p), (c, rd, rl, ra), (hs, sl, sa, sc), tv, fl) (nI t1) (nI b1) (nI a1) = ((-4), ((N, B, k, p), (c, rd, rl, ra), (hs, sl, sa, sc), tv, fl)) from (by simp only [m_reading, qb1, z1, qa1, qt1, c45, if_false, if_true]; try rfl)]; exact XI.mk hB hN2 hT hR hS) (by rw [show m_reading ((N, B, k, p), (c, rd, rl, ra), (hs, sl, sa, sc), tv, fl) (nI t1) (nI b1) (nI a1) = ((-4), ((N, B, k, p), (c, rd, rl, ra), (hs, sl, sa, sc), tv, fl)) from (by simp only [m_reading, qb1, z1, qa1, qt1, c45, if_false, if_true]; try rfl)]) rfl
      · have c30 := bN_0.mp c30
        have qt1 := pOf_n c30
        refine j_bipush (v := (-2)) C dX7_reading_33 (by decide) ?_
        exact j_iret C E dX7_reading_35 (fl, dT, (nI N, nI B, kf, pf, lf, tf), tT, nI c, df, mf, gf, tv, ln, la, cf) (by rw [show m_reading ((N, B, k, p), (c, rd, rl, ra), (hs, sl, sa, sc), tv, fl) t (nI b1) (nI a1) = ((-2), ((N, B, k, p), (c, rd, rl, ra), (hs, sl, sa, sc), tv, fl)) from (by simp only [m_reading, qb1, z1, qa1, qt1]; try rfl)]; exact XI.mk hB hN2 hT hR hS) (by rw [show m_reading ((N, B, k, p), (c, rd, rl, ra), (hs, sl, sa, sc), tv, fl) t (nI b1) (nI a1) = ((-2), ((N, B, k, p), (c, rd, rl, ra), (hs, sl, sa, sc), tv, fl)) from (by simp only [m_reading, qb1, z1, qa1, qt1]; try rfl)]) rfl
    · have c13 := bN_0.mp c13
      have qa1 := pOf_n c13
      refine j_iload_n C 3 dX7_reading_16 rfl rfl ?_
      refine j_bipush (v := (-9)) C dX7_reading_17 (by decide) ?_
      refine j_icmp_eq (tgt := 24) C dX7_reading_19 (by decide) (fun c19 => ?_) (fun c19 => ?_)
      · subst c19
        have z1 := aOf_9 (N := N)
        show J X (wX A cy fl dT (nI N, nI B, kf, pf, lf, tf) tT (nI c) df mf gf tv ln la cf) 24 [(0, .ref (A 3 0)), (1, .int t), (2, .int (nI b1)), (3, .int ((-9)))] []
        refine j_iload_n C 1 dX7_reading_24 rfl rfl ?_
        refine j_bipush (v := nI 10) C dX7_reading_25 (by decide) ?_
        refine j_callP (As := [.int t, .int (nI 10)]) (rest := []) C (c_X7_isWithin (t) 10 (by omega)) gX7_reading_X7_isWithin rfl 2 rfl (by decide +kernel) (by decide) (Nat.le_of_ble_eq_true rfl) dX7_reading_27 rfl (fun _ _ => ?_)
        show J X (wX A cy fl dT (nI N, nI B, kf, pf, lf, tf) tT (nI c) df mf gf tv ln la cf) 30 [(0, .ref (A 3 0)), (1, .int t), (2, .int (nI b1)), (3, .int ((-9)))] [.int (nI (bN ((pOf 11 (t)).isSome = true)))]
        refine j_if_neN (tgt := 36) C dX7_reading_30 (by decide) (bN_lt _) (fun c30 => ?_) (fun c30 => ?_)
        · have c30 := bN_1.mp c30
          obtain ⟨t1, ht1, rfl⟩ := pY (by decide) c30
          have qt1 := pI ht1 (by decide)
          show J X (wX A cy fl dT (nI N, nI B, kf, pf, lf, tf) tT (nI c) df mf gf tv ln la cf) 36 [(0, .ref (A 3 0)), (1, .int (nI t1)), (2, .int (nI b1)), (3, .int ((-9)))] []
          refine j_aload_n C 0 dX7_reading_36 rfl rfl ?_
          refine j_get C mh0 4 mh1 0 rfl rfl (by decide) rfl rfl dX7_reading_37 ?_
          refine j_iload_n C 1 dX7_reading_40 rfl rfl ?_
          refine j_iload_n C 2 dX7_reading_41 rfl rfl ?_
          refine j_iload_n C 3 dX7_reading_42 rfl rfl ?_
          by_cases c45 : c < 8
          · have nc45 : ¬ 8 ≤ c := by omega
            refine jx_R (ct' := fun _ => nI (c + 1)) (df' := fun _ => upd df c (nI t1)) (mf' := fun _ => upd mf c (nI b1)) (gf' := fun _ => upd gf c ((-9))) (As := [.int (nI t1), .int (nI b1), .int ((-9))]) (rest := []) C (c_X2_add (A 3 1) (A 3 2) (A 3 3) (A 3 4) c df mf gf (nI t1) (nI b1) ((-9)) c45) gX7_reading_X2_add rfl 3 rfl (by decide +kernel) (by decide) (Nat.le_of_ble_eq_true rfl) dX7_reading_43 rfl (fun _ _ => ?_)
            show J X (wX A cy fl dT (nI N, nI B, kf, pf, lf, tf) tT (nI (c + 1)) (upd df c (nI t1)) (upd mf c (nI b1)) (upd gf c ((-9))) tv ln la cf) 46 [(0, .ref (A 3 0)), (1, .int (nI t1)), (2, .int (nI b1)), (3, .int ((-9)))] [.int (nI c)]
            exact j_iret C E dX7_reading_46 (fl, dT, (nI N, nI B, kf, pf, lf, tf), tT, nI (c + 1), upd df c (nI t1), upd mf c (nI b1), upd gf c ((-9)), tv, ln, la, cf) (by rw [show m_reading ((N, B, k, p), (c, rd, rl, ra), (hs, sl, sa, sc), tv, fl) (nI t1) (nI b1) (-9) = (nI c, ((N, B, k, p), (c + 1, upN rd c t1, upN rl c b1, upO ra c (none)), (hs, sl, sa, sc), tv, fl)) from (by simp only [m_reading, qb1, qa1, z1, qt1, nc45, if_false, if_true]; try rfl)]; exact XI.mk hB hN2 hT (hR.add c45 (by omega) hb1 (fun a e => by cases e) rfl) hS) (by rw [show m_reading ((N, B, k, p), (c, rd, rl, ra), (hs, sl, sa, sc), tv, fl) (nI t1) (nI b1) (-9) = (nI c, ((N, B, k, p), (c + 1, upN rd c t1, upN rl c b1, upO ra c (none)), (hs, sl, sa, sc), tv, fl)) from (by simp only [m_reading, qb1, qa1, z1, qt1, nc45, if_false, if_true]; try rfl)]) rfl
          · have c45 : 8 ≤ c := by omega
            refine jx_R (ct' := fun _ => nI c) (df' := fun _ => df) (mf' := fun _ => mf) (gf' := fun _ => gf) (As := [.int (nI t1), .int (nI b1), .int ((-9))]) (rest := []) C (c_X2_addF (A 3 1) (A 3 2) (A 3 3) (A 3 4) c df mf gf (nI t1) (nI b1) ((-9)) c45 hc8) gX7_reading_X2_add rfl 3 rfl (by decide +kernel) (by decide) (Nat.le_of_ble_eq_true rfl) dX7_reading_43 rfl (fun _ _ => ?_)
            show J X (wX A cy fl dT (nI N, nI B, kf, pf, lf, tf) tT (nI c) df mf gf tv ln la cf) 46 [(0, .ref (A 3 0)), (1, .int (nI t1)), (2, .int (nI b1)), (3, .int ((-9)))] [.int ((-4))]
            exact j_iret C E dX7_reading_46 (fl, dT, (nI N, nI B, kf, pf, lf, tf), tT, nI c, df, mf, gf, tv, ln, la, cf) (by rw [show m_reading ((N, B, k, p), (c, rd, rl, ra), (hs, sl, sa, sc), tv, fl) (nI t1) (nI b1) (-9) = ((-4), ((N, B, k, p), (c, rd, rl, ra), (hs, sl, sa, sc), tv, fl)) from (by simp only [m_reading, qb1, qa1, z1, qt1, c45, if_false, if_true]; try rfl)]; exact XI.mk hB hN2 hT hR hS) (by rw [show m_reading ((N, B, k, p), (c, rd, rl, ra), (hs, sl, sa, sc), tv, fl) (nI t1) (nI b1) (-9) = ((-4), ((N, B, k, p), (c, rd, rl, ra), (hs, sl, sa, sc), tv, fl)) from (by simp only [m_reading, qb1, qa1, z1, qt1, c45, if_false, if_true]; try rfl)]) rfl
        · have c30 := bN_0.mp c30
          have qt1 := pOf_n c30
          refine j_bipush (v := (-2)) C dX7_reading_33 (by decide) ?_
          exact j_iret C E dX7_reading_35 (fl, dT, (nI N, nI B, kf, pf, lf, tf), tT, nI c, df, mf, gf, tv, ln, la, cf) (by rw [show m_reading ((N, B, k, p), (c, rd, rl, ra), (hs, sl, sa, sc), tv, fl) t (nI b1) (-9) = ((-2), ((N, B, k, p), (c, rd, rl, ra), (hs, sl, sa, sc), tv, fl)) from (by simp only [m_reading, qb1, qa1, z1, qt1]; try rfl)]; exact XI.mk hB hN2 hT hR hS) (by rw [show m_reading ((N, B, k, p), (c, rd, rl, ra), (hs, sl, sa, sc), tv, fl) t (nI b1) (-9) = ((-2), ((N, B, k, p), (c, rd, rl, ra), (hs, sl, sa, sc), tv, fl)) from (by simp only [m_reading, qb1, qa1, z1, qt1]; try rfl)]) rfl
      · have z1 := aOf_n c19 qa1
        refine j_iconst (v := (-1)) C dX7_reading_22 (by decide) ?_
        exact j_iret C E dX7_reading_23 (fl, dT, (nI N, nI B, kf, pf, lf, tf), tT, nI c, df, mf, gf, tv, ln, la, cf) (by rw [show m_reading ((N, B, k, p), (c, rd, rl, ra), (hs, sl, sa, sc), tv, fl) t (nI b1) a = ((-1), ((N, B, k, p), (c, rd, rl, ra), (hs, sl, sa, sc), tv, fl)) from (by simp only [m_reading, qb1, qa1, z1]; try rfl)]; exact XI.mk hB hN2 hT hR hS) (by rw [show m_reading ((N, B, k, p), (c, rd, rl, ra), (hs, sl, sa, sc), tv, fl) t (nI b1) a = ((-1), ((N, B, k, p), (c, rd, rl, ra), (hs, sl, sa, sc), tv, fl)) from (by simp only [m_reading, qb1, qa1, z1]; try rfl)]) rfl
set_option maxHeartbeats 4000000 in
set_option maxRecDepth 20000 in
theorem c_X7_back {l : Launch} {D : va_G} {cy : Nat → ClassId} (A : Nat → Nat → Nat) (fl : Int32) (dT tT : TwS) (N B : Nat) (kf : Nat → Int32) (pf : Nat → Nat → Int32) (lf tf : Nat → Int32) (c : Nat) (df mf gf : Nat → Int32) (tv : Int32) (ln la : Nat → Int32) (cf : Nat → Nat → Int32) (k : Nat → Nat) (p : Nat → Nat → Nat) (rd rl : Nat → Nat) (ra : Nat → Option Nat) (hs : Nat → Bool) (sl sa : Nat → Nat) (sc : Nat → Nat → Int32) (hX : XI ((N, B, k, p), (c, rd, rl, ra), (hs, sl, sa, sc), tv, fl) (fl, dT, (nI N, nI B, kf, pf, lf, tf), tT, nI c, df, mf, gf, tv, ln, la, cf)) (v : Int32)  : Ct l yX7_back wsX7_back ({ frames := 1, cells := 0, slots := 0, locals := 21 }) D cy [.ref (A 3 0), .int v] (wX A cy fl dT (nI N, nI B, kf, pf, lf, tf) tT (nI c) df mf gf tv ln la cf) (fun u : XS => XI (m_back ((N, B, k, p), (c, rd, rl, ra), (hs, sl, sa, sc), tv, fl) v).2 u) (fun _ => some (.int (m_back ((N, B, k, p), (c, rd, rl, ra), (hs, sl, sa, sc), tv, fl) v).1)) (fun u => wXu A cy u) := by
  refine Ct.of (cc := cX7_back) (nL := 2) (ret := (some .int)) rfl (by decide) ⟨rfl, rfl⟩ (Nat.le_of_ble_eq_true rfl) ?_
  intro X C E
  have C : Cx X l D cy cX7_back 2 wsX7_back RX7 ({ frames := 1, cells := 0, slots := 0, locals := 21 }) := C
  have mh0 : ∀ w ∈ u_ws RX7 TX7 7, w ∈ wsX7_back := by decide +kernel
  have mh1 : Cond.fieldLink RX7 34 RX7 (TX7 4).2.1 (TX7 4).2.2.1 ∈ wsX7_back := by decide +kernel
  have mh2 : ∀ w ∈ u_ws RX2 TX2 4, w ∈ wsX7_back := by decide +kernel
  obtain ⟨-, ⟨hB, hN2⟩, hT, hR, hS⟩ := hX
  have hN := hT.n
  have hc8 := hR.1
  have hN30 : N ≤ 2 ^ 30 := by omega
  show J X (wX A cy fl dT (nI N, nI B, kf, pf, lf, tf) tT (nI c) df mf gf tv ln la cf) 0 [(0, .ref (A 3 0)), (1, .int v)] []
  refine j_iload_n C 1 dX7_back_0 rfl rfl ?_
  refine j_aload_n C 0 dX7_back_1 rfl rfl ?_
  refine j_get C mh0 4 mh1 0 rfl rfl (by decide) rfl rfl dX7_back_2 ?_
  refine j_getN C mh2 3 (by decide +kernel) 46 rfl rfl (by decide) rfl rfl dX7_back_5 ?_
  refine j_callP (As := [.int v, .int (nI c)]) (rest := []) C (c_X7_isWithin (v) c (by omega)) gX7_back_X7_isWithin rfl 2 rfl (by decide +kernel) (by decide) (Nat.le_of_ble_eq_true rfl) dX7_back_8 rfl (fun _ _ => ?_)
  show J X (wX A cy fl dT (nI N, nI B, kf, pf, lf, tf) tT (nI c) df mf gf tv ln la cf) 11 [(0, .ref (A 3 0)), (1, .int v)] [.int (nI (bN ((pOf (c + 1) (v)).isSome = true)))]
  refine j_if_neN (tgt := 17) C dX7_back_11 (by decide) (bN_lt _) (fun c11 => ?_) (fun c11 => ?_)
  · have c11 := bN_1.mp c11
    obtain ⟨m1, hm1, rfl⟩ := pY (by omega) c11
    have qm1 := pI hm1 (by omega)
    show J X (wX A cy fl dT (nI N, nI B, kf, pf, lf, tf) tT (nI c) df mf gf tv ln la cf) 17 [(0, .ref (A 3 0)), (1, .int (nI m1))] []
    refine j_aload_n C 0 dX7_back_17 rfl rfl ?_
    refine j_get C mh0 4 mh1 0 rfl rfl (by decide) rfl rfl dX7_back_18 ?_
    refine j_aload_n C 0 dX7_back_21 rfl rfl ?_
    refine j_get C mh0 4 mh1 0 rfl rfl (by decide) rfl rfl dX7_back_22 ?_
    refine j_getN C mh2 3 (by decide +kernel) 46 rfl rfl (by decide) rfl rfl dX7_back_25 ?_
    refine j_iload_n C 1 dX7_back_28 rfl rfl ?_
    refine j_isub (v := nI (c - m1)) C dX7_back_29 (pk_sub (by omega)) ?_
    refine jx_R (ct' := fun _ => nI (c - m1)) (df' := fun _ => df) (mf' := fun _ => mf) (gf' := fun _ => gf) (As := [.int (nI (c - m1))]) (rest := []) C (c_X2_keepFirst (A 3 1) (A 3 2) (A 3 3) (A 3 4) c df mf gf (c - m1) hc8 (by omega)) gX7_back_X2_keepFirst rfl 1 rfl (by decide +kernel) (by decide) (Nat.le_of_ble_eq_true rfl) dX7_back_30 rfl (fun _ _ => ?_)
    show J X (wX A cy fl dT (nI N, nI B, kf, pf, lf, tf) tT (nI (c - m1)) df mf gf tv ln la cf) 33 [(0, .ref (A 3 0)), (1, .int (nI m1))] []
    refine j_aload_n C 0 dX7_back_33 rfl rfl ?_
    refine j_get C mh0 4 mh1 0 rfl rfl (by decide) rfl rfl dX7_back_34 ?_
    refine j_getN C mh2 3 (by decide +kernel) 46 rfl rfl (by decide) rfl rfl dX7_back_37 ?_
    exact j_iret C E dX7_back_40 (fl, dT, (nI N, nI B, kf, pf, lf, tf), tT, nI (c - m1), df, mf, gf, tv, ln, la, cf) (by rw [show m_back ((N, B, k, p), (c, rd, rl, ra), (hs, sl, sa, sc), tv, fl) (nI m1) = (nI (c - m1), ((N, B, k, p), (c - m1, rd, rl, ra), (hs, sl, sa, sc), tv, fl)) from (by simp only [m_back, qm1])]; exact XI.mk hB hN2 hT (hR.sub (by omega)) hS) (by rw [show m_back ((N, B, k, p), (c, rd, rl, ra), (hs, sl, sa, sc), tv, fl) (nI m1) = (nI (c - m1), ((N, B, k, p), (c - m1, rd, rl, ra), (hs, sl, sa, sc), tv, fl)) from (by simp only [m_back, qm1])]) rfl
  · have c11 := bN_0.mp c11
    have qm1 := pOf_n c11
    refine j_bipush (v := (-2)) C dX7_back_14 (by decide) ?_
    exact j_iret C E dX7_back_16 (fl, dT, (nI N, nI B, kf, pf, lf, tf), tT, nI c, df, mf, gf, tv, ln, la, cf) (by rw [show m_back ((N, B, k, p), (c, rd, rl, ra), (hs, sl, sa, sc), tv, fl) v = ((-2), ((N, B, k, p), (c, rd, rl, ra), (hs, sl, sa, sc), tv, fl)) from (by simp only [m_back, qm1])]; exact XI.mk hB hN2 hT hR hS) (by rw [show m_back ((N, B, k, p), (c, rd, rl, ra), (hs, sl, sa, sc), tv, fl) v = ((-2), ((N, B, k, p), (c, rd, rl, ra), (hs, sl, sa, sc), tv, fl)) from (by simp only [m_back, qm1])]) rfl
set_option maxHeartbeats 4000000 in
set_option maxRecDepth 20000 in
theorem c_X7_debts {l : Launch} {D : va_G} {cy : Nat → ClassId} (A : Nat → Nat → Nat) (fl : Int32) (dT tT : TwS) (N B : Nat) (kf : Nat → Int32) (pf : Nat → Nat → Int32) (lf tf : Nat → Int32) (c : Nat) (df mf gf : Nat → Int32) (tv : Int32) (ln la : Nat → Int32) (cf : Nat → Nat → Int32) (k : Nat → Nat) (p : Nat → Nat → Nat) (rd rl : Nat → Nat) (ra : Nat → Option Nat) (hs : Nat → Bool) (sl sa : Nat → Nat) (sc : Nat → Nat → Int32) (hX : XI ((N, B, k, p), (c, rd, rl, ra), (hs, sl, sa, sc), tv, fl) (fl, dT, (nI N, nI B, kf, pf, lf, tf), tT, nI c, df, mf, gf, tv, ln, la, cf)) (x y : Int32)  : Ct l yX7_debts wsX7_debts ({ frames := 6, cells := 0, slots := 0, locals := 136 }) D cy [.ref (A 3 0), .int x, .int y] (wX A cy fl dT (nI N, nI B, kf, pf, lf, tf) tT (nI c) df mf gf tv ln la cf) (fun u : XS => XI (m_debts ((N, B, k, p), (c, rd, rl, ra), (hs, sl, sa, sc), tv, fl) x y).2 u) (fun _ => some (.int (m_debts ((N, B, k, p), (c, rd, rl, ra), (hs, sl, sa, sc), tv, fl) x y).1)) (fun u => wXu A cy u) := by
  refine Ct.of (cc := cX7_debts) (nL := 5) (ret := (some .int)) rfl (by decide) ⟨rfl, rfl⟩ (Nat.le_of_ble_eq_true rfl) ?_
  intro X C E
  have C : Cx X l D cy cX7_debts 5 wsX7_debts RX7 ({ frames := 6, cells := 0, slots := 0, locals := 136 }) := C
  have mh0 : ∀ w ∈ u_ws RX7 TX7 7, w ∈ wsX7_debts := by decide +kernel
  have mh1 : Cond.fieldLink RX7 18 RX7 (TX7 1).2.1 (TX7 1).2.2.1 ∈ wsX7_debts := by decide +kernel
  have mh2 : Cond.fieldLink RX7 12 RX7 (TX7 0).2.1 (TX7 0).2.2.1 ∈ wsX7_debts := by decide +kernel
  have mh3 : ∀ w ∈ u_ws RX5 TX5 7, w ∈ wsX7_debts := by decide +kernel
  have mh4 : Cond.fieldLink RX7 34 RX7 (TX7 4).2.1 (TX7 4).2.2.1 ∈ wsX7_debts := by decide +kernel
  obtain ⟨-, ⟨hB, hN2⟩, hT, hR, hS⟩ := hX
  have hN := hT.n
  have hc8 := hR.1
  have hN30 : N ≤ 2 ^ 30 := by omega
  show J X (wX A cy fl dT (nI N, nI B, kf, pf, lf, tf) tT (nI c) df mf gf tv ln la cf) 0 [(0, .ref (A 3 0)), (1, .int x), (2, .int y)] []
  refine j_aload_n C 0 dX7_debts_0 rfl rfl ?_
  refine j_iload_n C 1 dX7_debts_1 rfl rfl ?_
  refine j_callV0 (As := [.int x]) (rest := []) C (c_X7_isPerson A fl dT tT N B kf pf lf tf c df mf gf tv ln la cf (x) hN) gX7_debts_X7_isPerson rfl 1 rfl (by decide +kernel) (by decide) 0 rfl rfl (Nat.le_of_ble_eq_true rfl) dX7_debts_2 rfl (fun _ _ => ?_)
  show J X (wX A cy fl dT (nI N, nI B, kf, pf, lf, tf) tT (nI c) df mf gf tv ln la cf) 5 [(0, .ref (A 3 0)), (1, .int x), (2, .int y)] [.int (nI (bN ((pOf N (x)).isSome = true)))]
  refine j_if_eqN (tgt := 21) C dX7_debts_5 (by decide) (bN_lt _) (fun c5 => ?_) (fun c5 => ?_)
  · have c5 := bN_0.mp c5
    have qa1 := pOf_n c5
    refine j_iconst (v := (-1)) C dX7_debts_21 (by decide) ?_
    exact j_iret C E dX7_debts_22 (fl, dT, (nI N, nI B, kf, pf, lf, tf), tT, nI c, df, mf, gf, tv, ln, la, cf) (by rw [show m_debts ((N, B, k, p), (c, rd, rl, ra), (hs, sl, sa, sc), tv, fl) x y = ((-1), ((N, B, k, p), (c, rd, rl, ra), (hs, sl, sa, sc), tv, fl)) from (by simp only [m_debts, qa1]; try rfl)]; exact XI.mk hB hN2 hT hR hS) (by rw [show m_debts ((N, B, k, p), (c, rd, rl, ra), (hs, sl, sa, sc), tv, fl) x y = ((-1), ((N, B, k, p), (c, rd, rl, ra), (hs, sl, sa, sc), tv, fl)) from (by simp only [m_debts, qa1]; try rfl)]) rfl
  · have c5 := bN_1.mp c5
    obtain ⟨a1, ha1, rfl⟩ := pY hN30 c5
    have qa1 := pI ha1 hN30
    show J X (wX A cy fl dT (nI N, nI B, kf, pf, lf, tf) tT (nI c) df mf gf tv ln la cf) 8 [(0, .ref (A 3 0)), (1, .int (nI a1)), (2, .int y)] []
    refine j_aload_n C 0 dX7_debts_8 rfl rfl ?_
    refine j_iload_n C 2 dX7_debts_9 rfl rfl ?_
    refine j_callV0 (As := [.int y]) (rest := []) C (c_X7_isPerson A fl dT tT N B kf pf lf tf c df mf gf tv ln la cf (y) hN) gX7_debts_X7_isPerson rfl 1 rfl (by decide +kernel) (by decide) 0 rfl rfl (Nat.le_of_ble_eq_true rfl) dX7_debts_10 rfl (fun _ _ => ?_)
    show J X (wX A cy fl dT (nI N, nI B, kf, pf, lf, tf) tT (nI c) df mf gf tv ln la cf) 13 [(0, .ref (A 3 0)), (1, .int (nI a1)), (2, .int y)] [.int (nI (bN ((pOf N (y)).isSome = true)))]
    refine j_if_eqN (tgt := 21) C dX7_debts_13 (by decide) (bN_lt _) (fun c13 => ?_) (fun c13 => ?_)
    · have c13 := bN_0.mp c13
      have qa2 := pOf_n c13
      refine j_iconst (v := (-1)) C dX7_debts_21 (by decide) ?_
      exact j_iret C E dX7_debts_22 (fl, dT, (nI N, nI B, kf, pf, lf, tf), tT, nI c, df, mf, gf, tv, ln, la, cf) (by rw [show m_debts ((N, B, k, p), (c, rd, rl, ra), (hs, sl, sa, sc), tv, fl) (nI a1) y = ((-1), ((N, B, k, p), (c, rd, rl, ra), (hs, sl, sa, sc), tv, fl)) from (by simp only [m_debts, qa1, qa2]; try rfl)]; exact XI.mk hB hN2 hT hR hS) (by rw [show m_debts ((N, B, k, p), (c, rd, rl, ra), (hs, sl, sa, sc), tv, fl) (nI a1) y = ((-1), ((N, B, k, p), (c, rd, rl, ra), (hs, sl, sa, sc), tv, fl)) from (by simp only [m_debts, qa1, qa2]; try rfl)]) rfl
    · have c13 := bN_1.mp c13
      obtain ⟨a2, ha2, rfl⟩ := pY hN30 c13
      have qa2 := pI ha2 hN30
      show J X (wX A cy fl dT (nI N, nI B, kf, pf, lf, tf) tT (nI c) df mf gf tv ln la cf) 16 [(0, .ref (A 3 0)), (1, .int (nI a1)), (2, .int (nI a2))] []
      refine j_iload_n C 1 dX7_debts_16 rfl rfl ?_
      refine j_iload_n C 2 dX7_debts_17 rfl rfl ?_
      refine j_icmp_neN (tgt := 23) C dX7_debts_18 (by decide) (by omega) (by omega) (fun c18 => ?_) (fun c18 => ?_)
      · refine j_iconst (v := nI 0) C dX7_debts_23 (by decide) ?_
        refine j_istore_n (lv' := [(3, .int (nI 0)), (0, .ref (A 3 0)), (1, .int (nI a1)), (2, .int (nI a2))]) C dX7_debts_24 rfl (by decide) rfl ?_
        refine j_iconst (v := nI 0) C dX7_debts_25 (by decide) ?_
        refine j_istore (lv' := [(4, .int (nI 0)), (3, .int (nI 0)), (0, .ref (A 3 0)), (1, .int (nI a1)), (2, .int (nI a2))]) C dX7_debts_26 (by decide) rfl ?_
        refine J.sub [2, 3, 4, 1, 0] rfl ?_
        have L28 : ∀ (n : Nat) (i : Nat) (tT1 : TwS), 10 - i < n → i ≤ 10 → J X (wX A cy fl dT (nI N, nI B, kf, pf, lf, tf) tT1 (nI c) df mf gf tv ln la cf) 28 [(0, .ref (A 3 0)), (1, .int (nI a1)), (2, .int (nI a2)), (3, .int (nI (bset (fun v => soT N B c k (setp p a1 a2 v) rd rl ra 11) i))), (4, .int (nI i))] [] := by
          intro n
          induction n with
          | zero => intro i tT1 hm; exact absurd hm (Nat.not_lt_zero _)
          | succ n ih28 =>
            intro i tT1 h28_0 h28_1
            refine j_iload C 4 dX7_debts_28 rfl ?_
            refine j_bipush (v := nI 9) C dX7_debts_30 (by decide) ?_
            refine j_icmp_gtN (tgt := 86) C dX7_debts_32 (by decide) (by omega) (by omega) (fun c32 => ?_) (fun c32 => ?_)
            · refine j_iload_n C 3 dX7_debts_86 rfl rfl ?_
              exact j_iret C E dX7_debts_87 (fl, dT, (nI N, nI B, kf, pf, lf, tf), tT1, nI c, df, mf, gf, tv, ln, la, cf) (by rw [show m_debts ((N, B, k, p), (c, rd, rl, ra), (hs, sl, sa, sc), tv, fl) (nI a1) (nI a2) = (nI (bset (fun v => soT N B c k (setp p a1 a2 v) rd rl ra 11) i), ((N, B, k, p), (c, rd, rl, ra), (hs, sl, sa, sc), tv, fl)) from (by simp only [m_debts, qa1, qa2, c18, if_false, show i = 10 by omega])]; exact XI.mk hB hN2 hT hR hS) (by rw [show m_debts ((N, B, k, p), (c, rd, rl, ra), (hs, sl, sa, sc), tv, fl) (nI a1) (nI a2) = (nI (bset (fun v => soT N B c k (setp p a1 a2 v) rd rl ra 11) i), ((N, B, k, p), (c, rd, rl, ra), (hs, sl, sa, sc), tv, fl)) from (by simp only [m_debts, qa1, qa2, c18, if_false, show i = 10 by omega])]) rfl
            · refine j_aload_n C 0 dX7_debts_35 rfl rfl ?_
              refine j_get C mh0 1 mh1 0 rfl rfl (by decide) rfl rfl dX7_debts_36 ?_
              refine j_aload_n C 0 dX7_debts_39 rfl rfl ?_
              refine j_get C mh0 0 mh2 0 rfl rfl (by decide) rfl rfl dX7_debts_40 ?_
              refine jx_NT (tT' := fun _ => (nI N, nI B, fil kf tT1.2.2.1 6, filR pf tT1.2.2.2.1 6, tT1.2.2.2.2.1, tT1.2.2.2.2.2)) (As := [.ref (A 1 0)]) (rest := []) C (c_X5_becomeLike (A 1) (A 2) (nI N) (nI B) tT1.1 tT1.2.1 kf tT1.2.2.1 pf tT1.2.2.2.1 lf tf tT1.2.2.2.2.1 tT1.2.2.2.2.2) gX7_debts_X5_becomeLike rfl 1 rfl (by decide +kernel) (by decide) (Nat.le_of_ble_eq_true rfl) dX7_debts_43 rfl (fun _ _ => ?_)
              show J X (wX A cy fl dT (nI N, nI B, kf, pf, lf, tf) (nI N, nI B, fil kf tT1.2.2.1 6, filR pf tT1.2.2.2.1 6, tT1.2.2.2.2.1, tT1.2.2.2.2.2) (nI c) df mf gf tv ln la cf) 46 [(0, .ref (A 3 0)), (1, .int (nI a1)), (2, .int (nI a2)), (3, .int (nI (bset (fun v => soT N B c k (setp p a1 a2 v) rd rl ra 11) i))), (4, .int (nI i))] []
              refine j_aload_n C 0 dX7_debts_46 rfl rfl ?_
              refine j_get C mh0 1 mh1 0 rfl rfl (by decide) rfl rfl dX7_debts_47 ?_
              refine j_getN C mh3 2 (by decide +kernel) 31 rfl rfl (by decide) rfl rfl dX7_debts_50 ?_
              refine j_iload_n C 1 dX7_debts_53 rfl rfl ?_
              refine j_gald (b := A 2 (9 + a1)) C 34 rfl (by omega) (by decide) (wT_out (by omega)) dX7_debts_54 ?_
              refine j_iload_n C 2 dX7_debts_55 rfl rfl ?_
              refine j_iload C 4 dX7_debts_56 rfl ?_
              refine j_iast (ws' := wX A cy fl dT (nI N, nI B, kf, pf, lf, tf) (nI N, nI B, fil kf tT1.2.2.1 6, updR (filR pf tT1.2.2.2.1 6) a1 (upd ((filR pf tT1.2.2.2.1 6) a1) a2 (nI i)), tT1.2.2.2.2.1, tT1.2.2.2.2.2) (nI c) df mf gf tv ln la cf) C (40 + a1) (wX_tr (by omega)) (by omega) (by decide) (wX_ts (by omega)) dX7_debts_58 ?_
              refine j_aload_n C 0 dX7_debts_59 rfl rfl ?_
              refine j_get C mh0 4 mh4 0 rfl rfl (by decide) rfl rfl dX7_debts_60 ?_
              refine j_aload_n C 0 dX7_debts_63 rfl rfl ?_
              refine j_get C mh0 1 mh1 0 rfl rfl (by decide) rfl rfl dX7_debts_64 ?_
              refine jx_TR (tT' := fun u : (Nat → Nat → Int32) × (Nat → Int32) × (Nat → Int32) => (nI N, nI B, fil kf tT1.2.2.1 6, u.1, u.2.1, u.2.2)) (As := [.ref (A 2 0)]) (rest := []) C (c_X2_areSo (A 2) N B (fil kf tT1.2.2.1 6) (updR (filR pf tT1.2.2.2.1 6) a1 (upd ((filR pf tT1.2.2.2.1 6) a1) a2 (nI i))) tT1.2.2.2.2.1 tT1.2.2.2.2.2 k (setp p a1 a2 i) (hT.cp.setp (by omega) c18 (by omega)) (A 3 1) (A 3 2) (A 3 3) (A 3 4) c df mf gf rd rl ra hR hB) gX7_debts_X2_areSo rfl 1 rfl (by decide +kernel) (by decide) (Nat.le_of_ble_eq_true rfl) dX7_debts_67 rfl (fun u _ => ?_)
              show J X (wX A cy fl dT (nI N, nI B, kf, pf, lf, tf) (nI N, nI B, fil kf tT1.2.2.1 6, u.1, u.2.1, u.2.2) (nI c) df mf gf tv ln la cf) 70 [(0, .ref (A 3 0)), (1, .int (nI a1)), (2, .int (nI a2)), (3, .int (nI (bset (fun v => soT N B c k (setp p a1 a2 v) rd rl ra 11) i))), (4, .int (nI i))] [.int (nI (bN (soT N B c k (setp p a1 a2 i) rd rl ra 11 = true)))]
              refine j_if_eqN (tgt := 80) C dX7_debts_70 (by decide) (bN_lt _) (fun c70 => ?_) (fun c70 => ?_)
              · have c70 := bN_0.mp c70
                refine j_iinc (v := nI (i + 1)) (lv' := [(4, .int (nI (i + 1))), (0, .ref (A 3 0)), (1, .int (nI a1)), (2, .int (nI a2)), (3, .int (nI (bset (fun v => soT N B c k (setp p a1 a2 v) rd rl ra 11) i)))]) C 4 dX7_debts_80 rfl (nI_inc i) (by decide) rfl ?_
                refine j_goto (tgt := 28) C dX7_debts_83 (by decide) ?_
                refine J.sub [1, 2, 3, 4, 0] rfl ?_
                have e := ih28 (i + 1) (nI N, nI B, fil kf tT1.2.2.1 6, u.1, u.2.1, u.2.2) (by omega) (by omega)
                first
                  | (rw [bset_n (P := (fun v => soT N B c k (setp p a1 a2 v) rd rl ra 11)) (n := i) (Bool.eq_false_iff.mpr c70)] at e; exact e)
                  | (rw [bset_y (P := (fun v => soT N B c k (setp p a1 a2 v) rd rl ra 11)) (n := i) c70] at e; exact e)
              · have c70 := bN_1.mp c70
                refine j_iload_n C 3 dX7_debts_73 rfl rfl ?_
                refine j_iconst (v := nI 1) C dX7_debts_74 (by decide) ?_
                refine j_iload C 4 dX7_debts_75 rfl ?_
                refine j_ishl (v := nI (2 ^ i)) C dX7_debts_77 (sh_l (by omega)) ?_
                refine j_ior (v := nI (bset (fun v => soT N B c k (setp p a1 a2 v) rd rl ra 11) i + 2 ^ i)) C dX7_debts_78 (or_2 (bset_lt _ _)) ?_
                refine j_istore_n (lv' := [(3, .int (nI (bset (fun v => soT N B c k (setp p a1 a2 v) rd rl ra 11) i + 2 ^ i))), (0, .ref (A 3 0)), (1, .int (nI a1)), (2, .int (nI a2)), (4, .int (nI i))]) C dX7_debts_79 rfl (by decide) rfl ?_
                refine j_iinc (v := nI (i + 1)) (lv' := [(4, .int (nI (i + 1))), (3, .int (nI (bset (fun v => soT N B c k (setp p a1 a2 v) rd rl ra 11) i + 2 ^ i))), (0, .ref (A 3 0)), (1, .int (nI a1)), (2, .int (nI a2))]) C 4 dX7_debts_80 rfl (nI_inc i) (by decide) rfl ?_
                refine j_goto (tgt := 28) C dX7_debts_83 (by decide) ?_
                refine J.sub [2, 3, 4, 1, 0] rfl ?_
                have e := ih28 (i + 1) (nI N, nI B, fil kf tT1.2.2.1 6, u.1, u.2.1, u.2.2) (by omega) (by omega)
                first
                  | (rw [bset_n (P := (fun v => soT N B c k (setp p a1 a2 v) rd rl ra 11)) (n := i) (Bool.eq_false_iff.mpr c70)] at e; exact e)
                  | (rw [bset_y (P := (fun v => soT N B c k (setp p a1 a2 v) rd rl ra 11)) (n := i) c70] at e; exact e)
        have e := L28 11 0 tT (by omega) (by omega)
        exact e
      · refine j_iconst (v := (-1)) C dX7_debts_21 (by decide) ?_
        exact j_iret C E dX7_debts_22 (fl, dT, (nI N, nI B, kf, pf, lf, tf), tT, nI c, df, mf, gf, tv, ln, la, cf) (by rw [show m_debts ((N, B, k, p), (c, rd, rl, ra), (hs, sl, sa, sc), tv, fl) (nI a1) (nI a2) = ((-1), ((N, B, k, p), (c, rd, rl, ra), (hs, sl, sa, sc), tv, fl)) from (by simp only [m_debts, qa1, qa2, c18]; try rfl)]; exact XI.mk hB hN2 hT hR hS) (by rw [show m_debts ((N, B, k, p), (c, rd, rl, ra), (hs, sl, sa, sc), tv, fl) (nI a1) (nI a2) = ((-1), ((N, B, k, p), (c, rd, rl, ra), (hs, sl, sa, sc), tv, fl)) from (by simp only [m_debts, qa1, qa2, c18]; try rfl)]) rfl
set_option maxHeartbeats 4000000 in
set_option maxRecDepth 20000 in
theorem c_X7_kinds {l : Launch} {D : va_G} {cy : Nat → ClassId} (A : Nat → Nat → Nat) (fl : Int32) (dT tT : TwS) (N B : Nat) (kf : Nat → Int32) (pf : Nat → Nat → Int32) (lf tf : Nat → Int32) (c : Nat) (df mf gf : Nat → Int32) (tv : Int32) (ln la : Nat → Int32) (cf : Nat → Nat → Int32) (k : Nat → Nat) (p : Nat → Nat → Nat) (rd rl : Nat → Nat) (ra : Nat → Option Nat) (hs : Nat → Bool) (sl sa : Nat → Nat) (sc : Nat → Nat → Int32) (hX : XI ((N, B, k, p), (c, rd, rl, ra), (hs, sl, sa, sc), tv, fl) (fl, dT, (nI N, nI B, kf, pf, lf, tf), tT, nI c, df, mf, gf, tv, ln, la, cf)) (x : Int32)  : Ct l yX7_kinds wsX7_kinds ({ frames := 6, cells := 0, slots := 0, locals := 136 }) D cy [.ref (A 3 0), .int x] (wX A cy fl dT (nI N, nI B, kf, pf, lf, tf) tT (nI c) df mf gf tv ln la cf) (fun u : XS => XI (m_kinds ((N, B, k, p), (c, rd, rl, ra), (hs, sl, sa, sc), tv, fl) x).2 u) (fun _ => some (.int (m_kinds ((N, B, k, p), (c, rd, rl, ra), (hs, sl, sa, sc), tv, fl) x).1)) (fun u => wXu A cy u) := by
  refine Ct.of (cc := cX7_kinds) (nL := 4) (ret := (some .int)) rfl (by decide) ⟨rfl, rfl⟩ (Nat.le_of_ble_eq_true rfl) ?_
  intro X C E
  have C : Cx X l D cy cX7_kinds 4 wsX7_kinds RX7 ({ frames := 6, cells := 0, slots := 0, locals := 136 }) := C
  have mh0 : ∀ w ∈ u_ws RX7 TX7 7, w ∈ wsX7_kinds := by decide +kernel
  have mh1 : Cond.fieldLink RX7 18 RX7 (TX7 1).2.1 (TX7 1).2.2.1 ∈ wsX7_kinds := by decide +kernel
  have mh2 : Cond.fieldLink RX7 12 RX7 (TX7 0).2.1 (TX7 0).2.2.1 ∈ wsX7_kinds := by decide +kernel
  have mh3 : ∀ w ∈ u_ws RX5 TX5 7, w ∈ wsX7_kinds := by decide +kernel
  have mh4 : Cond.fieldLink RX7 34 RX7 (TX7 4).2.1 (TX7 4).2.2.1 ∈ wsX7_kinds := by decide +kernel
  obtain ⟨-, ⟨hB, hN2⟩, hT, hR, hS⟩ := hX
  have hN := hT.n
  have hc8 := hR.1
  have hN30 : N ≤ 2 ^ 30 := by omega
  show J X (wX A cy fl dT (nI N, nI B, kf, pf, lf, tf) tT (nI c) df mf gf tv ln la cf) 0 [(0, .ref (A 3 0)), (1, .int x)] []
  refine j_aload_n C 0 dX7_kinds_0 rfl rfl ?_
  refine j_iload_n C 1 dX7_kinds_1 rfl rfl ?_
  refine j_callV0 (As := [.int x]) (rest := []) C (c_X7_isPerson A fl dT tT N B kf pf lf tf c df mf gf tv ln la cf (x) hN) gX7_kinds_X7_isPerson rfl 1 rfl (by decide +kernel) (by decide) 0 rfl rfl (Nat.le_of_ble_eq_true rfl) dX7_kinds_2 rfl (fun _ _ => ?_)
  show J X (wX A cy fl dT (nI N, nI B, kf, pf, lf, tf) tT (nI c) df mf gf tv ln la cf) 5 [(0, .ref (A 3 0)), (1, .int x)] [.int (nI (bN ((pOf N (x)).isSome = true)))]
  refine j_if_neN (tgt := 10) C dX7_kinds_5 (by decide) (bN_lt _) (fun c5 => ?_) (fun c5 => ?_)
  · have c5 := bN_1.mp c5
    obtain ⟨a1, ha1, rfl⟩ := pY hN30 c5
    have qa1 := pI ha1 hN30
    show J X (wX A cy fl dT (nI N, nI B, kf, pf, lf, tf) tT (nI c) df mf gf tv ln la cf) 10 [(0, .ref (A 3 0)), (1, .int (nI a1))] []
    refine j_iconst (v := nI 0) C dX7_kinds_10 (by decide) ?_
    refine j_istore_n (lv' := [(2, .int (nI 0)), (0, .ref (A 3 0)), (1, .int (nI a1))]) C dX7_kinds_11 rfl (by decide) rfl ?_
    refine j_iconst (v := nI 0) C dX7_kinds_12 (by decide) ?_
    refine j_istore_n (lv' := [(3, .int (nI 0)), (2, .int (nI 0)), (0, .ref (A 3 0)), (1, .int (nI a1))]) C dX7_kinds_13 rfl (by decide) rfl ?_
    refine J.sub [2, 3, 1, 0] rfl ?_
    have L14 : ∀ (n : Nat) (i : Nat) (tT1 : TwS), 3 - i < n → i ≤ 3 → J X (wX A cy fl dT (nI N, nI B, kf, pf, lf, tf) tT1 (nI c) df mf gf tv ln la cf) 14 [(0, .ref (A 3 0)), (1, .int (nI a1)), (2, .int (nI (bset (fun v => soT N B c (upN k a1 v) p rd rl ra 11) i))), (3, .int (nI i))] [] := by
      intro n
      induction n with
      | zero => intro i tT1 hm; exact absurd hm (Nat.not_lt_zero _)
      | succ n ih14 =>
        intro i tT1 h14_0 h14_1
        refine j_iload_n C 3 dX7_kinds_14 rfl rfl ?_
        refine j_iconst (v := nI 2) C dX7_kinds_15 (by decide) ?_
        refine j_icmp_gtN (tgt := 66) C dX7_kinds_16 (by decide) (by omega) (by omega) (fun c16 => ?_) (fun c16 => ?_)
        · refine j_iload_n C 2 dX7_kinds_66 rfl rfl ?_
          exact j_iret C E dX7_kinds_67 (fl, dT, (nI N, nI B, kf, pf, lf, tf), tT1, nI c, df, mf, gf, tv, ln, la, cf) (by rw [show m_kinds ((N, B, k, p), (c, rd, rl, ra), (hs, sl, sa, sc), tv, fl) (nI a1) = (nI (bset (fun v => soT N B c (upN k a1 v) p rd rl ra 11) i), ((N, B, k, p), (c, rd, rl, ra), (hs, sl, sa, sc), tv, fl)) from (by simp only [m_kinds, qa1, show i = 3 by omega])]; exact XI.mk hB hN2 hT hR hS) (by rw [show m_kinds ((N, B, k, p), (c, rd, rl, ra), (hs, sl, sa, sc), tv, fl) (nI a1) = (nI (bset (fun v => soT N B c (upN k a1 v) p rd rl ra 11) i), ((N, B, k, p), (c, rd, rl, ra), (hs, sl, sa, sc), tv, fl)) from (by simp only [m_kinds, qa1, show i = 3 by omega])]) rfl
        · refine j_aload_n C 0 dX7_kinds_19 rfl rfl ?_
          refine j_get C mh0 1 mh1 0 rfl rfl (by decide) rfl rfl dX7_kinds_20 ?_
          refine j_aload_n C 0 dX7_kinds_23 rfl rfl ?_
          refine j_get C mh0 0 mh2 0 rfl rfl (by decide) rfl rfl dX7_kinds_24 ?_
          refine jx_NT (tT' := fun _ => (nI N, nI B, fil kf tT1.2.2.1 6, filR pf tT1.2.2.2.1 6, tT1.2.2.2.2.1, tT1.2.2.2.2.2)) (As := [.ref (A 1 0)]) (rest := []) C (c_X5_becomeLike (A 1) (A 2) (nI N) (nI B) tT1.1 tT1.2.1 kf tT1.2.2.1 pf tT1.2.2.2.1 lf tf tT1.2.2.2.2.1 tT1.2.2.2.2.2) gX7_kinds_X5_becomeLike rfl 1 rfl (by decide +kernel) (by decide) (Nat.le_of_ble_eq_true rfl) dX7_kinds_27 rfl (fun _ _ => ?_)
          show J X (wX A cy fl dT (nI N, nI B, kf, pf, lf, tf) (nI N, nI B, fil kf tT1.2.2.1 6, filR pf tT1.2.2.2.1 6, tT1.2.2.2.2.1, tT1.2.2.2.2.2) (nI c) df mf gf tv ln la cf) 30 [(0, .ref (A 3 0)), (1, .int (nI a1)), (2, .int (nI (bset (fun v => soT N B c (upN k a1 v) p rd rl ra 11) i))), (3, .int (nI i))] []
          refine j_aload_n C 0 dX7_kinds_30 rfl rfl ?_
          refine j_get C mh0 1 mh1 0 rfl rfl (by decide) rfl rfl dX7_kinds_31 ?_
          refine j_getN C mh3 1 (by decide +kernel) 31 rfl rfl (by decide) rfl rfl dX7_kinds_34 ?_
          refine j_iload_n C 1 dX7_kinds_37 rfl rfl ?_
          refine j_iload_n C 3 dX7_kinds_38 rfl rfl ?_
          refine j_iast (ws' := wX A cy fl dT (nI N, nI B, kf, pf, lf, tf) (nI N, nI B, upd (fil kf tT1.2.2.1 6) a1 (nI i), filR pf tT1.2.2.2.1 6, tT1.2.2.2.2.1, tT1.2.2.2.2.2) (nI c) df mf gf tv ln la cf) C 33 rfl (by omega) (by decide) rfl dX7_kinds_39 ?_
          refine j_aload_n C 0 dX7_kinds_40 rfl rfl ?_
          refine j_get C mh0 4 mh4 0 rfl rfl (by decide) rfl rfl dX7_kinds_41 ?_
          refine j_aload_n C 0 dX7_kinds_44 rfl rfl ?_
          refine j_get C mh0 1 mh1 0 rfl rfl (by decide) rfl rfl dX7_kinds_45 ?_
          refine jx_TR (tT' := fun u : (Nat → Nat → Int32) × (Nat → Int32) × (Nat → Int32) => (nI N, nI B, upd (fil kf tT1.2.2.1 6) a1 (nI i), u.1, u.2.1, u.2.2)) (As := [.ref (A 2 0)]) (rest := []) C (c_X2_areSo (A 2) N B (upd (fil kf tT1.2.2.1 6) a1 (nI i)) (filR pf tT1.2.2.2.1 6) tT1.2.2.2.2.1 tT1.2.2.2.2.2 (upN k a1 i) p (hT.cp.setk (by omega)) (A 3 1) (A 3 2) (A 3 3) (A 3 4) c df mf gf rd rl ra hR hB) gX7_kinds_X2_areSo rfl 1 rfl (by decide +kernel) (by decide) (Nat.le_of_ble_eq_true rfl) dX7_kinds_48 rfl (fun u _ => ?_)
          show J X (wX A cy fl dT (nI N, nI B, kf, pf, lf, tf) (nI N, nI B, upd (fil kf tT1.2.2.1 6) a1 (nI i), u.1, u.2.1, u.2.2) (nI c) df mf gf tv ln la cf) 51 [(0, .ref (A 3 0)), (1, .int (nI a1)), (2, .int (nI (bset (fun v => soT N B c (upN k a1 v) p rd rl ra 11) i))), (3, .int (nI i))] [.int (nI (bN (soT N B c (upN k a1 i) p rd rl ra 11 = true)))]
          refine j_if_eqN (tgt := 60) C dX7_kinds_51 (by decide) (bN_lt _) (fun c51 => ?_) (fun c51 => ?_)
          · have c51 := bN_0.mp c51
            refine j_iinc (v := nI (i + 1)) (lv' := [(3, .int (nI (i + 1))), (0, .ref (A 3 0)), (1, .int (nI a1)), (2, .int (nI (bset (fun v => soT N B c (upN k a1 v) p rd rl ra 11) i)))]) C 3 dX7_kinds_60 rfl (nI_inc i) (by decide) rfl ?_
            refine j_goto (tgt := 14) C dX7_kinds_63 (by decide) ?_
            refine J.sub [1, 2, 3, 0] rfl ?_
            have e := ih14 (i + 1) (nI N, nI B, upd (fil kf tT1.2.2.1 6) a1 (nI i), u.1, u.2.1, u.2.2) (by omega) (by omega)
            first
              | (rw [bset_n (P := (fun v => soT N B c (upN k a1 v) p rd rl ra 11)) (n := i) (Bool.eq_false_iff.mpr c51)] at e; exact e)
              | (rw [bset_y (P := (fun v => soT N B c (upN k a1 v) p rd rl ra 11)) (n := i) c51] at e; exact e)
          · have c51 := bN_1.mp c51
            refine j_iload_n C 2 dX7_kinds_54 rfl rfl ?_
            refine j_iconst (v := nI 1) C dX7_kinds_55 (by decide) ?_
            refine j_iload_n C 3 dX7_kinds_56 rfl rfl ?_
            refine j_ishl (v := nI (2 ^ i)) C dX7_kinds_57 (sh_l (by omega)) ?_
            refine j_ior (v := nI (bset (fun v => soT N B c (upN k a1 v) p rd rl ra 11) i + 2 ^ i)) C dX7_kinds_58 (or_2 (bset_lt _ _)) ?_
            refine j_istore_n (lv' := [(2, .int (nI (bset (fun v => soT N B c (upN k a1 v) p rd rl ra 11) i + 2 ^ i))), (0, .ref (A 3 0)), (1, .int (nI a1)), (3, .int (nI i))]) C dX7_kinds_59 rfl (by decide) rfl ?_
            refine j_iinc (v := nI (i + 1)) (lv' := [(3, .int (nI (i + 1))), (2, .int (nI (bset (fun v => soT N B c (upN k a1 v) p rd rl ra 11) i + 2 ^ i))), (0, .ref (A 3 0)), (1, .int (nI a1))]) C 3 dX7_kinds_60 rfl (nI_inc i) (by decide) rfl ?_
            refine j_goto (tgt := 14) C dX7_kinds_63 (by decide) ?_
            refine J.sub [2, 3, 1, 0] rfl ?_
            have e := ih14 (i + 1) (nI N, nI B, upd (fil kf tT1.2.2.1 6) a1 (nI i), u.1, u.2.1, u.2.2) (by omega) (by omega)
            first
              | (rw [bset_n (P := (fun v => soT N B c (upN k a1 v) p rd rl ra 11)) (n := i) (Bool.eq_false_iff.mpr c51)] at e; exact e)
              | (rw [bset_y (P := (fun v => soT N B c (upN k a1 v) p rd rl ra 11)) (n := i) c51] at e; exact e)
    have e := L14 4 0 tT (by omega) (by omega)
    exact e
  · have c5 := bN_0.mp c5
    have qa1 := pOf_n c5
    refine j_iconst (v := (-1)) C dX7_kinds_8 (by decide) ?_
    exact j_iret C E dX7_kinds_9 (fl, dT, (nI N, nI B, kf, pf, lf, tf), tT, nI c, df, mf, gf, tv, ln, la, cf) (by rw [show m_kinds ((N, B, k, p), (c, rd, rl, ra), (hs, sl, sa, sc), tv, fl) x = ((-1), ((N, B, k, p), (c, rd, rl, ra), (hs, sl, sa, sc), tv, fl)) from (by simp only [m_kinds, qa1])]; exact XI.mk hB hN2 hT hR hS) (by rw [show m_kinds ((N, B, k, p), (c, rd, rl, ra), (hs, sl, sa, sc), tv, fl) x = ((-1), ((N, B, k, p), (c, rd, rl, ra), (hs, sl, sa, sc), tv, fl)) from (by simp only [m_kinds, qa1])]) rfl
set_option maxHeartbeats 4000000 in
set_option maxRecDepth 20000 in
theorem c_X7_bells {l : Launch} {D : va_G} {cy : Nat → ClassId} (A : Nat → Nat → Nat) (fl : Int32) (dT tT : TwS) (N B : Nat) (kf : Nat → Int32) (pf : Nat → Nat → Int32) (lf tf : Nat → Int32) (c : Nat) (df mf gf : Nat → Int32) (tv : Int32) (ln la : Nat → Int32) (cf : Nat → Nat → Int32) (k : Nat → Nat) (p : Nat → Nat → Nat) (rd rl : Nat → Nat) (ra : Nat → Option Nat) (hs : Nat → Bool) (sl sa : Nat → Nat) (sc : Nat → Nat → Int32) (hX : XI ((N, B, k, p), (c, rd, rl, ra), (hs, sl, sa, sc), tv, fl) (fl, dT, (nI N, nI B, kf, pf, lf, tf), tT, nI c, df, mf, gf, tv, ln, la, cf))  : Ct l yX7_bells wsX7_bells ({ frames := 6, cells := 0, slots := 0, locals := 136 }) D cy [.ref (A 3 0)] (wX A cy fl dT (nI N, nI B, kf, pf, lf, tf) tT (nI c) df mf gf tv ln la cf) (fun u : XS => XI (m_bells ((N, B, k, p), (c, rd, rl, ra), (hs, sl, sa, sc), tv, fl)).2 u) (fun _ => some (.int (m_bells ((N, B, k, p), (c, rd, rl, ra), (hs, sl, sa, sc), tv, fl)).1)) (fun u => wXu A cy u) := by
  refine Ct.of (cc := cX7_bells) (nL := 3) (ret := (some .int)) rfl (by decide) ⟨rfl, rfl⟩ (Nat.le_of_ble_eq_true rfl) ?_
  intro X C E
  have C : Cx X l D cy cX7_bells 3 wsX7_bells RX7 ({ frames := 6, cells := 0, slots := 0, locals := 136 }) := C
  have mh0 : ∀ w ∈ u_ws RX7 TX7 7, w ∈ wsX7_bells := by decide +kernel
  have mh1 : Cond.fieldLink RX7 18 RX7 (TX7 1).2.1 (TX7 1).2.2.1 ∈ wsX7_bells := by decide +kernel
  have mh2 : Cond.fieldLink RX7 12 RX7 (TX7 0).2.1 (TX7 0).2.2.1 ∈ wsX7_bells := by decide +kernel
  have mh3 : ∀ w ∈ u_ws RX5 TX5 7, w ∈ wsX7_bells := by decide +kernel
  have mh4 : Cond.fieldLink RX7 34 RX7 (TX7 4).2.1 (TX7 4).2.2.1 ∈ wsX7_bells := by decide +kernel
  obtain ⟨-, ⟨hB, hN2⟩, hT, hR, hS⟩ := hX
  have hN := hT.n
  have hc8 := hR.1
  have hN30 : N ≤ 2 ^ 30 := by omega
  show J X (wX A cy fl dT (nI N, nI B, kf, pf, lf, tf) tT (nI c) df mf gf tv ln la cf) 0 [(0, .ref (A 3 0))] []
  refine j_aload_n C 0 dX7_bells_0 rfl rfl ?_
  refine j_callV0 (As := []) (rest := []) C (c_X7_hasTown A fl dT tT N B kf pf lf tf c df mf gf tv ln la cf hN) gX7_bells_X7_hasTown rfl 0 rfl (by decide +kernel) (by decide) 0 rfl rfl (Nat.le_of_ble_eq_true rfl) dX7_bells_1 rfl (fun _ _ => ?_)
  show J X (wX A cy fl dT (nI N, nI B, kf, pf, lf, tf) tT (nI c) df mf gf tv ln la cf) 4 [(0, .ref (A 3 0))] [.int (nI (bN (¬ N = 0)))]
  refine j_if_neN (tgt := 10) C dX7_bells_4 (by decide) (bN_lt _) (fun c4 => ?_) (fun c4 => ?_)
  · have c4 := bN_1.mp c4
    refine j_iconst (v := nI 0) C dX7_bells_10 (by decide) ?_
    refine j_istore_n (lv' := [(1, .int (nI 0)), (0, .ref (A 3 0))]) C dX7_bells_11 rfl (by decide) rfl ?_
    refine j_iconst (v := nI 0) C dX7_bells_12 (by decide) ?_
    refine j_istore_n (lv' := [(2, .int (nI 0)), (1, .int (nI 0)), (0, .ref (A 3 0))]) C dX7_bells_13 rfl (by decide) rfl ?_
    refine J.sub [2, 1, 0] rfl ?_
    have L14 : ∀ (n : Nat) (i : Nat) (tT1 : TwS), 10 - i < n → i ≤ 10 → J X (wX A cy fl dT (nI N, nI B, kf, pf, lf, tf) tT1 (nI c) df mf gf tv ln la cf) 14 [(0, .ref (A 3 0)), (1, .int (nI (bset (fun v => soT N v c k p rd rl ra 11) i))), (2, .int (nI i))] [] := by
      intro n
      induction n with
      | zero => intro i tT1 hm; exact absurd hm (Nat.not_lt_zero _)
      | succ n ih14 =>
        intro i tT1 h14_0 h14_1
        refine j_iload_n C 2 dX7_bells_14 rfl rfl ?_
        refine j_bipush (v := nI 9) C dX7_bells_15 (by decide) ?_
        refine j_icmp_gtN (tgt := 65) C dX7_bells_17 (by decide) (by omega) (by omega) (fun c17 => ?_) (fun c17 => ?_)
        · refine j_iload_n C 1 dX7_bells_65 rfl rfl ?_
          exact j_iret C E dX7_bells_66 (fl, dT, (nI N, nI B, kf, pf, lf, tf), tT1, nI c, df, mf, gf, tv, ln, la, cf) (by rw [show m_bells ((N, B, k, p), (c, rd, rl, ra), (hs, sl, sa, sc), tv, fl) = (nI (bset (fun v => soT N v c k p rd rl ra 11) i), ((N, B, k, p), (c, rd, rl, ra), (hs, sl, sa, sc), tv, fl)) from (by simp only [m_bells, c4, if_false, show i = 10 by omega])]; exact XI.mk hB hN2 hT hR hS) (by rw [show m_bells ((N, B, k, p), (c, rd, rl, ra), (hs, sl, sa, sc), tv, fl) = (nI (bset (fun v => soT N v c k p rd rl ra 11) i), ((N, B, k, p), (c, rd, rl, ra), (hs, sl, sa, sc), tv, fl)) from (by simp only [m_bells, c4, if_false, show i = 10 by omega])]) rfl
        · refine j_aload_n C 0 dX7_bells_20 rfl rfl ?_
          refine j_get C mh0 1 mh1 0 rfl rfl (by decide) rfl rfl dX7_bells_21 ?_
          refine j_aload_n C 0 dX7_bells_24 rfl rfl ?_
          refine j_get C mh0 0 mh2 0 rfl rfl (by decide) rfl rfl dX7_bells_25 ?_
          refine jx_NT (tT' := fun _ => (nI N, nI B, fil kf tT1.2.2.1 6, filR pf tT1.2.2.2.1 6, tT1.2.2.2.2.1, tT1.2.2.2.2.2)) (As := [.ref (A 1 0)]) (rest := []) C (c_X5_becomeLike (A 1) (A 2) (nI N) (nI B) tT1.1 tT1.2.1 kf tT1.2.2.1 pf tT1.2.2.2.1 lf tf tT1.2.2.2.2.1 tT1.2.2.2.2.2) gX7_bells_X5_becomeLike rfl 1 rfl (by decide +kernel) (by decide) (Nat.le_of_ble_eq_true rfl) dX7_bells_28 rfl (fun _ _ => ?_)
          show J X (wX A cy fl dT (nI N, nI B, kf, pf, lf, tf) (nI N, nI B, fil kf tT1.2.2.1 6, filR pf tT1.2.2.2.1 6, tT1.2.2.2.2.1, tT1.2.2.2.2.2) (nI c) df mf gf tv ln la cf) 31 [(0, .ref (A 3 0)), (1, .int (nI (bset (fun v => soT N v c k p rd rl ra 11) i))), (2, .int (nI i))] []
          refine j_aload_n C 0 dX7_bells_31 rfl rfl ?_
          refine j_get C mh0 1 mh1 0 rfl rfl (by decide) rfl rfl dX7_bells_32 ?_
          refine j_iload_n C 2 dX7_bells_35 rfl rfl ?_
          refine j_putN (ws' := wX A cy fl dT (nI N, nI B, kf, pf, lf, tf) (nI N, nI i, fil kf tT1.2.2.1 6, filR pf tT1.2.2.2.1 6, tT1.2.2.2.2.1, tT1.2.2.2.2.2) (nI c) df mf gf tv ln la cf) C mh3 6 (by decide +kernel) tyX5 tyX5_ok nmX5 31 rfl rfl (by decide) rfl rfl (by decide +kernel) (Nat.le_of_ble_eq_true rfl) rfl dX7_bells_36 ?_
          refine j_aload_n C 0 dX7_bells_39 rfl rfl ?_
          refine j_get C mh0 4 mh4 0 rfl rfl (by decide) rfl rfl dX7_bells_40 ?_
          refine j_aload_n C 0 dX7_bells_43 rfl rfl ?_
          refine j_get C mh0 1 mh1 0 rfl rfl (by decide) rfl rfl dX7_bells_44 ?_
          refine jx_TR (tT' := fun u : (Nat → Nat → Int32) × (Nat → Int32) × (Nat → Int32) => (nI N, nI i, fil kf tT1.2.2.1 6, u.1, u.2.1, u.2.2)) (As := [.ref (A 2 0)]) (rest := []) C (c_X2_areSo (A 2) N i (fil kf tT1.2.2.1 6) (filR pf tT1.2.2.2.1 6) tT1.2.2.2.2.1 tT1.2.2.2.2.2 k p (hT.cp) (A 3 1) (A 3 2) (A 3 3) (A 3 4) c df mf gf rd rl ra hR (by omega)) gX7_bells_X2_areSo rfl 1 rfl (by decide +kernel) (by decide) (Nat.le_of_ble_eq_true rfl) dX7_bells_47 rfl (fun u _ => ?_)
          show J X (wX A cy fl dT (nI N, nI B, kf, pf, lf, tf) (nI N, nI i, fil kf tT1.2.2.1 6, u.1, u.2.1, u.2.2) (nI c) df mf gf tv ln la cf) 50 [(0, .ref (A 3 0)), (1, .int (nI (bset (fun v => soT N v c k p rd rl ra 11) i))), (2, .int (nI i))] [.int (nI (bN (soT N i c k p rd rl ra 11 = true)))]
          refine j_if_eqN (tgt := 59) C dX7_bells_50 (by decide) (bN_lt _) (fun c50 => ?_) (fun c50 => ?_)
          · have c50 := bN_0.mp c50
            refine j_iinc (v := nI (i + 1)) (lv' := [(2, .int (nI (i + 1))), (0, .ref (A 3 0)), (1, .int (nI (bset (fun v => soT N v c k p rd rl ra 11) i)))]) C 2 dX7_bells_59 rfl (nI_inc i) (by decide) rfl ?_
            refine j_goto (tgt := 14) C dX7_bells_62 (by decide) ?_
            refine J.sub [1, 2, 0] rfl ?_
            have e := ih14 (i + 1) (nI N, nI i, fil kf tT1.2.2.1 6, u.1, u.2.1, u.2.2) (by omega) (by omega)
            first
              | (rw [bset_n (P := (fun v => soT N v c k p rd rl ra 11)) (n := i) (Bool.eq_false_iff.mpr c50)] at e; exact e)
              | (rw [bset_y (P := (fun v => soT N v c k p rd rl ra 11)) (n := i) c50] at e; exact e)
          · have c50 := bN_1.mp c50
            refine j_iload_n C 1 dX7_bells_53 rfl rfl ?_
            refine j_iconst (v := nI 1) C dX7_bells_54 (by decide) ?_
            refine j_iload_n C 2 dX7_bells_55 rfl rfl ?_
            refine j_ishl (v := nI (2 ^ i)) C dX7_bells_56 (sh_l (by omega)) ?_
            refine j_ior (v := nI (bset (fun v => soT N v c k p rd rl ra 11) i + 2 ^ i)) C dX7_bells_57 (or_2 (bset_lt _ _)) ?_
            refine j_istore_n (lv' := [(1, .int (nI (bset (fun v => soT N v c k p rd rl ra 11) i + 2 ^ i))), (0, .ref (A 3 0)), (2, .int (nI i))]) C dX7_bells_58 rfl (by decide) rfl ?_
            refine j_iinc (v := nI (i + 1)) (lv' := [(2, .int (nI (i + 1))), (1, .int (nI (bset (fun v => soT N v c k p rd rl ra 11) i + 2 ^ i))), (0, .ref (A 3 0))]) C 2 dX7_bells_59 rfl (nI_inc i) (by decide) rfl ?_
            refine j_goto (tgt := 14) C dX7_bells_62 (by decide) ?_
            refine J.sub [2, 1, 0] rfl ?_
            have e := ih14 (i + 1) (nI N, nI i, fil kf tT1.2.2.1 6, u.1, u.2.1, u.2.2) (by omega) (by omega)
            first
              | (rw [bset_n (P := (fun v => soT N v c k p rd rl ra 11)) (n := i) (Bool.eq_false_iff.mpr c50)] at e; exact e)
              | (rw [bset_y (P := (fun v => soT N v c k p rd rl ra 11)) (n := i) c50] at e; exact e)
    have e := L14 11 0 tT (by omega) (by omega)
    exact e
  · have c4 := bN_0.mp c4
    have c4 : N = 0 := by omega
    refine j_bipush (v := (-3)) C dX7_bells_7 (by decide) ?_
    exact j_iret C E dX7_bells_9 (fl, dT, (nI N, nI B, kf, pf, lf, tf), tT, nI c, df, mf, gf, tv, ln, la, cf) (by rw [show m_bells ((N, B, k, p), (c, rd, rl, ra), (hs, sl, sa, sc), tv, fl) = ((-3), ((N, B, k, p), (c, rd, rl, ra), (hs, sl, sa, sc), tv, fl)) from (by simp only [m_bells, c4, if_true])]; exact XI.mk hB hN2 hT hR hS) (by rw [show m_bells ((N, B, k, p), (c, rd, rl, ra), (hs, sl, sa, sc), tv, fl) = ((-3), ((N, B, k, p), (c, rd, rl, ra), (hs, sl, sa, sc), tv, fl)) from (by simp only [m_bells, c4, if_true])]) rfl
