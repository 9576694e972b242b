set_option maxHeartbeats 4000000 in
set_option maxRecDepth 20000 in
theorem c_X7_tell {l : Launch} {D : va_G} {cy : Nat → ClassId} (A : Nat → Nat → Nat) (fl : Int32) (dT tT : TwS) (N B : Nat) (kf : Nat → Int32) (pf : Nat → Nat → Int32) (lf tf : Nat → Int32) (c : Nat) (df mf gf : Nat → Int32) (tv : Int32) (ln la : Nat → Int32) (cf : Nat → Nat → Int32) (k : Nat → Nat) (p : Nat → Nat → Nat) (rd rl : Nat → Nat) (ra : Nat → Option Nat) (hs : Nat → Bool) (sl sa : Nat → Nat) (sc : Nat → Nat → Int32) (hX : XI ((N, B, k, p), (c, rd, rl, ra), (hs, sl, sa, sc), tv, fl) (fl, dT, (nI N, nI B, kf, pf, lf, tf), tT, nI c, df, mf, gf, tv, ln, la, cf)) (x : Int32)  : Ct l yX7_tell wsX7_tell ({ frames := 4, cells := 0, slots := 0, locals := 88 }) D cy [.ref (A 3 0), .int x] (wX A cy fl dT (nI N, nI B, kf, pf, lf, tf) tT (nI c) df mf gf tv ln la cf) (fun u : XS => XI (m_tell ((N, B, k, p), (c, rd, rl, ra), (hs, sl, sa, sc), tv, fl) x).2 u) (fun _ => some (.int (m_tell ((N, B, k, p), (c, rd, rl, ra), (hs, sl, sa, sc), tv, fl) x).1)) (fun u => wXu A cy u) := by
  refine Ct.of (cc := cX7_tell) (nL := 2) (ret := (some .int)) rfl (by decide) ⟨rfl, rfl⟩ (Nat.le_of_ble_eq_true rfl) ?_
  intro X C E
  have C : Cx X l D cy cX7_tell 2 wsX7_tell RX7 ({ frames := 4, cells := 0, slots := 0, locals := 88 }) := C
  have mh0 : ∀ w ∈ u_ws RX7 TX7 7, w ∈ wsX7_tell := by decide +kernel
  have mh1 : Cond.fieldLink RX7 12 RX7 (TX7 0).2.1 (TX7 0).2.2.1 ∈ wsX7_tell := by decide +kernel
  have mh2 : Cond.fieldLink RX7 27 RX7 (TX7 3).2.1 (TX7 3).2.2.1 ∈ wsX7_tell := by decide +kernel
  have mh3 : Cond.code ⟨"DebtLamps$Person", "telling", "(ILDebtLamps$Trail;)I"⟩ cX1_telling 3 (some .int) ∈ wsX7_tell := by decide +kernel
  obtain ⟨-, ⟨hB, hN2⟩, hT, hR, hS⟩ := hX
  have hN := hT.n
  have hc8 := hR.1
  have hN30 : N ≤ 2 ^ 30 := by omega
  show J X (wX A cy fl dT (nI N, nI B, kf, pf, lf, tf) tT (nI c) df mf gf tv ln la cf) 0 [(0, .ref (A 3 0)), (1, .int x)] []
  refine j_aload_n C 0 dX7_tell_0 rfl rfl ?_
  refine j_iload_n C 1 dX7_tell_1 rfl rfl ?_
  refine j_callV0 (As := [.int x]) (rest := []) C (c_X7_isPerson A fl dT tT N B kf pf lf tf c df mf gf tv ln la cf (x) hN) gX7_tell_X7_isPerson rfl 1 rfl (by decide +kernel) (by decide) 0 rfl rfl (Nat.le_of_ble_eq_true rfl) dX7_tell_2 rfl (fun _ _ => ?_)
  show J X (wX A cy fl dT (nI N, nI B, kf, pf, lf, tf) tT (nI c) df mf gf tv ln la cf) 5 [(0, .ref (A 3 0)), (1, .int x)] [.int (nI (bN ((pOf N (x)).isSome = true)))]
  refine j_if_neN (tgt := 10) C dX7_tell_5 (by decide) (bN_lt _) (fun c5 => ?_) (fun c5 => ?_)
  · have c5 := bN_1.mp c5
    obtain ⟨a1, ha1, rfl⟩ := pY hN30 c5
    have qa1 := pI ha1 hN30
    show J X (wX A cy fl dT (nI N, nI B, kf, pf, lf, tf) tT (nI c) df mf gf tv ln la cf) 10 [(0, .ref (A 3 0)), (1, .int (nI a1))] []
    refine j_aload_n C 0 dX7_tell_10 rfl rfl ?_
    refine j_get C mh0 0 mh1 0 rfl rfl (by decide) rfl rfl dX7_tell_11 ?_
    refine j_iload_n C 1 dX7_tell_14 rfl rfl ?_
    refine jx_N (nT' := fun _ => (nI N, nI B, kf, pf, lf, tf)) (As := [.int (nI a1)]) (rest := []) C (c_X5_bodyOf (A 1) N B kf pf lf tf k p hT a1 (by omega)) gX7_tell_X5_bodyOf rfl 1 rfl (by decide +kernel) (by decide) (Nat.le_of_ble_eq_true rfl) dX7_tell_15 rfl (fun _ _ => ?_)
    show J X (wX A cy fl dT (nI N, nI B, kf, pf, lf, tf) tT (nI c) df mf gf tv ln la cf) 18 [(0, .ref (A 3 0)), (1, .int (nI a1))] [.ref (A 1 (6 + k a1))]
    refine j_aload_n C 0 dX7_tell_18 rfl rfl ?_
    refine j_get C mh0 0 mh1 0 rfl rfl (by decide) rfl rfl dX7_tell_19 ?_
    refine j_iload_n C 1 dX7_tell_22 rfl rfl ?_
    refine jx_N (nT' := fun _ => (nI N, nI B, kf, pf, lf, tf)) (As := [.int (nI a1)]) (rest := [.ref (A 1 (6 + k a1))]) C (c_X5_penceInAll (A 1) N B kf pf lf tf k p hT a1 (by omega)) gX7_tell_X5_penceInAll rfl 1 rfl (by decide +kernel) (by decide) (Nat.le_of_ble_eq_true rfl) dX7_tell_23 rfl (fun _ _ => ?_)
    show J X (wX A cy fl dT (nI N, nI B, kf, pf, lf, tf) tT (nI c) df mf gf tv ln la cf) 26 [(0, .ref (A 3 0)), (1, .int (nI a1))] [.int (nI (psum p a1 N)), .ref (A 1 (6 + k a1))]
    refine j_aload_n C 0 dX7_tell_26 rfl rfl ?_
    refine j_get C mh0 3 mh2 0 rfl rfl (by decide) rfl rfl dX7_tell_27 ?_
    have hk2 := hT.k2 (a := a1) (by omega)
    have hk3 : k a1 = 0 ∨ k a1 = 1 ∨ k a1 = 2 := by omega
    rcases hk3 with e | e | e
    · rw [e]
      refine J.pick (ws' := (wO (A 1 6) 1 ++ wTr (A 3 5) tv) ++ (List.eraseIdx (List.eraseIdx (wX A cy fl dT (nI N, nI B, kf, pf, lf, tf) tT (nI c) df mf gf tv ln la cf) 50) 22)) [22, 50, 0, 1, 2, 3, 4, 5, 6, 7, 8, 9, 10, 11, 12, 13, 14, 15, 16, 17, 18, 19, 20, 21, 23, 24, 25, 26, 27, 28, 29, 30, 31, 32, 33, 34, 35, 36, 37, 38, 39, 40, 41, 42, 43, 44, 45, 46, 47, 48, 49, 51, 52, 53, 54, 55, 56, 57, 58, 59] (by decide) rfl ?_
      refine j_callV (As := [.int (nI (psum p a1 N)), .ref (A 3 5)]) (rest := []) C (c_X1_telling (A 1 6) (A 3 5) tv (psum p a1 N)) gX7_tell_X1_telling rfl 2 rfl (by decide +kernel) (by decide) [] (List.eraseIdx (List.eraseIdx (wX A cy fl dT (nI N, nI B, kf, pf, lf, tf) tT (nI c) df mf gf tv ln la cf) 50) 22) rfl 0 rfl rfl (Nat.le_of_ble_eq_true rfl) dX7_tell_30 rfl (fun _ _ => ?_)
      refine J.pick (ws' := wX A cy fl dT (nI N, nI B, kf, pf, lf, tf) tT (nI c) df mf gf (tr tv 1) ln la cf) [2, 3, 4, 5, 6, 7, 8, 9, 10, 11, 12, 13, 14, 15, 16, 17, 18, 19, 20, 21, 22, 23, 0, 24, 25, 26, 27, 28, 29, 30, 31, 32, 33, 34, 35, 36, 37, 38, 39, 40, 41, 42, 43, 44, 45, 46, 47, 48, 49, 50, 1, 51, 52, 53, 54, 55, 56, 57, 58, 59] (by decide) rfl ?_
      show J X (wX A cy fl dT (nI N, nI B, kf, pf, lf, tf) tT (nI c) df mf gf (tr tv 1) ln la cf) 33 [(0, .ref (A 3 0)), (1, .int (nI a1))] [.int (nI (psum p a1 N))]
      exact j_iret C E dX7_tell_33 (fl, dT, (nI N, nI B, kf, pf, lf, tf), tT, nI c, df, mf, gf, tr tv 1, ln, la, cf) (by rw [show m_tell ((N, B, k, p), (c, rd, rl, ra), (hs, sl, sa, sc), tv, fl) (nI a1) = (nI (psum p a1 N), ((N, B, k, p), (c, rd, rl, ra), (hs, sl, sa, sc), tr tv 1, fl)) from (by simp only [m_tell, qa1, e, reduceIte]; try rfl)]; exact XI.mk hB hN2 hT hR hS) (by rw [show m_tell ((N, B, k, p), (c, rd, rl, ra), (hs, sl, sa, sc), tv, fl) (nI a1) = (nI (psum p a1 N), ((N, B, k, p), (c, rd, rl, ra), (hs, sl, sa, sc), tr tv 1, fl)) from (by simp only [m_tell, qa1, e, reduceIte]; try rfl)]) rfl
    · rw [e]
      refine J.pick (ws' := (wO (A 1 7) 3 ++ wTr (A 3 5) tv) ++ (List.eraseIdx (List.eraseIdx (wX A cy fl dT (nI N, nI B, kf, pf, lf, tf) tT (nI c) df mf gf tv ln la cf) 50) 23)) [23, 50, 0, 1, 2, 3, 4, 5, 6, 7, 8, 9, 10, 11, 12, 13, 14, 15, 16, 17, 18, 19, 20, 21, 22, 24, 25, 26, 27, 28, 29, 30, 31, 32, 33, 34, 35, 36, 37, 38, 39, 40, 41, 42, 43, 44, 45, 46, 47, 48, 49, 51, 52, 53, 54, 55, 56, 57, 58, 59] (by decide) rfl ?_
      refine j_callO (b0 := cX1_telling) (m0 := 3) (r0 := some .int) (As := [.int (nI (psum p a1 N)), .ref (A 3 5)]) (rest := []) C (c_X3_telling (A 1 7) (A 3 5) tv (psum p a1 N)) gX7_tell_X3_telling_u199X3 rfl mh3 2 rfl (by decide +kernel) (by decide) [] (List.eraseIdx (List.eraseIdx (wX A cy fl dT (nI N, nI B, kf, pf, lf, tf) tT (nI c) df mf gf tv ln la cf) 50) 23) rfl 0 rfl rfl (Nat.le_of_ble_eq_true rfl) dX7_tell_30 rfl (fun _ _ => ?_)
      refine J.pick (ws' := wX A cy fl dT (nI N, nI B, kf, pf, lf, tf) tT (nI c) df mf gf (tr (tr tv 2) 1) ln la cf) [2, 3, 4, 5, 6, 7, 8, 9, 10, 11, 12, 13, 14, 15, 16, 17, 18, 19, 20, 21, 22, 23, 24, 0, 25, 26, 27, 28, 29, 30, 31, 32, 33, 34, 35, 36, 37, 38, 39, 40, 41, 42, 43, 44, 45, 46, 47, 48, 49, 50, 1, 51, 52, 53, 54, 55, 56, 57, 58, 59] (by decide) rfl ?_
      show J X (wX A cy fl dT (nI N, nI B, kf, pf, lf, tf) tT (nI c) df mf gf (tr (tr tv 2) 1) ln la cf) 33 [(0, .ref (A 3 0)), (1, .int (nI a1))] [.int (nI (psum p a1 N + 100))]
      exact j_iret C E dX7_tell_33 (fl, dT, (nI N, nI B, kf, pf, lf, tf), tT, nI c, df, mf, gf, tr (tr tv 2) 1, ln, la, cf) (by rw [show m_tell ((N, B, k, p), (c, rd, rl, ra), (hs, sl, sa, sc), tv, fl) (nI a1) = (nI (psum p a1 N + 100), ((N, B, k, p), (c, rd, rl, ra), (hs, sl, sa, sc), tr (tr tv 2) 1, fl)) from (by simp only [m_tell, qa1, e, reduceIte]; try rfl)]; exact XI.mk hB hN2 hT hR hS) (by rw [show m_tell ((N, B, k, p), (c, rd, rl, ra), (hs, sl, sa, sc), tv, fl) (nI a1) = (nI (psum p a1 N + 100), ((N, B, k, p), (c, rd, rl, ra), (hs, sl, sa, sc), tr (tr tv 2) 1, fl)) from (by simp only [m_tell, qa1, e, reduceIte]; try rfl)]) rfl
    · rw [e]
      refine J.pick (ws' := (wO (A 1 8) 0 ++ wTr (A 3 5) tv) ++ (List.eraseIdx (List.eraseIdx (wX A cy fl dT (nI N, nI B, kf, pf, lf, tf) tT (nI c) df mf gf tv ln la cf) 50) 24)) [24, 50, 0, 1, 2, 3, 4, 5, 6, 7, 8, 9, 10, 11, 12, 13, 14, 15, 16, 17, 18, 19, 20, 21, 22, 23, 25, 26, 27, 28, 29, 30, 31, 32, 33, 34, 35, 36, 37, 38, 39, 40, 41, 42, 43, 44, 45, 46, 47, 48, 49, 51, 52, 53, 54, 55, 56, 57, 58, 59] (by decide) rfl ?_
      refine j_callO (b0 := cX1_telling) (m0 := 3) (r0 := some .int) (As := [.int (nI (psum p a1 N)), .ref (A 3 5)]) (rest := []) C (c_X0_telling (A 1 8) (A 3 5) tv (psum p a1 N)) gX7_tell_X0_telling_u199X0 rfl mh3 2 rfl (by decide +kernel) (by decide) [] (List.eraseIdx (List.eraseIdx (wX A cy fl dT (nI N, nI B, kf, pf, lf, tf) tT (nI c) df mf gf tv ln la cf) 50) 24) rfl 0 rfl rfl (Nat.le_of_ble_eq_true rfl) dX7_tell_30 rfl (fun _ _ => ?_)
      refine J.pick (ws' := wX A cy fl dT (nI N, nI B, kf, pf, lf, tf) tT (nI c) df mf gf (tr (tr (tr (tr tv 3) 2) 1) 1) ln la cf) [2, 3, 4, 5, 6, 7, 8, 9, 10, 11, 12, 13, 14, 15, 16, 17, 18, 19, 20, 21, 22, 23, 24, 25, 0, 26, 27, 28, 29, 30, 31, 32, 33, 34, 35, 36, 37, 38, 39, 40, 41, 42, 43, 44, 45, 46, 47, 48, 49, 50, 1, 51, 52, 53, 54, 55, 56, 57, 58, 59] (by decide) rfl ?_
      show J X (wX A cy fl dT (nI N, nI B, kf, pf, lf, tf) tT (nI c) df mf gf (tr (tr (tr (tr tv 3) 2) 1) 1) ln la cf) 33 [(0, .ref (A 3 0)), (1, .int (nI a1))] [.int (nI (psum p a1 N + 100 + psum p a1 N))]
      exact j_iret C E dX7_tell_33 (fl, dT, (nI N, nI B, kf, pf, lf, tf), tT, nI c, df, mf, gf, tr (tr (tr (tr tv 3) 2) 1) 1, ln, la, cf) (by rw [show m_tell ((N, B, k, p), (c, rd, rl, ra), (hs, sl, sa, sc), tv, fl) (nI a1) = (nI (psum p a1 N + 100 + psum p a1 N), ((N, B, k, p), (c, rd, rl, ra), (hs, sl, sa, sc), tr (tr (tr (tr tv 3) 2) 1) 1, fl)) from (by simp only [m_tell, qa1, e, reduceIte]; try rfl)]; exact XI.mk hB hN2 hT hR hS) (by rw [show m_tell ((N, B, k, p), (c, rd, rl, ra), (hs, sl, sa, sc), tv, fl) (nI a1) = (nI (psum p a1 N + 100 + psum p a1 N), ((N, B, k, p), (c, rd, rl, ra), (hs, sl, sa, sc), tr (tr (tr (tr tv 3) 2) 1) 1, fl)) from (by simp only [m_tell, qa1, e, reduceIte]; try rfl)]) rfl
  · have c5 := bN_0.mp c5
    have qa1 := pOf_n c5
    refine j_iconst (v := (-1)) C dX7_tell_8 (by decide) ?_
    exact j_iret C E dX7_tell_9 (fl, dT, (nI N, nI B, kf, pf, lf, tf), tT, nI c, df, mf, gf, tv, ln, la, cf) (by rw [show m_tell ((N, B, k, p), (c, rd, rl, ra), (hs, sl, sa, sc), tv, fl) x = ((-1), ((N, B, k, p), (c, rd, rl, ra), (hs, sl, sa, sc), tv, fl)) from (by simp only [m_tell, qa1])]; exact XI.mk hB hN2 hT hR hS) (by rw [show m_tell ((N, B, k, p), (c, rd, rl, ra), (hs, sl, sa, sc), tv, fl) x = ((-1), ((N, B, k, p), (c, rd, rl, ra), (hs, sl, sa, sc), tv, fl)) from (by simp only [m_tell, qa1])]) rfl
set_option maxHeartbeats 4000000 in
set_option maxRecDepth 20000 in
theorem c_X7_hail {l : Launch} {D : va_G} {cy : Nat → ClassId} (A : Nat → Nat → Nat) (fl : Int32) (dT tT : TwS) (N B : Nat) (kf : Nat → Int32) (pf : Nat → Nat → Int32) (lf tf : Nat → Int32) (c : Nat) (df mf gf : Nat → Int32) (tv : Int32) (ln la : Nat → Int32) (cf : Nat → Nat → Int32) (k : Nat → Nat) (p : Nat → Nat → Nat) (rd rl : Nat → Nat) (ra : Nat → Option Nat) (hs : Nat → Bool) (sl sa : Nat → Nat) (sc : Nat → Nat → Int32) (hX : XI ((N, B, k, p), (c, rd, rl, ra), (hs, sl, sa, sc), tv, fl) (fl, dT, (nI N, nI B, kf, pf, lf, tf), tT, nI c, df, mf, gf, tv, ln, la, cf)) (x : Int32)  : Ct l yX7_hail wsX7_hail ({ frames := 2, cells := 0, slots := 0, locals := 43 }) D cy [.ref (A 3 0), .int x] (wX A cy fl dT (nI N, nI B, kf, pf, lf, tf) tT (nI c) df mf gf tv ln la cf) (fun u : XS => XI (m_hail ((N, B, k, p), (c, rd, rl, ra), (hs, sl, sa, sc), tv, fl) x).2 u) (fun _ => some (.int (m_hail ((N, B, k, p), (c, rd, rl, ra), (hs, sl, sa, sc), tv, fl) x).1)) (fun u => wXu A cy u) := by
  refine Ct.of (cc := cX7_hail) (nL := 2) (ret := (some .int)) rfl (by decide) ⟨rfl, rfl⟩ (Nat.le_of_ble_eq_true rfl) ?_
  intro X C E
  have C : Cx X l D cy cX7_hail 2 wsX7_hail RX7 ({ frames := 2, cells := 0, slots := 0, locals := 43 }) := C
  have mh0 : ∀ w ∈ u_ws RX7 TX7 7, w ∈ wsX7_hail := by decide +kernel
  have mh1 : Cond.fieldLink RX7 12 RX7 (TX7 0).2.1 (TX7 0).2.2.1 ∈ wsX7_hail := by decide +kernel
  have mh2 : Cond.fieldLink RX7 27 RX7 (TX7 3).2.1 (TX7 3).2.2.1 ∈ wsX7_hail := by decide +kernel
  have mh3 : Cond.code ⟨"DebtLamps$Person", "hailing", "(ILDebtLamps$Trail;)I"⟩ cX1_hailing 3 (some .int) ∈ wsX7_hail := by decide +kernel
  obtain ⟨-, ⟨hB, hN2⟩, hT, hR, hS⟩ := hX
  have hN := hT.n
  have hc8 := hR.1
  have hN30 : N ≤ 2 ^ 30 := by omega
  show J X (wX A cy fl dT (nI N, nI B, kf, pf, lf, tf) tT (nI c) df mf gf tv ln la cf) 0 [(0, .ref (A 3 0)), (1, .int x)] []
  refine j_aload_n C 0 dX7_hail_0 rfl rfl ?_
  refine j_iload_n C 1 dX7_hail_1 rfl rfl ?_
  refine j_callV0 (As := [.int x]) (rest := []) C (c_X7_isPerson A fl dT tT N B kf pf lf tf c df mf gf tv ln la cf (x) hN) gX7_hail_X7_isPerson rfl 1 rfl (by decide +kernel) (by decide) 0 rfl rfl (Nat.le_of_ble_eq_true rfl) dX7_hail_2 rfl (fun _ _ => ?_)
  show J X (wX A cy fl dT (nI N, nI B, kf, pf, lf, tf) tT (nI c) df mf gf tv ln la cf) 5 [(0, .ref (A 3 0)), (1, .int x)] [.int (nI (bN ((pOf N (x)).isSome = true)))]
  refine j_if_neN (tgt := 10) C dX7_hail_5 (by decide) (bN_lt _) (fun c5 => ?_) (fun c5 => ?_)
  · have c5 := bN_1.mp c5
    obtain ⟨a1, ha1, rfl⟩ := pY hN30 c5
    have qa1 := pI ha1 hN30
    show J X (wX A cy fl dT (nI N, nI B, kf, pf, lf, tf) tT (nI c) df mf gf tv ln la cf) 10 [(0, .ref (A 3 0)), (1, .int (nI a1))] []
    refine j_aload_n C 0 dX7_hail_10 rfl rfl ?_
    refine j_get C mh0 0 mh1 0 rfl rfl (by decide) rfl rfl dX7_hail_11 ?_
    refine j_iload_n C 1 dX7_hail_14 rfl rfl ?_
    refine jx_N (nT' := fun _ => (nI N, nI B, kf, pf, lf, tf)) (As := [.int (nI a1)]) (rest := []) C (c_X5_bodyOf (A 1) N B kf pf lf tf k p hT a1 (by omega)) gX7_hail_X5_bodyOf rfl 1 rfl (by decide +kernel) (by decide) (Nat.le_of_ble_eq_true rfl) dX7_hail_15 rfl (fun _ _ => ?_)
    show J X (wX A cy fl dT (nI N, nI B, kf, pf, lf, tf) tT (nI c) df mf gf tv ln la cf) 18 [(0, .ref (A 3 0)), (1, .int (nI a1))] [.ref (A 1 (6 + k a1))]
    refine j_iload_n C 1 dX7_hail_18 rfl rfl ?_
    refine j_aload_n C 0 dX7_hail_19 rfl rfl ?_
    refine j_get C mh0 3 mh2 0 rfl rfl (by decide) rfl rfl dX7_hail_20 ?_
    have hk2 := hT.k2 (a := a1) (by omega)
    have hk3 : k a1 = 0 ∨ k a1 = 1 ∨ k a1 = 2 := by omega
    rcases hk3 with e | e | e
    · rw [e]
      refine J.pick (ws' := (wO (A 1 6) 1 ++ wTr (A 3 5) tv) ++ (List.eraseIdx (List.eraseIdx (wX A cy fl dT (nI N, nI B, kf, pf, lf, tf) tT (nI c) df mf gf tv ln la cf) 50) 22)) [22, 50, 0, 1, 2, 3, 4, 5, 6, 7, 8, 9, 10, 11, 12, 13, 14, 15, 16, 17, 18, 19, 20, 21, 23, 24, 25, 26, 27, 28, 29, 30, 31, 32, 33, 34, 35, 36, 37, 38, 39, 40, 41, 42, 43, 44, 45, 46, 47, 48, 49, 51, 52, 53, 54, 55, 56, 57, 58, 59] (by decide) rfl ?_
      refine j_callV (As := [.int (nI a1), .ref (A 3 5)]) (rest := []) C (c_X1_hailing (A 1 6) 1 (A 3 5) tv a1) gX7_hail_X1_hailing rfl 2 rfl (by decide +kernel) (by decide) [] (List.eraseIdx (List.eraseIdx (wX A cy fl dT (nI N, nI B, kf, pf, lf, tf) tT (nI c) df mf gf tv ln la cf) 50) 22) rfl 0 rfl rfl (Nat.le_of_ble_eq_true rfl) dX7_hail_23 rfl (fun _ _ => ?_)
      refine J.pick (ws' := wX A cy fl dT (nI N, nI B, kf, pf, lf, tf) tT (nI c) df mf gf (tr tv 4) ln la cf) [2, 3, 4, 5, 6, 7, 8, 9, 10, 11, 12, 13, 14, 15, 16, 17, 18, 19, 20, 21, 22, 23, 0, 24, 25, 26, 27, 28, 29, 30, 31, 32, 33, 34, 35, 36, 37, 38, 39, 40, 41, 42, 43, 44, 45, 46, 47, 48, 49, 50, 1, 51, 52, 53, 54, 55, 56, 57, 58, 59] (by decide) rfl ?_
      show J X (wX A cy fl dT (nI N, nI B, kf, pf, lf, tf) tT (nI c) df mf gf (tr tv 4) ln la cf) 26 [(0, .ref (A 3 0)), (1, .int (nI a1))] [.int (nI a1)]
      exact j_iret C E dX7_hail_26 (fl, dT, (nI N, nI B, kf, pf, lf, tf), tT, nI c, df, mf, gf, tr tv 4, ln, la, cf) (by rw [show m_hail ((N, B, k, p), (c, rd, rl, ra), (hs, sl, sa, sc), tv, fl) (nI a1) = (nI a1, ((N, B, k, p), (c, rd, rl, ra), (hs, sl, sa, sc), tr tv 4, fl)) from (by simp only [m_hail, qa1, e, reduceIte]; try rfl)]; exact XI.mk hB hN2 hT hR hS) (by rw [show m_hail ((N, B, k, p), (c, rd, rl, ra), (hs, sl, sa, sc), tv, fl) (nI a1) = (nI a1, ((N, B, k, p), (c, rd, rl, ra), (hs, sl, sa, sc), tr tv 4, fl)) from (by simp only [m_hail, qa1, e, reduceIte]; try rfl)]) rfl
    · rw [e]
      refine J.pick (ws' := (wO (A 1 7) 3 ++ wTr (A 3 5) tv) ++ (List.eraseIdx (List.eraseIdx (wX A cy fl dT (nI N, nI B, kf, pf, lf, tf) tT (nI c) df mf gf tv ln la cf) 50) 23)) [23, 50, 0, 1, 2, 3, 4, 5, 6, 7, 8, 9, 10, 11, 12, 13, 14, 15, 16, 17, 18, 19, 20, 21, 22, 24, 25, 26, 27, 28, 29, 30, 31, 32, 33, 34, 35, 36, 37, 38, 39, 40, 41, 42, 43, 44, 45, 46, 47, 48, 49, 51, 52, 53, 54, 55, 56, 57, 58, 59] (by decide) rfl ?_
      refine j_callU (As := [.int (nI a1), .ref (A 3 5)]) (rest := []) C (c_X1_hailing (A 1 7) 3 (A 3 5) tv a1) gX7_hail_X1_hailing_u205X3 rfl rfl 2 rfl (by decide +kernel) (by decide) [] (List.eraseIdx (List.eraseIdx (wX A cy fl dT (nI N, nI B, kf, pf, lf, tf) tT (nI c) df mf gf tv ln la cf) 50) 23) rfl 0 rfl rfl (Nat.le_of_ble_eq_true rfl) dX7_hail_23 rfl (fun _ _ => ?_)
      refine J.pick (ws' := wX A cy fl dT (nI N, nI B, kf, pf, lf, tf) tT (nI c) df mf gf (tr tv 4) ln la cf) [2, 3, 4, 5, 6, 7, 8, 9, 10, 11, 12, 13, 14, 15, 16, 17, 18, 19, 20, 21, 22, 23, 24, 0, 25, 26, 27, 28, 29, 30, 31, 32, 33, 34, 35, 36, 37, 38, 39, 40, 41, 42, 43, 44, 45, 46, 47, 48, 49, 50, 1, 51, 52, 53, 54, 55, 56, 57, 58, 59] (by decide) rfl ?_
      show J X (wX A cy fl dT (nI N, nI B, kf, pf, lf, tf) tT (nI c) df mf gf (tr tv 4) ln la cf) 26 [(0, .ref (A 3 0)), (1, .int (nI a1))] [.int (nI a1)]
      exact j_iret C E dX7_hail_26 (fl, dT, (nI N, nI B, kf, pf, lf, tf), tT, nI c, df, mf, gf, tr tv 4, ln, la, cf) (by rw [show m_hail ((N, B, k, p), (c, rd, rl, ra), (hs, sl, sa, sc), tv, fl) (nI a1) = (nI a1, ((N, B, k, p), (c, rd, rl, ra), (hs, sl, sa, sc), tr tv 4, fl)) from (by simp only [m_hail, qa1, e, reduceIte]; try rfl)]; exact XI.mk hB hN2 hT hR hS) (by rw [show m_hail ((N, B, k, p), (c, rd, rl, ra), (hs, sl, sa, sc), tv, fl) (nI a1) = (nI a1, ((N, B, k, p), (c, rd, rl, ra), (hs, sl, sa, sc), tr tv 4, fl)) from (by simp only [m_hail, qa1, e, reduceIte]; try rfl)]) rfl
    · rw [e]
      refine J.pick (ws' := (wO (A 1 8) 0 ++ wTr (A 3 5) tv) ++ (List.eraseIdx (List.eraseIdx (wX A cy fl dT (nI N, nI B, kf, pf, lf, tf) tT (nI c) df mf gf tv ln la cf) 50) 24)) [24, 50, 0, 1, 2, 3, 4, 5, 6, 7, 8, 9, 10, 11, 12, 13, 14, 15, 16, 17, 18, 19, 20, 21, 22, 23, 25, 26, 27, 28, 29, 30, 31, 32, 33, 34, 35, 36, 37, 38, 39, 40, 41, 42, 43, 44, 45, 46, 47, 48, 49, 51, 52, 53, 54, 55, 56, 57, 58, 59] (by decide) rfl ?_
      refine j_callO (b0 := cX1_hailing) (m0 := 3) (r0 := some .int) (As := [.int (nI a1), .ref (A 3 5)]) (rest := []) C (c_X0_hailing (A 1 8) (A 3 5) tv a1) gX7_hail_X0_hailing_u205X0 rfl mh3 2 rfl (by decide +kernel) (by decide) [] (List.eraseIdx (List.eraseIdx (wX A cy fl dT (nI N, nI B, kf, pf, lf, tf) tT (nI c) df mf gf tv ln la cf) 50) 24) rfl 0 rfl rfl (Nat.le_of_ble_eq_true rfl) dX7_hail_23 rfl (fun _ _ => ?_)
      refine J.pick (ws' := wX A cy fl dT (nI N, nI B, kf, pf, lf, tf) tT (nI c) df mf gf (tr tv 5) ln la cf) [2, 3, 4, 5, 6, 7, 8, 9, 10, 11, 12, 13, 14, 15, 16, 17, 18, 19, 20, 21, 22, 23, 24, 25, 0, 26, 27, 28, 29, 30, 31, 32, 33, 34, 35, 36, 37, 38, 39, 40, 41, 42, 43, 44, 45, 46, 47, 48, 49, 50, 1, 51, 52, 53, 54, 55, 56, 57, 58, 59] (by decide) rfl ?_
      show J X (wX A cy fl dT (nI N, nI B, kf, pf, lf, tf) tT (nI c) df mf gf (tr tv 5) ln la cf) 26 [(0, .ref (A 3 0)), (1, .int (nI a1))] [.int (nI 50)]
      exact j_iret C E dX7_hail_26 (fl, dT, (nI N, nI B, kf, pf, lf, tf), tT, nI c, df, mf, gf, tr tv 5, ln, la, cf) (by rw [show m_hail ((N, B, k, p), (c, rd, rl, ra), (hs, sl, sa, sc), tv, fl) (nI a1) = (nI 50, ((N, B, k, p), (c, rd, rl, ra), (hs, sl, sa, sc), tr tv 5, fl)) from (by simp only [m_hail, qa1, e, reduceIte]; try rfl)]; exact XI.mk hB hN2 hT hR hS) (by rw [show m_hail ((N, B, k, p), (c, rd, rl, ra), (hs, sl, sa, sc), tv, fl) (nI a1) = (nI 50, ((N, B, k, p), (c, rd, rl, ra), (hs, sl, sa, sc), tr tv 5, fl)) from (by simp only [m_hail, qa1, e, reduceIte]; try rfl)]) rfl
  · have c5 := bN_0.mp c5
    have qa1 := pOf_n c5
    refine j_iconst (v := (-1)) C dX7_hail_8 (by decide) ?_
    exact j_iret C E dX7_hail_9 (fl, dT, (nI N, nI B, kf, pf, lf, tf), tT, nI c, df, mf, gf, tv, ln, la, cf) (by rw [show m_hail ((N, B, k, p), (c, rd, rl, ra), (hs, sl, sa, sc), tv, fl) x = ((-1), ((N, B, k, p), (c, rd, rl, ra), (hs, sl, sa, sc), tv, fl)) from (by simp only [m_hail, qa1])]; exact XI.mk hB hN2 hT hR hS) (by rw [show m_hail ((N, B, k, p), (c, rd, rl, ra), (hs, sl, sa, sc), tv, fl) x = ((-1), ((N, B, k, p), (c, rd, rl, ra), (hs, sl, sa, sc), tv, fl)) from (by simp only [m_hail, qa1])]) rfl
set_option maxHeartbeats 4000000 in
set_option maxRecDepth 20000 in
theorem c_X7_ring {l : Launch} {D : va_G} {cy : Nat → ClassId} (A : Nat → Nat → Nat) (fl : Int32) (dT tT : TwS) (N B : Nat) (kf : Nat → Int32) (pf : Nat → Nat → Int32) (lf tf : Nat → Int32) (c : Nat) (df mf gf : Nat → Int32) (tv : Int32) (ln la : Nat → Int32) (cf : Nat → Nat → Int32) (k : Nat → Nat) (p : Nat → Nat → Nat) (rd rl : Nat → Nat) (ra : Nat → Option Nat) (hs : Nat → Bool) (sl sa : Nat → Nat) (sc : Nat → Nat → Int32) (hX : XI ((N, B, k, p), (c, rd, rl, ra), (hs, sl, sa, sc), tv, fl) (fl, dT, (nI N, nI B, kf, pf, lf, tf), tT, nI c, df, mf, gf, tv, ln, la, cf)) (x : Int32)  : Ct l yX7_ring wsX7_ring ({ frames := 3, cells := 0, slots := 0, locals := 69 }) D cy [.ref (A 3 0), .int x] (wX A cy fl dT (nI N, nI B, kf, pf, lf, tf) tT (nI c) df mf gf tv ln la cf) (fun u : XS => XI (m_ring ((N, B, k, p), (c, rd, rl, ra), (hs, sl, sa, sc), tv, fl) x).2 u) (fun _ => some (.int (m_ring ((N, B, k, p), (c, rd, rl, ra), (hs, sl, sa, sc), tv, fl) x).1)) (fun u => wXu A cy u) := by
  refine Ct.of (cc := cX7_ring) (nL := 5) (ret := (some .int)) rfl (by decide) ⟨rfl, rfl⟩ (Nat.le_of_ble_eq_true rfl) ?_
  intro X C E
  have C : Cx X l D cy cX7_ring 5 wsX7_ring RX7 ({ frames := 3, cells := 0, slots := 0, locals := 69 }) := C
  have mh0 : ∀ w ∈ u_ws RX7 TX7 7, w ∈ wsX7_ring := by decide +kernel
  have mh1 : Cond.fieldLink RX7 12 RX7 (TX7 0).2.1 (TX7 0).2.2.1 ∈ wsX7_ring := by decide +kernel
  have mh2 : ∀ w ∈ u_ws RX5 TX5 7, w ∈ wsX7_ring := by decide +kernel
  obtain ⟨-, ⟨hB, hN2⟩, hT, hR, hS⟩ := hX
  have hN := hT.n
  have hc8 := hR.1
  have hN30 : N ≤ 2 ^ 30 := by omega
  show J X (wX A cy fl dT (nI N, nI B, kf, pf, lf, tf) tT (nI c) df mf gf tv ln la cf) 0 [(0, .ref (A 3 0)), (1, .int x)] []
  refine j_aload_n C 0 dX7_ring_0 rfl rfl ?_
  refine j_iload_n C 1 dX7_ring_1 rfl rfl ?_
  refine j_callV0 (As := [.int x]) (rest := []) C (c_X7_isPerson A fl dT tT N B kf pf lf tf c df mf gf tv ln la cf (x) hN) gX7_ring_X7_isPerson rfl 1 rfl (by decide +kernel) (by decide) 0 rfl rfl (Nat.le_of_ble_eq_true rfl) dX7_ring_2 rfl (fun _ _ => ?_)
  show J X (wX A cy fl dT (nI N, nI B, kf, pf, lf, tf) tT (nI c) df mf gf tv ln la cf) 5 [(0, .ref (A 3 0)), (1, .int x)] [.int (nI (bN ((pOf N (x)).isSome = true)))]
  refine j_if_neN (tgt := 10) C dX7_ring_5 (by decide) (bN_lt _) (fun c5 => ?_) (fun c5 => ?_)
  · have c5 := bN_1.mp c5
    obtain ⟨b1, hb1, rfl⟩ := pY hN30 c5
    have qb1 := pI hb1 hN30
    show J X (wX A cy fl dT (nI N, nI B, kf, pf, lf, tf) tT (nI c) df mf gf tv ln la cf) 10 [(0, .ref (A 3 0)), (1, .int (nI b1))] []
    refine j_iload_n C 1 dX7_ring_10 rfl rfl ?_
    refine j_istore_n (lv' := [(2, .int (nI b1)), (0, .ref (A 3 0)), (1, .int (nI b1))]) C dX7_ring_11 rfl (by decide) rfl ?_
    refine j_iconst (v := nI 0) C dX7_ring_12 (by decide) ?_
    refine j_istore_n (lv' := [(3, .int (nI 0)), (2, .int (nI b1)), (0, .ref (A 3 0)), (1, .int (nI b1))]) C dX7_ring_13 rfl (by decide) rfl ?_
    refine J.sub [2, 3, 1, 0] rfl ?_
    have L14 : ∀ (n : Nat) (i a : Nat), N - i < n → i ≤ N → goL N k p b1 i = some a → a < N → J X (wX A cy fl dT (nI N, nI B, kf, pf, lf, tf) tT (nI c) df mf gf tv ln la cf) 14 [(0, .ref (A 3 0)), (1, .int (nI b1)), (2, .int (nI a)), (3, .int (nI i))] [] := by
      intro n
      induction n with
      | zero => intro i a hm; exact absurd hm (Nat.not_lt_zero _)
      | succ n ih14 =>
        intro i a h14_0 h14_1 h14_2 h14_3
        refine j_iload_n C 3 dX7_ring_14 rfl rfl ?_
        refine j_aload_n C 0 dX7_ring_15 rfl rfl ?_
        refine j_get C mh0 0 mh1 0 rfl rfl (by decide) rfl rfl dX7_ring_16 ?_
        refine j_getN C mh2 5 (by decide +kernel) 16 rfl rfl (by decide) rfl rfl dX7_ring_19 ?_
        refine j_icmp_geN (tgt := 50) C dX7_ring_22 (by decide) (by omega) (by omega) (fun c22 => ?_) (fun c22 => ?_)
        · have e0 : goL N k p b1 N = some a := by have z := h14_2; rw [show i = N by omega] at z; exact z
          refine j_iconst (v := nI 0) C dX7_ring_50 (by decide) ?_
          refine j_istore_n (lv' := [(3, .int (nI 0)), (0, .ref (A 3 0)), (1, .int (nI b1)), (2, .int (nI a))]) C dX7_ring_51 rfl (by decide) rfl ?_
          refine j_iconst (v := nI 0) C dX7_ring_52 (by decide) ?_
          refine j_istore (lv' := [(4, .int (nI 0)), (3, .int (nI 0)), (0, .ref (A 3 0)), (1, .int (nI b1)), (2, .int (nI a))]) C dX7_ring_53 (by decide) rfl ?_
          refine J.sub [2, 3, 4, 1, 0] rfl ?_
          have L55 : ∀ (n : Nat) (j a' : Nat), N - j < n → j ≤ N → goL N k p a j = some a' → a' < N → J X (wX A cy fl dT (nI N, nI B, kf, pf, lf, tf) tT (nI c) df mf gf tv ln la cf) 55 [(0, .ref (A 3 0)), (1, .int (nI b1)), (2, .int (nI a')), (3, .int (nI (orb N k p a j))), (4, .int (nI j))] [] := by
            intro n
            induction n with
            | zero => intro j a' hm; exact absurd hm (Nat.not_lt_zero _)
            | succ n ih55 =>
              intro j a' h55_0 h55_1 h55_2 h55_3
              refine j_iload C 4 dX7_ring_55 rfl ?_
              refine j_aload_n C 0 dX7_ring_57 rfl rfl ?_
              refine j_get C mh0 0 mh1 0 rfl rfl (by decide) rfl rfl dX7_ring_58 ?_
              refine j_getN C mh2 5 (by decide +kernel) 16 rfl rfl (by decide) rfl rfl dX7_ring_61 ?_
              refine j_icmp_geN (tgt := 98) C dX7_ring_64 (by decide) (by omega) (by omega) (fun c64 => ?_) (fun c64 => ?_)
              · refine j_iload_n C 3 dX7_ring_98 rfl rfl ?_
                exact j_iret C E dX7_ring_99 (fl, dT, (nI N, nI B, kf, pf, lf, tf), tT, nI c, df, mf, gf, tv, ln, la, cf) (by rw [show m_ring ((N, B, k, p), (c, rd, rl, ra), (hs, sl, sa, sc), tv, fl) (nI b1) = (nI (orb N k p a j), ((N, B, k, p), (c, rd, rl, ra), (hs, sl, sa, sc), tv, fl)) from (by simp only [m_ring, qb1, e0, e0, show j = N by omega])]; exact XI.mk hB hN2 hT hR hS) (by rw [show m_ring ((N, B, k, p), (c, rd, rl, ra), (hs, sl, sa, sc), tv, fl) (nI b1) = (nI (orb N k p a j), ((N, B, k, p), (c, rd, rl, ra), (hs, sl, sa, sc), tv, fl)) from (by simp only [m_ring, qb1, e0, e0, show j = N by omega])]) rfl
              · refine j_iload_n C 3 dX7_ring_67 rfl rfl ?_
                refine j_iconst (v := nI 1) C dX7_ring_68 (by decide) ?_
                refine j_iload_n C 2 dX7_ring_69 rfl rfl ?_
                refine j_ishl (v := nI (2 ^ a')) C dX7_ring_70 (sh_l (by omega)) ?_
                refine j_ior (v := nI (orb N k p a j ||| 2 ^ a')) C dX7_ring_71 (nn_or _ _) ?_
                refine j_istore_n (lv' := [(3, .int (nI (orb N k p a j ||| 2 ^ a'))), (0, .ref (A 3 0)), (1, .int (nI b1)), (2, .int (nI a')), (4, .int (nI j))]) C dX7_ring_72 rfl (by decide) rfl ?_
                refine j_aload_n C 1 dX7_ring_73 rfl rfl ?_
                refine j_get C mh0 0 mh1 0 rfl rfl (by decide) rfl rfl dX7_ring_74 ?_
                refine j_iload_n C 3 dX7_ring_77 rfl rfl ?_
                refine j_iconst (v := nI 0) C dX7_ring_78 (by decide) ?_
                refine jx_N (nT' := fun _ => (nI N, nI B, kf, pf, lf, tf)) (As := [.int (nI a'), .int (nI 0)]) (rest := []) C (c_X5_lighter0 (A 1) N B kf pf lf tf k p hT a' (by omega)) gX7_ring_X5_lighterAmong rfl 2 rfl (by decide +kernel) (by decide) (Nat.le_of_ble_eq_true rfl) dX7_ring_79 rfl (fun _ _ => ?_)
                show J X (wX A cy fl dT (nI N, nI B, kf, pf, lf, tf) tT (nI c) df mf gf tv ln la cf) 82 [(3, .int (nI (orb N k p a j ||| 2 ^ a'))), (0, .ref (A 3 0)), (1, .int (nI b1)), (2, .int (nI a')), (4, .int (nI j))] [.int (lI (lg N k p a'))]
                refine j_istore_n (lv' := [(2, .int (lI (lg N k p a'))), (3, .int (nI (orb N k p a j ||| 2 ^ a'))), (0, .ref (A 3 0)), (1, .int (nI b1)), (4, .int (nI j))]) C dX7_ring_82 rfl (by decide) rfl ?_
                refine j_iload_n C 0 dX7_ring_83 rfl rfl ?_
                refine j_bipush (v := (-9)) C dX7_ring_84 (by decide) ?_
                refine j_icmp_ne (tgt := 92) C dX7_ring_86 (by decide) (fun c86 => ?_) (fun c86 => ?_)
                · obtain ⟨a3, ha3⟩ := some_of c86
                  have h3N := lg_lt ha3
                  rw [ha3]
                  show J X (wX A cy fl dT (nI N, nI B, kf, pf, lf, tf) tT (nI c) df mf gf tv ln la cf) 92 [(2, .int (nI a3)), (3, .int (nI (orb N k p a j ||| 2 ^ a'))), (0, .ref (A 3 0)), (1, .int (nI b1)), (4, .int (nI j))] []
                  refine j_iinc (v := nI (j + 1)) (lv' := [(4, .int (nI (j + 1))), (2, .int (nI a3)), (3, .int (nI (orb N k p a j ||| 2 ^ a'))), (0, .ref (A 3 0)), (1, .int (nI b1))]) C 4 dX7_ring_92 rfl (nI_inc j) (by decide) rfl ?_
                  refine j_goto (tgt := 55) C dX7_ring_95 (by decide) ?_
                  refine J.sub [3, 4, 1, 2, 0] rfl ?_
                  have e := ih55 (j + 1) a3 (by omega) (by omega) (by show (goL N k p a j).bind (lg N k p) = _; rw [h55_2]; exact ha3) h3N
                  rw [orb_s h55_2] at e
                  exact e
                · exact absurd ((lI_none (lg_31 hN)).mp c86) (fun z => by obtain ⟨c9, h9⟩ := goL_cyc hb1 e0 (j + 1); have w : (goL N k p a j).bind (lg N k p) = some c9 := h9; rw [h55_2] at w; have w : lg N k p a' = some c9 := w; rw [z] at w; cases w)
          have e := L55 (N + 1) 0 a (by omega) (by omega) rfl h14_3
          exact e
        · refine j_aload_n C 0 dX7_ring_25 rfl rfl ?_
          refine j_get C mh0 0 mh1 0 rfl rfl (by decide) rfl rfl dX7_ring_26 ?_
          refine j_iload_n C 2 dX7_ring_29 rfl rfl ?_
          refine j_iconst (v := nI 0) C dX7_ring_30 (by decide) ?_
          refine jx_N (nT' := fun _ => (nI N, nI B, kf, pf, lf, tf)) (As := [.int (nI a), .int (nI 0)]) (rest := []) C (c_X5_lighter0 (A 1) N B kf pf lf tf k p hT a (by omega)) gX7_ring_X5_lighterAmong rfl 2 rfl (by decide +kernel) (by decide) (Nat.le_of_ble_eq_true rfl) dX7_ring_31 rfl (fun _ _ => ?_)
          show J X (wX A cy fl dT (nI N, nI B, kf, pf, lf, tf) tT (nI c) df mf gf tv ln la cf) 34 [(0, .ref (A 3 0)), (1, .int (nI b1)), (2, .int (nI a)), (3, .int (nI i))] [.int (lI (lg N k p a))]
          refine j_istore_n (lv' := [(2, .int (lI (lg N k p a))), (0, .ref (A 3 0)), (1, .int (nI b1)), (3, .int (nI i))]) C dX7_ring_34 rfl (by decide) rfl ?_
          refine j_iload_n C 0 dX7_ring_35 rfl rfl ?_
          refine j_bipush (v := (-9)) C dX7_ring_36 (by decide) ?_
          refine j_icmp_ne (tgt := 44) C dX7_ring_38 (by decide) (fun c38 => ?_) (fun c38 => ?_)
          · obtain ⟨a2, ha2⟩ := some_of c38
            have h2N := lg_lt ha2
            rw [ha2]
            show J X (wX A cy fl dT (nI N, nI B, kf, pf, lf, tf) tT (nI c) df mf gf tv ln la cf) 44 [(2, .int (nI a2)), (0, .ref (A 3 0)), (1, .int (nI b1)), (3, .int (nI i))] []
            refine j_iinc (v := nI (i + 1)) (lv' := [(3, .int (nI (i + 1))), (2, .int (nI a2)), (0, .ref (A 3 0)), (1, .int (nI b1))]) C 3 dX7_ring_44 rfl (nI_inc i) (by decide) rfl ?_
            refine j_goto (tgt := 14) C dX7_ring_47 (by decide) ?_
            refine J.sub [2, 3, 1, 0] rfl ?_
            have e := ih14 (i + 1) a2 (by omega) (by omega) (by show (goL N k p b1 i).bind (lg N k p) = _; rw [h14_2]; exact ha2) h2N
            exact e
          · have eN : goL N k p b1 N = none := goL_none (m := i + 1) (by show (goL N k p b1 i).bind (lg N k p) = none; rw [h14_2]; exact (lI_none (lg_31 hN)).mp c38) (by omega)
            refine j_bipush (v := (-9)) C dX7_ring_41 (by decide) ?_
            exact j_iret C E dX7_ring_43 (fl, dT, (nI N, nI B, kf, pf, lf, tf), tT, nI c, df, mf, gf, tv, ln, la, cf) (by rw [show m_ring ((N, B, k, p), (c, rd, rl, ra), (hs, sl, sa, sc), tv, fl) (nI b1) = ((-9), ((N, B, k, p), (c, rd, rl, ra), (hs, sl, sa, sc), tv, fl)) from (by simp only [m_ring, qb1, eN])]; exact XI.mk hB hN2 hT hR hS) (by rw [show m_ring ((N, B, k, p), (c, rd, rl, ra), (hs, sl, sa, sc), tv, fl) (nI b1) = ((-9), ((N, B, k, p), (c, rd, rl, ra), (hs, sl, sa, sc), tv, fl)) from (by simp only [m_ring, qb1, eN])]) rfl
    have e := L14 (N + 1) 0 b1 (by omega) (by omega) rfl hb1
    exact e
  · have c5 := bN_0.mp c5
    have qb1 := pOf_n c5
    refine j_iconst (v := (-1)) C dX7_ring_8 (by decide) ?_
    exact j_iret C E dX7_ring_9 (fl, dT, (nI N, nI B, kf, pf, lf, tf), tT, nI c, df, mf, gf, tv, ln, la, cf) (by rw [show m_ring ((N, B, k, p), (c, rd, rl, ra), (hs, sl, sa, sc), tv, fl) x = ((-1), ((N, B, k, p), (c, rd, rl, ra), (hs, sl, sa, sc), tv, fl)) from (by simp only [m_ring, qb1])]; exact XI.mk hB hN2 hT hR hS) (by rw [show m_ring ((N, B, k, p), (c, rd, rl, ra), (hs, sl, sa, sc), tv, fl) x = ((-1), ((N, B, k, p), (c, rd, rl, ra), (hs, sl, sa, sc), tv, fl)) from (by simp only [m_ring, qb1])]) rfl
set_option maxHeartbeats 4000000 in
set_option maxRecDepth 20000 in
theorem c_X7_odds {l : Launch} {D : va_G} {cy : Nat → ClassId} (A : Nat → Nat → Nat) (fl : Int32) (dT tT : TwS) (N B : Nat) (kf : Nat → Int32) (pf : Nat → Nat → Int32) (lf tf : Nat → Int32) (c : Nat) (df mf gf : Nat → Int32) (tv : Int32) (ln la : Nat → Int32) (cf : Nat → Nat → Int32) (k : Nat → Nat) (p : Nat → Nat → Nat) (rd rl : Nat → Nat) (ra : Nat → Option Nat) (hs : Nat → Bool) (sl sa : Nat → Nat) (sc : Nat → Nat → Int32) (hX : XI ((N, B, k, p), (c, rd, rl, ra), (hs, sl, sa, sc), tv, fl) (fl, dT, (nI N, nI B, kf, pf, lf, tf), tT, nI c, df, mf, gf, tv, ln, la, cf)) (b a w : Int32)  : Ct l yX7_odds wsX7_odds ({ frames := 3, cells := 0, slots := 0, locals := 69 }) D cy [.ref (A 3 0), .int b, .int a, .int w] (wX A cy fl dT (nI N, nI B, kf, pf, lf, tf) tT (nI c) df mf gf tv ln la cf) (fun u : XS => XI (m_odds ((N, B, k, p), (c, rd, rl, ra), (hs, sl, sa, sc), tv, fl) b a w).2 u) (fun _ => some (.long (m_odds ((N, B, k, p), (c, rd, rl, ra), (hs, sl, sa, sc), tv, fl) b a w).1)) (fun u => wXu A cy u) := by
  refine Ct.of (cc := cX7_odds) (nL := 8) (ret := (some .long)) rfl (by decide) ⟨rfl, rfl⟩ (Nat.le_of_ble_eq_true rfl) ?_
  intro X C E
  have C : Cx X l D cy cX7_odds 8 wsX7_odds RX7 ({ frames := 3, cells := 0, slots := 0, locals := 69 }) := C
  have mh0 : Cond.constantLong RX7 161 lostV ∈ wsX7_odds := by decide +kernel
  have mh1 : ∀ w ∈ u_ws RX7 TX7 7, w ∈ wsX7_odds := by decide +kernel
  have mh2 : Cond.fieldLink RX7 12 RX7 (TX7 0).2.1 (TX7 0).2.2.1 ∈ wsX7_odds := by decide +kernel
  obtain ⟨-, ⟨hB, hN2⟩, hT, hR, hS⟩ := hX
  have hN := hT.n
  have hc8 := hR.1
  have hN30 : N ≤ 2 ^ 30 := by omega
  show J X (wX A cy fl dT (nI N, nI B, kf, pf, lf, tf) tT (nI c) df mf gf tv ln la cf) 0 [(0, .ref (A 3 0)), (1, .int b), (2, .int a), (3, .int w)] []
  refine j_aload_n C 0 dX7_odds_0 rfl rfl ?_
  refine j_iload_n C 1 dX7_odds_1 rfl rfl ?_
  refine j_callV0 (As := [.int b]) (rest := []) C (c_X7_isPerson A fl dT tT N B kf pf lf tf c df mf gf tv ln la cf (b) hN) gX7_odds_X7_isPerson rfl 1 rfl (by decide +kernel) (by decide) 0 rfl rfl (Nat.le_of_ble_eq_true rfl) dX7_odds_2 rfl (fun _ _ => ?_)
  show J X (wX A cy fl dT (nI N, nI B, kf, pf, lf, tf) tT (nI c) df mf gf tv ln la cf) 5 [(0, .ref (A 3 0)), (1, .int b), (2, .int a), (3, .int w)] [.int (nI (bN ((pOf N (b)).isSome = true)))]
  refine j_if_eqN (tgt := 24) C dX7_odds_5 (by decide) (bN_lt _) (fun c5 => ?_) (fun c5 => ?_)
  · have c5 := bN_0.mp c5
    have qb1 := pOf_n c5
    refine j_ldc2 (v := lostV) C mh0 dX7_odds_24 ?_
    exact j_lret C E dX7_odds_27 (fl, dT, (nI N, nI B, kf, pf, lf, tf), tT, nI c, df, mf, gf, tv, ln, la, cf) (by rw [show m_odds ((N, B, k, p), (c, rd, rl, ra), (hs, sl, sa, sc), tv, fl) b a w = (lostV, ((N, B, k, p), (c, rd, rl, ra), (hs, sl, sa, sc), tv, fl)) from (by simp only [m_odds, qb1]; try rfl)]; exact XI.mk hB hN2 hT hR hS) (by rw [show m_odds ((N, B, k, p), (c, rd, rl, ra), (hs, sl, sa, sc), tv, fl) b a w = (lostV, ((N, B, k, p), (c, rd, rl, ra), (hs, sl, sa, sc), tv, fl)) from (by simp only [m_odds, qb1]; try rfl)]) rfl
  · have c5 := bN_1.mp c5
    obtain ⟨b1, hb1, rfl⟩ := pY hN30 c5
    have qb1 := pI hb1 hN30
    show J X (wX A cy fl dT (nI N, nI B, kf, pf, lf, tf) tT (nI c) df mf gf tv ln la cf) 8 [(0, .ref (A 3 0)), (1, .int (nI b1)), (2, .int a), (3, .int w)] []
    refine j_aload_n C 0 dX7_odds_8 rfl rfl ?_
    refine j_iload_n C 2 dX7_odds_9 rfl rfl ?_
    refine j_callV0 (As := [.int a]) (rest := []) C (c_X7_isPerson A fl dT tT N B kf pf lf tf c df mf gf tv ln la cf (a) hN) gX7_odds_X7_isPerson rfl 1 rfl (by decide +kernel) (by decide) 0 rfl rfl (Nat.le_of_ble_eq_true rfl) dX7_odds_10 rfl (fun _ _ => ?_)
    show J X (wX A cy fl dT (nI N, nI B, kf, pf, lf, tf) tT (nI c) df mf gf tv ln la cf) 13 [(0, .ref (A 3 0)), (1, .int (nI b1)), (2, .int a), (3, .int w)] [.int (nI (bN ((pOf N (a)).isSome = true)))]
    refine j_if_eqN (tgt := 24) C dX7_odds_13 (by decide) (bN_lt _) (fun c13 => ?_) (fun c13 => ?_)
    · have c13 := bN_0.mp c13
      have qa1 := pOf_n c13
      refine j_ldc2 (v := lostV) C mh0 dX7_odds_24 ?_
      exact j_lret C E dX7_odds_27 (fl, dT, (nI N, nI B, kf, pf, lf, tf), tT, nI c, df, mf, gf, tv, ln, la, cf) (by rw [show m_odds ((N, B, k, p), (c, rd, rl, ra), (hs, sl, sa, sc), tv, fl) (nI b1) a w = (lostV, ((N, B, k, p), (c, rd, rl, ra), (hs, sl, sa, sc), tv, fl)) from (by simp only [m_odds, qb1, qa1]; try rfl)]; exact XI.mk hB hN2 hT hR hS) (by rw [show m_odds ((N, B, k, p), (c, rd, rl, ra), (hs, sl, sa, sc), tv, fl) (nI b1) a w = (lostV, ((N, B, k, p), (c, rd, rl, ra), (hs, sl, sa, sc), tv, fl)) from (by simp only [m_odds, qb1, qa1]; try rfl)]) rfl
    · have c13 := bN_1.mp c13
      obtain ⟨a1, ha1, rfl⟩ := pY hN30 c13
      have qa1 := pI ha1 hN30
      show J X (wX A cy fl dT (nI N, nI B, kf, pf, lf, tf) tT (nI c) df mf gf tv ln la cf) 16 [(0, .ref (A 3 0)), (1, .int (nI b1)), (2, .int (nI a1)), (3, .int w)] []
      refine j_iload_n C 3 dX7_odds_16 rfl rfl ?_
      refine j_iconst (v := nI 1) C dX7_odds_17 (by decide) ?_
      refine j_callP (As := [.int w, .int (nI 1)]) (rest := []) C (c_X7_isWithin (w) 1 (by omega)) gX7_odds_X7_isWithin rfl 2 rfl (by decide +kernel) (by decide) (Nat.le_of_ble_eq_true rfl) dX7_odds_18 rfl (fun _ _ => ?_)
      show J X (wX A cy fl dT (nI N, nI B, kf, pf, lf, tf) tT (nI c) df mf gf tv ln la cf) 21 [(0, .ref (A 3 0)), (1, .int (nI b1)), (2, .int (nI a1)), (3, .int w)] [.int (nI (bN ((pOf 2 (w)).isSome = true)))]
      refine j_if_neN (tgt := 28) C dX7_odds_21 (by decide) (bN_lt _) (fun c21 => ?_) (fun c21 => ?_)
      · have c21 := bN_1.mp c21
        obtain ⟨w1, hw1, rfl⟩ := pY (by decide) c21
        have qw1 := pI hw1 (by decide)
        show J X (wX A cy fl dT (nI N, nI B, kf, pf, lf, tf) tT (nI c) df mf gf tv ln la cf) 28 [(0, .ref (A 3 0)), (1, .int (nI b1)), (2, .int (nI a1)), (3, .int (nI w1))] []
        refine j_aload_n C 0 dX7_odds_28 rfl rfl ?_
        refine j_get C mh1 0 mh2 0 rfl rfl (by decide) rfl rfl dX7_odds_29 ?_
        refine j_iload_n C 1 dX7_odds_32 rfl rfl ?_
        refine jx_N (nT' := fun _ => (nI N, nI B, kf, pf, lf, tf)) (As := [.int (nI b1)]) (rest := []) C (c_X5_owingTo (A 1) N B kf pf lf tf k p hT b1 (by omega)) gX7_odds_X5_owingTo rfl 1 rfl (by decide +kernel) (by decide) (Nat.le_of_ble_eq_true rfl) dX7_odds_33 rfl (fun _ _ => ?_)
        show J X (wX A cy fl dT (nI N, nI B, kf, pf, lf, tf) tT (nI c) df mf gf tv ln la cf) 36 [(0, .ref (A 3 0)), (1, .int (nI b1)), (2, .int (nI a1)), (3, .int (nI w1))] [.int (nI (owS N p b1))]
        refine j_istore (lv' := [(4, .int (nI (owS N p b1))), (0, .ref (A 3 0)), (1, .int (nI b1)), (2, .int (nI a1)), (3, .int (nI w1))]) C dX7_odds_36 (by decide) rfl ?_
        refine j_iconst (v := nI 0) C dX7_odds_38 (by decide) ?_
        refine j_istore (lv' := [(5, .int (nI 0)), (4, .int (nI (owS N p b1))), (0, .ref (A 3 0)), (1, .int (nI b1)), (2, .int (nI a1)), (3, .int (nI w1))]) C dX7_odds_39 (by decide) rfl ?_
        refine j_iconst (v := nI 0) C dX7_odds_41 (by decide) ?_
        refine j_istore (lv' := [(6, .int (nI 0)), (5, .int (nI 0)), (4, .int (nI (owS N p b1))), (0, .ref (A 3 0)), (1, .int (nI b1)), (2, .int (nI a1)), (3, .int (nI w1))]) C dX7_odds_42 (by decide) rfl ?_
        refine j_iconst (v := nI 0) C dX7_odds_44 (by decide) ?_
        refine j_istore (lv' := [(7, .int (nI 0)), (6, .int (nI 0)), (5, .int (nI 0)), (4, .int (nI (owS N p b1))), (0, .ref (A 3 0)), (1, .int (nI b1)), (2, .int (nI a1)), (3, .int (nI w1))]) C dX7_odds_45 (by decide) rfl ?_
        refine J.sub [4, 5, 6, 7, 3, 2, 1, 0] rfl ?_
        have L47 : ∀ (n : Nat) (i : Nat), 64 - i < n → i ≤ 64 → J X (wX A cy fl dT (nI N, nI B, kf, pf, lf, tf) tT (nI c) df mf gf tv ln la cf) 47 [(0, .ref (A 3 0)), (1, .int (nI b1)), (2, .int (nI a1)), (3, .int (nI w1)), (4, .int (nI (owS N p b1))), (5, .int (nI (cntB (oYes N (owS N p b1) k p b1 a1) i))), (6, .int (nI (cntB (oIn (owS N p b1)) i))), (7, .int (nI i))] [] := by
          intro n
          induction n with
          | zero => intro i hm; exact absurd hm (Nat.not_lt_zero _)
          | succ n ih47 =>
            intro i h47_0 h47_1
            have hO : owS N p b1 < 64 := bset_le6 _ hN
            refine j_iload C 7 dX7_odds_47 rfl ?_
            refine j_bipush (v := nI 64) C dX7_odds_49 (by decide) ?_
            refine j_icmp_geN (tgt := 93) C dX7_odds_51 (by decide) (by omega) (by omega) (fun c51 => ?_) (fun c51 => ?_)
            · have e64 : i = 64 := by omega
              obtain ⟨ex, hex, hpw⟩ := o_pow _ hO
              have hU := cntB_le (P := oYes N (owS N p b1) k p b1 a1) i
              have hV := cntB_le (P := oIn (owS N p b1)) i
              refine j_iconst (v := nI 0) C dX7_odds_93 (by decide) ?_
              refine j_istore (lv' := [(7, .int (nI 0)), (0, .ref (A 3 0)), (1, .int (nI b1)), (2, .int (nI a1)), (3, .int (nI w1)), (4, .int (nI (owS N p b1))), (5, .int (nI (cntB (oYes N (owS N p b1) k p b1 a1) i))), (6, .int (nI (cntB (oIn (owS N p b1)) i)))]) C dX7_odds_94 (by decide) rfl ?_
              refine J.sub [1, 2, 3, 4, 5, 6, 7, 0] rfl ?_
              have L96 : ∀ (n : Nat) (t u v : Nat), 6 - t < n → t ≤ 6 → u * 2 ^ t = cntB (oYes N (owS N p b1) k p b1 a1) 64 → v * 2 ^ t = cntB (oIn (owS N p b1)) 64 → (u ≤ 64 ∧ v ≤ 64) → J X (wX A cy fl dT (nI N, nI B, kf, pf, lf, tf) tT (nI c) df mf gf tv ln la cf) 96 [(0, .ref (A 3 0)), (1, .int (nI b1)), (2, .int (nI a1)), (3, .int (nI w1)), (4, .int (nI (owS N p b1))), (5, .int (nI u)), (6, .int (nI v)), (7, .int (nI t))] [] := by
                intro n
                induction n with
                | zero => intro t u v hm; exact absurd hm (Nat.not_lt_zero _)
                | succ n ih96 =>
                  intro t u v h96_0 h96_1 h96_2 h96_3 h96_4
                  refine j_iload C 7 dX7_odds_96 rfl ?_
                  refine j_bipush (v := nI 6) C dX7_odds_98 (by decide) ?_
                  refine j_icmp_geN (tgt := 134) C dX7_odds_100 (by decide) (by omega) (by omega) (fun c100 => ?_) (fun c100 => ?_)
                  · have hend := half_end hpw (by omega) h96_2 h96_3 h96_1 (Or.inl (by omega))
                    refine j_iload_n C 3 dX7_odds_134 rfl rfl ?_
                    refine j_if_neN (tgt := 144) C dX7_odds_135 (by decide) (by omega) (fun c135 => ?_) (fun c135 => ?_)
                    · have w10 : ¬ w1 = 0 := c135
                      refine j_iload C 6 dX7_odds_144 rfl ?_
                      refine j_i2l (v := lN v) C dX7_odds_146 (nI_l (by omega)) ?_
                      exact j_lret C E dX7_odds_147 (fl, dT, (nI N, nI B, kf, pf, lf, tf), tT, nI c, df, mf, gf, tv, ln, la, cf) (by rw [show m_odds ((N, B, k, p), (c, rd, rl, ra), (hs, sl, sa, sc), tv, fl) (nI b1) (nI a1) (nI w1) = (lN v, ((N, B, k, p), (c, rd, rl, ra), (hs, sl, sa, sc), tv, fl)) from (by simp only [m_odds, qb1, qa1, qw1, if_neg w10, hend.1, hend.2, if_true, if_false])]; exact XI.mk hB hN2 hT hR hS) (by rw [show m_odds ((N, B, k, p), (c, rd, rl, ra), (hs, sl, sa, sc), tv, fl) (nI b1) (nI a1) (nI w1) = (lN v, ((N, B, k, p), (c, rd, rl, ra), (hs, sl, sa, sc), tv, fl)) from (by simp only [m_odds, qb1, qa1, qw1, if_neg w10, hend.1, hend.2, if_true, if_false])]) rfl
                    · have w11 : w1 = 0 := c135
                      refine j_iload C 5 dX7_odds_138 rfl ?_
                      refine j_i2l (v := lN u) C dX7_odds_140 (nI_l (by omega)) ?_
                      refine j_goto (tgt := 147) C dX7_odds_141 (by decide) ?_
                      exact j_lret C E dX7_odds_147 (fl, dT, (nI N, nI B, kf, pf, lf, tf), tT, nI c, df, mf, gf, tv, ln, la, cf) (by rw [show m_odds ((N, B, k, p), (c, rd, rl, ra), (hs, sl, sa, sc), tv, fl) (nI b1) (nI a1) (nI w1) = (lN u, ((N, B, k, p), (c, rd, rl, ra), (hs, sl, sa, sc), tv, fl)) from (by simp only [m_odds, qb1, qa1, qw1, if_pos w11, hend.1, hend.2, if_true, if_false])]; exact XI.mk hB hN2 hT hR hS) (by rw [show m_odds ((N, B, k, p), (c, rd, rl, ra), (hs, sl, sa, sc), tv, fl) (nI b1) (nI a1) (nI w1) = (lN u, ((N, B, k, p), (c, rd, rl, ra), (hs, sl, sa, sc), tv, fl)) from (by simp only [m_odds, qb1, qa1, qw1, if_pos w11, hend.1, hend.2, if_true, if_false])]) rfl
                  · refine j_iload C 6 dX7_odds_103 rfl ?_
                    refine j_iconst (v := nI 1) C dX7_odds_105 (by decide) ?_
                    refine j_icmp_leN (tgt := 134) C dX7_odds_106 (by decide) (by omega) (by omega) (fun c106 => ?_) (fun c106 => ?_)
                    · have hend := half_end hpw (by omega) h96_2 h96_3 h96_1 (Or.inr (Or.inl (by omega)))
                      refine j_iload_n C 3 dX7_odds_134 rfl rfl ?_
                      refine j_if_neN (tgt := 144) C dX7_odds_135 (by decide) (by omega) (fun c135 => ?_) (fun c135 => ?_)
                      · have w10 : ¬ w1 = 0 := c135
                        refine j_iload C 6 dX7_odds_144 rfl ?_
                        refine j_i2l (v := lN v) C dX7_odds_146 (nI_l (by omega)) ?_
                        exact j_lret C E dX7_odds_147 (fl, dT, (nI N, nI B, kf, pf, lf, tf), tT, nI c, df, mf, gf, tv, ln, la, cf) (by rw [show m_odds ((N, B, k, p), (c, rd, rl, ra), (hs, sl, sa, sc), tv, fl) (nI b1) (nI a1) (nI w1) = (lN v, ((N, B, k, p), (c, rd, rl, ra), (hs, sl, sa, sc), tv, fl)) from (by simp only [m_odds, qb1, qa1, qw1, if_neg w10, hend.1, hend.2, if_true, if_false])]; exact XI.mk hB hN2 hT hR hS) (by rw [show m_odds ((N, B, k, p), (c, rd, rl, ra), (hs, sl, sa, sc), tv, fl) (nI b1) (nI a1) (nI w1) = (lN v, ((N, B, k, p), (c, rd, rl, ra), (hs, sl, sa, sc), tv, fl)) from (by simp only [m_odds, qb1, qa1, qw1, if_neg w10, hend.1, hend.2, if_true, if_false])]) rfl
                      · have w11 : w1 = 0 := c135
                        refine j_iload C 5 dX7_odds_138 rfl ?_
                        refine j_i2l (v := lN u) C dX7_odds_140 (nI_l (by omega)) ?_
                        refine j_goto (tgt := 147) C dX7_odds_141 (by decide) ?_
                        exact j_lret C E dX7_odds_147 (fl, dT, (nI N, nI B, kf, pf, lf, tf), tT, nI c, df, mf, gf, tv, ln, la, cf) (by rw [show m_odds ((N, B, k, p), (c, rd, rl, ra), (hs, sl, sa, sc), tv, fl) (nI b1) (nI a1) (nI w1) = (lN u, ((N, B, k, p), (c, rd, rl, ra), (hs, sl, sa, sc), tv, fl)) from (by simp only [m_odds, qb1, qa1, qw1, if_pos w11, hend.1, hend.2, if_true, if_false])]; exact XI.mk hB hN2 hT hR hS) (by rw [show m_odds ((N, B, k, p), (c, rd, rl, ra), (hs, sl, sa, sc), tv, fl) (nI b1) (nI a1) (nI w1) = (lN u, ((N, B, k, p), (c, rd, rl, ra), (hs, sl, sa, sc), tv, fl)) from (by simp only [m_odds, qb1, qa1, qw1, if_pos w11, hend.1, hend.2, if_true, if_false])]) rfl
                    · refine j_iload C 5 dX7_odds_109 rfl ?_
                      refine j_iconst (v := nI 2) C dX7_odds_111 (by decide) ?_
                      refine j_irem (v := nI (u % 2)) C dX7_odds_112 (nI_ne0 (by omega) (by omega)) (pk_rem (by omega) (by omega) (by omega)) ?_
                      refine j_if_neN (tgt := 134) C dX7_odds_113 (by decide) (by omega) (fun c113 => ?_) (fun c113 => ?_)
                      · have hend := half_end hpw (by omega) h96_2 h96_3 h96_1 (Or.inr (Or.inr c113))
                        refine j_iload_n C 3 dX7_odds_134 rfl rfl ?_
                        refine j_if_neN (tgt := 144) C dX7_odds_135 (by decide) (by omega) (fun c135 => ?_) (fun c135 => ?_)
                        · have w10 : ¬ w1 = 0 := c135
                          refine j_iload C 6 dX7_odds_144 rfl ?_
                          refine j_i2l (v := lN v) C dX7_odds_146 (nI_l (by omega)) ?_
                          exact j_lret C E dX7_odds_147 (fl, dT, (nI N, nI B, kf, pf, lf, tf), tT, nI c, df, mf, gf, tv, ln, la, cf) (by rw [show m_odds ((N, B, k, p), (c, rd, rl, ra), (hs, sl, sa, sc), tv, fl) (nI b1) (nI a1) (nI w1) = (lN v, ((N, B, k, p), (c, rd, rl, ra), (hs, sl, sa, sc), tv, fl)) from (by simp only [m_odds, qb1, qa1, qw1, if_neg w10, hend.1, hend.2, if_true, if_false])]; exact XI.mk hB hN2 hT hR hS) (by rw [show m_odds ((N, B, k, p), (c, rd, rl, ra), (hs, sl, sa, sc), tv, fl) (nI b1) (nI a1) (nI w1) = (lN v, ((N, B, k, p), (c, rd, rl, ra), (hs, sl, sa, sc), tv, fl)) from (by simp only [m_odds, qb1, qa1, qw1, if_neg w10, hend.1, hend.2, if_true, if_false])]) rfl
                        · have w11 : w1 = 0 := c135
                          refine j_iload C 5 dX7_odds_138 rfl ?_
                          refine j_i2l (v := lN u) C dX7_odds_140 (nI_l (by omega)) ?_
                          refine j_goto (tgt := 147) C dX7_odds_141 (by decide) ?_
                          exact j_lret C E dX7_odds_147 (fl, dT, (nI N, nI B, kf, pf, lf, tf), tT, nI c, df, mf, gf, tv, ln, la, cf) (by rw [show m_odds ((N, B, k, p), (c, rd, rl, ra), (hs, sl, sa, sc), tv, fl) (nI b1) (nI a1) (nI w1) = (lN u, ((N, B, k, p), (c, rd, rl, ra), (hs, sl, sa, sc), tv, fl)) from (by simp only [m_odds, qb1, qa1, qw1, if_pos w11, hend.1, hend.2, if_true, if_false])]; exact XI.mk hB hN2 hT hR hS) (by rw [show m_odds ((N, B, k, p), (c, rd, rl, ra), (hs, sl, sa, sc), tv, fl) (nI b1) (nI a1) (nI w1) = (lN u, ((N, B, k, p), (c, rd, rl, ra), (hs, sl, sa, sc), tv, fl)) from (by simp only [m_odds, qb1, qa1, qw1, if_pos w11, hend.1, hend.2, if_true, if_false])]) rfl
                      · have hl2 := half_l hpw h96_3 c106
                        refine j_iload C 5 dX7_odds_116 rfl ?_
                        refine j_iconst (v := nI 2) C dX7_odds_118 (by decide) ?_
                        refine j_idiv (v := nI (u / 2)) C dX7_odds_119 (nI_ne0 (by omega) (by omega)) (pk_div (by omega) (by omega) (by omega)) ?_
                        refine j_istore (lv' := [(5, .int (nI (u / 2))), (0, .ref (A 3 0)), (1, .int (nI b1)), (2, .int (nI a1)), (3, .int (nI w1)), (4, .int (nI (owS N p b1))), (6, .int (nI v)), (7, .int (nI t))]) C dX7_odds_120 (by decide) rfl ?_
                        refine j_iload C 6 dX7_odds_122 rfl ?_
                        refine j_iconst (v := nI 2) C dX7_odds_124 (by decide) ?_
                        refine j_idiv (v := nI (v / 2)) C dX7_odds_125 (nI_ne0 (by omega) (by omega)) (pk_div (by omega) (by omega) (by omega)) ?_
                        refine j_istore (lv' := [(6, .int (nI (v / 2))), (5, .int (nI (u / 2))), (0, .ref (A 3 0)), (1, .int (nI b1)), (2, .int (nI a1)), (3, .int (nI w1)), (4, .int (nI (owS N p b1))), (7, .int (nI t))]) C dX7_odds_126 (by decide) rfl ?_
                        refine j_iinc (v := nI (t + 1)) (lv' := [(7, .int (nI (t + 1))), (6, .int (nI (v / 2))), (5, .int (nI (u / 2))), (0, .ref (A 3 0)), (1, .int (nI b1)), (2, .int (nI a1)), (3, .int (nI w1)), (4, .int (nI (owS N p b1)))]) C 7 dX7_odds_128 rfl (nI_inc t) (by decide) rfl ?_
                        refine j_goto (tgt := 96) C dX7_odds_131 (by decide) ?_
                        refine J.sub [3, 4, 5, 6, 7, 2, 1, 0] rfl ?_
                        have e := ih96 (t + 1) (u / 2) (v / 2) (by omega) (by omega) (half_s h96_2 c113) (half_s h96_3 hl2) ⟨by omega, by omega⟩
                        exact e
              have e := L96 7 0 (cntB (oYes N (owS N p b1) k p b1 a1) i) (cntB (oIn (owS N p b1)) i) (by omega) (by omega) (by rw [e64]; exact Nat.mul_one _) (by rw [e64]; exact Nat.mul_one _) ⟨by omega, by omega⟩
              exact e
            · refine j_iload C 7 dX7_odds_54 rfl ?_
              refine j_iload C 4 dX7_odds_56 rfl ?_
              refine j_iconst (v := (-1)) C dX7_odds_58 (by decide) ?_
              refine j_ixor (v := nI (owS N p b1) ^^^ (-1)) C dX7_odds_59 rfl ?_
              refine j_iand (v := nI i &&& (nI (owS N p b1) ^^^ (-1))) C dX7_odds_60 rfl ?_
              refine j_if_eq (tgt := 67) C dX7_odds_61 (by decide) (fun c61 => ?_) (fun c61 => ?_)
              · have hin : oIn (owS N p b1) i = true := (oIn_i i (by omega) _ hO).mp c61
                refine j_iinc (v := nI ((cntB (oIn (owS N p b1)) i) + 1)) (lv' := [(6, .int (nI ((cntB (oIn (owS N p b1)) i) + 1))), (0, .ref (A 3 0)), (1, .int (nI b1)), (2, .int (nI a1)), (3, .int (nI w1)), (4, .int (nI (owS N p b1))), (5, .int (nI (cntB (oYes N (owS N p b1) k p b1 a1) i))), (7, .int (nI i))]) C 6 dX7_odds_67 rfl (nI_inc (cntB (oIn (owS N p b1)) i)) (by decide) rfl ?_
                refine j_aload_n C 1 dX7_odds_70 rfl rfl ?_
                refine j_get C mh1 0 mh2 0 rfl rfl (by decide) rfl rfl dX7_odds_71 ?_
                refine j_iload_n C 2 dX7_odds_74 rfl rfl ?_
                refine j_iload C 7 dX7_odds_75 rfl ?_
                refine jx_N (nT' := fun _ => (nI N, nI B, kf, pf, lf, tf)) (As := [.int (nI b1), .int (nI i)]) (rest := []) C (c_X5_lighterAmong (A 1) N B kf pf lf tf k p hT b1 i (by omega) (by omega)) gX7_odds_X5_lighterAmong rfl 2 rfl (by decide +kernel) (by decide) (Nat.le_of_ble_eq_true rfl) dX7_odds_77 rfl (fun _ _ => ?_)
                show J X (wX A cy fl dT (nI N, nI B, kf, pf, lf, tf) tT (nI c) df mf gf tv ln la cf) 80 [(6, .int (nI ((cntB (oIn (owS N p b1)) i) + 1))), (0, .ref (A 3 0)), (1, .int (nI b1)), (2, .int (nI a1)), (3, .int (nI w1)), (4, .int (nI (owS N p b1))), (5, .int (nI (cntB (oYes N (owS N p b1) k p b1 a1) i))), (7, .int (nI i))] [.int (lI (lgt (wL k p b1 i) N))]
                refine j_iload_n C 3 dX7_odds_80 rfl rfl ?_
                refine j_icmp_ne (tgt := 87) C dX7_odds_81 (by decide) (fun c81 => ?_) (fun c81 => ?_)
                · have hye : oYes N (owS N p b1) k p b1 a1 i = false := by show (oIn (owS N p b1) i && _) = false; rw [hin]; exact beq_eq_false_iff_ne.mpr (fun z => c81 (by rw [z]; rfl))
                  refine j_iinc (v := nI (i + 1)) (lv' := [(7, .int (nI (i + 1))), (6, .int (nI ((cntB (oIn (owS N p b1)) i) + 1))), (0, .ref (A 3 0)), (1, .int (nI b1)), (2, .int (nI a1)), (3, .int (nI w1)), (4, .int (nI (owS N p b1))), (5, .int (nI (cntB (oYes N (owS N p b1) k p b1 a1) i)))]) C 7 dX7_odds_87 rfl (nI_inc i) (by decide) rfl ?_
                  refine j_goto (tgt := 47) C dX7_odds_90 (by decide) ?_
                  refine J.sub [2, 3, 4, 5, 6, 7, 1, 0] rfl ?_
                  have e := ih47 (i + 1) (by omega) (by omega)
                  first
                    | (rw [cntB_n (P := oYes N (owS N p b1) k p b1 a1) (n := i) (by show (oIn (owS N p b1) i && _) = false; rw [hin]; rfl), cntB_n (P := oIn (owS N p b1)) (n := i) hin] at e; exact e)
                    | (rw [cntB_n (P := oYes N (owS N p b1) k p b1 a1) (n := i) hye, cntB_y (P := oIn (owS N p b1)) (n := i) hin] at e; exact e)
                    | (rw [cntB_y (P := oYes N (owS N p b1) k p b1 a1) (n := i) hye, cntB_y (P := oIn (owS N p b1)) (n := i) hin] at e; exact e)
                · have hye : oYes N (owS N p b1) k p b1 a1 i = true := by show (oIn (owS N p b1) i && _) = true; rw [hin, (lI_eq (fun a h => by have := lgt_lt h; omega) (by omega)).mp c81]; exact beq_self_eq_true _
                  refine j_iinc (v := nI ((cntB (oYes N (owS N p b1) k p b1 a1) i) + 1)) (lv' := [(5, .int (nI ((cntB (oYes N (owS N p b1) k p b1 a1) i) + 1))), (6, .int (nI ((cntB (oIn (owS N p b1)) i) + 1))), (0, .ref (A 3 0)), (1, .int (nI b1)), (2, .int (nI a1)), (3, .int (nI w1)), (4, .int (nI (owS N p b1))), (7, .int (nI i))]) C 6 dX7_odds_84 rfl (nI_inc (cntB (oYes N (owS N p b1) k p b1 a1) i)) (by decide) rfl ?_
                  refine j_iinc (v := nI (i + 1)) (lv' := [(7, .int (nI (i + 1))), (5, .int (nI ((cntB (oYes N (owS N p b1) k p b1 a1) i) + 1))), (6, .int (nI ((cntB (oIn (owS N p b1)) i) + 1))), (0, .ref (A 3 0)), (1, .int (nI b1)), (2, .int (nI a1)), (3, .int (nI w1)), (4, .int (nI (owS N p b1)))]) C 7 dX7_odds_87 rfl (nI_inc i) (by decide) rfl ?_
                  refine j_goto (tgt := 47) C dX7_odds_90 (by decide) ?_
                  refine J.sub [3, 4, 5, 6, 7, 1, 2, 0] rfl ?_
                  have e := ih47 (i + 1) (by omega) (by omega)
                  first
                    | (rw [cntB_n (P := oYes N (owS N p b1) k p b1 a1) (n := i) (by show (oIn (owS N p b1) i && _) = false; rw [hin]; rfl), cntB_n (P := oIn (owS N p b1)) (n := i) hin] at e; exact e)
                    | (rw [cntB_n (P := oYes N (owS N p b1) k p b1 a1) (n := i) hye, cntB_y (P := oIn (owS N p b1)) (n := i) hin] at e; exact e)
                    | (rw [cntB_y (P := oYes N (owS N p b1) k p b1 a1) (n := i) hye, cntB_y (P := oIn (owS N p b1)) (n := i) hin] at e; exact e)
              · have hin : oIn (owS N p b1) i = false := Bool.eq_false_iff.mpr (fun z => c61 ((oIn_i i (by omega) _ hO).mpr z))
                refine j_goto (tgt := 87) C dX7_odds_64 (by decide) ?_
                refine j_iinc (v := nI (i + 1)) (lv' := [(7, .int (nI (i + 1))), (0, .ref (A 3 0)), (1, .int (nI b1)), (2, .int (nI a1)), (3, .int (nI w1)), (4, .int (nI (owS N p b1))), (5, .int (nI (cntB (oYes N (owS N p b1) k p b1 a1) i))), (6, .int (nI (cntB (oIn (owS N p b1)) i)))]) C 7 dX7_odds_87 rfl (nI_inc i) (by decide) rfl ?_
                refine j_goto (tgt := 47) C dX7_odds_90 (by decide) ?_
                refine J.sub [1, 2, 3, 4, 5, 6, 7, 0] rfl ?_
                have e := ih47 (i + 1) (by omega) (by omega)
                first
                  | (rw [cntB_n (P := oYes N (owS N p b1) k p b1 a1) (n := i) (by show (oIn (owS N p b1) i && _) = false; rw [hin]; rfl), cntB_n (P := oIn (owS N p b1)) (n := i) hin] at e; exact e)
                  | (rw [cntB_n (P := oYes N (owS N p b1) k p b1 a1) (n := i) hye, cntB_y (P := oIn (owS N p b1)) (n := i) hin] at e; exact e)
                  | (rw [cntB_y (P := oYes N (owS N p b1) k p b1 a1) (n := i) hye, cntB_y (P := oIn (owS N p b1)) (n := i) hin] at e; exact e)
        have e := L47 65 0 (by omega) (by omega)
        exact e
      · have c21 := bN_0.mp c21
        have qw1 := pOf_n c21
        refine j_ldc2 (v := lostV) C mh0 dX7_odds_24 ?_
        exact j_lret C E dX7_odds_27 (fl, dT, (nI N, nI B, kf, pf, lf, tf), tT, nI c, df, mf, gf, tv, ln, la, cf) (by rw [show m_odds ((N, B, k, p), (c, rd, rl, ra), (hs, sl, sa, sc), tv, fl) (nI b1) (nI a1) w = (lostV, ((N, B, k, p), (c, rd, rl, ra), (hs, sl, sa, sc), tv, fl)) from (by simp only [m_odds, qb1, qa1, qw1]; try rfl)]; exact XI.mk hB hN2 hT hR hS) (by rw [show m_odds ((N, B, k, p), (c, rd, rl, ra), (hs, sl, sa, sc), tv, fl) (nI b1) (nI a1) w = (lostV, ((N, B, k, p), (c, rd, rl, ra), (hs, sl, sa, sc), tv, fl)) from (by simp only [m_odds, qb1, qa1, qw1]; try rfl)]) rfl
