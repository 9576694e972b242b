set_option maxHeartbeats 4000000 in
set_option maxRecDepth 20000 in
theorem c_X7_owes {l : Launch} {D : va_G} {cy : Nat → ClassId} (A : Nat → Nat → Nat) (fl : Int32) (dT tT : TwS) (N B : Nat) (kf : Nat → Int32) (pf : Nat → Nat → Int32) (lf tf : Nat → Int32) (c : Nat) (df mf gf : Nat → Int32) (tv : Int32) (ln la : Nat → Int32) (cf : Nat → Nat → Int32) (k : Nat → Nat) (p : Nat → Nat → Nat) (rd rl : Nat → Nat) (ra : Nat → Option Nat) (hs : Nat → Bool) (sl sa : Nat → Nat) (sc : Nat → Nat → Int32) (hX : XI ((N, B, k, p), (c, rd, rl, ra), (hs, sl, sa, sc), tv, fl) (fl, dT, (nI N, nI B, kf, pf, lf, tf), tT, nI c, df, mf, gf, tv, ln, la, cf)) (x y : Int32)  : Ct l yX7_owes wsX7_owes ({ frames := 1, cells := 0, slots := 0, locals := 21 }) D cy [.ref (A 3 0), .int x, .int y] (wX A cy fl dT (nI N, nI B, kf, pf, lf, tf) tT (nI c) df mf gf tv ln la cf) (fun u : XS => XI (m_owes ((N, B, k, p), (c, rd, rl, ra), (hs, sl, sa, sc), tv, fl) x y).2 u) (fun _ => some (.int (m_owes ((N, B, k, p), (c, rd, rl, ra), (hs, sl, sa, sc), tv, fl) x y).1)) (fun u => wXu A cy u) := by
  refine Ct.of (cc := cX7_owes) (nL := 3) (ret := (some .int)) rfl (by decide) ⟨rfl, rfl⟩ (Nat.le_of_ble_eq_true rfl) ?_
  intro X C E
  have C : Cx X l D cy cX7_owes 3 wsX7_owes RX7 ({ frames := 1, cells := 0, slots := 0, locals := 21 }) := C
  have mh0 : ∀ w ∈ u_ws RX7 TX7 7, w ∈ wsX7_owes := by decide +kernel
  have mh1 : Cond.fieldLink RX7 12 RX7 (TX7 0).2.1 (TX7 0).2.2.1 ∈ wsX7_owes := by decide +kernel
  have mh2 : ∀ w ∈ u_ws RX5 TX5 7, w ∈ wsX7_owes := by decide +kernel
  obtain ⟨-, ⟨hB, hN2⟩, hT, hR, hS⟩ := hX
  have hN := hT.n
  have hc8 := hR.1
  have hN30 : N ≤ 2 ^ 30 := by omega
  show J X (wX A cy fl dT (nI N, nI B, kf, pf, lf, tf) tT (nI c) df mf gf tv ln la cf) 0 [(0, .ref (A 3 0)), (1, .int x), (2, .int y)] []
  refine j_aload_n C 0 dX7_owes_0 rfl rfl ?_
  refine j_iload_n C 1 dX7_owes_1 rfl rfl ?_
  refine j_callV0 (As := [.int x]) (rest := []) C (c_X7_isPerson A fl dT tT N B kf pf lf tf c df mf gf tv ln la cf (x) hN) gX7_owes_X7_isPerson rfl 1 rfl (by decide +kernel) (by decide) 0 rfl rfl (Nat.le_of_ble_eq_true rfl) dX7_owes_2 rfl (fun _ _ => ?_)
  show J X (wX A cy fl dT (nI N, nI B, kf, pf, lf, tf) tT (nI c) df mf gf tv ln la cf) 5 [(0, .ref (A 3 0)), (1, .int x), (2, .int y)] [.int (nI (bN ((pOf N (x)).isSome = true)))]
  refine j_if_eqN (tgt := 16) C dX7_owes_5 (by decide) (bN_lt _) (fun c5 => ?_) (fun c5 => ?_)
  · have c5 := bN_0.mp c5
    have qa1 := pOf_n c5
    refine j_iconst (v := (-1)) C dX7_owes_16 (by decide) ?_
    exact j_iret C E dX7_owes_17 (fl, dT, (nI N, nI B, kf, pf, lf, tf), tT, nI c, df, mf, gf, tv, ln, la, cf) (by rw [show m_owes ((N, B, k, p), (c, rd, rl, ra), (hs, sl, sa, sc), tv, fl) x y = ((-1), ((N, B, k, p), (c, rd, rl, ra), (hs, sl, sa, sc), tv, fl)) from (by simp only [m_owes, qa1]; try rfl)]; exact XI.mk hB hN2 hT hR hS) (by rw [show m_owes ((N, B, k, p), (c, rd, rl, ra), (hs, sl, sa, sc), tv, fl) x y = ((-1), ((N, B, k, p), (c, rd, rl, ra), (hs, sl, sa, sc), tv, fl)) from (by simp only [m_owes, qa1]; try rfl)]) rfl
  · have c5 := bN_1.mp c5
    obtain ⟨a1, ha1, rfl⟩ := pY hN30 c5
    have qa1 := pI ha1 hN30
    show J X (wX A cy fl dT (nI N, nI B, kf, pf, lf, tf) tT (nI c) df mf gf tv ln la cf) 8 [(0, .ref (A 3 0)), (1, .int (nI a1)), (2, .int y)] []
    refine j_aload_n C 0 dX7_owes_8 rfl rfl ?_
    refine j_iload_n C 2 dX7_owes_9 rfl rfl ?_
    refine j_callV0 (As := [.int y]) (rest := []) C (c_X7_isPerson A fl dT tT N B kf pf lf tf c df mf gf tv ln la cf (y) hN) gX7_owes_X7_isPerson rfl 1 rfl (by decide +kernel) (by decide) 0 rfl rfl (Nat.le_of_ble_eq_true rfl) dX7_owes_10 rfl (fun _ _ => ?_)
    show J X (wX A cy fl dT (nI N, nI B, kf, pf, lf, tf) tT (nI c) df mf gf tv ln la cf) 13 [(0, .ref (A 3 0)), (1, .int (nI a1)), (2, .int y)] [.int (nI (bN ((pOf N (y)).isSome = true)))]
    refine j_if_neN (tgt := 18) C dX7_owes_13 (by decide) (bN_lt _) (fun c13 => ?_) (fun c13 => ?_)
    · have c13 := bN_1.mp c13
      obtain ⟨a2, ha2, rfl⟩ := pY hN30 c13
      have qa2 := pI ha2 hN30
      show J X (wX A cy fl dT (nI N, nI B, kf, pf, lf, tf) tT (nI c) df mf gf tv ln la cf) 18 [(0, .ref (A 3 0)), (1, .int (nI a1)), (2, .int (nI a2))] []
      refine j_aload_n C 0 dX7_owes_18 rfl rfl ?_
      refine j_get C mh0 0 mh1 0 rfl rfl (by decide) rfl rfl dX7_owes_19 ?_
      refine j_getN C mh2 2 (by decide +kernel) 16 rfl rfl (by decide) rfl rfl dX7_owes_22 ?_
      refine j_iload_n C 1 dX7_owes_25 rfl rfl ?_
      refine j_gald (b := A 1 (9 + a1)) C 19 rfl (by omega) (by decide) (wT_out (by omega)) dX7_owes_26 ?_
      refine j_iload_n C 2 dX7_owes_27 rfl rfl ?_
      have := hT.p9 (a := a1) (b := a2) (by omega) (by omega)
      refine j_iald (v := nI (p a1 a2)) C (25 + a1) (wX_nr (by omega)) (by omega) (by decide) (hT.pp (by omega) (by omega)) dX7_owes_28 ?_
      exact j_iret C E dX7_owes_29 (fl, dT, (nI N, nI B, kf, pf, lf, tf), tT, nI c, df, mf, gf, tv, ln, la, cf) (by rw [show m_owes ((N, B, k, p), (c, rd, rl, ra), (hs, sl, sa, sc), tv, fl) (nI a1) (nI a2) = (nI (p a1 a2), ((N, B, k, p), (c, rd, rl, ra), (hs, sl, sa, sc), tv, fl)) from (by simp only [m_owes, qa1, qa2])]; exact XI.mk hB hN2 hT hR hS) (by rw [show m_owes ((N, B, k, p), (c, rd, rl, ra), (hs, sl, sa, sc), tv, fl) (nI a1) (nI a2) = (nI (p a1 a2), ((N, B, k, p), (c, rd, rl, ra), (hs, sl, sa, sc), tv, fl)) from (by simp only [m_owes, qa1, qa2])]) rfl
    · have c13 := bN_0.mp c13
      have qa2 := pOf_n c13
      refine j_iconst (v := (-1)) C dX7_owes_16 (by decide) ?_
      exact j_iret C E dX7_owes_17 (fl, dT, (nI N, nI B, kf, pf, lf, tf), tT, nI c, df, mf, gf, tv, ln, la, cf) (by rw [show m_owes ((N, B, k, p), (c, rd, rl, ra), (hs, sl, sa, sc), tv, fl) (nI a1) y = ((-1), ((N, B, k, p), (c, rd, rl, ra), (hs, sl, sa, sc), tv, fl)) from (by simp only [m_owes, qa1, qa2]; try rfl)]; exact XI.mk hB hN2 hT hR hS) (by rw [show m_owes ((N, B, k, p), (c, rd, rl, ra), (hs, sl, sa, sc), tv, fl) (nI a1) y = ((-1), ((N, B, k, p), (c, rd, rl, ra), (hs, sl, sa, sc), tv, fl)) from (by simp only [m_owes, qa1, qa2]; try rfl)]) rfl
set_option maxHeartbeats 4000000 in
set_option maxRecDepth 20000 in
theorem c_X7_weight {l : Launch} {D : va_G} {cy : Nat → ClassId} (A : Nat → Nat → Nat) (fl : Int32) (dT tT : TwS) (N B : Nat) (kf : Nat → Int32) (pf : Nat → Nat → Int32) (lf tf : Nat → Int32) (c : Nat) (df mf gf : Nat → Int32) (tv : Int32) (ln la : Nat → Int32) (cf : Nat → Nat → Int32) (k : Nat → Nat) (p : Nat → Nat → Nat) (rd rl : Nat → Nat) (ra : Nat → Option Nat) (hs : Nat → Bool) (sl sa : Nat → Nat) (sc : Nat → Nat → Int32) (hX : XI ((N, B, k, p), (c, rd, rl, ra), (hs, sl, sa, sc), tv, fl) (fl, dT, (nI N, nI B, kf, pf, lf, tf), tT, nI c, df, mf, gf, tv, ln, la, cf)) (x y : Int32)  : Ct l yX7_weight wsX7_weight ({ frames := 2, cells := 0, slots := 0, locals := 43 }) D cy [.ref (A 3 0), .int x, .int y] (wX A cy fl dT (nI N, nI B, kf, pf, lf, tf) tT (nI c) df mf gf tv ln la cf) (fun u : XS => XI (m_weight ((N, B, k, p), (c, rd, rl, ra), (hs, sl, sa, sc), tv, fl) x y).2 u) (fun _ => some (.int (m_weight ((N, B, k, p), (c, rd, rl, ra), (hs, sl, sa, sc), tv, fl) x y).1)) (fun u => wXu A cy u) := by
  refine Ct.of (cc := cX7_weight) (nL := 3) (ret := (some .int)) rfl (by decide) ⟨rfl, rfl⟩ (Nat.le_of_ble_eq_true rfl) ?_
  intro X C E
  have C : Cx X l D cy cX7_weight 3 wsX7_weight RX7 ({ frames := 2, cells := 0, slots := 0, locals := 43 }) := C
  have mh0 : ∀ w ∈ u_ws RX7 TX7 7, w ∈ wsX7_weight := by decide +kernel
  have mh1 : Cond.fieldLink RX7 12 RX7 (TX7 0).2.1 (TX7 0).2.2.1 ∈ wsX7_weight := by decide +kernel
  obtain ⟨-, ⟨hB, hN2⟩, hT, hR, hS⟩ := hX
  have hN := hT.n
  have hc8 := hR.1
  have hN30 : N ≤ 2 ^ 30 := by omega
  show J X (wX A cy fl dT (nI N, nI B, kf, pf, lf, tf) tT (nI c) df mf gf tv ln la cf) 0 [(0, .ref (A 3 0)), (1, .int x), (2, .int y)] []
  refine j_aload_n C 0 dX7_weight_0 rfl rfl ?_
  refine j_iload_n C 1 dX7_weight_1 rfl rfl ?_
  refine j_callV0 (As := [.int x]) (rest := []) C (c_X7_isPerson A fl dT tT N B kf pf lf tf c df mf gf tv ln la cf (x) hN) gX7_weight_X7_isPerson rfl 1 rfl (by decide +kernel) (by decide) 0 rfl rfl (Nat.le_of_ble_eq_true rfl) dX7_weight_2 rfl (fun _ _ => ?_)
  show J X (wX A cy fl dT (nI N, nI B, kf, pf, lf, tf) tT (nI c) df mf gf tv ln la cf) 5 [(0, .ref (A 3 0)), (1, .int x), (2, .int y)] [.int (nI (bN ((pOf N (x)).isSome = true)))]
  refine j_if_eqN (tgt := 16) C dX7_weight_5 (by decide) (bN_lt _) (fun c5 => ?_) (fun c5 => ?_)
  · have c5 := bN_0.mp c5
    have qa1 := pOf_n c5
    refine j_iconst (v := (-1)) C dX7_weight_16 (by decide) ?_
    exact j_iret C E dX7_weight_17 (fl, dT, (nI N, nI B, kf, pf, lf, tf), tT, nI c, df, mf, gf, tv, ln, la, cf) (by rw [show m_weight ((N, B, k, p), (c, rd, rl, ra), (hs, sl, sa, sc), tv, fl) x y = ((-1), ((N, B, k, p), (c, rd, rl, ra), (hs, sl, sa, sc), tv, fl)) from (by simp only [m_weight, qa1]; try rfl)]; exact XI.mk hB hN2 hT hR hS) (by rw [show m_weight ((N, B, k, p), (c, rd, rl, ra), (hs, sl, sa, sc), tv, fl) x y = ((-1), ((N, B, k, p), (c, rd, rl, ra), (hs, sl, sa, sc), tv, fl)) from (by simp only [m_weight, qa1]; try rfl)]) rfl
  · have c5 := bN_1.mp c5
    obtain ⟨a1, ha1, rfl⟩ := pY hN30 c5
    have qa1 := pI ha1 hN30
    show J X (wX A cy fl dT (nI N, nI B, kf, pf, lf, tf) tT (nI c) df mf gf tv ln la cf) 8 [(0, .ref (A 3 0)), (1, .int (nI a1)), (2, .int y)] []
    refine j_aload_n C 0 dX7_weight_8 rfl rfl ?_
    refine j_iload_n C 2 dX7_weight_9 rfl rfl ?_
    refine j_callV0 (As := [.int y]) (rest := []) C (c_X7_isPerson A fl dT tT N B kf pf lf tf c df mf gf tv ln la cf (y) hN) gX7_weight_X7_isPerson rfl 1 rfl (by decide +kernel) (by decide) 0 rfl rfl (Nat.le_of_ble_eq_true rfl) dX7_weight_10 rfl (fun _ _ => ?_)
    show J X (wX A cy fl dT (nI N, nI B, kf, pf, lf, tf) tT (nI c) df mf gf tv ln la cf) 13 [(0, .ref (A 3 0)), (1, .int (nI a1)), (2, .int y)] [.int (nI (bN ((pOf N (y)).isSome = true)))]
    refine j_if_neN (tgt := 18) C dX7_weight_13 (by decide) (bN_lt _) (fun c13 => ?_) (fun c13 => ?_)
    · have c13 := bN_1.mp c13
      obtain ⟨a2, ha2, rfl⟩ := pY hN30 c13
      have qa2 := pI ha2 hN30
      show J X (wX A cy fl dT (nI N, nI B, kf, pf, lf, tf) tT (nI c) df mf gf tv ln la cf) 18 [(0, .ref (A 3 0)), (1, .int (nI a1)), (2, .int (nI a2))] []
      refine j_aload_n C 0 dX7_weight_18 rfl rfl ?_
      refine j_get C mh0 0 mh1 0 rfl rfl (by decide) rfl rfl dX7_weight_19 ?_
      refine j_iload_n C 1 dX7_weight_22 rfl rfl ?_
      refine j_iload_n C 2 dX7_weight_23 rfl rfl ?_
      refine jx_N (nT' := fun _ => (nI N, nI B, kf, pf, lf, tf)) (As := [.int (nI a1), .int (nI a2)]) (rest := []) C (c_X5_weightOf (A 1) N B kf pf lf tf k p hT a1 a2 (by omega) (by omega)) gX7_weight_X5_weightOf rfl 2 rfl (by decide +kernel) (by decide) (Nat.le_of_ble_eq_true rfl) dX7_weight_24 rfl (fun _ _ => ?_)
      show J X (wX A cy fl dT (nI N, nI B, kf, pf, lf, tf) tT (nI c) df mf gf tv ln la cf) 27 [(0, .ref (A 3 0)), (1, .int (nI a1)), (2, .int (nI a2))] [.int (nI (wt (k a1) (p a1 a2)))]
      exact j_iret C E dX7_weight_27 (fl, dT, (nI N, nI B, kf, pf, lf, tf), tT, nI c, df, mf, gf, tv, ln, la, cf) (by rw [show m_weight ((N, B, k, p), (c, rd, rl, ra), (hs, sl, sa, sc), tv, fl) (nI a1) (nI a2) = (nI (wt (k a1) (p a1 a2)), ((N, B, k, p), (c, rd, rl, ra), (hs, sl, sa, sc), tv, fl)) from (by simp only [m_weight, qa1, qa2])]; exact XI.mk hB hN2 hT hR hS) (by rw [show m_weight ((N, B, k, p), (c, rd, rl, ra), (hs, sl, sa, sc), tv, fl) (nI a1) (nI a2) = (nI (wt (k a1) (p a1 a2)), ((N, B, k, p), (c, rd, rl, ra), (hs, sl, sa, sc), tv, fl)) from (by simp only [m_weight, qa1, qa2])]) rfl
    · have c13 := bN_0.mp c13
      have qa2 := pOf_n c13
      refine j_iconst (v := (-1)) C dX7_weight_16 (by decide) ?_
      exact j_iret C E dX7_weight_17 (fl, dT, (nI N, nI B, kf, pf, lf, tf), tT, nI c, df, mf, gf, tv, ln, la, cf) (by rw [show m_weight ((N, B, k, p), (c, rd, rl, ra), (hs, sl, sa, sc), tv, fl) (nI a1) y = ((-1), ((N, B, k, p), (c, rd, rl, ra), (hs, sl, sa, sc), tv, fl)) from (by simp only [m_weight, qa1, qa2]; try rfl)]; exact XI.mk hB hN2 hT hR hS) (by rw [show m_weight ((N, B, k, p), (c, rd, rl, ra), (hs, sl, sa, sc), tv, fl) (nI a1) y = ((-1), ((N, B, k, p), (c, rd, rl, ra), (hs, sl, sa, sc), tv, fl)) from (by simp only [m_weight, qa1, qa2]; try rfl)]) rfl
set_option maxHeartbeats 4000000 in
set_option maxRecDepth 20000 in
theorem c_X7_lighter {l : Launch} {D : va_G} {cy : Nat → ClassId} (A : Nat → Nat → Nat) (fl : Int32) (dT tT : TwS) (N B : Nat) (kf : Nat → Int32) (pf : Nat → Nat → Int32) (lf tf : Nat → Int32) (c : Nat) (df mf gf : Nat → Int32) (tv : Int32) (ln la : Nat → Int32) (cf : Nat → Nat → Int32) (k : Nat → Nat) (p : Nat → Nat → Nat) (rd rl : Nat → Nat) (ra : Nat → Option Nat) (hs : Nat → Bool) (sl sa : Nat → Nat) (sc : Nat → Nat → Int32) (hX : XI ((N, B, k, p), (c, rd, rl, ra), (hs, sl, sa, sc), tv, fl) (fl, dT, (nI N, nI B, kf, pf, lf, tf), tT, nI c, df, mf, gf, tv, ln, la, cf)) (x : Int32)  : Ct l yX7_lighter wsX7_lighter ({ frames := 3, cells := 0, slots := 0, locals := 69 }) D cy [.ref (A 3 0), .int x] (wX A cy fl dT (nI N, nI B, kf, pf, lf, tf) tT (nI c) df mf gf tv ln la cf) (fun u : XS => XI (m_lighter ((N, B, k, p), (c, rd, rl, ra), (hs, sl, sa, sc), tv, fl) x).2 u) (fun _ => some (.int (m_lighter ((N, B, k, p), (c, rd, rl, ra), (hs, sl, sa, sc), tv, fl) x).1)) (fun u => wXu A cy u) := by
  refine Ct.of (cc := cX7_lighter) (nL := 2) (ret := (some .int)) rfl (by decide) ⟨rfl, rfl⟩ (Nat.le_of_ble_eq_true rfl) ?_
  intro X C E
  have C : Cx X l D cy cX7_lighter 2 wsX7_lighter RX7 ({ frames := 3, cells := 0, slots := 0, locals := 69 }) := C
  have mh0 : ∀ w ∈ u_ws RX7 TX7 7, w ∈ wsX7_lighter := by decide +kernel
  have mh1 : Cond.fieldLink RX7 12 RX7 (TX7 0).2.1 (TX7 0).2.2.1 ∈ wsX7_lighter := by decide +kernel
  obtain ⟨-, ⟨hB, hN2⟩, hT, hR, hS⟩ := hX
  have hN := hT.n
  have hc8 := hR.1
  have hN30 : N ≤ 2 ^ 30 := by omega
  show J X (wX A cy fl dT (nI N, nI B, kf, pf, lf, tf) tT (nI c) df mf gf tv ln la cf) 0 [(0, .ref (A 3 0)), (1, .int x)] []
  refine j_aload_n C 0 dX7_lighter_0 rfl rfl ?_
  refine j_iload_n C 1 dX7_lighter_1 rfl rfl ?_
  refine j_callV0 (As := [.int x]) (rest := []) C (c_X7_isPerson A fl dT tT N B kf pf lf tf c df mf gf tv ln la cf (x) hN) gX7_lighter_X7_isPerson rfl 1 rfl (by decide +kernel) (by decide) 0 rfl rfl (Nat.le_of_ble_eq_true rfl) dX7_lighter_2 rfl (fun _ _ => ?_)
  show J X (wX A cy fl dT (nI N, nI B, kf, pf, lf, tf) tT (nI c) df mf gf tv ln la cf) 5 [(0, .ref (A 3 0)), (1, .int x)] [.int (nI (bN ((pOf N (x)).isSome = true)))]
  refine j_if_neN (tgt := 10) C dX7_lighter_5 (by decide) (bN_lt _) (fun c5 => ?_) (fun c5 => ?_)
  · have c5 := bN_1.mp c5
    obtain ⟨b1, hb1, rfl⟩ := pY hN30 c5
    have qb1 := pI hb1 hN30
    show J X (wX A cy fl dT (nI N, nI B, kf, pf, lf, tf) tT (nI c) df mf gf tv ln la cf) 10 [(0, .ref (A 3 0)), (1, .int (nI b1))] []
    refine j_aload_n C 0 dX7_lighter_10 rfl rfl ?_
    refine j_get C mh0 0 mh1 0 rfl rfl (by decide) rfl rfl dX7_lighter_11 ?_
    refine j_iload_n C 1 dX7_lighter_14 rfl rfl ?_
    refine j_iconst (v := nI 0) C dX7_lighter_15 (by decide) ?_
    refine jx_N (nT' := fun _ => (nI N, nI B, kf, pf, lf, tf)) (As := [.int (nI b1), .int (nI 0)]) (rest := []) C (c_X5_lighter0 (A 1) N B kf pf lf tf k p hT b1 (by omega)) gX7_lighter_X5_lighterAmong rfl 2 rfl (by decide +kernel) (by decide) (Nat.le_of_ble_eq_true rfl) dX7_lighter_16 rfl (fun _ _ => ?_)
    show J X (wX A cy fl dT (nI N, nI B, kf, pf, lf, tf) tT (nI c) df mf gf tv ln la cf) 19 [(0, .ref (A 3 0)), (1, .int (nI b1))] [.int (lI (lg N k p b1))]
    exact j_iret C E dX7_lighter_19 (fl, dT, (nI N, nI B, kf, pf, lf, tf), tT, nI c, df, mf, gf, tv, ln, la, cf) (by rw [show m_lighter ((N, B, k, p), (c, rd, rl, ra), (hs, sl, sa, sc), tv, fl) (nI b1) = (lI (lg N k p b1), ((N, B, k, p), (c, rd, rl, ra), (hs, sl, sa, sc), tv, fl)) from (by simp only [m_lighter, qb1])]; exact XI.mk hB hN2 hT hR hS) (by rw [show m_lighter ((N, B, k, p), (c, rd, rl, ra), (hs, sl, sa, sc), tv, fl) (nI b1) = (lI (lg N k p b1), ((N, B, k, p), (c, rd, rl, ra), (hs, sl, sa, sc), tv, fl)) from (by simp only [m_lighter, qb1])]) rfl
  · have c5 := bN_0.mp c5
    have qb1 := pOf_n c5
    refine j_iconst (v := (-1)) C dX7_lighter_8 (by decide) ?_
    exact j_iret C E dX7_lighter_9 (fl, dT, (nI N, nI B, kf, pf, lf, tf), tT, nI c, df, mf, gf, tv, ln, la, cf) (by rw [show m_lighter ((N, B, k, p), (c, rd, rl, ra), (hs, sl, sa, sc), tv, fl) x = ((-1), ((N, B, k, p), (c, rd, rl, ra), (hs, sl, sa, sc), tv, fl)) from (by simp only [m_lighter, qb1])]; exact XI.mk hB hN2 hT hR hS) (by rw [show m_lighter ((N, B, k, p), (c, rd, rl, ra), (hs, sl, sa, sc), tv, fl) x = ((-1), ((N, B, k, p), (c, rd, rl, ra), (hs, sl, sa, sc), tv, fl)) from (by simp only [m_lighter, qb1])]) rfl
set_option maxHeartbeats 4000000 in
set_option maxRecDepth 20000 in
theorem c_X7_owe {l : Launch} {D : va_G} {cy : Nat → ClassId} (A : Nat → Nat → Nat) (fl : Int32) (dT tT : TwS) (N B : Nat) (kf : Nat → Int32) (pf : Nat → Nat → Int32) (lf tf : Nat → Int32) (c : Nat) (df mf gf : Nat → Int32) (tv : Int32) (ln la : Nat → Int32) (cf : Nat → Nat → Int32) (k : Nat → Nat) (p : Nat → Nat → Nat) (rd rl : Nat → Nat) (ra : Nat → Option Nat) (hs : Nat → Bool) (sl sa : Nat → Nat) (sc : Nat → Nat → Int32) (hX : XI ((N, B, k, p), (c, rd, rl, ra), (hs, sl, sa, sc), tv, fl) (fl, dT, (nI N, nI B, kf, pf, lf, tf), tT, nI c, df, mf, gf, tv, ln, la, cf)) (x y v : Int32)  : Ct l yX7_owe wsX7_owe ({ frames := 1, cells := 0, slots := 0, locals := 21 }) D cy [.ref (A 3 0), .int x, .int y, .int v] (wX A cy fl dT (nI N, nI B, kf, pf, lf, tf) tT (nI c) df mf gf tv ln la cf) (fun u : XS => XI (m_owe ((N, B, k, p), (c, rd, rl, ra), (hs, sl, sa, sc), tv, fl) x y v).2 u) (fun _ => some (.int (m_owe ((N, B, k, p), (c, rd, rl, ra), (hs, sl, sa, sc), tv, fl) x y v).1)) (fun u => wXu A cy u) := by
  refine Ct.of (cc := cX7_owe) (nL := 5) (ret := (some .int)) rfl (by decide) ⟨rfl, rfl⟩ (Nat.le_of_ble_eq_true rfl) ?_
  intro X C E
  have C : Cx X l D cy cX7_owe 5 wsX7_owe RX7 ({ frames := 1, cells := 0, slots := 0, locals := 21 }) := C
  have mh0 : ∀ w ∈ u_ws RX7 TX7 7, w ∈ wsX7_owe := by decide +kernel
  have mh1 : Cond.fieldLink RX7 12 RX7 (TX7 0).2.1 (TX7 0).2.2.1 ∈ wsX7_owe := by decide +kernel
  have mh2 : ∀ w ∈ u_ws RX5 TX5 7, w ∈ wsX7_owe := by decide +kernel
  obtain ⟨-, ⟨hB, hN2⟩, hT, hR, hS⟩ := hX
  have hN := hT.n
  have hc8 := hR.1
  have hN30 : N ≤ 2 ^ 30 := by omega
  show J X (wX A cy fl dT (nI N, nI B, kf, pf, lf, tf) tT (nI c) df mf gf tv ln la cf) 0 [(0, .ref (A 3 0)), (1, .int x), (2, .int y), (3, .int v)] []
  refine j_aload_n C 0 dX7_owe_0 rfl rfl ?_
  refine j_iload_n C 1 dX7_owe_1 rfl rfl ?_
  refine j_callV0 (As := [.int x]) (rest := []) C (c_X7_isPerson A fl dT tT N B kf pf lf tf c df mf gf tv ln la cf (x) hN) gX7_owe_X7_isPerson rfl 1 rfl (by decide +kernel) (by decide) 0 rfl rfl (Nat.le_of_ble_eq_true rfl) dX7_owe_2 rfl (fun _ _ => ?_)
  show J X (wX A cy fl dT (nI N, nI B, kf, pf, lf, tf) tT (nI c) df mf gf tv ln la cf) 5 [(0, .ref (A 3 0)), (1, .int x), (2, .int y), (3, .int v)] [.int (nI (bN ((pOf N (x)).isSome = true)))]
  refine j_if_eqN (tgt := 21) C dX7_owe_5 (by decide) (bN_lt _) (fun c5 => ?_) (fun c5 => ?_)
  · have c5 := bN_0.mp c5
    have qa1 := pOf_n c5
    refine j_iconst (v := (-1)) C dX7_owe_21 (by decide) ?_
    exact j_iret C E dX7_owe_22 (fl, dT, (nI N, nI B, kf, pf, lf, tf), tT, nI c, df, mf, gf, tv, ln, la, cf) (by rw [show m_owe ((N, B, k, p), (c, rd, rl, ra), (hs, sl, sa, sc), tv, fl) x y v = ((-1), ((N, B, k, p), (c, rd, rl, ra), (hs, sl, sa, sc), tv, fl)) from (by simp only [m_owe, qa1]; try rfl)]; exact XI.mk hB hN2 hT hR hS) (by rw [show m_owe ((N, B, k, p), (c, rd, rl, ra), (hs, sl, sa, sc), tv, fl) x y v = ((-1), ((N, B, k, p), (c, rd, rl, ra), (hs, sl, sa, sc), tv, fl)) from (by simp only [m_owe, qa1]; try rfl)]) rfl
  · have c5 := bN_1.mp c5
    obtain ⟨a1, ha1, rfl⟩ := pY hN30 c5
    have qa1 := pI ha1 hN30
    show J X (wX A cy fl dT (nI N, nI B, kf, pf, lf, tf) tT (nI c) df mf gf tv ln la cf) 8 [(0, .ref (A 3 0)), (1, .int (nI a1)), (2, .int y), (3, .int v)] []
    refine j_aload_n C 0 dX7_owe_8 rfl rfl ?_
    refine j_iload_n C 2 dX7_owe_9 rfl rfl ?_
    refine j_callV0 (As := [.int y]) (rest := []) C (c_X7_isPerson A fl dT tT N B kf pf lf tf c df mf gf tv ln la cf (y) hN) gX7_owe_X7_isPerson rfl 1 rfl (by decide +kernel) (by decide) 0 rfl rfl (Nat.le_of_ble_eq_true rfl) dX7_owe_10 rfl (fun _ _ => ?_)
    show J X (wX A cy fl dT (nI N, nI B, kf, pf, lf, tf) tT (nI c) df mf gf tv ln la cf) 13 [(0, .ref (A 3 0)), (1, .int (nI a1)), (2, .int y), (3, .int v)] [.int (nI (bN ((pOf N (y)).isSome = true)))]
    refine j_if_eqN (tgt := 21) C dX7_owe_13 (by decide) (bN_lt _) (fun c13 => ?_) (fun c13 => ?_)
    · have c13 := bN_0.mp c13
      have qa2 := pOf_n c13
      refine j_iconst (v := (-1)) C dX7_owe_21 (by decide) ?_
      exact j_iret C E dX7_owe_22 (fl, dT, (nI N, nI B, kf, pf, lf, tf), tT, nI c, df, mf, gf, tv, ln, la, cf) (by rw [show m_owe ((N, B, k, p), (c, rd, rl, ra), (hs, sl, sa, sc), tv, fl) (nI a1) y v = ((-1), ((N, B, k, p), (c, rd, rl, ra), (hs, sl, sa, sc), tv, fl)) from (by simp only [m_owe, qa1, qa2]; try rfl)]; exact XI.mk hB hN2 hT hR hS) (by rw [show m_owe ((N, B, k, p), (c, rd, rl, ra), (hs, sl, sa, sc), tv, fl) (nI a1) y v = ((-1), ((N, B, k, p), (c, rd, rl, ra), (hs, sl, sa, sc), tv, fl)) from (by simp only [m_owe, qa1, qa2]; try rfl)]) rfl
    · have c13 := bN_1.mp c13
      obtain ⟨a2, ha2, rfl⟩ := pY hN30 c13
      have qa2 := pI ha2 hN30
      show J X (wX A cy fl dT (nI N, nI B, kf, pf, lf, tf) tT (nI c) df mf gf tv ln la cf) 16 [(0, .ref (A 3 0)), (1, .int (nI a1)), (2, .int (nI a2)), (3, .int v)] []
      refine j_iload_n C 1 dX7_owe_16 rfl rfl ?_
      refine j_iload_n C 2 dX7_owe_17 rfl rfl ?_
      refine j_icmp_neN (tgt := 23) C dX7_owe_18 (by decide) (by omega) (by omega) (fun c18 => ?_) (fun c18 => ?_)
      · refine j_iload_n C 3 dX7_owe_23 rfl rfl ?_
        refine j_bipush (v := nI 9) C dX7_owe_24 (by decide) ?_
        refine j_callP (As := [.int v, .int (nI 9)]) (rest := []) C (c_X7_isWithin (v) 9 (by omega)) gX7_owe_X7_isWithin rfl 2 rfl (by decide +kernel) (by decide) (Nat.le_of_ble_eq_true rfl) dX7_owe_26 rfl (fun _ _ => ?_)
        show J X (wX A cy fl dT (nI N, nI B, kf, pf, lf, tf) tT (nI c) df mf gf tv ln la cf) 29 [(0, .ref (A 3 0)), (1, .int (nI a1)), (2, .int (nI a2)), (3, .int v)] [.int (nI (bN ((pOf 10 (v)).isSome = true)))]
        refine j_if_neN (tgt := 35) C dX7_owe_29 (by decide) (bN_lt _) (fun c29 => ?_) (fun c29 => ?_)
        · have c29 := bN_1.mp c29
          obtain ⟨w1, hw1, rfl⟩ := pY (by decide) c29
          have qw1 := pI hw1 (by decide)
          show J X (wX A cy fl dT (nI N, nI B, kf, pf, lf, tf) tT (nI c) df mf gf tv ln la cf) 35 [(0, .ref (A 3 0)), (1, .int (nI a1)), (2, .int (nI a2)), (3, .int (nI w1))] []
          refine j_aload_n C 0 dX7_owe_35 rfl rfl ?_
          refine j_get C mh0 0 mh1 0 rfl rfl (by decide) rfl rfl dX7_owe_36 ?_
          refine j_getN C mh2 2 (by decide +kernel) 16 rfl rfl (by decide) rfl rfl dX7_owe_39 ?_
          refine j_iload_n C 1 dX7_owe_42 rfl rfl ?_
          refine j_gald (b := A 1 (9 + a1)) C 19 rfl (by omega) (by decide) (wT_out (by omega)) dX7_owe_43 ?_
          refine j_iload_n C 2 dX7_owe_44 rfl rfl ?_
          have := hT.p9 (a := a1) (b := a2) (by omega) (by omega)
          refine j_iald (v := nI (p a1 a2)) C (25 + a1) (wX_nr (by omega)) (by omega) (by decide) (hT.pp (by omega) (by omega)) dX7_owe_45 ?_
          refine j_istore (lv' := [(4, .int (nI (p a1 a2))), (0, .ref (A 3 0)), (1, .int (nI a1)), (2, .int (nI a2)), (3, .int (nI w1))]) C dX7_owe_46 (by decide) rfl ?_
          refine j_aload_n C 1 dX7_owe_48 rfl rfl ?_
          refine j_get C mh0 0 mh1 0 rfl rfl (by decide) rfl rfl dX7_owe_49 ?_
          refine j_getN C mh2 2 (by decide +kernel) 16 rfl rfl (by decide) rfl rfl dX7_owe_52 ?_
          refine j_iload_n C 2 dX7_owe_55 rfl rfl ?_
          refine j_gald (b := A 1 (9 + a1)) C 19 rfl (by omega) (by decide) (wT_out (by omega)) dX7_owe_56 ?_
          refine j_iload_n C 3 dX7_owe_57 rfl rfl ?_
          refine j_iload_n C 4 dX7_owe_58 rfl rfl ?_
          refine j_iast (ws' := wX A cy fl dT (nI N, nI B, kf, updR pf a1 (upd (pf a1) a2 (nI w1)), lf, tf) tT (nI c) df mf gf tv ln la cf) C (25 + a1) (wX_nr (by omega)) (by omega) (by decide) (wX_ns (by omega)) dX7_owe_59 ?_
          refine j_iload C 0 dX7_owe_60 rfl ?_
          exact j_iret C E dX7_owe_62 (fl, dT, (nI N, nI B, kf, updR pf a1 (upd (pf a1) a2 (nI w1)), lf, tf), tT, nI c, df, mf, gf, tv, ln, la, cf) (by rw [show m_owe ((N, B, k, p), (c, rd, rl, ra), (hs, sl, sa, sc), tv, fl) (nI a1) (nI a2) (nI w1) = (nI (p a1 a2), ((N, B, k, setp p a1 a2 w1), (c, rd, rl, ra), (hs, sl, sa, sc), tv, fl)) from (by simp only [m_owe, qa1, qa2, c18, qw1]; try rfl)]; exact XI.mk hB hN2 (hT.setp (by omega) c18 (by omega)) hR hS) (by rw [show m_owe ((N, B, k, p), (c, rd, rl, ra), (hs, sl, sa, sc), tv, fl) (nI a1) (nI a2) (nI w1) = (nI (p a1 a2), ((N, B, k, setp p a1 a2 w1), (c, rd, rl, ra), (hs, sl, sa, sc), tv, fl)) from (by simp only [m_owe, qa1, qa2, c18, qw1]; try rfl)]) rfl
        · have c29 := bN_0.mp c29
          have qw1 := pOf_n c29
          refine j_bipush (v := (-2)) C dX7_owe_32 (by decide) ?_
          exact j_iret C E dX7_owe_34 (fl, dT, (nI N, nI B, kf, pf, lf, tf), tT, nI c, df, mf, gf, tv, ln, la, cf) (by rw [show m_owe ((N, B, k, p), (c, rd, rl, ra), (hs, sl, sa, sc), tv, fl) (nI a1) (nI a2) v = ((-2), ((N, B, k, p), (c, rd, rl, ra), (hs, sl, sa, sc), tv, fl)) from (by simp only [m_owe, qa1, qa2, c18, qw1]; try rfl)]; exact XI.mk hB hN2 hT hR hS) (by rw [show m_owe ((N, B, k, p), (c, rd, rl, ra), (hs, sl, sa, sc), tv, fl) (nI a1) (nI a2) v = ((-2), ((N, B, k, p), (c, rd, rl, ra), (hs, sl, sa, sc), tv, fl)) from (by simp only [m_owe, qa1, qa2, c18, qw1]; try rfl)]) rfl
      · show J X (wX A cy fl dT (nI N, nI B, kf, pf, lf, tf) tT (nI c) df mf gf tv ln la cf) 21 [(0, .ref (A 3 0)), (1, .int (nI a1)), (2, .int (nI a2)), (3, .int v)] []
        refine j_iconst (v := (-1)) C dX7_owe_21 (by decide) ?_
        exact j_iret C E dX7_owe_22 (fl, dT, (nI N, nI B, kf, pf, lf, tf), tT, nI c, df, mf, gf, tv, ln, la, cf) (by rw [show m_owe ((N, B, k, p), (c, rd, rl, ra), (hs, sl, sa, sc), tv, fl) (nI a1) (nI a2) v = ((-1), ((N, B, k, p), (c, rd, rl, ra), (hs, sl, sa, sc), tv, fl)) from (by simp only [m_owe, qa1, qa2, c18]; try rfl)]; exact XI.mk hB hN2 hT hR hS) (by rw [show m_owe ((N, B, k, p), (c, rd, rl, ra), (hs, sl, sa, sc), tv, fl) (nI a1) (nI a2) v = ((-1), ((N, B, k, p), (c, rd, rl, ra), (hs, sl, sa, sc), tv, fl)) from (by simp only [m_owe, qa1, qa2, c18]; try rfl)]) rfl
set_option maxHeartbeats 4000000 in
set_option maxRecDepth 20000 in
theorem c_X7_bell {l : Launch} {D : va_G} {cy : Nat → ClassId} (A : Nat → Nat → Nat) (fl : Int32) (dT tT : TwS) (N B : Nat) (kf : Nat → Int32) (pf : Nat → Nat → Int32) (lf tf : Nat → Int32) (c : Nat) (df mf gf : Nat → Int32) (tv : Int32) (ln la : Nat → Int32) (cf : Nat → Nat → Int32) (k : Nat → Nat) (p : Nat → Nat → Nat) (rd rl : Nat → Nat) (ra : Nat → Option Nat) (hs : Nat → Bool) (sl sa : Nat → Nat) (sc : Nat → Nat → Int32) (hX : XI ((N, B, k, p), (c, rd, rl, ra), (hs, sl, sa, sc), tv, fl) (fl, dT, (nI N, nI B, kf, pf, lf, tf), tT, nI c, df, mf, gf, tv, ln, la, cf)) (v : Int32)  : Ct l yX7_bell wsX7_bell ({ frames := 1, cells := 0, slots := 0, locals := 21 }) D cy [.ref (A 3 0), .int v] (wX A cy fl dT (nI N, nI B, kf, pf, lf, tf) tT (nI c) df mf gf tv ln la cf) (fun u : XS => XI (m_bell ((N, B, k, p), (c, rd, rl, ra), (hs, sl, sa, sc), tv, fl) v).2 u) (fun _ => some (.int (m_bell ((N, B, k, p), (c, rd, rl, ra), (hs, sl, sa, sc), tv, fl) v).1)) (fun u => wXu A cy u) := by
  refine Ct.of (cc := cX7_bell) (nL := 3) (ret := (some .int)) rfl (by decide) ⟨rfl, rfl⟩ (Nat.le_of_ble_eq_true rfl) ?_
  intro X C E
  have C : Cx X l D cy cX7_bell 3 wsX7_bell RX7 ({ frames := 1, cells := 0, slots := 0, locals := 21 }) := C
  have mh0 : ∀ w ∈ u_ws RX7 TX7 7, w ∈ wsX7_bell := by decide +kernel
  have mh1 : Cond.fieldLink RX7 12 RX7 (TX7 0).2.1 (TX7 0).2.2.1 ∈ wsX7_bell := by decide +kernel
  have mh2 : ∀ w ∈ u_ws RX5 TX5 7, w ∈ wsX7_bell := by decide +kernel
  obtain ⟨-, ⟨hB, hN2⟩, hT, hR, hS⟩ := hX
  have hN := hT.n
  have hc8 := hR.1
  have hN30 : N ≤ 2 ^ 30 := by omega
  show J X (wX A cy fl dT (nI N, nI B, kf, pf, lf, tf) tT (nI c) df mf gf tv ln la cf) 0 [(0, .ref (A 3 0)), (1, .int v)] []
  refine j_iload_n C 1 dX7_bell_0 rfl rfl ?_
  refine j_bipush (v := nI 9) C dX7_bell_1 (by decide) ?_
  refine j_callP (As := [.int v, .int (nI 9)]) (rest := []) C (c_X7_isWithin (v) 9 (by omega)) gX7_bell_X7_isWithin rfl 2 rfl (by decide +kernel) (by decide) (Nat.le_of_ble_eq_true rfl) dX7_bell_3 rfl (fun _ _ => ?_)
  show J X (wX A cy fl dT (nI N, nI B, kf, pf, lf, tf) tT (nI c) df mf gf tv ln la cf) 6 [(0, .ref (A 3 0)), (1, .int v)] [.int (nI (bN ((pOf 10 (v)).isSome = true)))]
  refine j_if_neN (tgt := 12) C dX7_bell_6 (by decide) (bN_lt _) (fun c6 => ?_) (fun c6 => ?_)
  · have c6 := bN_1.mp c6
    obtain ⟨w1, hw1, rfl⟩ := pY (by decide) c6
    have qw1 := pI hw1 (by decide)
    show J X (wX A cy fl dT (nI N, nI B, kf, pf, lf, tf) tT (nI c) df mf gf tv ln la cf) 12 [(0, .ref (A 3 0)), (1, .int (nI w1))] []
    refine j_aload_n C 0 dX7_bell_12 rfl rfl ?_
    refine j_callV0 (As := []) (rest := []) C (c_X7_hasTown A fl dT tT N B kf pf lf tf c df mf gf tv ln la cf hN) gX7_bell_X7_hasTown rfl 0 rfl (by decide +kernel) (by decide) 0 rfl rfl (Nat.le_of_ble_eq_true rfl) dX7_bell_13 rfl (fun _ _ => ?_)
    show J X (wX A cy fl dT (nI N, nI B, kf, pf, lf, tf) tT (nI c) df mf gf tv ln la cf) 16 [(0, .ref (A 3 0)), (1, .int (nI w1))] [.int (nI (bN (¬ N = 0)))]
    refine j_if_neN (tgt := 22) C dX7_bell_16 (by decide) (bN_lt _) (fun c16 => ?_) (fun c16 => ?_)
    · have c16 := bN_1.mp c16
      refine j_aload_n C 0 dX7_bell_22 rfl rfl ?_
      refine j_get C mh0 0 mh1 0 rfl rfl (by decide) rfl rfl dX7_bell_23 ?_
      refine j_getN C mh2 6 (by decide +kernel) 16 rfl rfl (by decide) rfl rfl dX7_bell_26 ?_
      refine j_istore_n (lv' := [(2, .int (nI B)), (0, .ref (A 3 0)), (1, .int (nI w1))]) C dX7_bell_29 rfl (by decide) rfl ?_
      refine j_aload_n C 1 dX7_bell_30 rfl rfl ?_
      refine j_get C mh0 0 mh1 0 rfl rfl (by decide) rfl rfl dX7_bell_31 ?_
      refine j_iload_n C 2 dX7_bell_34 rfl rfl ?_
      refine j_putN (ws' := wX A cy fl dT (nI N, nI w1, kf, pf, lf, tf) tT (nI c) df mf gf tv ln la cf) C mh2 6 (by decide +kernel) tyX5 tyX5_ok nmX5 16 rfl rfl (by decide) rfl rfl (by decide +kernel) (Nat.le_of_ble_eq_true rfl) rfl dX7_bell_35 ?_
      refine j_iload_n C 0 dX7_bell_38 rfl rfl ?_
      exact j_iret C E dX7_bell_39 (fl, dT, (nI N, nI w1, kf, pf, lf, tf), tT, nI c, df, mf, gf, tv, ln, la, cf) (by rw [show m_bell ((N, B, k, p), (c, rd, rl, ra), (hs, sl, sa, sc), tv, fl) (nI w1) = (nI B, ((N, w1, k, p), (c, rd, rl, ra), (hs, sl, sa, sc), tv, fl)) from (by simp only [m_bell, qw1, c16, if_false])]; exact XI.mk (by omega) hN2 hT hR hS) (by rw [show m_bell ((N, B, k, p), (c, rd, rl, ra), (hs, sl, sa, sc), tv, fl) (nI w1) = (nI B, ((N, w1, k, p), (c, rd, rl, ra), (hs, sl, sa, sc), tv, fl)) from (by simp only [m_bell, qw1, c16, if_false])]) rfl
    · have c16 := bN_0.mp c16
      have c16 : N = 0 := by omega
      refine j_bipush (v := (-3)) C dX7_bell_19 (by decide) ?_
      exact j_iret C E dX7_bell_21 (fl, dT, (nI N, nI B, kf, pf, lf, tf), tT, nI c, df, mf, gf, tv, ln, la, cf) (by rw [show m_bell ((N, B, k, p), (c, rd, rl, ra), (hs, sl, sa, sc), tv, fl) (nI w1) = ((-3), ((N, B, k, p), (c, rd, rl, ra), (hs, sl, sa, sc), tv, fl)) from (by simp only [m_bell, qw1, c16, if_true])]; exact XI.mk hB hN2 hT hR hS) (by rw [show m_bell ((N, B, k, p), (c, rd, rl, ra), (hs, sl, sa, sc), tv, fl) (nI w1) = ((-3), ((N, B, k, p), (c, rd, rl, ra), (hs, sl, sa, sc), tv, fl)) from (by simp only [m_bell, qw1, c16, if_true])]) rfl
  · have c6 := bN_0.mp c6
    have qw1 := pOf_n c6
    refine j_bipush (v := (-2)) C dX7_bell_9 (by decide) ?_
    exact j_iret C E dX7_bell_11 (fl, dT, (nI N, nI B, kf, pf, lf, tf), tT, nI c, df, mf, gf, tv, ln, la, cf) (by rw [show m_bell ((N, B, k, p), (c, rd, rl, ra), (hs, sl, sa, sc), tv, fl) v = ((-2), ((N, B, k, p), (c, rd, rl, ra), (hs, sl, sa, sc), tv, fl)) from (by simp only [m_bell, qw1])]; exact XI.mk hB hN2 hT hR hS) (by rw [show m_bell ((N, B, k, p), (c, rd, rl, ra), (hs, sl, sa, sc), tv, fl) v = ((-2), ((N, B, k, p), (c, rd, rl, ra), (hs, sl, sa, sc), tv, fl)) from (by simp only [m_bell, qw1])]) rfl
set_option maxHeartbeats 4000000 in
set_option maxRecDepth 20000 in
theorem c_X7_trace {l : Launch} {D : va_G} {cy : Nat → ClassId} (A : Nat → Nat → Nat) (fl : Int32) (dT tT : TwS) (N B : Nat) (kf : Nat → Int32) (pf : Nat → Nat → Int32) (lf tf : Nat → Int32) (c : Nat) (df mf gf : Nat → Int32) (tv : Int32) (ln la : Nat → Int32) (cf : Nat → Nat → Int32) (k : Nat → Nat) (p : Nat → Nat → Nat) (rd rl : Nat → Nat) (ra : Nat → Option Nat) (hs : Nat → Bool) (sl sa : Nat → Nat) (sc : Nat → Nat → Int32) (hX : XI ((N, B, k, p), (c, rd, rl, ra), (hs, sl, sa, sc), tv, fl) (fl, dT, (nI N, nI B, kf, pf, lf, tf), tT, nI c, df, mf, gf, tv, ln, la, cf))  : Ct l yX7_trace wsX7_trace ({ frames := 0, cells := 0, slots := 0, locals := 0 }) D cy [.ref (A 3 0)] (wX A cy fl dT (nI N, nI B, kf, pf, lf, tf) tT (nI c) df mf gf tv ln la cf) (fun u : XS => XI (m_trace ((N, B, k, p), (c, rd, rl, ra), (hs, sl, sa, sc), tv, fl)).2 u) (fun _ => some (.int (m_trace ((N, B, k, p), (c, rd, rl, ra), (hs, sl, sa, sc), tv, fl)).1)) (fun u => wXu A cy u) := by
  refine Ct.of (cc := cX7_trace) (nL := 1) (ret := (some .int)) rfl (by decide) ⟨rfl, rfl⟩ (Nat.le_of_ble_eq_true rfl) ?_
  intro X C E
  have C : Cx X l D cy cX7_trace 1 wsX7_trace RX7 ({ frames := 0, cells := 0, slots := 0, locals := 0 }) := C
  have mh0 : ∀ w ∈ u_ws RX7 TX7 7, w ∈ wsX7_trace := by decide +kernel
  have mh1 : Cond.fieldLink RX7 27 RX7 (TX7 3).2.1 (TX7 3).2.2.1 ∈ wsX7_trace := by decide +kernel
  have mh2 : ∀ w ∈ u_ws RX6 TX6 1, w ∈ wsX7_trace := by decide +kernel
  obtain ⟨-, ⟨hB, hN2⟩, hT, hR, hS⟩ := hX
  have hN := hT.n
  have hc8 := hR.1
  have hN30 : N ≤ 2 ^ 30 := by omega
  show J X (wX A cy fl dT (nI N, nI B, kf, pf, lf, tf) tT (nI c) df mf gf tv ln la cf) 0 [(0, .ref (A 3 0))] []
  refine j_aload_n C 0 dX7_trace_0 rfl rfl ?_
  refine j_get C mh0 3 mh1 0 rfl rfl (by decide) rfl rfl dX7_trace_1 ?_
  refine j_getN C mh2 0 (by decide +kernel) 50 rfl rfl (by decide) rfl rfl dX7_trace_4 ?_
  exact j_iret C E dX7_trace_7 (fl, dT, (nI N, nI B, kf, pf, lf, tf), tT, nI c, df, mf, gf, tv, ln, la, cf) (by rw [show m_trace ((N, B, k, p), (c, rd, rl, ra), (hs, sl, sa, sc), tv, fl) = (tv, ((N, B, k, p), (c, rd, rl, ra), (hs, sl, sa, sc), tv, fl)) from (by simp only [m_trace])]; exact XI.mk hB hN2 hT hR hS) (by rw [show m_trace ((N, B, k, p), (c, rd, rl, ra), (hs, sl, sa, sc), tv, fl) = (tv, ((N, B, k, p), (c, rd, rl, ra), (hs, sl, sa, sc), tv, fl)) from (by simp only [m_trace])]) rfl
set_option maxHeartbeats 4000000 in
set_option maxRecDepth 20000 in
theorem c_X7_fault {l : Launch} {D : va_G} {cy : Nat → ClassId} (A : Nat → Nat → Nat) (fl : Int32) (dT tT : TwS) (N B : Nat) (kf : Nat → Int32) (pf : Nat → Nat → Int32) (lf tf : Nat → Int32) (c : Nat) (df mf gf : Nat → Int32) (tv : Int32) (ln la : Nat → Int32) (cf : Nat → Nat → Int32) (k : Nat → Nat) (p : Nat → Nat → Nat) (rd rl : Nat → Nat) (ra : Nat → Option Nat) (hs : Nat → Bool) (sl sa : Nat → Nat) (sc : Nat → Nat → Int32) (hX : XI ((N, B, k, p), (c, rd, rl, ra), (hs, sl, sa, sc), tv, fl) (fl, dT, (nI N, nI B, kf, pf, lf, tf), tT, nI c, df, mf, gf, tv, ln, la, cf))  : Ct l yX7_fault wsX7_fault ({ frames := 0, cells := 0, slots := 0, locals := 0 }) D cy [.ref (A 3 0)] (wX A cy fl dT (nI N, nI B, kf, pf, lf, tf) tT (nI c) df mf gf tv ln la cf) (fun u : XS => XI (m_fault ((N, B, k, p), (c, rd, rl, ra), (hs, sl, sa, sc), tv, fl)).2 u) (fun _ => some (.int (m_fault ((N, B, k, p), (c, rd, rl, ra), (hs, sl, sa, sc), tv, fl)).1)) (fun u => wXu A cy u) := by
  refine Ct.of (cc := cX7_fault) (nL := 1) (ret := (some .int)) rfl (by decide) ⟨rfl, rfl⟩ (Nat.le_of_ble_eq_true rfl) ?_
  intro X C E
  have C : Cx X l D cy cX7_fault 1 wsX7_fault RX7 ({ frames := 0, cells := 0, slots := 0, locals := 0 }) := C
  have mh0 : ∀ w ∈ u_ws RX7 TX7 7, w ∈ wsX7_fault := by decide +kernel
  have mh1 : Cond.fieldLink RX7 45 RX7 (TX7 6).2.1 (TX7 6).2.2.1 ∈ wsX7_fault := by decide +kernel
  obtain ⟨-, ⟨hB, hN2⟩, hT, hR, hS⟩ := hX
  have hN := hT.n
  have hc8 := hR.1
  have hN30 : N ≤ 2 ^ 30 := by omega
  show J X (wX A cy fl dT (nI N, nI B, kf, pf, lf, tf) tT (nI c) df mf gf tv ln la cf) 0 [(0, .ref (A 3 0))] []
  refine j_aload_n C 0 dX7_fault_0 rfl rfl ?_
  refine j_get C mh0 6 mh1 0 rfl rfl (by decide) rfl rfl dX7_fault_1 ?_
  exact j_iret C E dX7_fault_4 (fl, dT, (nI N, nI B, kf, pf, lf, tf), tT, nI c, df, mf, gf, tv, ln, la, cf) (by rw [show m_fault ((N, B, k, p), (c, rd, rl, ra), (hs, sl, sa, sc), tv, fl) = (fl, ((N, B, k, p), (c, rd, rl, ra), (hs, sl, sa, sc), tv, fl)) from (by simp only [m_fault])]; exact XI.mk hB hN2 hT hR hS) (by rw [show m_fault ((N, B, k, p), (c, rd, rl, ra), (hs, sl, sa, sc), tv, fl) = (fl, ((N, B, k, p), (c, rd, rl, ra), (hs, sl, sa, sc), tv, fl)) from (by simp only [m_fault])]) rfl
set_option maxHeartbeats 4000000 in
set_option maxRecDepth 20000 in
theorem c_X7_as {l : Launch} {D : va_G} {cy : Nat → ClassId} (A : Nat → Nat → Nat) (fl : Int32) (dT tT : TwS) (N B : Nat) (kf : Nat → Int32) (pf : Nat → Nat → Int32) (lf tf : Nat → Int32) (c : Nat) (df mf gf : Nat → Int32) (tv : Int32) (ln la : Nat → Int32) (cf : Nat → Nat → Int32) (k : Nat → Nat) (p : Nat → Nat → Nat) (rd rl : Nat → Nat) (ra : Nat → Option Nat) (hs : Nat → Bool) (sl sa : Nat → Nat) (sc : Nat → Nat → Int32) (hX : XI ((N, B, k, p), (c, rd, rl, ra), (hs, sl, sa, sc), tv, fl) (fl, dT, (nI N, nI B, kf, pf, lf, tf), tT, nI c, df, mf, gf, tv, ln, la, cf)) (x v : Int32)  : Ct l yX7_as wsX7_as ({ frames := 1, cells := 0, slots := 0, locals := 21 }) D cy [.ref (A 3 0), .int x, .int v] (wX A cy fl dT (nI N, nI B, kf, pf, lf, tf) tT (nI c) df mf gf tv ln la cf) (fun u : XS => XI (m_as ((N, B, k, p), (c, rd, rl, ra), (hs, sl, sa, sc), tv, fl) x v).2 u) (fun _ => some (.int (m_as ((N, B, k, p), (c, rd, rl, ra), (hs, sl, sa, sc), tv, fl) x v).1)) (fun u => wXu A cy u) := by
  refine Ct.of (cc := cX7_as) (nL := 3) (ret := (some .int)) rfl (by decide) ⟨rfl, rfl⟩ (Nat.le_of_ble_eq_true rfl) ?_
  intro X C E
  have C : Cx X l D cy cX7_as 3 wsX7_as RX7 ({ frames := 1, cells := 0, slots := 0, locals := 21 }) := C
  have mh0 : ∀ w ∈ u_ws RX7 TX7 7, w ∈ wsX7_as := by decide +kernel
  have mh1 : Cond.fieldLink RX7 45 RX7 (TX7 6).2.1 (TX7 6).2.2.1 ∈ wsX7_as := by decide +kernel
  have mh2 : Cond.fieldLink RX7 12 RX7 (TX7 0).2.1 (TX7 0).2.2.1 ∈ wsX7_as := by decide +kernel
  have mh3 : ∀ w ∈ u_ws RX5 TX5 7, w ∈ wsX7_as := by decide +kernel
  obtain ⟨-, ⟨hB, hN2⟩, hT, hR, hS⟩ := hX
  have hN := hT.n
  have hc8 := hR.1
  have hN30 : N ≤ 2 ^ 30 := by omega
  show J X (wX A cy fl dT (nI N, nI B, kf, pf, lf, tf) tT (nI c) df mf gf tv ln la cf) 0 [(0, .ref (A 3 0)), (1, .int x), (2, .int v)] []
  refine j_aload_n C 0 dX7_as_0 rfl rfl ?_
  refine j_iconst (v := nI 0) C dX7_as_1 (by decide) ?_
  refine j_put (ws' := wX A cy (nI 0) dT (nI N, nI B, kf, pf, lf, tf) tT (nI c) df mf gf tv ln la cf) C mh0 6 mh1 tyX7 tyX7_ok nmX7 0 rfl rfl (by decide) rfl rfl (by decide +kernel) (Nat.le_of_ble_eq_true rfl) rfl dX7_as_2 ?_
  refine j_aload_n C 0 dX7_as_5 rfl rfl ?_
  refine j_iload_n C 1 dX7_as_6 rfl rfl ?_
  refine j_callV0 (As := [.int x]) (rest := []) C (c_X7_isPerson A (nI 0) dT tT N B kf pf lf tf c df mf gf tv ln la cf (x) hN) gX7_as_X7_isPerson rfl 1 rfl (by decide +kernel) (by decide) 0 rfl rfl (Nat.le_of_ble_eq_true rfl) dX7_as_7 rfl (fun _ _ => ?_)
  show J X (wX A cy (nI 0) dT (nI N, nI B, kf, pf, lf, tf) tT (nI c) df mf gf tv ln la cf) 10 [(0, .ref (A 3 0)), (1, .int x), (2, .int v)] [.int (nI (bN ((pOf N (x)).isSome = true)))]
  refine j_if_neN (tgt := 15) C dX7_as_10 (by decide) (bN_lt _) (fun c10 => ?_) (fun c10 => ?_)
  · have c10 := bN_1.mp c10
    obtain ⟨a1, ha1, rfl⟩ := pY hN30 c10
    have qa1 := pI ha1 hN30
    show J X (wX A cy (nI 0) dT (nI N, nI B, kf, pf, lf, tf) tT (nI c) df mf gf tv ln la cf) 15 [(0, .ref (A 3 0)), (1, .int (nI a1)), (2, .int v)] []
    refine j_iload_n C 2 dX7_as_15 rfl rfl ?_
    refine j_iconst (v := nI 2) C dX7_as_16 (by decide) ?_
    refine j_callP (As := [.int v, .int (nI 2)]) (rest := []) C (c_X7_isWithin (v) 2 (by omega)) gX7_as_X7_isWithin rfl 2 rfl (by decide +kernel) (by decide) (Nat.le_of_ble_eq_true rfl) dX7_as_17 rfl (fun _ _ => ?_)
    show J X (wX A cy (nI 0) dT (nI N, nI B, kf, pf, lf, tf) tT (nI c) df mf gf tv ln la cf) 20 [(0, .ref (A 3 0)), (1, .int (nI a1)), (2, .int v)] [.int (nI (bN ((pOf 3 (v)).isSome = true)))]
    refine j_if_neN (tgt := 26) C dX7_as_20 (by decide) (bN_lt _) (fun c20 => ?_) (fun c20 => ?_)
    · have c20 := bN_1.mp c20
      obtain ⟨w1, hw1, rfl⟩ := pY (by decide) c20
      have qw1 := pI hw1 (by decide)
      show J X (wX A cy (nI 0) dT (nI N, nI B, kf, pf, lf, tf) tT (nI c) df mf gf tv ln la cf) 26 [(0, .ref (A 3 0)), (1, .int (nI a1)), (2, .int (nI w1))] []
      refine j_aload_n C 0 dX7_as_26 rfl rfl ?_
      refine j_get C mh0 0 mh2 0 rfl rfl (by decide) rfl rfl dX7_as_27 ?_
      refine j_getN C mh3 1 (by decide +kernel) 16 rfl rfl (by decide) rfl rfl dX7_as_30 ?_
      refine j_iload_n C 1 dX7_as_33 rfl rfl ?_
      have := hT.k2 (a := a1) (by omega)
      refine j_iald (v := nI (k a1)) C 18 rfl (by omega) (by decide) (hT.kk (by omega)) dX7_as_34 ?_
      refine j_iload_n C 2 dX7_as_35 rfl rfl ?_
      refine j_icmp_geN (tgt := 45) C dX7_as_36 (by decide) (by omega) (by omega) (fun c36 => ?_) (fun c36 => ?_)
      · refine j_iconst (v := nI 1) C dX7_as_45 (by decide) ?_
        exact j_iret C E dX7_as_46 (nI 0, dT, (nI N, nI B, kf, pf, lf, tf), tT, nI c, df, mf, gf, tv, ln, la, cf) (by rw [show m_as ((N, B, k, p), (c, rd, rl, ra), (hs, sl, sa, sc), tv, fl) (nI a1) (nI w1) = (nI 1, ((N, B, k, p), (c, rd, rl, ra), (hs, sl, sa, sc), tv, nI 0)) from (by simp only [m_as, qa1, qw1, c36, if_true])]; exact XI.mk hB hN2 hT hR hS) (by rw [show m_as ((N, B, k, p), (c, rd, rl, ra), (hs, sl, sa, sc), tv, fl) (nI a1) (nI w1) = (nI 1, ((N, B, k, p), (c, rd, rl, ra), (hs, sl, sa, sc), tv, nI 0)) from (by simp only [m_as, qa1, qw1, c36, if_true])]) rfl
      · have nc36 : ¬ w1 ≤ k a1 := by omega
        refine j_aload_n C 0 dX7_as_39 rfl rfl ?_
        refine j_iconst (v := nI 2) C dX7_as_40 (by decide) ?_
        refine j_callV0 (As := [.int (nI 2)]) (rest := []) C (c_X7_faulted A (nI 0) dT tT N B kf pf lf tf c df mf gf tv ln la cf 2) gX7_as_X7_faulted rfl 1 rfl (by decide +kernel) (by decide) 0 rfl rfl (Nat.le_of_ble_eq_true rfl) dX7_as_41 rfl (fun _ _ => ?_)
        show J X (wX A cy (nI 2) dT (nI N, nI B, kf, pf, lf, tf) tT (nI c) df mf gf tv ln la cf) 44 [(0, .ref (A 3 0)), (1, .int (nI a1)), (2, .int (nI w1))] [.int ((-10) - nI 2)]
        exact j_iret C E dX7_as_44 (nI 2, dT, (nI N, nI B, kf, pf, lf, tf), tT, nI c, df, mf, gf, tv, ln, la, cf) (by rw [show m_as ((N, B, k, p), (c, rd, rl, ra), (hs, sl, sa, sc), tv, fl) (nI a1) (nI w1) = ((-10) - nI 2, ((N, B, k, p), (c, rd, rl, ra), (hs, sl, sa, sc), tv, nI 2)) from (by simp only [m_as, qa1, qw1, nc36, if_false])]; exact XI.mk hB hN2 hT hR hS) (by rw [show m_as ((N, B, k, p), (c, rd, rl, ra), (hs, sl, sa, sc), tv, fl) (nI a1) (nI w1) = ((-10) - nI 2, ((N, B, k, p), (c, rd, rl, ra), (hs, sl, sa, sc), tv, nI 2)) from (by simp only [m_as, qa1, qw1, nc36, if_false])]) rfl
    · have c20 := bN_0.mp c20
      have qw1 := pOf_n c20
      refine j_bipush (v := (-2)) C dX7_as_23 (by decide) ?_
      exact j_iret C E dX7_as_25 (nI 0, dT, (nI N, nI B, kf, pf, lf, tf), tT, nI c, df, mf, gf, tv, ln, la, cf) (by rw [show m_as ((N, B, k, p), (c, rd, rl, ra), (hs, sl, sa, sc), tv, fl) (nI a1) v = ((-2), ((N, B, k, p), (c, rd, rl, ra), (hs, sl, sa, sc), tv, nI 0)) from (by simp only [m_as, qa1, qw1])]; exact XI.mk hB hN2 hT hR hS) (by rw [show m_as ((N, B, k, p), (c, rd, rl, ra), (hs, sl, sa, sc), tv, fl) (nI a1) v = ((-2), ((N, B, k, p), (c, rd, rl, ra), (hs, sl, sa, sc), tv, nI 0)) from (by simp only [m_as, qa1, qw1])]) rfl
  · have c10 := bN_0.mp c10
    have qa1 := pOf_n c10
    refine j_iconst (v := (-1)) C dX7_as_13 (by decide) ?_
    exact j_iret C E dX7_as_14 (nI 0, dT, (nI N, nI B, kf, pf, lf, tf), tT, nI c, df, mf, gf, tv, ln, la, cf) (by rw [show m_as ((N, B, k, p), (c, rd, rl, ra), (hs, sl, sa, sc), tv, fl) x v = ((-1), ((N, B, k, p), (c, rd, rl, ra), (hs, sl, sa, sc), tv, nI 0)) from (by simp only [m_as, qa1])]; exact XI.mk hB hN2 hT hR hS) (by rw [show m_as ((N, B, k, p), (c, rd, rl, ra), (hs, sl, sa, sc), tv, fl) x v = ((-1), ((N, B, k, p), (c, rd, rl, ra), (hs, sl, sa, sc), tv, nI 0)) from (by simp only [m_as, qa1])]) rfl
set_option maxHeartbeats 4000000 in
set_option maxRecDepth 20000 in
theorem c_X7_haste {l : Launch} {D : va_G} {cy : Nat → ClassId} (A : Nat → Nat → Nat) (fl : Int32) (dT tT : TwS) (N B : Nat) (kf : Nat → Int32) (pf : Nat → Nat → Int32) (lf tf : Nat → Int32) (c : Nat) (df mf gf : Nat → Int32) (tv : Int32) (ln la : Nat → Int32) (cf : Nat → Nat → Int32) (k : Nat → Nat) (p : Nat → Nat → Nat) (rd rl : Nat → Nat) (ra : Nat → Option Nat) (hs : Nat → Bool) (sl sa : Nat → Nat) (sc : Nat → Nat → Int32) (hX : XI ((N, B, k, p), (c, rd, rl, ra), (hs, sl, sa, sc), tv, fl) (fl, dT, (nI N, nI B, kf, pf, lf, tf), tT, nI c, df, mf, gf, tv, ln, la, cf))  : Ct l yX7_haste wsX7_haste ({ frames := 6, cells := 0, slots := 0, locals := 132 }) D cy [.ref (A 3 0)] (wX A cy fl dT (nI N, nI B, kf, pf, lf, tf) tT (nI c) df mf gf tv ln la cf) (fun u : XS => XI (m_haste ((N, B, k, p), (c, rd, rl, ra), (hs, sl, sa, sc), tv, fl)).2 u) (fun _ => some (.int (m_haste ((N, B, k, p), (c, rd, rl, ra), (hs, sl, sa, sc), tv, fl)).1)) (fun u => wXu A cy u) := by
  refine Ct.of (cc := cX7_haste) (nL := 3) (ret := (some .int)) rfl (by decide) ⟨rfl, rfl⟩ (Nat.le_of_ble_eq_true rfl) ?_
  intro X C E
  have C : Cx X l D cy cX7_haste 3 wsX7_haste RX7 ({ frames := 6, cells := 0, slots := 0, locals := 132 }) := C
  have mh0 : ∀ w ∈ u_ws RX7 TX7 7, w ∈ wsX7_haste := by decide +kernel
  have mh1 : Cond.fieldLink RX7 12 RX7 (TX7 0).2.1 (TX7 0).2.2.1 ∈ wsX7_haste := by decide +kernel
  have mh2 : ∀ w ∈ u_ws RX5 TX5 7, w ∈ wsX7_haste := by decide +kernel
  have mh3 : Cond.methodLink RX7 147 Lib.Math.max.name ∈ wsX7_haste := by decide +kernel
  have mh4 : Cond.static Lib.Math.max.name ∈ wsX7_haste := by decide +kernel
  have mh5 : Cond.initialized "java/lang/Math" ∈ wsX7_haste := by decide +kernel
  have mh6 : Cond.code Lib.Math.max.name Lib.Math.max.code 2 (some .int) ∈ wsX7_haste := by decide +kernel
  obtain ⟨-, ⟨hB, hN2⟩, hT, hR, hS⟩ := hX
  have hN := hT.n
  have hc8 := hR.1
  have hN30 : N ≤ 2 ^ 30 := by omega
  show J X (wX A cy fl dT (nI N, nI B, kf, pf, lf, tf) tT (nI c) df mf gf tv ln la cf) 0 [(0, .ref (A 3 0))] []
  refine j_aload_n C 0 dX7_haste_0 rfl rfl ?_
  refine j_callV0 (As := []) (rest := []) C (c_X7_hasTown A fl dT tT N B kf pf lf tf c df mf gf tv ln la cf hN) gX7_haste_X7_hasTown rfl 0 rfl (by decide +kernel) (by decide) 0 rfl rfl (Nat.le_of_ble_eq_true rfl) dX7_haste_1 rfl (fun _ _ => ?_)
  show J X (wX A cy fl dT (nI N, nI B, kf, pf, lf, tf) tT (nI c) df mf gf tv ln la cf) 4 [(0, .ref (A 3 0))] [.int (nI (bN (¬ N = 0)))]
  refine j_if_neN (tgt := 10) C dX7_haste_4 (by decide) (bN_lt _) (fun c4 => ?_) (fun c4 => ?_)
  · have c4 := bN_1.mp c4
    refine j_iconst (v := nI 0) C dX7_haste_10 (by decide) ?_
    refine j_istore_n (lv' := [(1, .int (nI 0)), (0, .ref (A 3 0))]) C dX7_haste_11 rfl (by decide) rfl ?_
    refine j_iconst (v := nI 0) C dX7_haste_12 (by decide) ?_
    refine j_istore_n (lv' := [(2, .int (nI 0)), (1, .int (nI 0)), (0, .ref (A 3 0))]) C dX7_haste_13 rfl (by decide) rfl ?_
    refine J.sub [2, 1, 0] rfl ?_
    have L14 : ∀ (n : Nat) (i : Nat) (lf1 : Nat → Int32), N - i < n → i ≤ N → J X (wX A cy fl dT (nI N, nI B, kf, pf, lf1, tf) tT (nI c) df mf gf tv ln la cf) 14 [(0, .ref (A 3 0)), (1, .int (nI (hst N k p i))), (2, .int (nI i))] [] := by
      intro n
      induction n with
      | zero => intro i lf1 hm; exact absurd hm (Nat.not_lt_zero _)
      | succ n ih14 =>
        intro i lf1 h14_0 h14_1
        have hh := hst_le (k := k) (p := p) hN (i := i) (by omega)
        refine j_iload_n C 2 dX7_haste_14 rfl rfl ?_
        refine j_aload_n C 0 dX7_haste_15 rfl rfl ?_
        refine j_get C mh0 0 mh1 0 rfl rfl (by decide) rfl rfl dX7_haste_16 ?_
        refine j_getN C mh2 5 (by decide +kernel) 16 rfl rfl (by decide) rfl rfl dX7_haste_19 ?_
        refine j_icmp_geN (tgt := 44) C dX7_haste_22 (by decide) (by omega) (by omega) (fun c22 => ?_) (fun c22 => ?_)
        · refine j_iload_n C 1 dX7_haste_44 rfl rfl ?_
          exact j_iret C E dX7_haste_45 (fl, dT, (nI N, nI B, kf, pf, lf1, tf), tT, nI c, df, mf, gf, tv, ln, la, cf) (by rw [show m_haste ((N, B, k, p), (c, rd, rl, ra), (hs, sl, sa, sc), tv, fl) = (nI (hst N k p i), ((N, B, k, p), (c, rd, rl, ra), (hs, sl, sa, sc), tv, fl)) from (by simp only [m_haste, c4, if_false, show i = N by omega])]; exact XI.mk hB hN2 hT hR hS) (by rw [show m_haste ((N, B, k, p), (c, rd, rl, ra), (hs, sl, sa, sc), tv, fl) = (nI (hst N k p i), ((N, B, k, p), (c, rd, rl, ra), (hs, sl, sa, sc), tv, fl)) from (by simp only [m_haste, c4, if_false, show i = N by omega])]) rfl
        · refine j_iload_n C 1 dX7_haste_25 rfl rfl ?_
          refine j_aload_n C 0 dX7_haste_26 rfl rfl ?_
          refine j_get C mh0 0 mh1 0 rfl rfl (by decide) rfl rfl dX7_haste_27 ?_
          refine j_iload_n C 2 dX7_haste_30 rfl rfl ?_
          refine jx_N (nT' := fun _ => (nI N, nI B, kf, pf, fil (lgF N k p) lf1 N, tf)) (As := [.int (nI i)]) (rest := [.int (nI (hst N k p i))]) C (c_X5_stepsOf (A 1) N B kf pf lf1 tf k p hT i (by omega)) gX7_haste_X5_stepsOf rfl 1 rfl (by decide +kernel) (by decide) (Nat.le_of_ble_eq_true rfl) dX7_haste_31 rfl (fun _ _ => ?_)
          have hsp := sps_le (k := k) (p := p) hN (q := i) (by omega)
          show J X (wX A cy fl dT (nI N, nI B, kf, pf, fil (lgF N k p) lf1 N, tf) tT (nI c) df mf gf tv ln la cf) 34 [(0, .ref (A 3 0)), (1, .int (nI (hst N k p i))), (2, .int (nI i))] [.int (nI (sps N k p i)), .int (nI (hst N k p i))]
          refine j_mmax (v := nI (max (hst N k p i) (sps N k p i))) (rest := []) C mh3 mh4 mh5 mh6 ⟨by decide, Nat.le_of_ble_eq_true rfl⟩ (mx_n (by omega) (by omega)) dX7_haste_34 ?_
          refine j_istore_n (lv' := [(1, .int (nI (max (hst N k p i) (sps N k p i)))), (0, .ref (A 3 0)), (2, .int (nI i))]) C dX7_haste_37 rfl (by decide) rfl ?_
          refine j_iinc (v := nI (i + 1)) (lv' := [(2, .int (nI (i + 1))), (1, .int (nI (max (hst N k p i) (sps N k p i)))), (0, .ref (A 3 0))]) C 2 dX7_haste_38 rfl (nI_inc i) (by decide) rfl ?_
          refine j_goto (tgt := 14) C dX7_haste_41 (by decide) ?_
          refine J.sub [2, 1, 0] rfl ?_
          have e := ih14 (i + 1) (fil (lgF N k p) lf1 N) (by omega) (by omega)
          exact e
    have e := L14 (N + 1) 0 lf (by omega) (by omega)
    exact e
  · have c4 := bN_0.mp c4
    have c4 : N = 0 := by omega
    refine j_bipush (v := (-3)) C dX7_haste_7 (by decide) ?_
    exact j_iret C E dX7_haste_9 (fl, dT, (nI N, nI B, kf, pf, lf, tf), tT, nI c, df, mf, gf, tv, ln, la, cf) (by rw [show m_haste ((N, B, k, p), (c, rd, rl, ra), (hs, sl, sa, sc), tv, fl) = ((-3), ((N, B, k, p), (c, rd, rl, ra), (hs, sl, sa, sc), tv, fl)) from (by simp only [m_haste, c4, if_true])]; exact XI.mk hB hN2 hT hR hS) (by rw [show m_haste ((N, B, k, p), (c, rd, rl, ra), (hs, sl, sa, sc), tv, fl) = ((-3), ((N, B, k, p), (c, rd, rl, ra), (hs, sl, sa, sc), tv, fl)) from (by simp only [m_haste, c4, if_true])]) rfl
set_option maxHeartbeats 4000000 in
set_option maxRecDepth 20000 in
theorem c_X7_free {l : Launch} {D : va_G} {cy : Nat → ClassId} (A : Nat → Nat → Nat) (fl : Int32) (dT tT : TwS) (N B : Nat) (kf : Nat → Int32) (pf : Nat → Nat → Int32) (lf tf : Nat → Int32) (c : Nat) (df mf gf : Nat → Int32) (tv : Int32) (ln la : Nat → Int32) (cf : Nat → Nat → Int32) (k : Nat → Nat) (p : Nat → Nat → Nat) (rd rl : Nat → Nat) (ra : Nat → Option Nat) (hs : Nat → Bool) (sl sa : Nat → Nat) (sc : Nat → Nat → Int32) (hX : XI ((N, B, k, p), (c, rd, rl, ra), (hs, sl, sa, sc), tv, fl) (fl, dT, (nI N, nI B, kf, pf, lf, tf), tT, nI c, df, mf, gf, tv, ln, la, cf)) (x : Int32)  : Ct l yX7_free wsX7_free ({ frames := 4, cells := 0, slots := 0, locals := 93 }) D cy [.ref (A 3 0), .int x] (wX A cy fl dT (nI N, nI B, kf, pf, lf, tf) tT (nI c) df mf gf tv ln la cf) (fun u : XS => XI (m_free ((N, B, k, p), (c, rd, rl, ra), (hs, sl, sa, sc), tv, fl) x).2 u) (fun _ => some (.int (m_free ((N, B, k, p), (c, rd, rl, ra), (hs, sl, sa, sc), tv, fl) x).1)) (fun u => wXu A cy u) := by
  refine Ct.of (cc := cX7_free) (nL := 2) (ret := (some .int)) rfl (by decide) ⟨rfl, rfl⟩ (Nat.le_of_ble_eq_true rfl) ?_
  intro X C E
  have C : Cx X l D cy cX7_free 2 wsX7_free RX7 ({ frames := 4, cells := 0, slots := 0, locals := 93 }) := C
  have mh0 : ∀ w ∈ u_ws RX7 TX7 7, w ∈ wsX7_free := by decide +kernel
  have mh1 : Cond.fieldLink RX7 18 RX7 (TX7 1).2.1 (TX7 1).2.2.1 ∈ wsX7_free := by decide +kernel
  have mh2 : Cond.fieldLink RX7 12 RX7 (TX7 0).2.1 (TX7 0).2.2.1 ∈ wsX7_free := by decide +kernel
  obtain ⟨-, ⟨hB, hN2⟩, hT, hR, hS⟩ := hX
  have hN := hT.n
  have hc8 := hR.1
  have hN30 : N ≤ 2 ^ 30 := by omega
  show J X (wX A cy fl dT (nI N, nI B, kf, pf, lf, tf) tT (nI c) df mf gf tv ln la cf) 0 [(0, .ref (A 3 0)), (1, .int x)] []
  refine j_aload_n C 0 dX7_free_0 rfl rfl ?_
  refine j_iload_n C 1 dX7_free_1 rfl rfl ?_
  refine j_callV0 (As := [.int x]) (rest := []) C (c_X7_isPerson A fl dT tT N B kf pf lf tf c df mf gf tv ln la cf (x) hN) gX7_free_X7_isPerson rfl 1 rfl (by decide +kernel) (by decide) 0 rfl rfl (Nat.le_of_ble_eq_true rfl) dX7_free_2 rfl (fun _ _ => ?_)
  show J X (wX A cy fl dT (nI N, nI B, kf, pf, lf, tf) tT (nI c) df mf gf tv ln la cf) 5 [(0, .ref (A 3 0)), (1, .int x)] [.int (nI (bN ((pOf N (x)).isSome = true)))]
  refine j_if_neN (tgt := 10) C dX7_free_5 (by decide) (bN_lt _) (fun c5 => ?_) (fun c5 => ?_)
  · have c5 := bN_1.mp c5
    obtain ⟨q1, hq1, rfl⟩ := pY hN30 c5
    have qq1 := pI hq1 hN30
    show J X (wX A cy fl dT (nI N, nI B, kf, pf, lf, tf) tT (nI c) df mf gf tv ln la cf) 10 [(0, .ref (A 3 0)), (1, .int (nI q1))] []
    refine j_aload_n C 0 dX7_free_10 rfl rfl ?_
    refine j_get C mh0 1 mh1 0 rfl rfl (by decide) rfl rfl dX7_free_11 ?_
    refine j_aload_n C 0 dX7_free_14 rfl rfl ?_
    refine j_get C mh0 0 mh2 0 rfl rfl (by decide) rfl rfl dX7_free_15 ?_
    refine jx_NT (tT' := fun _ => (nI N, nI B, fil kf tT.2.2.1 6, filR pf tT.2.2.2.1 6, tT.2.2.2.2.1, tT.2.2.2.2.2)) (As := [.ref (A 1 0)]) (rest := []) C (c_X5_becomeLike (A 1) (A 2) (nI N) (nI B) tT.1 tT.2.1 kf tT.2.2.1 pf tT.2.2.2.1 lf tf tT.2.2.2.2.1 tT.2.2.2.2.2) gX7_free_X5_becomeLike rfl 1 rfl (by decide +kernel) (by decide) (Nat.le_of_ble_eq_true rfl) dX7_free_18 rfl (fun _ _ => ?_)
    show J X (wX A cy fl dT (nI N, nI B, kf, pf, lf, tf) (nI N, nI B, fil kf tT.2.2.1 6, filR pf tT.2.2.2.1 6, tT.2.2.2.2.1, tT.2.2.2.2.2) (nI c) df mf gf tv ln la cf) 21 [(0, .ref (A 3 0)), (1, .int (nI q1))] []
    refine j_aload_n C 0 dX7_free_21 rfl rfl ?_
    refine j_get C mh0 1 mh1 0 rfl rfl (by decide) rfl rfl dX7_free_22 ?_
    refine j_iload_n C 1 dX7_free_25 rfl rfl ?_
    refine jx_T (tT' := fun u => (nI N, nI B, fil kf tT.2.2.1 6, u, tT.2.2.2.2.1, tT.2.2.2.2.2)) (As := [.int (nI q1)]) (rest := []) C (c_X5_payTillLighterOfNone (A 2) N B (fil kf tT.2.2.1 6) (filR pf tT.2.2.2.1 6) tT.2.2.2.2.1 tT.2.2.2.2.2 k p (hT.cp) q1 (by omega)) gX7_free_X5_payTillLighterOfNone rfl 1 rfl (by decide +kernel) (by decide) (Nat.le_of_ble_eq_true rfl) dX7_free_26 rfl (fun u _ => ?_)
    show J X (wX A cy fl dT (nI N, nI B, kf, pf, lf, tf) (nI N, nI B, fil kf tT.2.2.1 6, u, tT.2.2.2.2.1, tT.2.2.2.2.2) (nI c) df mf gf tv ln la cf) 29 [(0, .ref (A 3 0)), (1, .int (nI q1))] [.int (nI (fre N k p q1 N))]
    exact j_iret C E dX7_free_29 (fl, dT, (nI N, nI B, kf, pf, lf, tf), (nI N, nI B, fil kf tT.2.2.1 6, u, tT.2.2.2.2.1, tT.2.2.2.2.2), nI c, df, mf, gf, tv, ln, la, cf) (by rw [show m_free ((N, B, k, p), (c, rd, rl, ra), (hs, sl, sa, sc), tv, fl) (nI q1) = (nI (fre N k p q1 N), ((N, B, k, p), (c, rd, rl, ra), (hs, sl, sa, sc), tv, fl)) from (by simp only [m_free, qq1])]; exact XI.mk hB hN2 hT hR hS) (by rw [show m_free ((N, B, k, p), (c, rd, rl, ra), (hs, sl, sa, sc), tv, fl) (nI q1) = (nI (fre N k p q1 N), ((N, B, k, p), (c, rd, rl, ra), (hs, sl, sa, sc), tv, fl)) from (by simp only [m_free, qq1])]) rfl
  · have c5 := bN_0.mp c5
    have qq1 := pOf_n c5
    refine j_iconst (v := (-1)) C dX7_free_8 (by decide) ?_
    exact j_iret C E dX7_free_9 (fl, dT, (nI N, nI B, kf, pf, lf, tf), tT, nI c, df, mf, gf, tv, ln, la, cf) (by rw [show m_free ((N, B, k, p), (c, rd, rl, ra), (hs, sl, sa, sc), tv, fl) x = ((-1), ((N, B, k, p), (c, rd, rl, ra), (hs, sl, sa, sc), tv, fl)) from (by simp only [m_free, qq1])]; exact XI.mk hB hN2 hT hR hS) (by rw [show m_free ((N, B, k, p), (c, rd, rl, ra), (hs, sl, sa, sc), tv, fl) x = ((-1), ((N, B, k, p), (c, rd, rl, ra), (hs, sl, sa, sc), tv, fl)) from (by simp only [m_free, qq1])]) rfl
set_option maxHeartbeats 4000000 in
set_option maxRecDepth 20000 in
theorem c_X7_dusks {l : Launch} {D : va_G} {cy : Nat → ClassId} (A : Nat → Nat → Nat) (fl : Int32) (dT tT : TwS) (N B : Nat) (kf : Nat → Int32) (pf : Nat → Nat → Int32) (lf tf : Nat → Int32) (c : Nat) (df mf gf : Nat → Int32) (tv : Int32) (ln la : Nat → Int32) (cf : Nat → Nat → Int32) (k : Nat → Nat) (p : Nat → Nat → Nat) (rd rl : Nat → Nat) (ra : Nat → Option Nat) (hs : Nat → Bool) (sl sa : Nat → Nat) (sc : Nat → Nat → Int32) (hX : XI ((N, B, k, p), (c, rd, rl, ra), (hs, sl, sa, sc), tv, fl) (fl, dT, (nI N, nI B, kf, pf, lf, tf), tT, nI c, df, mf, gf, tv, ln, la, cf)) (v : Int32)  : Ct l yX7_dusks wsX7_dusks ({ frames := 5, cells := 0, slots := 0, locals := 113 }) D cy [.ref (A 3 0), .int v] (wX A cy fl dT (nI N, nI B, kf, pf, lf, tf) tT (nI c) df mf gf tv ln la cf) (fun u : XS => XI (m_dusks ((N, B, k, p), (c, rd, rl, ra), (hs, sl, sa, sc), tv, fl) v).2 u) (fun _ => some (.int (m_dusks ((N, B, k, p), (c, rd, rl, ra), (hs, sl, sa, sc), tv, fl) v).1)) (fun u => wXu A cy u) := by
  refine Ct.of (cc := cX7_dusks) (nL := 3) (ret := (some .int)) rfl (by decide) ⟨rfl, rfl⟩ (Nat.le_of_ble_eq_true rfl) ?_
  intro X C E
  have C : Cx X l D cy cX7_dusks 3 wsX7_dusks RX7 ({ frames := 5, cells := 0, slots := 0, locals := 113 }) := C
  have mh0 : ∀ w ∈ u_ws RX7 TX7 7, w ∈ wsX7_dusks := by decide +kernel
  have mh1 : Cond.fieldLink RX7 12 RX7 (TX7 0).2.1 (TX7 0).2.2.1 ∈ wsX7_dusks := by decide +kernel
  obtain ⟨-, ⟨hB, hN2⟩, hT, hR, hS⟩ := hX
  have hN := hT.n
  have hc8 := hR.1
  have hN30 : N ≤ 2 ^ 30 := by omega
  show J X (wX A cy fl dT (nI N, nI B, kf, pf, lf, tf) tT (nI c) df mf gf tv ln la cf) 0 [(0, .ref (A 3 0)), (1, .int v)] []
  refine j_iload_n C 1 dX7_dusks_0 rfl rfl ?_
  refine j_bipush (v := nI 60) C dX7_dusks_1 (by decide) ?_
  refine j_callP (As := [.int v, .int (nI 60)]) (rest := []) C (c_X7_isWithin (v) 60 (by omega)) gX7_dusks_X7_isWithin rfl 2 rfl (by decide +kernel) (by decide) (Nat.le_of_ble_eq_true rfl) dX7_dusks_3 rfl (fun _ _ => ?_)
  show J X (wX A cy fl dT (nI N, nI B, kf, pf, lf, tf) tT (nI c) df mf gf tv ln la cf) 6 [(0, .ref (A 3 0)), (1, .int v)] [.int (nI (bN ((pOf 61 (v)).isSome = true)))]
  refine j_if_neN (tgt := 12) C dX7_dusks_6 (by decide) (bN_lt _) (fun c6 => ?_) (fun c6 => ?_)
  · have c6 := bN_1.mp c6
    obtain ⟨m1, hm1, rfl⟩ := pY (by decide) c6
    have qm1 := pI hm1 (by decide)
    show J X (wX A cy fl dT (nI N, nI B, kf, pf, lf, tf) tT (nI c) df mf gf tv ln la cf) 12 [(0, .ref (A 3 0)), (1, .int (nI m1))] []
    refine j_aload_n C 0 dX7_dusks_12 rfl rfl ?_
    refine j_callV0 (As := []) (rest := []) C (c_X7_hasTown A fl dT tT N B kf pf lf tf c df mf gf tv ln la cf hN) gX7_dusks_X7_hasTown rfl 0 rfl (by decide +kernel) (by decide) 0 rfl rfl (Nat.le_of_ble_eq_true rfl) dX7_dusks_13 rfl (fun _ _ => ?_)
    show J X (wX A cy fl dT (nI N, nI B, kf, pf, lf, tf) tT (nI c) df mf gf tv ln la cf) 16 [(0, .ref (A 3 0)), (1, .int (nI m1))] [.int (nI (bN (¬ N = 0)))]
    refine j_if_neN (tgt := 22) C dX7_dusks_16 (by decide) (bN_lt _) (fun c16 => ?_) (fun c16 => ?_)
    · have c16 := bN_1.mp c16
      refine j_iconst (v := nI 0) C dX7_dusks_22 (by decide) ?_
      refine j_istore_n (lv' := [(2, .int (nI 0)), (0, .ref (A 3 0)), (1, .int (nI m1))]) C dX7_dusks_23 rfl (by decide) rfl ?_
      refine J.sub [1, 2, 0] rfl ?_
      have L24 : ∀ (n : Nat) (i : Nat) (pf1 : Nat → Nat → Int32) (lf1 tf1 : Nat → Int32), m1 - i < n → i ≤ m1 → Ag N k (dks N B k i p) kf pf1 → J X (wX A cy fl dT (nI N, nI B, kf, pf1, lf1, tf1) tT (nI c) df mf gf tv ln la cf) 24 [(0, .ref (A 3 0)), (1, .int (nI m1)), (2, .int (nI i))] [] := by
        intro n
        induction n with
        | zero => intro i pf1 lf1 tf1 hm; exact absurd hm (Nat.not_lt_zero _)
        | succ n ih24 =>
          intro i pf1 lf1 tf1 h24_0 h24_1 h24_2
          refine j_iload_n C 2 dX7_dusks_24 rfl rfl ?_
          refine j_iload_n C 1 dX7_dusks_25 rfl rfl ?_
          refine j_icmp_geN (tgt := 42) C dX7_dusks_26 (by decide) (by omega) (by omega) (fun c26 => ?_) (fun c26 => ?_)
          · have e1 : i = m1 := by omega
            refine j_aload_n C 0 dX7_dusks_42 rfl rfl ?_
            refine j_get C mh0 0 mh1 0 rfl rfl (by decide) rfl rfl dX7_dusks_43 ?_
            refine jx_N (nT' := fun _ => (nI N, nI B, kf, pf1, lf1, tf1)) (As := []) (rest := []) C (c_X5_litLamps (A 1) N B kf pf1 lf1 tf1 k (dks N B k i p) h24_2 ) gX7_dusks_X5_litLamps rfl 0 rfl (by decide +kernel) (by decide) (Nat.le_of_ble_eq_true rfl) dX7_dusks_46 rfl (fun _ _ => ?_)
            have hlit := litS_lt (k := k) (p := dks N B k i p) hN
            show J X (wX A cy fl dT (nI N, nI B, kf, pf1, lf1, tf1) tT (nI c) df mf gf tv ln la cf) 49 [(0, .ref (A 3 0)), (1, .int (nI m1)), (2, .int (nI i))] [.int (nI (litS N k (dks N B k i p)))]
            exact j_iret C E dX7_dusks_49 (fl, dT, (nI N, nI B, kf, pf1, lf1, tf1), tT, nI c, df, mf, gf, tv, ln, la, cf) (by rw [show m_dusks ((N, B, k, p), (c, rd, rl, ra), (hs, sl, sa, sc), tv, fl) (nI m1) = (nI (litS N k (dks N B k i p)), ((N, B, k, dks N B k i p), (c, rd, rl, ra), (hs, sl, sa, sc), tv, fl)) from (by simp only [m_dusks, qm1, c16, if_false, e1])]; exact XI.mk hB hN2 h24_2 hR hS) (by rw [show m_dusks ((N, B, k, p), (c, rd, rl, ra), (hs, sl, sa, sc), tv, fl) (nI m1) = (nI (litS N k (dks N B k i p)), ((N, B, k, dks N B k i p), (c, rd, rl, ra), (hs, sl, sa, sc), tv, fl)) from (by simp only [m_dusks, qm1, c16, if_false, e1])]) rfl
          · refine j_aload_n C 0 dX7_dusks_29 rfl rfl ?_
            refine j_get C mh0 0 mh1 0 rfl rfl (by decide) rfl rfl dX7_dusks_30 ?_
            refine jx_N (nT' := fun _ => (nI N, nI B, kf, pfD N B k (dks N B k i p) pf1 N, fil (lgF N k (dks N B k i p)) lf1 N, fil (tI N B k (dks N B k i p)) tf1 N)) (As := []) (rest := []) C (c_X5_passDusk (A 1) N B kf pf1 lf1 tf1 k (dks N B k i p) h24_2 hB) gX7_dusks_X5_passDusk rfl 0 rfl (by decide +kernel) (by decide) (Nat.le_of_ble_eq_true rfl) dX7_dusks_33 rfl (fun _ _ => ?_)
            show J X (wX A cy fl dT (nI N, nI B, kf, pfD N B k (dks N B k i p) pf1 N, fil (lgF N k (dks N B k i p)) lf1 N, fil (tI N B k (dks N B k i p)) tf1 N) tT (nI c) df mf gf tv ln la cf) 36 [(0, .ref (A 3 0)), (1, .int (nI m1)), (2, .int (nI i))] []
            refine j_iinc (v := nI (i + 1)) (lv' := [(2, .int (nI (i + 1))), (0, .ref (A 3 0)), (1, .int (nI m1))]) C 2 dX7_dusks_36 rfl (nI_inc i) (by decide) rfl ?_
            refine j_goto (tgt := 24) C dX7_dusks_39 (by decide) ?_
            refine J.sub [1, 2, 0] rfl ?_
            have e := ih24 (i + 1) (pfD N B k (dks N B k i p) pf1 N) (fil (lgF N k (dks N B k i p)) lf1 N) (fil (tI N B k (dks N B k i p)) tf1 N) (by omega) (by omega) h24_2.dk
            exact e
      have e := L24 (m1 + 1) 0 pf lf tf (by omega) (by omega) hT
      exact e
    · have c16 := bN_0.mp c16
      have c16 : N = 0 := by omega
      refine j_bipush (v := (-3)) C dX7_dusks_19 (by decide) ?_
      exact j_iret C E dX7_dusks_21 (fl, dT, (nI N, nI B, kf, pf, lf, tf), tT, nI c, df, mf, gf, tv, ln, la, cf) (by rw [show m_dusks ((N, B, k, p), (c, rd, rl, ra), (hs, sl, sa, sc), tv, fl) (nI m1) = ((-3), ((N, B, k, p), (c, rd, rl, ra), (hs, sl, sa, sc), tv, fl)) from (by simp only [m_dusks, qm1, c16, if_true])]; exact XI.mk hB hN2 hT hR hS) (by rw [show m_dusks ((N, B, k, p), (c, rd, rl, ra), (hs, sl, sa, sc), tv, fl) (nI m1) = ((-3), ((N, B, k, p), (c, rd, rl, ra), (hs, sl, sa, sc), tv, fl)) from (by simp only [m_dusks, qm1, c16, if_true])]) rfl
  · have c6 := bN_0.mp c6
    have qm1 := pOf_n c6
    refine j_bipush (v := (-2)) C dX7_dusks_9 (by decide) ?_
    exact j_iret C E dX7_dusks_11 (fl, dT, (nI N, nI B, kf, pf, lf, tf), tT, nI c, df, mf, gf, tv, ln, la, cf) (by rw [show m_dusks ((N, B, k, p), (c, rd, rl, ra), (hs, sl, sa, sc), tv, fl) v = ((-2), ((N, B, k, p), (c, rd, rl, ra), (hs, sl, sa, sc), tv, fl)) from (by simp only [m_dusks, qm1])]; exact XI.mk hB hN2 hT hR hS) (by rw [show m_dusks ((N, B, k, p), (c, rd, rl, ra), (hs, sl, sa, sc), tv, fl) v = ((-2), ((N, B, k, p), (c, rd, rl, ra), (hs, sl, sa, sc), tv, fl)) from (by simp only [m_dusks, qm1])]) rfl
set_option maxHeartbeats 4000000 in
set_option maxRecDepth 20000 in
theorem c_X7_later {l : Launch} {D : va_G} {cy : Nat → ClassId} (A : Nat → Nat → Nat) (fl : Int32) (dT tT : TwS) (N B : Nat) (kf : Nat → Int32) (pf : Nat → Nat → Int32) (lf tf : Nat → Int32) (c : Nat) (df mf gf : Nat → Int32) (tv : Int32) (ln la : Nat → Int32) (cf : Nat → Nat → Int32) (k : Nat → Nat) (p : Nat → Nat → Nat) (rd rl : Nat → Nat) (ra : Nat → Option Nat) (hs : Nat → Bool) (sl sa : Nat → Nat) (sc : Nat → Nat → Int32) (hX : XI ((N, B, k, p), (c, rd, rl, ra), (hs, sl, sa, sc), tv, fl) (fl, dT, (nI N, nI B, kf, pf, lf, tf), tT, nI c, df, mf, gf, tv, ln, la, cf)) (x v : Int32)  : Ct l yX7_later wsX7_later ({ frames := 5, cells := 0, slots := 0, locals := 113 }) D cy [.ref (A 3 0), .int x, .int v] (wX A cy fl dT (nI N, nI B, kf, pf, lf, tf) tT (nI c) df mf gf tv ln la cf) (fun u : XS => XI (m_later ((N, B, k, p), (c, rd, rl, ra), (hs, sl, sa, sc), tv, fl) x v).2 u) (fun _ => some (.int (m_later ((N, B, k, p), (c, rd, rl, ra), (hs, sl, sa, sc), tv, fl) x v).1)) (fun u => wXu A cy u) := by
  refine Ct.of (cc := cX7_later) (nL := 4) (ret := (some .int)) rfl (by decide) ⟨rfl, rfl⟩ (Nat.le_of_ble_eq_true rfl) ?_
  intro X C E
  have C : Cx X l D cy cX7_later 4 wsX7_later RX7 ({ frames := 5, cells := 0, slots := 0, locals := 113 }) := C
  have mh0 : ∀ w ∈ u_ws RX7 TX7 7, w ∈ wsX7_later := by decide +kernel
  have mh1 : Cond.fieldLink RX7 18 RX7 (TX7 1).2.1 (TX7 1).2.2.1 ∈ wsX7_later := by decide +kernel
  have mh2 : Cond.fieldLink RX7 12 RX7 (TX7 0).2.1 (TX7 0).2.2.1 ∈ wsX7_later := by decide +kernel
  obtain ⟨-, ⟨hB, hN2⟩, hT, hR, hS⟩ := hX
  have hN := hT.n
  have hc8 := hR.1
  have hN30 : N ≤ 2 ^ 30 := by omega
  show J X (wX A cy fl dT (nI N, nI B, kf, pf, lf, tf) tT (nI c) df mf gf tv ln la cf) 0 [(0, .ref (A 3 0)), (1, .int x), (2, .int v)] []
  refine j_aload_n C 0 dX7_later_0 rfl rfl ?_
  refine j_iload_n C 1 dX7_later_1 rfl rfl ?_
  refine j_callV0 (As := [.int x]) (rest := []) C (c_X7_isPerson A fl dT tT N B kf pf lf tf c df mf gf tv ln la cf (x) hN) gX7_later_X7_isPerson rfl 1 rfl (by decide +kernel) (by decide) 0 rfl rfl (Nat.le_of_ble_eq_true rfl) dX7_later_2 rfl (fun _ _ => ?_)
  show J X (wX A cy fl dT (nI N, nI B, kf, pf, lf, tf) tT (nI c) df mf gf tv ln la cf) 5 [(0, .ref (A 3 0)), (1, .int x), (2, .int v)] [.int (nI (bN ((pOf N (x)).isSome = true)))]
  refine j_if_neN (tgt := 10) C dX7_later_5 (by decide) (bN_lt _) (fun c5 => ?_) (fun c5 => ?_)
  · have c5 := bN_1.mp c5
    obtain ⟨b1, hb1, rfl⟩ := pY hN30 c5
    have qb1 := pI hb1 hN30
    show J X (wX A cy fl dT (nI N, nI B, kf, pf, lf, tf) tT (nI c) df mf gf tv ln la cf) 10 [(0, .ref (A 3 0)), (1, .int (nI b1)), (2, .int v)] []
    refine j_iload_n C 2 dX7_later_10 rfl rfl ?_
    refine j_bipush (v := nI 60) C dX7_later_11 (by decide) ?_
    refine j_callP (As := [.int v, .int (nI 60)]) (rest := []) C (c_X7_isWithin (v) 60 (by omega)) gX7_later_X7_isWithin rfl 2 rfl (by decide +kernel) (by decide) (Nat.le_of_ble_eq_true rfl) dX7_later_13 rfl (fun _ _ => ?_)
    show J X (wX A cy fl dT (nI N, nI B, kf, pf, lf, tf) tT (nI c) df mf gf tv ln la cf) 16 [(0, .ref (A 3 0)), (1, .int (nI b1)), (2, .int v)] [.int (nI (bN ((pOf 61 (v)).isSome = true)))]
    refine j_if_neN (tgt := 22) C dX7_later_16 (by decide) (bN_lt _) (fun c16 => ?_) (fun c16 => ?_)
    · have c16 := bN_1.mp c16
      obtain ⟨m1, hm1, rfl⟩ := pY (by decide) c16
      have qm1 := pI hm1 (by decide)
      show J X (wX A cy fl dT (nI N, nI B, kf, pf, lf, tf) tT (nI c) df mf gf tv ln la cf) 22 [(0, .ref (A 3 0)), (1, .int (nI b1)), (2, .int (nI m1))] []
      refine j_aload_n C 0 dX7_later_22 rfl rfl ?_
      refine j_get C mh0 1 mh1 0 rfl rfl (by decide) rfl rfl dX7_later_23 ?_
      refine j_aload_n C 0 dX7_later_26 rfl rfl ?_
      refine j_get C mh0 0 mh2 0 rfl rfl (by decide) rfl rfl dX7_later_27 ?_
      refine jx_NT (tT' := fun _ => (nI N, nI B, fil kf tT.2.2.1 6, filR pf tT.2.2.2.1 6, tT.2.2.2.2.1, tT.2.2.2.2.2)) (As := [.ref (A 1 0)]) (rest := []) C (c_X5_becomeLike (A 1) (A 2) (nI N) (nI B) tT.1 tT.2.1 kf tT.2.2.1 pf tT.2.2.2.1 lf tf tT.2.2.2.2.1 tT.2.2.2.2.2) gX7_later_X5_becomeLike rfl 1 rfl (by decide +kernel) (by decide) (Nat.le_of_ble_eq_true rfl) dX7_later_30 rfl (fun _ _ => ?_)
      show J X (wX A cy fl dT (nI N, nI B, kf, pf, lf, tf) (nI N, nI B, fil kf tT.2.2.1 6, filR pf tT.2.2.2.1 6, tT.2.2.2.2.1, tT.2.2.2.2.2) (nI c) df mf gf tv ln la cf) 33 [(0, .ref (A 3 0)), (1, .int (nI b1)), (2, .int (nI m1))] []
      refine j_iconst (v := nI 0) C dX7_later_33 (by decide) ?_
      refine j_istore_n (lv' := [(3, .int (nI 0)), (0, .ref (A 3 0)), (1, .int (nI b1)), (2, .int (nI m1))]) C dX7_later_34 rfl (by decide) rfl ?_
      refine J.sub [1, 2, 3, 0] rfl ?_
      have L35 : ∀ (n : Nat) (i : Nat) (pf1 : Nat → Nat → Int32) (lf1 tf1 : Nat → Int32), m1 - i < n → i ≤ m1 → Ag N k (dks N B k i p) (fil kf tT.2.2.1 6) pf1 → J X (wX A cy fl dT (nI N, nI B, kf, pf, lf, tf) (nI N, nI B, fil kf tT.2.2.1 6, pf1, lf1, tf1) (nI c) df mf gf tv ln la cf) 35 [(0, .ref (A 3 0)), (1, .int (nI b1)), (2, .int (nI m1)), (3, .int (nI i))] [] := by
        intro n
        induction n with
        | zero => intro i pf1 lf1 tf1 hm; exact absurd hm (Nat.not_lt_zero _)
        | succ n ih35 =>
          intro i pf1 lf1 tf1 h35_0 h35_1 h35_2
          refine j_iload_n C 3 dX7_later_35 rfl rfl ?_
          refine j_iload_n C 2 dX7_later_36 rfl rfl ?_
          refine j_icmp_geN (tgt := 53) C dX7_later_37 (by decide) (by omega) (by omega) (fun c37 => ?_) (fun c37 => ?_)
          · have e1 : i = m1 := by omega
            refine j_aload_n C 0 dX7_later_53 rfl rfl ?_
            refine j_get C mh0 1 mh1 0 rfl rfl (by decide) rfl rfl dX7_later_54 ?_
            refine j_iload_n C 1 dX7_later_57 rfl rfl ?_
            refine j_iconst (v := nI 0) C dX7_later_58 (by decide) ?_
            refine jx_T (tT' := fun _ => (nI N, nI B, fil kf tT.2.2.1 6, pf1, lf1, tf1)) (As := [.int (nI b1), .int (nI 0)]) (rest := []) C (c_X5_lighter0 (A 2) N B (fil kf tT.2.2.1 6) pf1 lf1 tf1 k (dks N B k i p) h35_2 b1 (by omega)) gX7_later_X5_lighterAmong rfl 2 rfl (by decide +kernel) (by decide) (Nat.le_of_ble_eq_true rfl) dX7_later_59 rfl (fun _ _ => ?_)
            show J X (wX A cy fl dT (nI N, nI B, kf, pf, lf, tf) (nI N, nI B, fil kf tT.2.2.1 6, pf1, lf1, tf1) (nI c) df mf gf tv ln la cf) 62 [(0, .ref (A 3 0)), (1, .int (nI b1)), (2, .int (nI m1)), (3, .int (nI i))] [.int (lI (lg N k (dks N B k i p) b1))]
            exact j_iret C E dX7_later_62 (fl, dT, (nI N, nI B, kf, pf, lf, tf), (nI N, nI B, fil kf tT.2.2.1 6, pf1, lf1, tf1), nI c, df, mf, gf, tv, ln, la, cf) (by rw [show m_later ((N, B, k, p), (c, rd, rl, ra), (hs, sl, sa, sc), tv, fl) (nI b1) (nI m1) = (lI (lg N k (dks N B k i p) b1), ((N, B, k, p), (c, rd, rl, ra), (hs, sl, sa, sc), tv, fl)) from (by simp only [m_later, qb1, qm1, e1])]; exact XI.mk hB hN2 hT hR hS) (by rw [show m_later ((N, B, k, p), (c, rd, rl, ra), (hs, sl, sa, sc), tv, fl) (nI b1) (nI m1) = (lI (lg N k (dks N B k i p) b1), ((N, B, k, p), (c, rd, rl, ra), (hs, sl, sa, sc), tv, fl)) from (by simp only [m_later, qb1, qm1, e1])]) rfl
          · refine j_aload_n C 0 dX7_later_40 rfl rfl ?_
            refine j_get C mh0 1 mh1 0 rfl rfl (by decide) rfl rfl dX7_later_41 ?_
            refine jx_T (tT' := fun _ => (nI N, nI B, fil kf tT.2.2.1 6, pfD N B k (dks N B k i p) pf1 N, fil (lgF N k (dks N B k i p)) lf1 N, fil (tI N B k (dks N B k i p)) tf1 N)) (As := []) (rest := []) C (c_X5_passDusk (A 2) N B (fil kf tT.2.2.1 6) pf1 lf1 tf1 k (dks N B k i p) h35_2 hB) gX7_later_X5_passDusk rfl 0 rfl (by decide +kernel) (by decide) (Nat.le_of_ble_eq_true rfl) dX7_later_44 rfl (fun _ _ => ?_)
            show J X (wX A cy fl dT (nI N, nI B, kf, pf, lf, tf) (nI N, nI B, fil kf tT.2.2.1 6, pfD N B k (dks N B k i p) pf1 N, fil (lgF N k (dks N B k i p)) lf1 N, fil (tI N B k (dks N B k i p)) tf1 N) (nI c) df mf gf tv ln la cf) 47 [(0, .ref (A 3 0)), (1, .int (nI b1)), (2, .int (nI m1)), (3, .int (nI i))] []
            refine j_iinc (v := nI (i + 1)) (lv' := [(3, .int (nI (i + 1))), (0, .ref (A 3 0)), (1, .int (nI b1)), (2, .int (nI m1))]) C 3 dX7_later_47 rfl (nI_inc i) (by decide) rfl ?_
            refine j_goto (tgt := 35) C dX7_later_50 (by decide) ?_
            refine J.sub [1, 2, 3, 0] rfl ?_
            have e := ih35 (i + 1) (pfD N B k (dks N B k i p) pf1 N) (fil (lgF N k (dks N B k i p)) lf1 N) (fil (tI N B k (dks N B k i p)) tf1 N) (by omega) (by omega) h35_2.dk
            exact e
      have e := L35 (m1 + 1) 0 (filR pf tT.2.2.2.1 6) tT.2.2.2.2.1 tT.2.2.2.2.2 (by omega) (by omega) hT.cp
      exact e
    · have c16 := bN_0.mp c16
      have qm1 := pOf_n c16
      refine j_bipush (v := (-2)) C dX7_later_19 (by decide) ?_
      exact j_iret C E dX7_later_21 (fl, dT, (nI N, nI B, kf, pf, lf, tf), tT, nI c, df, mf, gf, tv, ln, la, cf) (by rw [show m_later ((N, B, k, p), (c, rd, rl, ra), (hs, sl, sa, sc), tv, fl) (nI b1) v = ((-2), ((N, B, k, p), (c, rd, rl, ra), (hs, sl, sa, sc), tv, fl)) from (by simp only [m_later, qb1, qm1])]; exact XI.mk hB hN2 hT hR hS) (by rw [show m_later ((N, B, k, p), (c, rd, rl, ra), (hs, sl, sa, sc), tv, fl) (nI b1) v = ((-2), ((N, B, k, p), (c, rd, rl, ra), (hs, sl, sa, sc), tv, fl)) from (by simp only [m_later, qb1, qm1])]) rfl
  · have c5 := bN_0.mp c5
    have qb1 := pOf_n c5
    refine j_iconst (v := (-1)) C dX7_later_8 (by decide) ?_
    exact j_iret C E dX7_later_9 (fl, dT, (nI N, nI B, kf, pf, lf, tf), tT, nI c, df, mf, gf, tv, ln, la, cf) (by rw [show m_later ((N, B, k, p), (c, rd, rl, ra), (hs, sl, sa, sc), tv, fl) x v = ((-1), ((N, B, k, p), (c, rd, rl, ra), (hs, sl, sa, sc), tv, fl)) from (by simp only [m_later, qb1])]; exact XI.mk hB hN2 hT hR hS) (by rw [show m_later ((N, B, k, p), (c, rd, rl, ra), (hs, sl, sa, sc), tv, fl) x v = ((-1), ((N, B, k, p), (c, rd, rl, ra), (hs, sl, sa, sc), tv, fl)) from (by simp only [m_later, qb1])]) rfl
set_option maxHeartbeats 4000000 in
set_option maxRecDepth 20000 in
theorem c_X7_dark {l : Launch} {D : va_G} {cy : Nat → ClassId} (A : Nat → Nat → Nat) (fl : Int32) (dT tT : TwS) (N B : Nat) (kf : Nat → Int32) (pf : Nat → Nat → Int32) (lf tf : Nat → Int32) (c : Nat) (df mf gf : Nat → Int32) (tv : Int32) (ln la : Nat → Int32) (cf : Nat → Nat → Int32) (k : Nat → Nat) (p : Nat → Nat → Nat) (rd rl : Nat → Nat) (ra : Nat → Option Nat) (hs : Nat → Bool) (sl sa : Nat → Nat) (sc : Nat → Nat → Int32) (hX : XI ((N, B, k, p), (c, rd, rl, ra), (hs, sl, sa, sc), tv, fl) (fl, dT, (nI N, nI B, kf, pf, lf, tf), tT, nI c, df, mf, gf, tv, ln, la, cf))  : Ct l yX7_dark wsX7_dark ({ frames := 5, cells := 0, slots := 0, locals := 113 }) D cy [.ref (A 3 0)] (wX A cy fl dT (nI N, nI B, kf, pf, lf, tf) tT (nI c) df mf gf tv ln la cf) (fun u : XS => XI (m_dark ((N, B, k, p), (c, rd, rl, ra), (hs, sl, sa, sc), tv, fl)).2 u) (fun _ => some (.int (m_dark ((N, B, k, p), (c, rd, rl, ra), (hs, sl, sa, sc), tv, fl)).1)) (fun u => wXu A cy u) := by
  refine Ct.of (cc := cX7_dark) (nL := 2) (ret := (some .int)) rfl (by decide) ⟨rfl, rfl⟩ (Nat.le_of_ble_eq_true rfl) ?_
  intro X C E
  have C : Cx X l D cy cX7_dark 2 wsX7_dark RX7 ({ frames := 5, cells := 0, slots := 0, locals := 113 }) := C
  have mh0 : ∀ w ∈ u_ws RX7 TX7 7, w ∈ wsX7_dark := by decide +kernel
  have mh1 : Cond.fieldLink RX7 18 RX7 (TX7 1).2.1 (TX7 1).2.2.1 ∈ wsX7_dark := by decide +kernel
  have mh2 : Cond.fieldLink RX7 12 RX7 (TX7 0).2.1 (TX7 0).2.2.1 ∈ wsX7_dark := by decide +kernel
  obtain ⟨-, ⟨hB, hN2⟩, hT, hR, hS⟩ := hX
  have hN := hT.n
  have hc8 := hR.1
  have hN30 : N ≤ 2 ^ 30 := by omega
  show J X (wX A cy fl dT (nI N, nI B, kf, pf, lf, tf) tT (nI c) df mf gf tv ln la cf) 0 [(0, .ref (A 3 0))] []
  refine j_aload_n C 0 dX7_dark_0 rfl rfl ?_
  refine j_callV0 (As := []) (rest := []) C (c_X7_hasTown A fl dT tT N B kf pf lf tf c df mf gf tv ln la cf hN) gX7_dark_X7_hasTown rfl 0 rfl (by decide +kernel) (by decide) 0 rfl rfl (Nat.le_of_ble_eq_true rfl) dX7_dark_1 rfl (fun _ _ => ?_)
  show J X (wX A cy fl dT (nI N, nI B, kf, pf, lf, tf) tT (nI c) df mf gf tv ln la cf) 4 [(0, .ref (A 3 0))] [.int (nI (bN (¬ N = 0)))]
  refine j_if_neN (tgt := 10) C dX7_dark_4 (by decide) (bN_lt _) (fun c4 => ?_) (fun c4 => ?_)
  · have c4 := bN_1.mp c4
    refine j_aload_n C 0 dX7_dark_10 rfl rfl ?_
    refine j_get C mh0 1 mh1 0 rfl rfl (by decide) rfl rfl dX7_dark_11 ?_
    refine j_aload_n C 0 dX7_dark_14 rfl rfl ?_
    refine j_get C mh0 0 mh2 0 rfl rfl (by decide) rfl rfl dX7_dark_15 ?_
    refine jx_NT (tT' := fun _ => (nI N, nI B, fil kf tT.2.2.1 6, filR pf tT.2.2.2.1 6, tT.2.2.2.2.1, tT.2.2.2.2.2)) (As := [.ref (A 1 0)]) (rest := []) C (c_X5_becomeLike (A 1) (A 2) (nI N) (nI B) tT.1 tT.2.1 kf tT.2.2.1 pf tT.2.2.2.1 lf tf tT.2.2.2.2.1 tT.2.2.2.2.2) gX7_dark_X5_becomeLike rfl 1 rfl (by decide +kernel) (by decide) (Nat.le_of_ble_eq_true rfl) dX7_dark_18 rfl (fun _ _ => ?_)
    show J X (wX A cy fl dT (nI N, nI B, kf, pf, lf, tf) (nI N, nI B, fil kf tT.2.2.1 6, filR pf tT.2.2.2.1 6, tT.2.2.2.2.1, tT.2.2.2.2.2) (nI c) df mf gf tv ln la cf) 21 [(0, .ref (A 3 0))] []
    refine j_iconst (v := nI 0) C dX7_dark_21 (by decide) ?_
    refine j_istore_n (lv' := [(1, .int (nI 0)), (0, .ref (A 3 0))]) C dX7_dark_22 rfl (by decide) rfl ?_
    refine J.sub [1, 0] rfl ?_
    have L23 : ∀ (n : Nat) (i : Nat) (pf1 : Nat → Nat → Int32) (lf1 tf1 : Nat → Int32), 61 - i < n → i ≤ 61 → Ag N k (dks N B k i p) (fil kf tT.2.2.1 6) pf1 → (∀ t, t < i → litB N B k p t = true) → J X (wX A cy fl dT (nI N, nI B, kf, pf, lf, tf) (nI N, nI B, fil kf tT.2.2.1 6, pf1, lf1, tf1) (nI c) df mf gf tv ln la cf) 23 [(0, .ref (A 3 0)), (1, .int (nI i))] [] := by
      intro n
      induction n with
      | zero => intro i pf1 lf1 tf1 hm; exact absurd hm (Nat.not_lt_zero _)
      | succ n ih23 =>
        intro i pf1 lf1 tf1 h23_0 h23_1 h23_2 h23_3
        refine j_iload_n C 1 dX7_dark_23 rfl rfl ?_
        refine j_bipush (v := nI 60) C dX7_dark_24 (by decide) ?_
        refine j_icmp_gtN (tgt := 54) C dX7_dark_26 (by decide) (by omega) (by omega) (fun c26 => ?_) (fun c26 => ?_)
        · have e2 : ffs (litB N B k p) 61 = 61 := by rw [show i = 61 by omega] at h23_3; exact ffs_all h23_3
          refine j_bipush (v := (-9)) C dX7_dark_54 (by decide) ?_
          exact j_iret C E dX7_dark_56 (fl, dT, (nI N, nI B, kf, pf, lf, tf), (nI N, nI B, fil kf tT.2.2.1 6, pf1, lf1, tf1), nI c, df, mf, gf, tv, ln, la, cf) (by rw [show m_dark ((N, B, k, p), (c, rd, rl, ra), (hs, sl, sa, sc), tv, fl) = ((-9), ((N, B, k, p), (c, rd, rl, ra), (hs, sl, sa, sc), tv, fl)) from (by simp only [m_dark, c4, if_false, e2]; try rfl)]; exact XI.mk hB hN2 hT hR hS) (by rw [show m_dark ((N, B, k, p), (c, rd, rl, ra), (hs, sl, sa, sc), tv, fl) = ((-9), ((N, B, k, p), (c, rd, rl, ra), (hs, sl, sa, sc), tv, fl)) from (by simp only [m_dark, c4, if_false, e2]; try rfl)]) rfl
        · refine j_aload_n C 0 dX7_dark_29 rfl rfl ?_
          refine j_get C mh0 1 mh1 0 rfl rfl (by decide) rfl rfl dX7_dark_30 ?_
          refine jx_T (tT' := fun _ => (nI N, nI B, fil kf tT.2.2.1 6, pf1, lf1, tf1)) (As := []) (rest := []) C (c_X5_litLamps (A 2) N B (fil kf tT.2.2.1 6) pf1 lf1 tf1 k (dks N B k i p) h23_2 ) gX7_dark_X5_litLamps rfl 0 rfl (by decide +kernel) (by decide) (Nat.le_of_ble_eq_true rfl) dX7_dark_33 rfl (fun _ _ => ?_)
          have hlit := litS_lt (k := k) (p := dks N B k i p) hN
          show J X (wX A cy fl dT (nI N, nI B, kf, pf, lf, tf) (nI N, nI B, fil kf tT.2.2.1 6, pf1, lf1, tf1) (nI c) df mf gf tv ln la cf) 36 [(0, .ref (A 3 0)), (1, .int (nI i))] [.int (nI (litS N k (dks N B k i p)))]
          refine j_if_neN (tgt := 41) C dX7_dark_36 (by decide) (by omega) (fun c36 => ?_) (fun c36 => ?_)
          · refine j_aload_n C 0 dX7_dark_41 rfl rfl ?_
            refine j_get C mh0 1 mh1 0 rfl rfl (by decide) rfl rfl dX7_dark_42 ?_
            refine jx_T (tT' := fun _ => (nI N, nI B, fil kf tT.2.2.1 6, pfD N B k (dks N B k i p) pf1 N, fil (lgF N k (dks N B k i p)) lf1 N, fil (tI N B k (dks N B k i p)) tf1 N)) (As := []) (rest := []) C (c_X5_passDusk (A 2) N B (fil kf tT.2.2.1 6) pf1 lf1 tf1 k (dks N B k i p) h23_2 hB) gX7_dark_X5_passDusk rfl 0 rfl (by decide +kernel) (by decide) (Nat.le_of_ble_eq_true rfl) dX7_dark_45 rfl (fun _ _ => ?_)
            show J X (wX A cy fl dT (nI N, nI B, kf, pf, lf, tf) (nI N, nI B, fil kf tT.2.2.1 6, pfD N B k (dks N B k i p) pf1 N, fil (lgF N k (dks N B k i p)) lf1 N, fil (tI N B k (dks N B k i p)) tf1 N) (nI c) df mf gf tv ln la cf) 48 [(0, .ref (A 3 0)), (1, .int (nI i))] []
            refine j_iinc (v := nI (i + 1)) (lv' := [(1, .int (nI (i + 1))), (0, .ref (A 3 0))]) C 1 dX7_dark_48 rfl (nI_inc i) (by decide) rfl ?_
            refine j_goto (tgt := 23) C dX7_dark_51 (by decide) ?_
            refine J.sub [1, 0] rfl ?_
            have e := ih23 (i + 1) (pfD N B k (dks N B k i p) pf1 N) (fil (lgF N k (dks N B k i p)) lf1 N) (fil (tI N B k (dks N B k i p)) tf1 N) (by omega) (by omega) h23_2.dk (fun t ht => by rcases Nat.lt_or_ge t i with z | z; exact h23_3 t z; rw [show t = i by omega]; exact decide_eq_true c36)
            exact e
          · have e2 : ffs (litB N B k p) 61 = i := ffs_stop h23_3 (decide_eq_false (fun z => z c36)) (by omega)
            have e3 : i ≤ 60 := by omega
            refine j_iload_n C 1 dX7_dark_39 rfl rfl ?_
            exact j_iret C E dX7_dark_40 (fl, dT, (nI N, nI B, kf, pf, lf, tf), (nI N, nI B, fil kf tT.2.2.1 6, pf1, lf1, tf1), nI c, df, mf, gf, tv, ln, la, cf) (by rw [show m_dark ((N, B, k, p), (c, rd, rl, ra), (hs, sl, sa, sc), tv, fl) = (nI i, ((N, B, k, p), (c, rd, rl, ra), (hs, sl, sa, sc), tv, fl)) from (by simp only [m_dark, c4, if_false, e2, e3, if_true])]; exact XI.mk hB hN2 hT hR hS) (by rw [show m_dark ((N, B, k, p), (c, rd, rl, ra), (hs, sl, sa, sc), tv, fl) = (nI i, ((N, B, k, p), (c, rd, rl, ra), (hs, sl, sa, sc), tv, fl)) from (by simp only [m_dark, c4, if_false, e2, e3, if_true])]) rfl
    have e := L23 62 0 (filR pf tT.2.2.2.1 6) tT.2.2.2.2.1 tT.2.2.2.2.2 (by omega) (by omega) hT.cp (fun t ht => by omega)
    exact e
  · have c4 := bN_0.mp c4
    have c4 : N = 0 := by omega
    refine j_bipush (v := (-3)) C dX7_dark_7 (by decide) ?_
    exact j_iret C E dX7_dark_9 (fl, dT, (nI N, nI B, kf, pf, lf, tf), tT, nI c, df, mf, gf, tv, ln, la, cf) (by rw [show m_dark ((N, B, k, p), (c, rd, rl, ra), (hs, sl, sa, sc), tv, fl) = ((-3), ((N, B, k, p), (c, rd, rl, ra), (hs, sl, sa, sc), tv, fl)) from (by simp only [m_dark, c4, if_true])]; exact XI.mk hB hN2 hT hR hS) (by rw [show m_dark ((N, B, k, p), (c, rd, rl, ra), (hs, sl, sa, sc), tv, fl) = ((-3), ((N, B, k, p), (c, rd, rl, ra), (hs, sl, sa, sc), tv, fl)) from (by simp only [m_dark, c4, if_true])]) rfl
set_option maxHeartbeats 4000000 in
set_option maxRecDepth 20000 in
theorem c_X7_ofPerson {l : Launch} {D : va_G} {cy : Nat → ClassId} (A : Nat → Nat → Nat) (fl : Int32) (dT tT : TwS) (N B : Nat) (kf : Nat → Int32) (pf : Nat → Nat → Int32) (lf tf : Nat → Int32) (c : Nat) (df mf gf : Nat → Int32) (tv : Int32) (ln la : Nat → Int32) (cf : Nat → Nat → Int32) (k : Nat → Nat) (p : Nat → Nat → Nat) (rd rl : Nat → Nat) (ra : Nat → Option Nat) (hs : Nat → Bool) (sl sa : Nat → Nat) (sc : Nat → Nat → Int32) (hX : XI ((N, B, k, p), (c, rd, rl, ra), (hs, sl, sa, sc), tv, fl) (fl, dT, (nI N, nI B, kf, pf, lf, tf), tT, nI c, df, mf, gf, tv, ln, la, cf)) (x w : Int32)  : Ct l yX7_ofPerson wsX7_ofPerson ({ frames := 6, cells := 0, slots := 0, locals := 132 }) D cy [.ref (A 3 0), .int x, .int w] (wX A cy fl dT (nI N, nI B, kf, pf, lf, tf) tT (nI c) df mf gf tv ln la cf) (fun u : XS => XI (m_ofPerson ((N, B, k, p), (c, rd, rl, ra), (hs, sl, sa, sc), tv, fl) x w).2 u) (fun _ => some (.int (m_ofPerson ((N, B, k, p), (c, rd, rl, ra), (hs, sl, sa, sc), tv, fl) x w).1)) (fun u => wXu A cy u) := by
  refine Ct.of (cc := cX7_ofPerson) (nL := 3) (ret := (some .int)) rfl (by decide) ⟨rfl, rfl⟩ (Nat.le_of_ble_eq_true rfl) ?_
  intro X C E
  have C : Cx X l D cy cX7_ofPerson 3 wsX7_ofPerson RX7 ({ frames := 6, cells := 0, slots := 0, locals := 132 }) := C
  have mh0 : ∀ w ∈ u_ws RX7 TX7 7, w ∈ wsX7_ofPerson := by decide +kernel
  have mh1 : Cond.fieldLink RX7 12 RX7 (TX7 0).2.1 (TX7 0).2.2.1 ∈ wsX7_ofPerson := by decide +kernel
  have mh2 : ∀ w ∈ u_ws RX5 TX5 7, w ∈ wsX7_ofPerson := by decide +kernel
  obtain ⟨-, ⟨hB, hN2⟩, hT, hR, hS⟩ := hX
  have hN := hT.n
  have hc8 := hR.1
  have hN30 : N ≤ 2 ^ 30 := by omega
  show J X (wX A cy fl dT (nI N, nI B, kf, pf, lf, tf) tT (nI c) df mf gf tv ln la cf) 0 [(0, .ref (A 3 0)), (1, .int x), (2, .int w)] []
  refine j_aload_n C 0 dX7_ofPerson_0 rfl rfl ?_
  refine j_iload_n C 1 dX7_ofPerson_1 rfl rfl ?_
  refine j_callV0 (As := [.int x]) (rest := []) C (c_X7_isPerson A fl dT tT N B kf pf lf tf c df mf gf tv ln la cf (x) hN) gX7_ofPerson_X7_isPerson rfl 1 rfl (by decide +kernel) (by decide) 0 rfl rfl (Nat.le_of_ble_eq_true rfl) dX7_ofPerson_2 rfl (fun _ _ => ?_)
  show J X (wX A cy fl dT (nI N, nI B, kf, pf, lf, tf) tT (nI c) df mf gf tv ln la cf) 5 [(0, .ref (A 3 0)), (1, .int x), (2, .int w)] [.int (nI (bN ((pOf N (x)).isSome = true)))]
  refine j_if_neN (tgt := 10) C dX7_ofPerson_5 (by decide) (bN_lt _) (fun c5 => ?_) (fun c5 => ?_)
  · have c5 := bN_1.mp c5
    obtain ⟨a1, ha1, rfl⟩ := pY hN30 c5
    have qa1 := pI ha1 hN30
    show J X (wX A cy fl dT (nI N, nI B, kf, pf, lf, tf) tT (nI c) df mf gf tv ln la cf) 10 [(0, .ref (A 3 0)), (1, .int (nI a1)), (2, .int w)] []
    refine j_iload_n C 2 dX7_ofPerson_10 rfl rfl ?_
    refine j_table C dX7_ofPerson_11 105 (by decide) (fun hw => ?_) (fun h1 h2 => ?_)
    · have qw := tb_n (m := 4) hw
      refine j_bipush (v := (-2)) C dX7_ofPerson_105 (by decide) ?_
      exact j_iret C E dX7_ofPerson_107 (fl, dT, (nI N, nI B, kf, pf, lf, tf), tT, nI c, df, mf, gf, tv, ln, la, cf) (by rw [show m_ofPerson ((N, B, k, p), (c, rd, rl, ra), (hs, sl, sa, sc), tv, fl) (nI a1) w = ((-2), ((N, B, k, p), (c, rd, rl, ra), (hs, sl, sa, sc), tv, fl)) from (by simp only [m_ofPerson, qa1, qw])]; exact XI.mk hB hN2 hT hR hS) (by rw [show m_ofPerson ((N, B, k, p), (c, rd, rl, ra), (hs, sl, sa, sc), tv, fl) (nI a1) w = ((-2), ((N, B, k, p), (c, rd, rl, ra), (hs, sl, sa, sc), tv, fl)) from (by simp only [m_ofPerson, qa1, qw])]) rfl
    · obtain ⟨z, hz, rfl⟩ := tb_y (m := 4) (by decide) h1 h2
      match z, hz with
      | 0, _ =>
        refine ⟨33, 44, by decide +kernel, by decide, ?_⟩
        have qw := pI (n := 5) (j := 0) (by decide) (by decide)
        refine j_aload_n C 0 dX7_ofPerson_44 rfl rfl ?_
        refine j_get C mh0 0 mh1 0 rfl rfl (by decide) rfl rfl dX7_ofPerson_45 ?_
        refine j_getN C mh2 1 (by decide +kernel) 16 rfl rfl (by decide) rfl rfl dX7_ofPerson_48 ?_
        refine j_iload_n C 1 dX7_ofPerson_51 rfl rfl ?_
        have := hT.k2 (a := a1) (by omega)
        refine j_iald (v := nI (k a1)) C 18 rfl (by omega) (by decide) (hT.kk (by omega)) dX7_ofPerson_52 ?_
        exact j_iret C E dX7_ofPerson_53 (fl, dT, (nI N, nI B, kf, pf, lf, tf), tT, nI c, df, mf, gf, tv, ln, la, cf) (by rw [show m_ofPerson ((N, B, k, p), (c, rd, rl, ra), (hs, sl, sa, sc), tv, fl) (nI a1) (nI 0) = (nI (k a1), ((N, B, k, p), (c, rd, rl, ra), (hs, sl, sa, sc), tv, fl)) from (by simp only [m_ofPerson, qa1, qw])]; exact XI.mk hB hN2 hT hR hS) (by rw [show m_ofPerson ((N, B, k, p), (c, rd, rl, ra), (hs, sl, sa, sc), tv, fl) (nI a1) (nI 0) = (nI (k a1), ((N, B, k, p), (c, rd, rl, ra), (hs, sl, sa, sc), tv, fl)) from (by simp only [m_ofPerson, qa1, qw])]) rfl
      | 1, _ =>
        refine ⟨43, 54, by decide +kernel, by decide, ?_⟩
        have qw := pI (n := 5) (j := 1) (by decide) (by decide)
        refine j_aload_n C 0 dX7_ofPerson_54 rfl rfl ?_
        refine j_get C mh0 0 mh1 0 rfl rfl (by decide) rfl rfl dX7_ofPerson_55 ?_
        refine j_iload_n C 1 dX7_ofPerson_58 rfl rfl ?_
        refine jx_N (nT' := fun _ => (nI N, nI B, kf, pf, lf, tf)) (As := [.int (nI a1)]) (rest := []) C (c_X5_penceInAll (A 1) N B kf pf lf tf k p hT a1 (by omega)) gX7_ofPerson_X5_penceInAll rfl 1 rfl (by decide +kernel) (by decide) (Nat.le_of_ble_eq_true rfl) dX7_ofPerson_59 rfl (fun _ _ => ?_)
        show J X (wX A cy fl dT (nI N, nI B, kf, pf, lf, tf) tT (nI c) df mf gf tv ln la cf) 62 [(0, .ref (A 3 0)), (1, .int (nI a1)), (2, .int (nI 1))] [.int (nI (psum p a1 N))]
        exact j_iret C E dX7_ofPerson_62 (fl, dT, (nI N, nI B, kf, pf, lf, tf), tT, nI c, df, mf, gf, tv, ln, la, cf) (by rw [show m_ofPerson ((N, B, k, p), (c, rd, rl, ra), (hs, sl, sa, sc), tv, fl) (nI a1) (nI 1) = (nI (psum p a1 N), ((N, B, k, p), (c, rd, rl, ra), (hs, sl, sa, sc), tv, fl)) from (by simp only [m_ofPerson, qa1, qw])]; exact XI.mk hB hN2 hT hR hS) (by rw [show m_ofPerson ((N, B, k, p), (c, rd, rl, ra), (hs, sl, sa, sc), tv, fl) (nI a1) (nI 1) = (nI (psum p a1 N), ((N, B, k, p), (c, rd, rl, ra), (hs, sl, sa, sc), tv, fl)) from (by simp only [m_ofPerson, qa1, qw])]) rfl
      | 2, _ =>
        refine ⟨52, 63, by decide +kernel, by decide, ?_⟩
        have qw := pI (n := 5) (j := 2) (by decide) (by decide)
        refine j_aload_n C 0 dX7_ofPerson_63 rfl rfl ?_
        refine j_get C mh0 0 mh1 0 rfl rfl (by decide) rfl rfl dX7_ofPerson_64 ?_
        refine j_iload_n C 1 dX7_ofPerson_67 rfl rfl ?_
        refine jx_N (nT' := fun _ => (nI N, nI B, kf, pf, fil (lgF N k p) lf N, tf)) (As := [.int (nI a1)]) (rest := []) C (c_X5_roundOf (A 1) N B kf pf lf tf k p hT a1 (by omega)) gX7_ofPerson_X5_roundOf rfl 1 rfl (by decide +kernel) (by decide) (Nat.le_of_ble_eq_true rfl) dX7_ofPerson_68 rfl (fun _ _ => ?_)
        show J X (wX A cy fl dT (nI N, nI B, kf, pf, fil (lgF N k p) lf N, tf) tT (nI c) df mf gf tv ln la cf) 71 [(0, .ref (A 3 0)), (1, .int (nI a1)), (2, .int (nI 2))] [.int (nI (rnd N k p a1))]
        exact j_iret C E dX7_ofPerson_71 (fl, dT, (nI N, nI B, kf, pf, fil (lgF N k p) lf N, tf), tT, nI c, df, mf, gf, tv, ln, la, cf) (by rw [show m_ofPerson ((N, B, k, p), (c, rd, rl, ra), (hs, sl, sa, sc), tv, fl) (nI a1) (nI 2) = (nI (rnd N k p a1), ((N, B, k, p), (c, rd, rl, ra), (hs, sl, sa, sc), tv, fl)) from (by simp only [m_ofPerson, qa1, qw])]; exact XI.mk hB hN2 hT hR hS) (by rw [show m_ofPerson ((N, B, k, p), (c, rd, rl, ra), (hs, sl, sa, sc), tv, fl) (nI a1) (nI 2) = (nI (rnd N k p a1), ((N, B, k, p), (c, rd, rl, ra), (hs, sl, sa, sc), tv, fl)) from (by simp only [m_ofPerson, qa1, qw])]) rfl
      | 3, _ =>
        refine ⟨61, 72, by decide +kernel, by decide, ?_⟩
        have qw := pI (n := 5) (j := 3) (by decide) (by decide)
        refine j_aload_n C 0 dX7_ofPerson_72 rfl rfl ?_
        refine j_get C mh0 0 mh1 0 rfl rfl (by decide) rfl rfl dX7_ofPerson_73 ?_
        refine j_iload_n C 1 dX7_ofPerson_76 rfl rfl ?_
        refine jx_N (nT' := fun _ => (nI N, nI B, kf, pf, fil (lgF N k p) lf N, tf)) (As := [.int (nI a1)]) (rest := []) C (c_X5_stepsOf (A 1) N B kf pf lf tf k p hT a1 (by omega)) gX7_ofPerson_X5_stepsOf rfl 1 rfl (by decide +kernel) (by decide) (Nat.le_of_ble_eq_true rfl) dX7_ofPerson_77 rfl (fun _ _ => ?_)
        have hsp := sps_le (k := k) (p := p) hN (q := a1) (by omega)
        show J X (wX A cy fl dT (nI N, nI B, kf, pf, fil (lgF N k p) lf N, tf) tT (nI c) df mf gf tv ln la cf) 80 [(0, .ref (A 3 0)), (1, .int (nI a1)), (2, .int (nI 3))] [.int (nI (sps N k p a1))]
        exact j_iret C E dX7_ofPerson_80 (fl, dT, (nI N, nI B, kf, pf, fil (lgF N k p) lf N, tf), tT, nI c, df, mf, gf, tv, ln, la, cf) (by rw [show m_ofPerson ((N, B, k, p), (c, rd, rl, ra), (hs, sl, sa, sc), tv, fl) (nI a1) (nI 3) = (nI (sps N k p a1), ((N, B, k, p), (c, rd, rl, ra), (hs, sl, sa, sc), tv, fl)) from (by simp only [m_ofPerson, qa1, qw])]; exact XI.mk hB hN2 hT hR hS) (by rw [show m_ofPerson ((N, B, k, p), (c, rd, rl, ra), (hs, sl, sa, sc), tv, fl) (nI a1) (nI 3) = (nI (sps N k p a1), ((N, B, k, p), (c, rd, rl, ra), (hs, sl, sa, sc), tv, fl)) from (by simp only [m_ofPerson, qa1, qw])]) rfl
      | 4, _ =>
        refine ⟨70, 81, by decide +kernel, by decide, ?_⟩
        have qw := pI (n := 5) (j := 4) (by decide) (by decide)
        refine j_aload_n C 0 dX7_ofPerson_81 rfl rfl ?_
        refine j_get C mh0 0 mh1 0 rfl rfl (by decide) rfl rfl dX7_ofPerson_82 ?_
        refine j_iload_n C 1 dX7_ofPerson_85 rfl rfl ?_
        refine jx_N (nT' := fun _ => (nI N, nI B, kf, pf, fil (lgF N k p) lf N, tf)) (As := [.int (nI a1)]) (rest := []) C (c_X5_stepsOf (A 1) N B kf pf lf tf k p hT a1 (by omega)) gX7_ofPerson_X5_stepsOf rfl 1 rfl (by decide +kernel) (by decide) (Nat.le_of_ble_eq_true rfl) dX7_ofPerson_86 rfl (fun _ _ => ?_)
        have hsp := sps_le (k := k) (p := p) hN (q := a1) (by omega)
        show J X (wX A cy fl dT (nI N, nI B, kf, pf, fil (lgF N k p) lf N, tf) tT (nI c) df mf gf tv ln la cf) 89 [(0, .ref (A 3 0)), (1, .int (nI a1)), (2, .int (nI 4))] [.int (nI (sps N k p a1))]
        refine j_aload_n C 0 dX7_ofPerson_89 rfl rfl ?_
        refine j_get C mh0 0 mh1 0 rfl rfl (by decide) rfl rfl dX7_ofPerson_90 ?_
        refine j_getN C mh2 6 (by decide +kernel) 16 rfl rfl (by decide) rfl rfl dX7_ofPerson_93 ?_
        refine j_icmp_gtN (tgt := 103) C dX7_ofPerson_96 (by decide) (by omega) (by omega) (fun c96 => ?_) (fun c96 => ?_)
        · have qb := bN_n (P := sps N k p a1 ≤ B) (by omega)
          refine j_iconst (v := nI 0) C dX7_ofPerson_103 (by decide) ?_
          exact j_iret C E dX7_ofPerson_104 (fl, dT, (nI N, nI B, kf, pf, fil (lgF N k p) lf N, tf), tT, nI c, df, mf, gf, tv, ln, la, cf) (by rw [show m_ofPerson ((N, B, k, p), (c, rd, rl, ra), (hs, sl, sa, sc), tv, fl) (nI a1) (nI 4) = (nI 0, ((N, B, k, p), (c, rd, rl, ra), (hs, sl, sa, sc), tv, fl)) from (by simp only [m_ofPerson, qa1, qw, qb])]; exact XI.mk hB hN2 hT hR hS) (by rw [show m_ofPerson ((N, B, k, p), (c, rd, rl, ra), (hs, sl, sa, sc), tv, fl) (nI a1) (nI 4) = (nI 0, ((N, B, k, p), (c, rd, rl, ra), (hs, sl, sa, sc), tv, fl)) from (by simp only [m_ofPerson, qa1, qw, qb])]) rfl
        · have qb := bN_y (P := sps N k p a1 ≤ B) (by omega)
          refine j_iconst (v := nI 1) C dX7_ofPerson_99 (by decide) ?_
          refine j_goto (tgt := 104) C dX7_ofPerson_100 (by decide) ?_
          exact j_iret C E dX7_ofPerson_104 (fl, dT, (nI N, nI B, kf, pf, fil (lgF N k p) lf N, tf), tT, nI c, df, mf, gf, tv, ln, la, cf) (by rw [show m_ofPerson ((N, B, k, p), (c, rd, rl, ra), (hs, sl, sa, sc), tv, fl) (nI a1) (nI 4) = (nI 1, ((N, B, k, p), (c, rd, rl, ra), (hs, sl, sa, sc), tv, fl)) from (by simp only [m_ofPerson, qa1, qw, qb])]; exact XI.mk hB hN2 hT hR hS) (by rw [show m_ofPerson ((N, B, k, p), (c, rd, rl, ra), (hs, sl, sa, sc), tv, fl) (nI a1) (nI 4) = (nI 1, ((N, B, k, p), (c, rd, rl, ra), (hs, sl, sa, sc), tv, fl)) from (by simp only [m_ofPerson, qa1, qw, qb])]) rfl
      | z + 5, hz => exact absurd hz (by omega)
  · have c5 := bN_0.mp c5
    have qa1 := pOf_n c5
    refine j_iconst (v := (-1)) C dX7_ofPerson_8 (by decide) ?_
    exact j_iret C E dX7_ofPerson_9 (fl, dT, (nI N, nI B, kf, pf, lf, tf), tT, nI c, df, mf, gf, tv, ln, la, cf) (by rw [show m_ofPerson ((N, B, k, p), (c, rd, rl, ra), (hs, sl, sa, sc), tv, fl) x w = ((-1), ((N, B, k, p), (c, rd, rl, ra), (hs, sl, sa, sc), tv, fl)) from (by simp only [m_ofPerson, qa1])]; exact XI.mk hB hN2 hT hR hS) (by rw [show m_ofPerson ((N, B, k, p), (c, rd, rl, ra), (hs, sl, sa, sc), tv, fl) x w = ((-1), ((N, B, k, p), (c, rd, rl, ra), (hs, sl, sa, sc), tv, fl)) from (by simp only [m_ofPerson, qa1])]) rfl
