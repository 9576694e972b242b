set_option maxHeartbeats 4000000 in
set_option maxRecDepth 20000 in
theorem c_X7_town {l : Launch} {D : va_G} {cy : Nat → ClassId} (A : Nat → Nat → Nat) (fl : Int32) (dT tT : TwS) (N B : Nat) (kf : Nat → Int32) (pf : Nat → Nat → Int32) (lf tf : Nat → Int32) (c : Nat) (df mf gf : Nat → Int32) (tv : Int32) (ln la : Nat → Int32) (cf : Nat → Nat → Int32) (k : Nat → Nat) (p : Nat → Nat → Nat) (rd rl : Nat → Nat) (ra : Nat → Option Nat) (hs : Nat → Bool) (sl sa : Nat → Nat) (sc : Nat → Nat → Int32) (hX : XI ((N, B, k, p), (c, rd, rl, ra), (hs, sl, sa, sc), tv, fl) (fl, dT, (nI N, nI B, kf, pf, lf, tf), tT, nI c, df, mf, gf, tv, ln, la, cf)) (s lx i m : Int32)  : Ct l yX7_town wsX7_town ({ frames := 3, cells := 0, slots := 0, locals := 73 }) D cy [.ref (A 3 0), .int s, .int lx, .int i, .int m] (wX A cy fl dT (nI N, nI B, kf, pf, lf, tf) tT (nI c) df mf gf tv ln la cf) (fun u : XS => XI (m_town ((N, B, k, p), (c, rd, rl, ra), (hs, sl, sa, sc), tv, fl) s lx i m).2 u) (fun _ => some (.int (m_town ((N, B, k, p), (c, rd, rl, ra), (hs, sl, sa, sc), tv, fl) s lx i m).1)) (fun u => wXu A cy u) := by
  refine Ct.of (cc := cX7_town) (nL := 7) (ret := (some .int)) rfl (by decide) ⟨rfl, rfl⟩ (Nat.le_of_ble_eq_true rfl) ?_
  intro X C E
  have C : Cx X l D cy cX7_town 7 wsX7_town RX7 ({ frames := 3, cells := 0, slots := 0, locals := 73 }) := C
  have mh0 : ∀ w ∈ u_ws RX7 TX7 7, w ∈ wsX7_town := by decide +kernel
  have mh1 : Cond.fieldLink RX7 45 RX7 (TX7 6).2.1 (TX7 6).2.2.1 ∈ wsX7_town := by decide +kernel
  have mh2 : Cond.fieldLink RX7 41 RX7 (TX7 5).2.1 (TX7 5).2.2.1 ∈ wsX7_town := by decide +kernel
  have mh3 : Cond.fieldLink RX7 21 RX7 (TX7 2).2.1 (TX7 2).2.2.1 ∈ wsX7_town := by decide +kernel
  have mh4 : Cond.fieldLink RX7 12 RX7 (TX7 0).2.1 (TX7 0).2.2.1 ∈ wsX7_town := by decide +kernel
  have mh5 : Cond.fieldLink RX7 34 RX7 (TX7 4).2.1 (TX7 4).2.2.1 ∈ wsX7_town := by decide +kernel
  have mh6 : ∀ w ∈ u_ws RX5 TX5 7, w ∈ wsX7_town := by decide +kernel
  obtain ⟨-, ⟨hB, hN2⟩, hT, hR, hS⟩ := hX
  have hN := hT.n
  have hc8 := hR.1
  have hN30 : N ≤ 2 ^ 30 := by omega
  show J X (wX A cy fl dT (nI N, nI B, kf, pf, lf, tf) tT (nI c) df mf gf tv ln la cf) 0 [(0, .ref (A 3 0)), (1, .int s), (2, .int lx), (3, .int i), (4, .int m)] []
  refine j_aload_n C 0 dX7_town_0 rfl rfl ?_
  refine j_iconst (v := nI 0) C dX7_town_1 (by decide) ?_
  refine j_put (ws' := wX A cy (nI 0) dT (nI N, nI B, kf, pf, lf, tf) tT (nI c) df mf gf tv ln la cf) C mh0 6 mh1 tyX7 tyX7_ok nmX7 0 rfl rfl (by decide) rfl rfl (by decide +kernel) (Nat.le_of_ble_eq_true rfl) rfl dX7_town_2 ?_
  refine j_iload_n C 1 dX7_town_5 rfl rfl ?_
  refine j_callP (As := [.int s]) (rest := []) C (c_X7_isSheet (s)) gX7_town_X7_isSheet rfl 1 rfl (by decide +kernel) (by decide) (Nat.le_of_ble_eq_true rfl) dX7_town_6 rfl (fun _ _ => ?_)
  show J X (wX A cy (nI 0) dT (nI N, nI B, kf, pf, lf, tf) tT (nI c) df mf gf tv ln la cf) 9 [(0, .ref (A 3 0)), (1, .int s), (2, .int lx), (3, .int i), (4, .int m)] [.int (nI (bN ((pOf 4 (s)).isSome = true)))]
  refine j_if_neN (tgt := 14) C dX7_town_9 (by decide) (bN_lt _) (fun c9 => ?_) (fun c9 => ?_)
  · have c9 := bN_1.mp c9
    obtain ⟨q1, hq1, rfl⟩ := pY (by decide) c9
    have qq1 := pI hq1 (by decide)
    show J X (wX A cy (nI 0) dT (nI N, nI B, kf, pf, lf, tf) tT (nI c) df mf gf tv ln la cf) 14 [(0, .ref (A 3 0)), (1, .int (nI q1)), (2, .int lx), (3, .int i), (4, .int m)] []
    refine j_iload_n C 2 dX7_town_14 rfl rfl ?_
    refine j_iconst (v := nI 2) C dX7_town_15 (by decide) ?_
    refine j_callP (As := [.int lx, .int (nI 2)]) (rest := []) C (c_X7_isWithin (lx) 2 (by omega)) gX7_town_X7_isWithin rfl 2 rfl (by decide +kernel) (by decide) (Nat.le_of_ble_eq_true rfl) dX7_town_16 rfl (fun _ _ => ?_)
    show J X (wX A cy (nI 0) dT (nI N, nI B, kf, pf, lf, tf) tT (nI c) df mf gf tv ln la cf) 19 [(0, .ref (A 3 0)), (1, .int (nI q1)), (2, .int lx), (3, .int i), (4, .int m)] [.int (nI (bN ((pOf 3 (lx)).isSome = true)))]
    refine j_if_neN (tgt := 25) C dX7_town_19 (by decide) (bN_lt _) (fun c19 => ?_) (fun c19 => ?_)
    · have c19 := bN_1.mp c19
      obtain ⟨v1, hv1, rfl⟩ := pY (by decide) c19
      have qv1 := pI hv1 (by decide)
      show J X (wX A cy (nI 0) dT (nI N, nI B, kf, pf, lf, tf) tT (nI c) df mf gf tv ln la cf) 25 [(0, .ref (A 3 0)), (1, .int (nI q1)), (2, .int (nI v1)), (3, .int i), (4, .int m)] []
      refine j_aload_n C 0 dX7_town_25 rfl rfl ?_
      refine j_get C mh0 5 mh2 0 rfl rfl (by decide) rfl rfl dX7_town_26 ?_
      refine j_iload_n C 1 dX7_town_29 rfl rfl ?_
      refine j_aald (t0 := 3) (Cn := "DebtLamps$Sheet") (b := A 4 q1) C 51 rfl rfl (by omega) (by decide) (wX_so (by omega)) dX7_town_30 ?_
      refine j_astore (lv' := [(5, .ref (A 4 q1)), (0, .ref (A 3 0)), (1, .int (nI q1)), (2, .int (nI v1)), (3, .int i), (4, .int m)]) C dX7_town_31 (by decide) rfl ?_
      refine j_aload C 0 dX7_town_33 rfl ?_
      refine j_iload_n C 3 dX7_town_35 rfl rfl ?_
      refine jx_S0  (As := [.int (nI v1)]) (rest := []) hq1 C (c_X4_isOfLane (A 4 q1) (A 5 q1) (ln q1) (la q1) (cf q1) (nI v1)) gX7_town_X4_isOfLane rfl 1 rfl (by decide +kernel) (by decide) (Nat.le_of_ble_eq_true rfl) dX7_town_36 rfl (fun _ _ => ?_)
      show J X (wX A cy (nI 0) dT (nI N, nI B, kf, pf, lf, tf) tT (nI c) df mf gf tv ln la cf) 39 [(5, .ref (A 4 q1)), (0, .ref (A 3 0)), (1, .int (nI q1)), (2, .int (nI v1)), (3, .int i), (4, .int m)] [.int (nI (bN (ln q1 = -1 ∨ la q1 = nI v1)))]
      refine j_if_neN (tgt := 48) C dX7_town_39 (by decide) (bN_lt _) (fun c39 => ?_) (fun c39 => ?_)
      · have c39 := bN_1.mp c39
        refine j_aload C 0 dX7_town_48 rfl ?_
        refine jx_S0  (As := []) (rest := []) hq1 C (c_X4_hasNothing (A 4 q1) (A 5 q1) (ln q1) (la q1) (cf q1) ) gX7_town_X4_hasNothing rfl 0 rfl (by decide +kernel) (by decide) (Nat.le_of_ble_eq_true rfl) dX7_town_50 rfl (fun _ _ => ?_)
        show J X (wX A cy (nI 0) dT (nI N, nI B, kf, pf, lf, tf) tT (nI c) df mf gf tv ln la cf) 53 [(5, .ref (A 4 q1)), (0, .ref (A 3 0)), (1, .int (nI q1)), (2, .int (nI v1)), (3, .int i), (4, .int m)] [.int (nI (bN (ln q1 = -1)))]
        refine j_if_eqN (tgt := 62) C dX7_town_53 (by decide) (bN_lt _) (fun c53 => ?_) (fun c53 => ?_)
        · have c53 := bN_0.mp c53
          have qh := hS.t hq1 c53
          have qln := hS.hln hq1 qh
          have q60 := hS.l60 hq1 qh
          have qla := hS.hla hq1 qh
          have qa2 := hS.a2 hq1 qh
          have qsv : sa q1 = v1 := by rcases c39 with z | z; exact absurd z c53; rw [qla] at z; exact (nI_eq (by omega) (by omega)).mp z
          refine j_iload C 5 dX7_town_62 rfl ?_
          refine j_if_ge (tgt := 73) C dX7_town_64 (by decide) (fun c64 => ?_) (fun c64 => ?_)
          · refine j_aload C 0 dX7_town_73 rfl ?_
            refine j_iload_n C 4 dX7_town_75 rfl rfl ?_
            refine j_iload C 5 dX7_town_76 rfl ?_
            refine jx_S0  (As := [.int i, .int m]) (rest := []) hq1 C (c_X4_hasCells (A 4 q1) (A 5 q1) (ln q1) (la q1) (cf q1) (i) (m)) gX7_town_X4_hasCells rfl 2 rfl (by decide +kernel) (by decide) (Nat.le_of_ble_eq_true rfl) dX7_town_78 rfl (fun _ _ => ?_)
            show J X (wX A cy (nI 0) dT (nI N, nI B, kf, pf, lf, tf) tT (nI c) df mf gf tv ln la cf) 81 [(5, .ref (A 4 q1)), (0, .ref (A 3 0)), (1, .int (nI q1)), (2, .int (nI v1)), (3, .int i), (4, .int m)] [.int (nI (bN (¬ i < 0 ∧ ¬ ln q1 < i ∧ ¬ m < 0 ∧ ¬ ln q1 - i < m)))]
            refine j_if_neN (tgt := 90) C dX7_town_81 (by decide) (bN_lt _) (fun c81 => ?_) (fun c81 => ?_)
            · have c81 := bN_1.mp c81
              rw [qln, cells_i q60] at c81
              obtain ⟨i1, m1, him, rfl, rfl⟩ := cells_y q60 c81
              have qg : agn hs sl sa q1 v1 (nI i1) (nI m1) = 0 := agn_0 qh qsv c81
              have t1 := tC60 (m := i1) (by omega)
              have t2 := tC60 (m := m1) (by omega)
              have htx : ∀ j, j < m1 → cf q1 (i1 + j) = sc q1 (i1 + j) := fun j hj => hS.hcf hq1 qh (by omega)
              show J X (wX A cy (nI 0) dT (nI N, nI B, kf, pf, lf, tf) tT (nI c) df mf gf tv ln la cf) 90 [(5, .ref (A 4 q1)), (0, .ref (A 3 0)), (1, .int (nI q1)), (2, .int (nI v1)), (3, .int (nI i1)), (4, .int (nI m1))] []
              refine j_aload_n C 1 dX7_town_90 rfl rfl ?_
              refine j_get C mh0 2 mh3 0 rfl rfl (by decide) rfl rfl dX7_town_91 ?_
              refine j_aload C 0 dX7_town_94 rfl ?_
              refine j_iload_n C 4 dX7_town_96 rfl rfl ?_
              refine j_iload C 5 dX7_town_97 rfl ?_
              refine jx_DS (S := TxS) (post := fun u : TxS => ffs (vcd (fun q => cf q1 (i1 + q))) m1 = m1 ∧ tl (Nx (fun q => cf q1 (i1 + q))) ≤ m1 → TxI (fun q => cf q1 (i1 + q)) m1 u.1 u.2.1 u.2.2.1 u.2.2.2) (rv := fun _ => some (.int (if ffs (vcd (fun q => cf q1 (i1 + q))) m1 = m1 ∧ tl (Nx (fun q => cf q1 (i1 + q))) ≤ m1 then -9 else nI (ffs (vcd (fun q => cf q1 (i1 + q))) m1)))) (rmc := { frames := 2, cells := 0, slots := 0, locals := 49 }) (dT' := fun u : TxS => (u.1, u.2.1, u.2.2.1, u.2.2.2, dT.2.2.2.2.1, dT.2.2.2.2.2)) (As := [.ref (A 4 q1), .int (nI i1), .int (nI m1)]) (rest := []) hq1 C (by rw [qln]; exact c_X5_readText (A 0) dT.1 dT.2.1 dT.2.2.1 dT.2.2.2.1 dT.2.2.2.2.1 dT.2.2.2.2.2 (A 4 q1) (A 5 q1) (sl q1) (la q1) (cf q1) i1 m1 q60 him) gX7_town_X5_readText rfl 3 rfl (by decide +kernel) (by decide) (Nat.le_of_ble_eq_true rfl) dX7_town_99 rfl (fun u hu => ?_)
              show J X (wX A cy (nI 0) (u.1, u.2.1, u.2.2.1, u.2.2.2, dT.2.2.2.2.1, dT.2.2.2.2.2) (nI N, nI B, kf, pf, lf, tf) tT (nI c) df mf gf tv ln la cf) 102 [(5, .ref (A 4 q1)), (0, .ref (A 3 0)), (1, .int (nI q1)), (2, .int (nI v1)), (3, .int (nI i1)), (4, .int (nI m1))] [.int (if ffs (vcd (fun q => cf q1 (i1 + q))) m1 = m1 ∧ tl (Nx (fun q => cf q1 (i1 + q))) ≤ m1 then -9 else nI (ffs (vcd (fun q => cf q1 (i1 + q))) m1))]
              refine j_istore (lv' := [(6, .int (if ffs (vcd (fun q => cf q1 (i1 + q))) m1 = m1 ∧ tl (Nx (fun q => cf q1 (i1 + q))) ≤ m1 then -9 else nI (ffs (vcd (fun q => cf q1 (i1 + q))) m1))), (5, .ref (A 4 q1)), (0, .ref (A 3 0)), (1, .int (nI q1)), (2, .int (nI v1)), (3, .int (nI i1)), (4, .int (nI m1))]) C dX7_town_102 (by decide) rfl ?_
              refine j_iload C 0 dX7_town_104 rfl ?_
              refine j_bipush (v := (-9)) C dX7_town_106 (by decide) ?_
              refine j_icmp_eq (tgt := 117) C dX7_town_108 (by decide) (fun c108 => ?_) (fun c108 => ?_)
              · have hP := rs_y (by have := ffs_le (vcd (fun q => cf q1 (i1 + q))) m1; omega) c108
                have qP : ffs (vcd (fun j => sc q1 (i1 + j))) m1 = m1 ∧ tl (Nx (fun j => sc q1 (i1 + j))) ≤ m1 := (suc_cong htx).mp hP
                obtain ⟨⟨hv1, hv2, hv3, hv4⟩, hv5⟩ := TxI.ag htx (hu hP) hP.2
                refine j_aload_n C 2 dX7_town_117 rfl rfl ?_
                refine j_get C mh0 0 mh4 0 rfl rfl (by decide) rfl rfl dX7_town_118 ?_
                refine j_aload_n C 2 dX7_town_121 rfl rfl ?_
                refine j_get C mh0 2 mh3 0 rfl rfl (by decide) rfl rfl dX7_town_122 ?_
                refine jx_DN (nT' := fun _ => (u.1, u.2.1, fil u.2.2.1 kf 6, filR u.2.2.2 pf 6, lf, tf)) (As := [.ref (A 0 0)]) (rest := []) C (c_X5_becomeLike (A 0) (A 1) u.1 u.2.1 (nI N) (nI B) u.2.2.1 kf u.2.2.2 pf dT.2.2.2.2.1 dT.2.2.2.2.2 lf tf) gX7_town_X5_becomeLike rfl 1 rfl (by decide +kernel) (by decide) (Nat.le_of_ble_eq_true rfl) dX7_town_125 rfl (fun _ _ => ?_)
                show J X (wX A cy (nI 0) (u.1, u.2.1, u.2.2.1, u.2.2.2, dT.2.2.2.2.1, dT.2.2.2.2.2) (u.1, u.2.1, fil u.2.2.1 kf 6, filR u.2.2.2 pf 6, lf, tf) tT (nI c) df mf gf tv ln la cf) 128 [(6, .int (if ffs (vcd (fun q => cf q1 (i1 + q))) m1 = m1 ∧ tl (Nx (fun q => cf q1 (i1 + q))) ≤ m1 then -9 else nI (ffs (vcd (fun q => cf q1 (i1 + q))) m1))), (5, .ref (A 4 q1)), (0, .ref (A 3 0)), (1, .int (nI q1)), (2, .int (nI v1)), (3, .int (nI i1)), (4, .int (nI m1))] []
                refine j_aload_n C 2 dX7_town_128 rfl rfl ?_
                refine j_get C mh0 4 mh5 0 rfl rfl (by decide) rfl rfl dX7_town_129 ?_
                refine j_iconst (v := nI 0) C dX7_town_132 (by decide) ?_
                refine jx_R (ct' := fun _ => nI 0) (df' := fun _ => df) (mf' := fun _ => mf) (gf' := fun _ => gf) (As := [.int (nI 0)]) (rest := []) C (c_X2_keepFirst (A 3 1) (A 3 2) (A 3 3) (A 3 4) c df mf gf 0 hc8 (Nat.zero_le _)) gX7_town_X2_keepFirst rfl 1 rfl (by decide +kernel) (by decide) (Nat.le_of_ble_eq_true rfl) dX7_town_133 rfl (fun _ _ => ?_)
                show J X (wX A cy (nI 0) (u.1, u.2.1, u.2.2.1, u.2.2.2, dT.2.2.2.2.1, dT.2.2.2.2.2) (u.1, u.2.1, fil u.2.2.1 kf 6, filR u.2.2.2 pf 6, lf, tf) tT (nI 0) df mf gf tv ln la cf) 136 [(6, .int (if ffs (vcd (fun q => cf q1 (i1 + q))) m1 = m1 ∧ tl (Nx (fun q => cf q1 (i1 + q))) ≤ m1 then -9 else nI (ffs (vcd (fun q => cf q1 (i1 + q))) m1))), (5, .ref (A 4 q1)), (0, .ref (A 3 0)), (1, .int (nI q1)), (2, .int (nI v1)), (3, .int (nI i1)), (4, .int (nI m1))] []
                refine j_aload_n C 2 dX7_town_136 rfl rfl ?_
                refine j_get C mh0 0 mh4 0 rfl rfl (by decide) rfl rfl dX7_town_137 ?_
                refine j_getN C mh6 5 (by decide +kernel) 16 rfl rfl (by decide) rfl rfl dX7_town_140 ?_
                exact j_iret C E dX7_town_143 (nI 0, (u.1, u.2.1, u.2.2.1, u.2.2.2, dT.2.2.2.2.1, dT.2.2.2.2.2), (u.1, u.2.1, fil u.2.2.1 kf 6, filR u.2.2.2 pf 6, lf, tf), tT, nI 0, df, mf, gf, tv, ln, la, cf) (by rw [show m_town ((N, B, k, p), (c, rd, rl, ra), (hs, sl, sa, sc), tv, fl) (nI q1) (nI v1) (nI i1) (nI m1) = (u.1, ((Nx (fun j => sc q1 (i1 + j)), dv (sc q1 (i1 + 2)), xK (fun j => sc q1 (i1 + j)), xPn (fun j => sc q1 (i1 + j))), (0, rd, rl, ra), (hs, sl, sa, sc), tv, nI 0)) from (by simp only [m_town, qq1, qv1, qg, t1, t2, if_pos qP, hv1, reduceIte, reduceCtorEq, if_true, if_false, Bool.false_eq_true, ne_eq, not_true_eq_false, not_false_eq_true, and_true, true_and, and_false, false_and, or_true, true_or, or_false, false_or]; try rfl)]; exact ⟨⟨rfl, rfl, hv1, hv2, rfl⟩, ⟨hv3, Or.inr hv4⟩, hv5.cp, ⟨by decide, fun j hj => absurd hj (Nat.not_lt_zero j)⟩, hS⟩) (by rw [show m_town ((N, B, k, p), (c, rd, rl, ra), (hs, sl, sa, sc), tv, fl) (nI q1) (nI v1) (nI i1) (nI m1) = (u.1, ((Nx (fun j => sc q1 (i1 + j)), dv (sc q1 (i1 + 2)), xK (fun j => sc q1 (i1 + j)), xPn (fun j => sc q1 (i1 + j))), (0, rd, rl, ra), (hs, sl, sa, sc), tv, nI 0)) from (by simp only [m_town, qq1, qv1, qg, t1, t2, if_pos qP, hv1, reduceIte, reduceCtorEq, if_true, if_false, Bool.false_eq_true, ne_eq, not_true_eq_false, not_false_eq_true, and_true, true_and, and_false, false_and, or_true, true_or, or_false, false_or]; try rfl)]) rfl
              · have hP := rs_n c108
                have qP : ¬ (ffs (vcd (fun j => sc q1 (i1 + j))) m1 = m1 ∧ tl (Nx (fun j => sc q1 (i1 + j))) ≤ m1) := fun z => hP ((suc_cong htx).mpr z)
                have hff : ffs (vcd (fun q => cf q1 (i1 + q))) m1 = ffs (vcd (fun j => sc q1 (i1 + j))) m1 := ffs_cong (vcd_cong htx)
                rw [if_neg hP]
                show J X (wX A cy (nI 0) (u.1, u.2.1, u.2.2.1, u.2.2.2, dT.2.2.2.2.1, dT.2.2.2.2.2) (nI N, nI B, kf, pf, lf, tf) tT (nI c) df mf gf tv ln la cf) 111 [(6, .int (nI (ffs (vcd (fun q => cf q1 (i1 + q))) m1))), (5, .ref (A 4 q1)), (0, .ref (A 3 0)), (1, .int (nI q1)), (2, .int (nI v1)), (3, .int (nI i1)), (4, .int (nI m1))] []
                refine j_bipush (v := (-100)) C dX7_town_111 (by decide) ?_
                refine j_iload C 0 dX7_town_113 rfl ?_
                refine j_isub (v := ((-100)) - (nI (ffs (vcd (fun q => cf q1 (i1 + q))) m1))) C dX7_town_115 rfl ?_
                exact j_iret C E dX7_town_116 (nI 0, (u.1, u.2.1, u.2.2.1, u.2.2.2, dT.2.2.2.2.1, dT.2.2.2.2.2), (nI N, nI B, kf, pf, lf, tf), tT, nI c, df, mf, gf, tv, ln, la, cf) (by rw [show m_town ((N, B, k, p), (c, rd, rl, ra), (hs, sl, sa, sc), tv, fl) (nI q1) (nI v1) (nI i1) (nI m1) = (((-100)) - (nI (ffs (vcd (fun q => cf q1 (i1 + q))) m1)), ((N, B, k, p), (c, rd, rl, ra), (hs, sl, sa, sc), tv, nI 0)) from (by simp only [m_town, qq1, qv1, qg, t1, t2, if_neg qP, hff, reduceIte, reduceCtorEq, if_true, if_false, Bool.false_eq_true, ne_eq, not_true_eq_false, not_false_eq_true, and_true, true_and, and_false, false_and, or_true, true_or, or_false, false_or]; try rfl)]; exact XI.mk hB hN2 hT hR hS) (by rw [show m_town ((N, B, k, p), (c, rd, rl, ra), (hs, sl, sa, sc), tv, fl) (nI q1) (nI v1) (nI i1) (nI m1) = (((-100)) - (nI (ffs (vcd (fun q => cf q1 (i1 + q))) m1)), ((N, B, k, p), (c, rd, rl, ra), (hs, sl, sa, sc), tv, nI 0)) from (by simp only [m_town, qq1, qv1, qg, t1, t2, if_neg qP, hff, reduceIte, reduceCtorEq, if_true, if_false, Bool.false_eq_true, ne_eq, not_true_eq_false, not_false_eq_true, and_true, true_and, and_false, false_and, or_true, true_or, or_false, false_or]; try rfl)]) rfl
            · have c81 := bN_0.mp c81
              rw [qln, cells_i q60] at c81
              have qg : agn hs sl sa q1 v1 i m = 3 := agn_3 qh qsv (ge0 c64) c81
              refine j_aload_n C 1 dX7_town_84 rfl rfl ?_
              refine j_iconst (v := nI 3) C dX7_town_85 (by decide) ?_
              refine j_callV0 (As := [.int (nI 3)]) (rest := []) C (c_X7_faulted A (nI 0) dT tT N B kf pf lf tf c df mf gf tv ln la cf 3) gX7_town_X7_faulted rfl 1 rfl (by decide +kernel) (by decide) 0 rfl rfl (Nat.le_of_ble_eq_true rfl) dX7_town_86 rfl (fun _ _ => ?_)
              show J X (wX A cy (nI 3) dT (nI N, nI B, kf, pf, lf, tf) tT (nI c) df mf gf tv ln la cf) 89 [(5, .ref (A 4 q1)), (0, .ref (A 3 0)), (1, .int (nI q1)), (2, .int (nI v1)), (3, .int i), (4, .int m)] [.int ((-10) - nI 3)]
              exact j_iret C E dX7_town_89 (nI 3, dT, (nI N, nI B, kf, pf, lf, tf), tT, nI c, df, mf, gf, tv, ln, la, cf) (by rw [show m_town ((N, B, k, p), (c, rd, rl, ra), (hs, sl, sa, sc), tv, fl) (nI q1) (nI v1) i m = ((-10) - nI 3, ((N, B, k, p), (c, rd, rl, ra), (hs, sl, sa, sc), tv, nI 3)) from (by simp only [m_town, qq1, qv1, qg, reduceCtorEq, if_true, if_false, Bool.false_eq_true, ne_eq, not_true_eq_false, not_false_eq_true, and_true, true_and, and_false, false_and, or_true, true_or, or_false, false_or])]; exact XI.mk hB hN2 hT hR hS) (by rw [show m_town ((N, B, k, p), (c, rd, rl, ra), (hs, sl, sa, sc), tv, fl) (nI q1) (nI v1) i m = ((-10) - nI 3, ((N, B, k, p), (c, rd, rl, ra), (hs, sl, sa, sc), tv, nI 3)) from (by simp only [m_town, qq1, qv1, qg, reduceCtorEq, if_true, if_false, Bool.false_eq_true, ne_eq, not_true_eq_false, not_false_eq_true, and_true, true_and, and_false, false_and, or_true, true_or, or_false, false_or])]) rfl
          · have qg : agn hs sl sa q1 v1 i m = 4 := agn_4 qh qsv (lt0 c64)
            refine j_aload_n C 1 dX7_town_67 rfl rfl ?_
            refine j_iconst (v := nI 4) C dX7_town_68 (by decide) ?_
            refine j_callV0 (As := [.int (nI 4)]) (rest := []) C (c_X7_faulted A (nI 0) dT tT N B kf pf lf tf c df mf gf tv ln la cf 4) gX7_town_X7_faulted rfl 1 rfl (by decide +kernel) (by decide) 0 rfl rfl (Nat.le_of_ble_eq_true rfl) dX7_town_69 rfl (fun _ _ => ?_)
            show J X (wX A cy (nI 4) dT (nI N, nI B, kf, pf, lf, tf) tT (nI c) df mf gf tv ln la cf) 72 [(5, .ref (A 4 q1)), (0, .ref (A 3 0)), (1, .int (nI q1)), (2, .int (nI v1)), (3, .int i), (4, .int m)] [.int ((-10) - nI 4)]
            exact j_iret C E dX7_town_72 (nI 4, dT, (nI N, nI B, kf, pf, lf, tf), tT, nI c, df, mf, gf, tv, ln, la, cf) (by rw [show m_town ((N, B, k, p), (c, rd, rl, ra), (hs, sl, sa, sc), tv, fl) (nI q1) (nI v1) i m = ((-10) - nI 4, ((N, B, k, p), (c, rd, rl, ra), (hs, sl, sa, sc), tv, nI 4)) from (by simp only [m_town, qq1, qv1, qg, reduceCtorEq, if_true, if_false, Bool.false_eq_true, ne_eq, not_true_eq_false, not_false_eq_true, and_true, true_and, and_false, false_and, or_true, true_or, or_false, false_or])]; exact XI.mk hB hN2 hT hR hS) (by rw [show m_town ((N, B, k, p), (c, rd, rl, ra), (hs, sl, sa, sc), tv, fl) (nI q1) (nI v1) i m = ((-10) - nI 4, ((N, B, k, p), (c, rd, rl, ra), (hs, sl, sa, sc), tv, nI 4)) from (by simp only [m_town, qq1, qv1, qg, reduceCtorEq, if_true, if_false, Bool.false_eq_true, ne_eq, not_true_eq_false, not_false_eq_true, and_true, true_and, and_false, false_and, or_true, true_or, or_false, false_or])]) rfl
        · have c53 := bN_1.mp c53
          have qg : agn hs sl sa q1 v1 i m = 1 := agn_1 (hS.f hq1 c53)
          refine j_aload_n C 1 dX7_town_56 rfl rfl ?_
          refine j_iconst (v := nI 1) C dX7_town_57 (by decide) ?_
          refine j_callV0 (As := [.int (nI 1)]) (rest := []) C (c_X7_faulted A (nI 0) dT tT N B kf pf lf tf c df mf gf tv ln la cf 1) gX7_town_X7_faulted rfl 1 rfl (by decide +kernel) (by decide) 0 rfl rfl (Nat.le_of_ble_eq_true rfl) dX7_town_58 rfl (fun _ _ => ?_)
          show J X (wX A cy (nI 1) dT (nI N, nI B, kf, pf, lf, tf) tT (nI c) df mf gf tv ln la cf) 61 [(5, .ref (A 4 q1)), (0, .ref (A 3 0)), (1, .int (nI q1)), (2, .int (nI v1)), (3, .int i), (4, .int m)] [.int ((-10) - nI 1)]
          exact j_iret C E dX7_town_61 (nI 1, dT, (nI N, nI B, kf, pf, lf, tf), tT, nI c, df, mf, gf, tv, ln, la, cf) (by rw [show m_town ((N, B, k, p), (c, rd, rl, ra), (hs, sl, sa, sc), tv, fl) (nI q1) (nI v1) i m = ((-10) - nI 1, ((N, B, k, p), (c, rd, rl, ra), (hs, sl, sa, sc), tv, nI 1)) from (by simp only [m_town, qq1, qv1, qg, reduceCtorEq, if_true, if_false, Bool.false_eq_true, ne_eq, not_true_eq_false, not_false_eq_true, and_true, true_and, and_false, false_and, or_true, true_or, or_false, false_or])]; exact XI.mk hB hN2 hT hR hS) (by rw [show m_town ((N, B, k, p), (c, rd, rl, ra), (hs, sl, sa, sc), tv, fl) (nI q1) (nI v1) i m = ((-10) - nI 1, ((N, B, k, p), (c, rd, rl, ra), (hs, sl, sa, sc), tv, nI 1)) from (by simp only [m_town, qq1, qv1, qg, reduceCtorEq, if_true, if_false, Bool.false_eq_true, ne_eq, not_true_eq_false, not_false_eq_true, and_true, true_and, and_false, false_and, or_true, true_or, or_false, false_or])]) rfl
      · have c39 := bN_0.mp c39
        have qh := hS.t hq1 (fun z => c39 (Or.inl z))
        have qg : agn hs sl sa q1 v1 i m = 2 := agn_2 qh (fun z => c39 (Or.inr (by rw [hS.hla hq1 qh, z])))
        refine j_aload_n C 1 dX7_town_42 rfl rfl ?_
        refine j_iconst (v := nI 2) C dX7_town_43 (by decide) ?_
        refine j_callV0 (As := [.int (nI 2)]) (rest := []) C (c_X7_faulted A (nI 0) dT tT N B kf pf lf tf c df mf gf tv ln la cf 2) gX7_town_X7_faulted rfl 1 rfl (by decide +kernel) (by decide) 0 rfl rfl (Nat.le_of_ble_eq_true rfl) dX7_town_44 rfl (fun _ _ => ?_)
        show J X (wX A cy (nI 2) dT (nI N, nI B, kf, pf, lf, tf) tT (nI c) df mf gf tv ln la cf) 47 [(5, .ref (A 4 q1)), (0, .ref (A 3 0)), (1, .int (nI q1)), (2, .int (nI v1)), (3, .int i), (4, .int m)] [.int ((-10) - nI 2)]
        exact j_iret C E dX7_town_47 (nI 2, dT, (nI N, nI B, kf, pf, lf, tf), tT, nI c, df, mf, gf, tv, ln, la, cf) (by rw [show m_town ((N, B, k, p), (c, rd, rl, ra), (hs, sl, sa, sc), tv, fl) (nI q1) (nI v1) i m = ((-10) - nI 2, ((N, B, k, p), (c, rd, rl, ra), (hs, sl, sa, sc), tv, nI 2)) from (by simp only [m_town, qq1, qv1, qg, reduceCtorEq, if_true, if_false, Bool.false_eq_true, ne_eq, not_true_eq_false, not_false_eq_true, and_true, true_and, and_false, false_and, or_true, true_or, or_false, false_or])]; exact XI.mk hB hN2 hT hR hS) (by rw [show m_town ((N, B, k, p), (c, rd, rl, ra), (hs, sl, sa, sc), tv, fl) (nI q1) (nI v1) i m = ((-10) - nI 2, ((N, B, k, p), (c, rd, rl, ra), (hs, sl, sa, sc), tv, nI 2)) from (by simp only [m_town, qq1, qv1, qg, reduceCtorEq, if_true, if_false, Bool.false_eq_true, ne_eq, not_true_eq_false, not_false_eq_true, and_true, true_and, and_false, false_and, or_true, true_or, or_false, false_or])]) rfl
    · have c19 := bN_0.mp c19
      have qv1 := pOf_n c19
      refine j_bipush (v := (-2)) C dX7_town_22 (by decide) ?_
      exact j_iret C E dX7_town_24 (nI 0, dT, (nI N, nI B, kf, pf, lf, tf), tT, nI c, df, mf, gf, tv, ln, la, cf) (by rw [show m_town ((N, B, k, p), (c, rd, rl, ra), (hs, sl, sa, sc), tv, fl) (nI q1) lx i m = ((-2), ((N, B, k, p), (c, rd, rl, ra), (hs, sl, sa, sc), tv, nI 0)) from (by simp only [m_town, qq1, qv1, reduceCtorEq, if_true, if_false, Bool.false_eq_true, ne_eq, not_true_eq_false, not_false_eq_true, and_true, true_and, and_false, false_and, or_true, true_or, or_false, false_or])]; exact XI.mk hB hN2 hT hR hS) (by rw [show m_town ((N, B, k, p), (c, rd, rl, ra), (hs, sl, sa, sc), tv, fl) (nI q1) lx i m = ((-2), ((N, B, k, p), (c, rd, rl, ra), (hs, sl, sa, sc), tv, nI 0)) from (by simp only [m_town, qq1, qv1, reduceCtorEq, if_true, if_false, Bool.false_eq_true, ne_eq, not_true_eq_false, not_false_eq_true, and_true, true_and, and_false, false_and, or_true, true_or, or_false, false_or])]) rfl
  · have c9 := bN_0.mp c9
    have qq1 := pOf_n c9
    refine j_iconst (v := (-1)) C dX7_town_12 (by decide) ?_
    exact j_iret C E dX7_town_13 (nI 0, dT, (nI N, nI B, kf, pf, lf, tf), tT, nI c, df, mf, gf, tv, ln, la, cf) (by rw [show m_town ((N, B, k, p), (c, rd, rl, ra), (hs, sl, sa, sc), tv, fl) s lx i m = ((-1), ((N, B, k, p), (c, rd, rl, ra), (hs, sl, sa, sc), tv, nI 0)) from (by simp only [m_town, qq1, reduceCtorEq, if_true, if_false, Bool.false_eq_true, ne_eq, not_true_eq_false, not_false_eq_true, and_true, true_and, and_false, false_and, or_true, true_or, or_false, false_or])]; exact XI.mk hB hN2 hT hR hS) (by rw [show m_town ((N, B, k, p), (c, rd, rl, ra), (hs, sl, sa, sc), tv, fl) s lx i m = ((-1), ((N, B, k, p), (c, rd, rl, ra), (hs, sl, sa, sc), tv, nI 0)) from (by simp only [m_town, qq1, reduceCtorEq, if_true, if_false, Bool.false_eq_true, ne_eq, not_true_eq_false, not_false_eq_true, and_true, true_and, and_false, false_and, or_true, true_or, or_false, false_or])]) rfl
