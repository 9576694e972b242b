set_option maxHeartbeats 4000000 in
set_option maxRecDepth 20000 in
theorem c_X8_readTown {l : Launch} {D : va_G} {cy : Nat → ClassId} (mm : Nat → Nat) (fl tv : Int32) (so sg ce : Nat → Int32) (N B : Nat) (kf pf : Nat → Int32) (vat vrm vrb : Int32) (rk rp lf tf kp : Nat → Int32) (c : Nat) (df mf gf : Nat → Int32) (b0 w : Nat) (hva : vat = nI (b0 + 0)) (hbw : b0 + w ≤ 240) : Ct l yX8_readTown wsX8_readTown ({ frames := 3, cells := 0, slots := 0, locals := 69 }) D cy [.ref (mm 0), .int (nI (b0 + w))] (wM mm cy fl tv so sg ce (nI N) (nI B) kf pf vat vrm vrb rk rp lf tf kp (nI c) df mf gf) (fun u : Bool × Nat × Int32 × Int32 × (Nat → Int32) × (Nat → Int32) => (u.1 = true ∧ u.2.1 = w ∧ (∀ q, q < w → vcd (fun j => ce (b0 + j)) q = true) ∧ tl (Nx (fun j => ce (b0 + j))) ≤ w ∧ TxI (fun j => ce (b0 + j)) w u.2.2.1 u.2.2.2.1 u.2.2.2.2.1 (PF u.2.2.2.2.2)) ∨ (u.1 = false ∧ Fl (fun j => ce (b0 + j)) w u.2.1)) (fun u => some (.int (nI (bN (u.1 = true))))) (fun u => wM mm cy fl tv so sg ce (nI N) (nI B) kf pf (nI (b0 + u.2.1)) u.2.2.1 u.2.2.2.1 u.2.2.2.2.1 u.2.2.2.2.2 lf tf kp (nI c) df mf gf) := by
  refine Ct.of (cc := cX8_readTown) (nL := 3) (ret := (some .boolean)) rfl (by decide) ⟨rfl, rfl⟩ (Nat.le_of_ble_eq_true rfl) ?_
  intro X C E
  have C : Cx X l D cy cX8_readTown 3 wsX8_readTown RX8 ({ frames := 3, cells := 0, slots := 0, locals := 69 }) := C
  have mh0 : ∀ w ∈ u_ws RX8 TX8 21, w ∈ wsX8_readTown := by decide +kernel
  have mh1 : Cond.fieldLink RX8 87 RX8 (TX8 10).2.1 (TX8 10).2.2.1 ∈ wsX8_readTown := by decide +kernel
  have mh2 : Cond.fieldLink RX8 90 RX8 (TX8 11).2.1 (TX8 11).2.2.1 ∈ wsX8_readTown := by decide +kernel
  have mh3 : Cond.fieldLink RX8 67 RX8 (TX8 9).2.1 (TX8 9).2.2.1 ∈ wsX8_readTown := by decide +kernel
  subst hva
  have ht0 := tl_0 (N := Nx (fun j => ce (b0 + j)))
  show J X (wM mm cy fl tv so sg ce (nI N) (nI B) kf pf (nI (b0 + 0)) vrm vrb rk rp lf tf kp (nI c) df mf gf) 0 [(0, .ref (mm 0)), (1, .int (nI (b0 + w)))] []
  refine j_aload_n C 0 dX8_readTown_0 rfl rfl ?_
  refine j_iload_n C 1 dX8_readTown_1 rfl rfl ?_
  refine j_bipush (v := nI 108) C dX8_readTown_2 (by decide) ?_
  refine j_callV0 (As := [.int (nI (b0 + w)), .int (nI 108)]) (rest := []) C (c_X8_isSign mm fl tv so sg ce N B kf pf (nI (b0 + 0)) vrm vrb rk rp lf tf kp c df mf gf (b0 + 0) (b0 + w) (nI 108) rfl (by omega) (by omega)) gX8_readTown_X8_isSign rfl 2 rfl (by decide +kernel) (by decide) 0 rfl rfl (Nat.le_of_ble_eq_true rfl) dX8_readTown_4 rfl (fun _ _ => ?_)
  show J X (wM mm cy fl tv so sg ce (nI N) (nI B) kf pf (if b0 + 0 < b0 + w ∧ ce (b0 + 0) = nI 108 then nI (b0 + 0 + 1) else nI (b0 + 0)) vrm vrb rk rp lf tf kp (nI c) df mf gf) 7 [(0, .ref (mm 0)), (1, .int (nI (b0 + w)))] [.int (nI (bN (b0 + 0 < b0 + w ∧ ce (b0 + 0) = nI 108)))]
  refine j_if_neN (tgt := 12) C dX8_readTown_7 (by decide) (bN_lt _) (fun c7 => ?_) (fun c7 => ?_)
  · have c7 := bN_1.mp c7
    simp only [if_pos c7]
    have hv0 : vcd (fun j => ce (b0 + j)) 0 = true := by show decide (ce (b0 + 0) = nI 108) = true; exact decide_eq_true c7.2
    have hl0 : 0 < w := by omega
    show J X (wM mm cy fl tv so sg ce (nI N) (nI B) kf pf (nI (b0 + 1)) vrm vrb rk rp lf tf kp (nI c) df mf gf) 12 [(0, .ref (mm 0)), (1, .int (nI (b0 + w)))] []
    refine j_aload_n C 0 dX8_readTown_12 rfl rfl ?_
    refine j_aload_n C 0 dX8_readTown_13 rfl rfl ?_
    refine j_iload_n C 1 dX8_readTown_14 rfl rfl ?_
    refine j_iconst (v := nI 2) C dX8_readTown_15 (by decide) ?_
    refine j_bipush (v := nI 6) C dX8_readTown_16 (by decide) ?_
    refine j_callV0 (As := [.int (nI (b0 + w)), .int (nI 2), .int (nI 6)]) (rest := [.ref (mm 0)]) C (c_X8_digit mm fl tv so sg ce N B kf pf (nI (b0 + 1)) vrm vrb rk rp lf tf kp c df mf gf (b0 + 1) (b0 + w) 2 6 rfl (by omega) (by omega) (by omega) (by omega)) gX8_readTown_X8_digit rfl 3 rfl (by decide +kernel) (by decide) 0 rfl rfl (Nat.le_of_ble_eq_true rfl) dX8_readTown_18 rfl (fun _ _ => ?_)
    show J X (wM mm cy fl tv so sg ce (nI N) (nI B) kf pf (if b0 + 1 < b0 + w ∧ dgt 2 6 (ce (b0 + 1)) = true then nI (b0 + 1 + 1) else nI (b0 + 1)) vrm vrb rk rp lf tf kp (nI c) df mf gf) 21 [(0, .ref (mm 0)), (1, .int (nI (b0 + w)))] [.int (if b0 + 1 < b0 + w ∧ dgt 2 6 (ce (b0 + 1)) = true then nI (dv (ce (b0 + 1))) else -9), .ref (mm 0)]
    refine j_put (ws' := wM mm cy fl tv so sg ce (nI N) (nI B) kf pf (if b0 + 1 < b0 + w ∧ dgt 2 6 (ce (b0 + 1)) = true then nI (b0 + 1 + 1) else nI (b0 + 1)) (if b0 + 1 < b0 + w ∧ dgt 2 6 (ce (b0 + 1)) = true then nI (dv (ce (b0 + 1))) else -9) vrb rk rp lf tf kp (nI c) df mf gf) C mh0 10 mh1 tyX8 tyX8_ok nmX8 0 rfl rfl (by decide) rfl rfl (by decide +kernel) (Nat.le_of_ble_eq_true rfl) rfl dX8_readTown_21 ?_
    refine j_aload_n C 0 dX8_readTown_24 rfl rfl ?_
    refine j_get C mh0 10 mh1 0 rfl rfl (by decide) rfl rfl dX8_readTown_25 ?_
    refine j_bipush (v := (-9)) C dX8_readTown_28 (by decide) ?_
    refine j_icmp_ne (tgt := 35) C dX8_readTown_30 (by decide) (fun c30 => ?_) (fun c30 => ?_)
    · have hdg := dg_ne c30
      simp only [if_pos hdg]
      have hv1 : vcd (fun j => ce (b0 + j)) 1 = true := hdg.2
      have hl1 : 1 < w := by omega
      have hgv := dg_v (by decide) hdg.2
      have hn2 : 2 ≤ Nx (fun j => ce (b0 + j)) := hgv.2.1
      have hn6 : Nx (fun j => ce (b0 + j)) ≤ 6 := hgv.2.2
      show J X (wM mm cy fl tv so sg ce (nI N) (nI B) kf pf (nI (b0 + 2)) (nI (Nx (fun j => ce (b0 + j)))) vrb rk rp lf tf kp (nI c) df mf gf) 35 [(0, .ref (mm 0)), (1, .int (nI (b0 + w)))] []
      refine j_aload_n C 0 dX8_readTown_35 rfl rfl ?_
      refine j_aload_n C 0 dX8_readTown_36 rfl rfl ?_
      refine j_iload_n C 1 dX8_readTown_37 rfl rfl ?_
      refine j_iconst (v := nI 0) C dX8_readTown_38 (by decide) ?_
      refine j_bipush (v := nI 9) C dX8_readTown_39 (by decide) ?_
      refine j_callV0 (As := [.int (nI (b0 + w)), .int (nI 0), .int (nI 9)]) (rest := [.ref (mm 0)]) C (c_X8_digit mm fl tv so sg ce N B kf pf (nI (b0 + 2)) (nI (Nx (fun j => ce (b0 + j)))) vrb rk rp lf tf kp c df mf gf (b0 + 2) (b0 + w) 0 9 rfl (by omega) (by omega) (by omega) (by omega)) gX8_readTown_X8_digit rfl 3 rfl (by decide +kernel) (by decide) 0 rfl rfl (Nat.le_of_ble_eq_true rfl) dX8_readTown_41 rfl (fun _ _ => ?_)
      show J X (wM mm cy fl tv so sg ce (nI N) (nI B) kf pf (if b0 + 2 < b0 + w ∧ dgt 0 9 (ce (b0 + 2)) = true then nI (b0 + 2 + 1) else nI (b0 + 2)) (nI (Nx (fun j => ce (b0 + j)))) vrb rk rp lf tf kp (nI c) df mf gf) 44 [(0, .ref (mm 0)), (1, .int (nI (b0 + w)))] [.int (if b0 + 2 < b0 + w ∧ dgt 0 9 (ce (b0 + 2)) = true then nI (dv (ce (b0 + 2))) else -9), .ref (mm 0)]
      refine j_put (ws' := wM mm cy fl tv so sg ce (nI N) (nI B) kf pf (if b0 + 2 < b0 + w ∧ dgt 0 9 (ce (b0 + 2)) = true then nI (b0 + 2 + 1) else nI (b0 + 2)) (nI (Nx (fun j => ce (b0 + j)))) (if b0 + 2 < b0 + w ∧ dgt 0 9 (ce (b0 + 2)) = true then nI (dv (ce (b0 + 2))) else -9) rk rp lf tf kp (nI c) df mf gf) C mh0 11 mh2 tyX8 tyX8_ok nmX8 0 rfl rfl (by decide) rfl rfl (by decide +kernel) (Nat.le_of_ble_eq_true rfl) rfl dX8_readTown_44 ?_
      refine j_aload_n C 0 dX8_readTown_47 rfl rfl ?_
      refine j_get C mh0 11 mh2 0 rfl rfl (by decide) rfl rfl dX8_readTown_48 ?_
      refine j_bipush (v := (-9)) C dX8_readTown_51 (by decide) ?_
      refine j_icmp_ne (tgt := 58) C dX8_readTown_53 (by decide) (fun c53 => ?_) (fun c53 => ?_)
      · have hdh := dg_ne c53
        simp only [if_pos hdh]
        have hv2 : vcd (fun j => ce (b0 + j)) 2 = true := hdh.2
        have hl2 : 2 < w := by omega
        have hgb := dg_v (by decide) hdh.2
        have hI3 : TxI (fun j => ce (b0 + j)) 3 (nI (Nx (fun j => ce (b0 + j)))) (nI (dv (ce (b0 + 2)))) rk (PF rp) := ⟨rfl, fun _ => ⟨hn2, hn6⟩, fun _ => ⟨rfl, hgb.2.2⟩, fun a _ z => by omega, fun a _ b _ z => by omega⟩
        have hall3 : ∀ q, q < 3 → vcd (fun j => ce (b0 + j)) q = true := all_s (j := 2) (all_s (j := 1) (all_s (j := 0) (fun q hq => absurd hq (Nat.not_lt_zero q)) hv0) hv1) hv2
        show J X (wM mm cy fl tv so sg ce (nI N) (nI B) kf pf (nI (b0 + 3)) (nI (Nx (fun j => ce (b0 + j)))) (nI (dv (ce (b0 + 2)))) rk rp lf tf kp (nI c) df mf gf) 58 [(0, .ref (mm 0)), (1, .int (nI (b0 + w)))] []
        refine j_iconst (v := nI 0) C dX8_readTown_58 (by decide) ?_
        refine j_istore_n (lv' := [(2, .int (nI 0)), (0, .ref (mm 0)), (1, .int (nI (b0 + w)))]) C dX8_readTown_59 rfl (by decide) rfl ?_
        refine J.sub [1, 2, 0] rfl ?_
        have L60 : ∀ (n : Nat) (a z0 : Nat) (rk1 rp1 : Nat → Int32), Nx (fun j => ce (b0 + j)) - a < n → a ≤ Nx (fun j => ce (b0 + j)) → z0 = 3 + a * (Nx (fun j => ce (b0 + j)) + 2) → z0 ≤ w → (∀ q, q < z0 → vcd (fun j => ce (b0 + j)) q = true) → TxI (fun j => ce (b0 + j)) z0 (nI (Nx (fun j => ce (b0 + j)))) (nI (dv (ce (b0 + 2)))) rk1 (PF rp1) → J X (wM mm cy fl tv so sg ce (nI N) (nI B) kf pf (nI (b0 + z0)) (nI (Nx (fun j => ce (b0 + j)))) (nI (dv (ce (b0 + 2)))) rk1 rp1 lf tf kp (nI c) df mf gf) 60 [(0, .ref (mm 0)), (1, .int (nI (b0 + w))), (2, .int (nI a))] [] := by
          intro n
          induction n with
          | zero => intro a z0 rk1 rp1 hm; exact absurd hm (Nat.not_lt_zero _)
          | succ n ih60 =>
            intro a z0 rk1 rp1 h60_0 h60_1 h60_2 h60_3 h60_4 h60_5
            refine j_iload_n C 2 dX8_readTown_60 rfl rfl ?_
            refine j_aload_n C 0 dX8_readTown_61 rfl rfl ?_
            refine j_get C mh0 10 mh1 0 rfl rfl (by decide) rfl rfl dX8_readTown_62 ?_
            refine j_icmp_geN (tgt := 95) C dX8_readTown_65 (by decide) (by omega) (by omega) (fun c65 => ?_) (fun c65 => ?_)
            · have haN : a = Nx (fun j => ce (b0 + j)) := by omega
              have hJt : z0 = tl (Nx (fun j => ce (b0 + j))) := by rw [h60_2, haN]; rfl
              refine j_aload_n C 0 dX8_readTown_95 rfl rfl ?_
              refine j_get C mh0 9 mh3 0 rfl rfl (by decide) rfl rfl dX8_readTown_96 ?_
              refine j_iload_n C 1 dX8_readTown_99 rfl rfl ?_
              refine j_icmp_neN (tgt := 107) C dX8_readTown_100 (by decide) (by omega) (by omega) (fun c100 => ?_) (fun c100 => ?_)
              · refine j_iconst (v := nI 0) C dX8_readTown_107 (by decide) ?_
                exact j_zret C E dX8_readTown_108 rfl (false, z0, nI (Nx (fun j => ce (b0 + j))), nI (dv (ce (b0 + 2))), rk1, rp1) (Or.inr ⟨rfl, show Fl (fun j => ce (b0 + j)) w z0 from ⟨h60_3, h60_4, fun z => by rw [vcd_hi (by omega), vhi_o (by omega)], fun z => by omega⟩⟩) rfl rfl
              · refine j_iconst (v := nI 1) C dX8_readTown_103 (by decide) ?_
                refine j_goto (tgt := 108) C dX8_readTown_104 (by decide) ?_
                exact j_zret C E dX8_readTown_108 rfl (true, z0, nI (Nx (fun j => ce (b0 + j))), nI (dv (ce (b0 + 2))), rk1, rp1) (Or.inl ⟨rfl, show z0 = w by omega, fun q hq => h60_4 q (by omega), by omega, by rw [show w = z0 by omega]; exact h60_5⟩) rfl rfl
            · have hrl := rw_lt (N := Nx (fun j => ce (b0 + j))) c65
              refine j_aload_n C 0 dX8_readTown_68 rfl rfl ?_
              refine j_iload_n C 1 dX8_readTown_69 rfl rfl ?_
              refine j_bipush (v := nI 44) C dX8_readTown_70 (by decide) ?_
              refine j_callV0 (As := [.int (nI (b0 + w)), .int (nI 44)]) (rest := []) C (c_X8_isSign mm fl tv so sg ce N B kf pf (nI (b0 + z0)) (nI (Nx (fun j => ce (b0 + j)))) (nI (dv (ce (b0 + 2)))) rk1 rp1 lf tf kp c df mf gf (b0 + z0) (b0 + w) (nI 44) rfl (by omega) (by omega)) gX8_readTown_X8_isSign rfl 2 rfl (by decide +kernel) (by decide) 0 rfl rfl (Nat.le_of_ble_eq_true rfl) dX8_readTown_72 rfl (fun _ _ => ?_)
              show J X (wM mm cy fl tv so sg ce (nI N) (nI B) kf pf (if b0 + z0 < b0 + w ∧ ce (b0 + z0) = nI 44 then nI (b0 + z0 + 1) else nI (b0 + z0)) (nI (Nx (fun j => ce (b0 + j)))) (nI (dv (ce (b0 + 2)))) rk1 rp1 lf tf kp (nI c) df mf gf) 75 [(0, .ref (mm 0)), (1, .int (nI (b0 + w))), (2, .int (nI a))] [.int (nI (bN (b0 + z0 < b0 + w ∧ ce (b0 + z0) = nI 44)))]
              refine j_if_eqN (tgt := 87) C dX8_readTown_75 (by decide) (bN_lt _) (fun c75 => ?_) (fun c75 => ?_)
              · have c75 := bN_0.mp c75
                simp only [if_neg c75]
                show J X (wM mm cy fl tv so sg ce (nI N) (nI B) kf pf (nI (b0 + z0)) (nI (Nx (fun j => ce (b0 + j)))) (nI (dv (ce (b0 + 2)))) rk1 rp1 lf tf kp (nI c) df mf gf) 87 [(0, .ref (mm 0)), (1, .int (nI (b0 + w))), (2, .int (nI a))] []
                refine j_iconst (v := nI 0) C dX8_readTown_87 (by decide) ?_
                exact j_zret C E dX8_readTown_88 rfl (false, z0, nI (Nx (fun j => ce (b0 + j))), nI (dv (ce (b0 + 2))), rk1, rp1) (Or.inr ⟨rfl, fl_at (j := z0) h60_3 h60_4 (fun z => by rw [vc_c rfl h60_2 c65]; exact decide_eq_false (fun y => c75 ⟨by omega, y⟩)) (by omega)⟩) rfl rfl
              · have c75 := bN_1.mp c75
                simp only [if_pos c75]
                have hvJ : vcd (fun j => ce (b0 + j)) z0 = true := by rw [vc_c rfl h60_2 c65]; exact decide_eq_true c75.2
                show J X (wM mm cy fl tv so sg ce (nI N) (nI B) kf pf (nI (b0 + (z0 + 1))) (nI (Nx (fun j => ce (b0 + j)))) (nI (dv (ce (b0 + 2)))) rk1 rp1 lf tf kp (nI c) df mf gf) 78 [(0, .ref (mm 0)), (1, .int (nI (b0 + w))), (2, .int (nI a))] []
                refine j_aload_n C 0 dX8_readTown_78 rfl rfl ?_
                refine j_iload_n C 1 dX8_readTown_79 rfl rfl ?_
                refine j_iload_n C 2 dX8_readTown_80 rfl rfl ?_
                refine j_callV0 (As := [.int (nI (b0 + w)), .int (nI a)]) (rest := []) C (c_X8_readPerson mm fl tv so sg ce N B kf pf (nI (b0 + (z0 + 1))) (nI (Nx (fun j => ce (b0 + j)))) (nI (dv (ce (b0 + 2)))) rk1 rp1 lf tf kp c df mf gf b0 w a (Nx (fun j => ce (b0 + j))) (z0 + 1) rfl rfl rfl hn2 hn6 (by omega) (by omega) (by omega) hbw (all_s h60_4 hvJ) (tx_c h60_5 rfl h60_2 (by omega) hvJ)) gX8_readTown_X8_readPerson rfl 2 rfl (by decide +kernel) (by decide) 0 rfl rfl (Nat.le_of_ble_eq_true rfl) dX8_readTown_81 rfl (fun u hu => ?_)
                show J X (wM mm cy fl tv so sg ce (nI N) (nI B) kf pf (nI (b0 + u.2.1)) (nI (Nx (fun j => ce (b0 + j)))) (nI (dv (ce (b0 + 2)))) u.2.2.1 u.2.2.2 lf tf kp (nI c) df mf gf) 84 [(0, .ref (mm 0)), (1, .int (nI (b0 + w))), (2, .int (nI a))] [.int (nI (bN (u.1 = true)))]
                refine j_if_neN (tgt := 89) C dX8_readTown_84 (by decide) (bN_lt _) (fun c84 => ?_) (fun c84 => ?_)
                · have c84 := bN_1.mp c84
                  have hu2 := hu.resolve_right (fun z => by rw [z.1] at c84; cases c84)
                  refine j_iinc (v := nI (a + 1)) (lv' := [(2, .int (nI (a + 1))), (0, .ref (mm 0)), (1, .int (nI (b0 + w)))]) C 2 dX8_readTown_89 rfl (nI_inc a) (by decide) rfl ?_
                  refine j_goto (tgt := 60) C dX8_readTown_92 (by decide) ?_
                  refine J.sub [1, 2, 0] rfl ?_
                  have e := ih60 (a + 1) u.2.1 u.2.2.1 u.2.2.2 (by omega) (by omega) hu2.2.1 hu2.2.2.1 hu2.2.2.2.1 hu2.2.2.2.2
                  exact e
                · have c84 := bN_0.mp c84
                  have hu2 := hu.resolve_left (fun z => c84 z.1)
                  refine j_iconst (v := nI 0) C dX8_readTown_87 (by decide) ?_
                  exact j_zret C E dX8_readTown_88 rfl (false, u.2.1, nI (Nx (fun j => ce (b0 + j))), nI (dv (ce (b0 + 2))), u.2.2.1, u.2.2.2) (Or.inr ⟨rfl, hu2.2⟩) rfl rfl
        have e := L60 (Nx (fun j => ce (b0 + j)) + 1) 0 3 rk rp (by omega) (by omega) (by rw [Nat.zero_mul]) (by omega) hall3 hI3
        exact e
      · have hdh := dg_eq (fun z => dv_lt (by decide) z.2) c53
        simp only [if_neg hdh]
        show J X (wM mm cy fl tv so sg ce (nI N) (nI B) kf pf (nI (b0 + 2)) (nI (Nx (fun j => ce (b0 + j)))) (-9) rk rp lf tf kp (nI c) df mf gf) 56 [(0, .ref (mm 0)), (1, .int (nI (b0 + w)))] []
        refine j_iconst (v := nI 0) C dX8_readTown_56 (by decide) ?_
        exact j_zret C E dX8_readTown_57 rfl (false, 2, nI (Nx (fun j => ce (b0 + j))), -9, rk, rp) (Or.inr ⟨rfl, fl_at (j := 2) (by omega) (all_s (j := 1) (all_s (j := 0) (fun q hq => absurd hq (Nat.not_lt_zero q)) hv0) hv1) (fun z => Bool.eq_false_iff.mpr (fun y => hdh ⟨by omega, y⟩)) (by omega)⟩) rfl rfl
    · have hdg := dg_eq (fun z => dv_lt (by decide) z.2) c30
      simp only [if_neg hdg]
      show J X (wM mm cy fl tv so sg ce (nI N) (nI B) kf pf (nI (b0 + 1)) (-9) vrb rk rp lf tf kp (nI c) df mf gf) 33 [(0, .ref (mm 0)), (1, .int (nI (b0 + w)))] []
      refine j_iconst (v := nI 0) C dX8_readTown_33 (by decide) ?_
      exact j_zret C E dX8_readTown_34 rfl (false, 1, -9, vrb, rk, rp) (Or.inr ⟨rfl, fl_at (j := 1) (by omega) (all_s (j := 0) (fun q hq => absurd hq (Nat.not_lt_zero q)) hv0) (fun z => Bool.eq_false_iff.mpr (fun y => hdg ⟨by omega, y⟩)) (by omega)⟩) rfl rfl
  · have c7 := bN_0.mp c7
    simp only [if_neg c7]
    show J X (wM mm cy fl tv so sg ce (nI N) (nI B) kf pf (nI (b0 + 0)) vrm vrb rk rp lf tf kp (nI c) df mf gf) 10 [(0, .ref (mm 0)), (1, .int (nI (b0 + w)))] []
    refine j_iconst (v := nI 0) C dX8_readTown_10 (by decide) ?_
    exact j_zret C E dX8_readTown_11 rfl (false, 0, vrm, vrb, rk, rp) (Or.inr ⟨rfl, fl_at (j := 0) (Nat.zero_le _) (fun q hq => absurd hq (Nat.not_lt_zero q)) (fun z => by show decide (ce (b0 + 0) = nI 108) = false; exact decide_eq_false (fun y => c7 ⟨by omega, y⟩)) (by omega)⟩) rfl rfl
set_option maxHeartbeats 4000000 in
set_option maxRecDepth 20000 in
theorem c_X8_town {l : Launch} {D : va_G} {cy : Nat → ClassId} (mm : Nat → Nat) (fl tv : Int32) (so sg ce : Nat → Int32) (N B : Nat) (kf pf : Nat → Int32) (vat vrm vrb : Int32) (rk rp lf tf kp : Nat → Int32) (c : Nat) (df mf gf : Nat → Int32) (k : Nat → Nat) (p : Nat → Nat → Nat) (rd rl : Nat → Nat) (ra : Nat → Option Nat) (hs : Nat → Bool) (sl sa : Nat → Nat) (sc : Nat → Nat → Int32) (hX : MI ((N, B, k, p), (c, rd, rl, ra), (hs, sl, sa, sc), tv, fl) (fl, tv, so, sg, ce, nI N, nI B, kf, pf, vat, vrm, vrb, rk, rp, lf, tf, kp, nI c, df, mf, gf)) (s lx i m : Int32)  : Ct l yX8_town wsX8_town ({ frames := 4, cells := 0, slots := 0, locals := 91 }) D cy [.ref (mm 0), .int s, .int lx, .int i, .int m] (wM mm cy fl tv so sg ce (nI N) (nI B) kf pf vat vrm vrb rk rp lf tf kp (nI c) df mf gf) (fun u : MS => MI (m_town ((N, B, k, p), (c, rd, rl, ra), (hs, sl, sa, sc), tv, fl) s lx i m).2 u) (fun _ => some (.int (m_town ((N, B, k, p), (c, rd, rl, ra), (hs, sl, sa, sc), tv, fl) s lx i m).1)) (fun u => wMu mm cy u) := by
  refine Ct.of (cc := cX8_town) (nL := 8) (ret := (some .int)) rfl (by decide) ⟨rfl, rfl⟩ (Nat.le_of_ble_eq_true rfl) ?_
  intro X C E
  have C : Cx X l D cy cX8_town 8 wsX8_town RX8 ({ frames := 4, cells := 0, slots := 0, locals := 91 }) := C
  have mh0 : ∀ w ∈ u_ws RX8 TX8 21, w ∈ wsX8_town := by decide +kernel
  have mh1 : Cond.fieldLink RX8 50 RX8 (TX8 0).2.1 (TX8 0).2.2.1 ∈ wsX8_town := by decide +kernel
  have mh2 : Cond.fieldLink RX8 67 RX8 (TX8 9).2.1 (TX8 9).2.2.1 ∈ wsX8_town := by decide +kernel
  have mh3 : Cond.fieldLink RX8 87 RX8 (TX8 10).2.1 (TX8 10).2.2.1 ∈ wsX8_town := by decide +kernel
  have mh4 : Cond.fieldLink RX8 60 RX8 (TX8 5).2.1 (TX8 5).2.2.1 ∈ wsX8_town := by decide +kernel
  have mh5 : Cond.fieldLink RX8 90 RX8 (TX8 11).2.1 (TX8 11).2.2.1 ∈ wsX8_town := by decide +kernel
  have mh6 : Cond.fieldLink RX8 93 RX8 (TX8 6).2.1 (TX8 6).2.2.1 ∈ wsX8_town := by decide +kernel
  have mh7 : Cond.fieldLink RX8 96 RX8 (TX8 17).2.1 (TX8 17).2.2.1 ∈ wsX8_town := by decide +kernel
  have mh8 : Cond.fieldLink RX8 22 RX8 (TX8 8).2.1 (TX8 8).2.2.1 ∈ wsX8_town := by decide +kernel
  have mh9 : Cond.fieldLink RX8 28 RX8 (TX8 13).2.1 (TX8 13).2.2.1 ∈ wsX8_town := by decide +kernel
  have mh10 : Cond.fieldLink RX8 19 RX8 (TX8 7).2.1 (TX8 7).2.2.1 ∈ wsX8_town := by decide +kernel
  have mh11 : Cond.fieldLink RX8 25 RX8 (TX8 12).2.1 (TX8 12).2.2.1 ∈ wsX8_town := by decide +kernel
  obtain ⟨-, ⟨hB, hN2⟩, hT, hR, hS⟩ := hX
  have hN := hT.n
  have hc8 := hR.1
  have hN30 : N ≤ 2 ^ 30 := by omega
  show J X (wM mm cy fl tv so sg ce (nI N) (nI B) kf pf vat vrm vrb rk rp lf tf kp (nI c) df mf gf) 0 [(0, .ref (mm 0)), (1, .int s), (2, .int lx), (3, .int i), (4, .int m)] []
  refine j_aload_n C 0 dX8_town_0 rfl rfl ?_
  refine j_iconst (v := nI 0) C dX8_town_1 (by decide) ?_
  refine j_put (ws' := wM mm cy (nI 0) tv so sg ce (nI N) (nI B) kf pf vat vrm vrb rk rp lf tf kp (nI c) df mf gf) C mh0 0 mh1 tyX8 tyX8_ok nmX8 0 rfl rfl (by decide) rfl rfl (by decide +kernel) (Nat.le_of_ble_eq_true rfl) rfl dX8_town_2 ?_
  refine j_iload_n C 1 dX8_town_5 rfl rfl ?_
  refine j_callP (As := [.int s]) (rest := []) C (c_X8_isSheet (s)) gX8_town_X8_isSheet rfl 1 rfl (by decide +kernel) (by decide) (Nat.le_of_ble_eq_true rfl) dX8_town_6 rfl (fun _ _ => ?_)
  show J X (wM mm cy (nI 0) tv so sg ce (nI N) (nI B) kf pf vat vrm vrb rk rp lf tf kp (nI c) df mf gf) 9 [(0, .ref (mm 0)), (1, .int s), (2, .int lx), (3, .int i), (4, .int m)] [.int (nI (bN ((pOf 4 (s)).isSome = true)))]
  refine j_if_neN (tgt := 14) C dX8_town_9 (by decide) (bN_lt _) (fun c9 => ?_) (fun c9 => ?_)
  · have c9 := bN_1.mp c9
    obtain ⟨q1, hq1, rfl⟩ := pY (by decide) c9
    have qq1 := pI hq1 (by decide)
    show J X (wM mm cy (nI 0) tv so sg ce (nI N) (nI B) kf pf vat vrm vrb rk rp lf tf kp (nI c) df mf gf) 14 [(0, .ref (mm 0)), (1, .int (nI q1)), (2, .int lx), (3, .int i), (4, .int m)] []
    refine j_iload_n C 2 dX8_town_14 rfl rfl ?_
    refine j_callP (As := [.int lx]) (rest := []) C (c_X8_isSort (lx)) gX8_town_X8_isSort rfl 1 rfl (by decide +kernel) (by decide) (Nat.le_of_ble_eq_true rfl) dX8_town_15 rfl (fun _ _ => ?_)
    show J X (wM mm cy (nI 0) tv so sg ce (nI N) (nI B) kf pf vat vrm vrb rk rp lf tf kp (nI c) df mf gf) 18 [(0, .ref (mm 0)), (1, .int (nI q1)), (2, .int lx), (3, .int i), (4, .int m)] [.int (nI (bN ((pOf 3 (lx)).isSome = true)))]
    refine j_if_neN (tgt := 24) C dX8_town_18 (by decide) (bN_lt _) (fun c18 => ?_) (fun c18 => ?_)
    · have c18 := bN_1.mp c18
      obtain ⟨v1, hv1, rfl⟩ := pY (by decide) c18
      have qv1 := pI hv1 (by decide)
      show J X (wM mm cy (nI 0) tv so sg ce (nI N) (nI B) kf pf vat vrm vrb rk rp lf tf kp (nI c) df mf gf) 24 [(0, .ref (mm 0)), (1, .int (nI q1)), (2, .int (nI v1)), (3, .int i), (4, .int m)] []
      refine j_aload_n C 0 dX8_town_24 rfl rfl ?_
      refine j_iload_n C 1 dX8_town_25 rfl rfl ?_
      refine j_iload_n C 2 dX8_town_26 rfl rfl ?_
      refine j_iload_n C 3 dX8_town_27 rfl rfl ?_
      refine j_iload C 4 dX8_town_28 rfl ?_
      refine j_callV0 (As := [.int (nI q1), .int (nI v1), .int i, .int m]) (rest := []) C (c_X8_against mm (nI 0) tv so sg ce N B kf pf vat vrm vrb rk rp lf tf kp c df mf gf hs sl sa sc hS q1 v1 (i) (m) hq1 hv1) gX8_town_X8_against rfl 4 rfl (by decide +kernel) (by decide) 0 rfl rfl (Nat.le_of_ble_eq_true rfl) dX8_town_30 rfl (fun _ _ => ?_)
      have hag := agn_le (hs := hs) (sl := sl) (sa := sa) (q := q1) (v := v1) (i := i) (n := m)
      show J X (wM mm cy (nI 0) tv so sg ce (nI N) (nI B) kf pf vat vrm vrb rk rp lf tf kp (nI c) df mf gf) 33 [(0, .ref (mm 0)), (1, .int (nI q1)), (2, .int (nI v1)), (3, .int i), (4, .int m)] [.int (nI (agn hs sl sa q1 v1 (i) (m)))]
      refine j_istore (lv' := [(5, .int (nI (agn hs sl sa q1 v1 (i) (m)))), (0, .ref (mm 0)), (1, .int (nI q1)), (2, .int (nI v1)), (3, .int i), (4, .int m)]) C dX8_town_33 (by decide) rfl ?_
      refine j_iload C 0 dX8_town_35 rfl ?_
      refine j_if_eqN (tgt := 47) C dX8_town_37 (by decide) (by omega) (fun c37 => ?_) (fun c37 => ?_)
      · obtain ⟨qh, qsv, hcl⟩ := agn_inv c37
        have q60 := hS.l60 hq1 qh
        obtain ⟨i1, m1, him, rfl, rfl⟩ := cells_y q60 hcl
        have t1 := tC60 (m := i1) (by omega)
        have t2 := tC60 (m := m1) (by omega)
        have htx : ∀ j, j < m1 → ce (60 * q1 + i1 + j) = sc q1 (i1 + j) := fun j hj => by rw [Nat.add_assoc]; exact hS.hcf hq1 qh (by omega)
        show J X (wM mm cy (nI 0) tv so sg ce (nI N) (nI B) kf pf vat vrm vrb rk rp lf tf kp (nI c) df mf gf) 47 [(5, .int (nI (agn hs sl sa q1 v1 (nI i1) (nI m1)))), (0, .ref (mm 0)), (1, .int (nI q1)), (2, .int (nI v1)), (3, .int (nI i1)), (4, .int (nI m1))] []
        refine j_bipush (v := nI 60) C dX8_town_47 (by decide) ?_
        refine j_iload_n C 2 dX8_town_49 rfl rfl ?_
        refine j_imul (v := nI (60 * q1)) C dX8_town_50 (pk_mul _ _) ?_
        refine j_iload_n C 4 dX8_town_51 rfl rfl ?_
        refine j_iadd (v := nI ((60 * q1) + i1)) C dX8_town_52 (nI_add _ _) ?_
        refine j_istore (lv' := [(6, .int (nI ((60 * q1) + i1))), (5, .int (nI (agn hs sl sa q1 v1 (nI i1) (nI m1)))), (0, .ref (mm 0)), (1, .int (nI q1)), (2, .int (nI v1)), (3, .int (nI i1)), (4, .int (nI m1))]) C dX8_town_53 (by decide) rfl ?_
        refine j_aload_n C 2 dX8_town_55 rfl rfl ?_
        refine j_iload C 0 dX8_town_56 rfl ?_
        refine j_put (ws' := wM mm cy (nI 0) tv so sg ce (nI N) (nI B) kf pf (nI ((60 * q1) + i1)) vrm vrb rk rp lf tf kp (nI c) df mf gf) C mh0 9 mh2 tyX8 tyX8_ok nmX8 0 rfl rfl (by decide) rfl rfl (by decide +kernel) (Nat.le_of_ble_eq_true rfl) rfl dX8_town_58 ?_
        refine j_aload_n C 2 dX8_town_61 rfl rfl ?_
        refine j_iload C 0 dX8_town_62 rfl ?_
        refine j_iload C 6 dX8_town_64 rfl ?_
        refine j_iadd (v := nI (((60 * q1) + i1) + m1)) C dX8_town_66 (nI_add _ _) ?_
        refine j_callV0 (As := [.int (nI (((60 * q1) + i1) + m1))]) (rest := []) C (c_X8_readTown mm (nI 0) tv so sg ce N B kf pf (nI ((60 * q1) + i1)) vrm vrb rk rp lf tf kp c df mf gf (60 * q1 + i1) m1 rfl (by omega)) gX8_town_X8_readTown rfl 1 rfl (by decide +kernel) (by decide) 0 rfl rfl (Nat.le_of_ble_eq_true rfl) dX8_town_67 rfl (fun u hu => ?_)
        show J X (wM mm cy (nI 0) tv so sg ce (nI N) (nI B) kf pf (nI (60 * q1 + i1 + u.2.1)) u.2.2.1 u.2.2.2.1 u.2.2.2.2.1 u.2.2.2.2.2 lf tf kp (nI c) df mf gf) 70 [(6, .int (nI ((60 * q1) + i1))), (5, .int (nI (agn hs sl sa q1 v1 (nI i1) (nI m1)))), (0, .ref (mm 0)), (1, .int (nI q1)), (2, .int (nI v1)), (3, .int (nI i1)), (4, .int (nI m1))] [.int (nI (bN (u.1 = true)))]
        refine j_if_neN (tgt := 84) C dX8_town_70 (by decide) (bN_lt _) (fun c70 => ?_) (fun c70 => ?_)
        · have c70 := bN_1.mp c70
          have hu2 := hu.resolve_right (fun z => by rw [z.1] at c70; cases c70)
          have qP : ffs (vcd (fun j => sc q1 (i1 + j))) m1 = m1 ∧ tl (Nx (fun j => sc q1 (i1 + j))) ≤ m1 := (suc_cong htx).mp ⟨ffs_all hu2.2.2.1, hu2.2.2.2.1⟩
          obtain ⟨⟨hv1, hv2, hv3, hv4⟩, hv5⟩ := TxI.ag htx hu2.2.2.2.2 hu2.2.2.2.1
          have hn6 := hv5.1
          rw [hv1, hv2]
          show J X (wM mm cy (nI 0) tv so sg ce (nI N) (nI B) kf pf (nI (60 * q1 + i1 + u.2.1)) (nI (Nx (fun j => sc q1 (i1 + j)))) (nI (dv (sc q1 (i1 + 2)))) u.2.2.2.2.1 u.2.2.2.2.2 lf tf kp (nI c) df mf gf) 84 [(6, .int (nI ((60 * q1) + i1))), (5, .int (nI (agn hs sl sa q1 v1 (nI i1) (nI m1)))), (0, .ref (mm 0)), (1, .int (nI q1)), (2, .int (nI v1)), (3, .int (nI i1)), (4, .int (nI m1))] []
          refine j_aload_n C 2 dX8_town_84 rfl rfl ?_
          refine j_aload_n C 2 dX8_town_85 rfl rfl ?_
          refine j_get C mh0 10 mh3 0 rfl rfl (by decide) rfl rfl dX8_town_86 ?_
          refine j_put (ws' := wM mm cy (nI 0) tv so sg ce (nI (Nx (fun j => sc q1 (i1 + j)))) (nI B) kf pf (nI (60 * q1 + i1 + u.2.1)) (nI (Nx (fun j => sc q1 (i1 + j)))) (nI (dv (sc q1 (i1 + 2)))) u.2.2.2.2.1 u.2.2.2.2.2 lf tf kp (nI c) df mf gf) C mh0 5 mh4 tyX8 tyX8_ok nmX8 0 rfl rfl (by decide) rfl rfl (by decide +kernel) (Nat.le_of_ble_eq_true rfl) rfl dX8_town_89 ?_
          refine j_aload_n C 2 dX8_town_92 rfl rfl ?_
          refine j_aload_n C 2 dX8_town_93 rfl rfl ?_
          refine j_get C mh0 11 mh5 0 rfl rfl (by decide) rfl rfl dX8_town_94 ?_
          refine j_put (ws' := wM mm cy (nI 0) tv so sg ce (nI (Nx (fun j => sc q1 (i1 + j)))) (nI (dv (sc q1 (i1 + 2)))) kf pf (nI (60 * q1 + i1 + u.2.1)) (nI (Nx (fun j => sc q1 (i1 + j)))) (nI (dv (sc q1 (i1 + 2)))) u.2.2.2.2.1 u.2.2.2.2.2 lf tf kp (nI c) df mf gf) C mh0 6 mh6 tyX8 tyX8_ok nmX8 0 rfl rfl (by decide) rfl rfl (by decide +kernel) (Nat.le_of_ble_eq_true rfl) rfl dX8_town_97 ?_
          refine j_iconst (v := nI 0) C dX8_town_100 (by decide) ?_
          refine j_istore (lv' := [(7, .int (nI 0)), (6, .int (nI ((60 * q1) + i1))), (5, .int (nI (agn hs sl sa q1 v1 (nI i1) (nI m1)))), (0, .ref (mm 0)), (1, .int (nI q1)), (2, .int (nI v1)), (3, .int (nI i1)), (4, .int (nI m1))]) C dX8_town_101 (by decide) rfl ?_
          refine J.sub [3, 0] rfl ?_
          have L103 : ∀ (n : Nat) (t : Nat), Nx (fun j => sc q1 (i1 + j)) - t < n → t ≤ Nx (fun j => sc q1 (i1 + j)) → J X (wM mm cy (nI 0) tv so sg ce (nI (Nx (fun j => sc q1 (i1 + j)))) (nI (dv (sc q1 (i1 + 2)))) (fil u.2.2.2.2.1 kf t) pf (nI (60 * q1 + i1 + u.2.1)) (nI (Nx (fun j => sc q1 (i1 + j)))) (nI (dv (sc q1 (i1 + 2)))) u.2.2.2.2.1 u.2.2.2.2.2 lf tf kp (nI c) df mf gf) 103 [(0, .ref (mm 0)), (7, .int (nI t))] [] := by
            intro n
            induction n with
            | zero => intro t hm; exact absurd hm (Nat.not_lt_zero _)
            | succ n ih103 =>
              intro t h103_0 h103_1
              refine j_iload C 1 dX8_town_103 rfl ?_
              refine j_aload_n C 0 dX8_town_105 rfl rfl ?_
              refine j_get C mh0 5 mh4 0 rfl rfl (by decide) rfl rfl dX8_town_106 ?_
              refine j_icmp_geN (tgt := 132) C dX8_town_109 (by decide) (by omega) (by omega) (fun c109 => ?_) (fun c109 => ?_)
              · refine j_iconst (v := nI 0) C dX8_town_132 (by decide) ?_
                refine j_istore (lv' := [(7, .int (nI 0)), (0, .ref (mm 0))]) C dX8_town_133 (by decide) rfl ?_
                refine J.sub [1, 0] rfl ?_
                have L135 : ∀ (n : Nat) (y : Nat), 36 - y < n → y ≤ 36 → J X (wM mm cy (nI 0) tv so sg ce (nI (Nx (fun j => sc q1 (i1 + j)))) (nI (dv (sc q1 (i1 + 2)))) (fil u.2.2.2.2.1 kf t) (fil u.2.2.2.2.2 pf y) (nI (60 * q1 + i1 + u.2.1)) (nI (Nx (fun j => sc q1 (i1 + j)))) (nI (dv (sc q1 (i1 + 2)))) u.2.2.2.2.1 u.2.2.2.2.2 lf tf kp (nI c) df mf gf) 135 [(0, .ref (mm 0)), (7, .int (nI y))] [] := by
                  intro n
                  induction n with
                  | zero => intro y hm; exact absurd hm (Nat.not_lt_zero _)
                  | succ n ih135 =>
                    intro y h135_0 h135_1
                    refine j_iload C 1 dX8_town_135 rfl ?_
                    refine j_bipush (v := nI 36) C dX8_town_137 (by decide) ?_
                    refine j_icmp_geN (tgt := 162) C dX8_town_139 (by decide) (by omega) (by omega) (fun c139 => ?_) (fun c139 => ?_)
                    · refine j_aload_n C 0 dX8_town_162 rfl rfl ?_
                      refine j_iconst (v := nI 0) C dX8_town_163 (by decide) ?_
                      refine j_put (ws' := wM mm cy (nI 0) tv so sg ce (nI (Nx (fun j => sc q1 (i1 + j)))) (nI (dv (sc q1 (i1 + 2)))) (fil u.2.2.2.2.1 kf t) (fil u.2.2.2.2.2 pf y) (nI (60 * q1 + i1 + u.2.1)) (nI (Nx (fun j => sc q1 (i1 + j)))) (nI (dv (sc q1 (i1 + 2)))) u.2.2.2.2.1 u.2.2.2.2.2 lf tf kp (nI 0) df mf gf) C mh0 17 mh7 tyX8 tyX8_ok nmX8 0 rfl rfl (by decide) rfl rfl (by decide +kernel) (Nat.le_of_ble_eq_true rfl) rfl dX8_town_164 ?_
                      refine j_aload_n C 0 dX8_town_167 rfl rfl ?_
                      refine j_get C mh0 5 mh4 0 rfl rfl (by decide) rfl rfl dX8_town_168 ?_
                      exact j_iret C E dX8_town_171 (nI 0, tv, so, sg, ce, nI (Nx (fun j => sc q1 (i1 + j))), nI (dv (sc q1 (i1 + 2))), fil u.2.2.2.2.1 kf t, fil u.2.2.2.2.2 pf y, nI (60 * q1 + i1 + u.2.1), nI (Nx (fun j => sc q1 (i1 + j))), nI (dv (sc q1 (i1 + 2))), u.2.2.2.2.1, u.2.2.2.2.2, lf, tf, kp, nI 0, df, mf, gf) (by rw [show m_town ((N, B, k, p), (c, rd, rl, ra), (hs, sl, sa, sc), tv, fl) (nI q1) (nI v1) (nI i1) (nI m1) = (nI (Nx (fun j => sc q1 (i1 + j))), ((Nx (fun j => sc q1 (i1 + j)), dv (sc q1 (i1 + 2)), xK (fun j => sc q1 (i1 + j)), xPn (fun j => sc q1 (i1 + j))), (0, rd, rl, ra), (hs, sl, sa, sc), tv, nI 0)) from (by simp only [m_town, qq1, qv1, c37, t1, t2, if_pos qP, reduceIte, reduceCtorEq, if_true, if_false, Bool.false_eq_true, ne_eq, not_true_eq_false, not_false_eq_true, and_true, true_and, and_false, false_and, or_true, true_or, or_false, false_or]; try rfl)]; exact ⟨⟨rfl, rfl, rfl, rfl, rfl⟩, ⟨hv3, Or.inr hv4⟩, hv5.cong (fun a ha => fil_in (by omega)) (fun a b ha hb => fil_in (by omega)), ⟨by decide, fun j hj => absurd hj (Nat.not_lt_zero j)⟩, hS⟩) (by rw [show m_town ((N, B, k, p), (c, rd, rl, ra), (hs, sl, sa, sc), tv, fl) (nI q1) (nI v1) (nI i1) (nI m1) = (nI (Nx (fun j => sc q1 (i1 + j))), ((Nx (fun j => sc q1 (i1 + j)), dv (sc q1 (i1 + 2)), xK (fun j => sc q1 (i1 + j)), xPn (fun j => sc q1 (i1 + j))), (0, rd, rl, ra), (hs, sl, sa, sc), tv, nI 0)) from (by simp only [m_town, qq1, qv1, c37, t1, t2, if_pos qP, reduceIte, reduceCtorEq, if_true, if_false, Bool.false_eq_true, ne_eq, not_true_eq_false, not_false_eq_true, and_true, true_and, and_false, false_and, or_true, true_or, or_false, false_or]; try rfl)]) rfl
                    · refine j_aload_n C 0 dX8_town_142 rfl rfl ?_
                      refine j_get C mh0 8 mh8 0 rfl rfl (by decide) rfl rfl dX8_town_143 ?_
                      refine j_iload C 1 dX8_town_146 rfl ?_
                      refine j_aload_n C 0 dX8_town_148 rfl rfl ?_
                      refine j_get C mh0 13 mh9 0 rfl rfl (by decide) rfl rfl dX8_town_149 ?_
                      refine j_iload C 1 dX8_town_152 rfl ?_
                      refine j_iald (v := u.2.2.2.2.2 y) C 7 rfl (by omega) (by decide) rfl dX8_town_154 ?_
                      refine j_iast (ws' := wM mm cy (nI 0) tv so sg ce (nI (Nx (fun j => sc q1 (i1 + j)))) (nI (dv (sc q1 (i1 + 2)))) (fil u.2.2.2.2.1 kf t) (upd (fil u.2.2.2.2.2 pf y) y (u.2.2.2.2.2 y)) (nI (60 * q1 + i1 + u.2.1)) (nI (Nx (fun j => sc q1 (i1 + j)))) (nI (dv (sc q1 (i1 + 2)))) u.2.2.2.2.1 u.2.2.2.2.2 lf tf kp (nI c) df mf gf) C 5 rfl (by omega) (by decide) rfl dX8_town_155 ?_
                      refine j_iinc (v := nI (y + 1)) (lv' := [(7, .int (nI (y + 1))), (0, .ref (mm 0))]) C 1 dX8_town_156 rfl (nI_inc y) (by decide) rfl ?_
                      refine j_goto (tgt := 135) C dX8_town_159 (by decide) ?_
                      refine J.sub [1, 0] rfl ?_
                      have e := ih135 (y + 1) (by omega) (by omega)
                      rw [← fil_s] at e
                      exact e
                have e := L135 37 0 (by omega) (by omega)
                rw [fil_0] at e
                exact e
              · refine j_aload_n C 0 dX8_town_112 rfl rfl ?_
                refine j_get C mh0 7 mh10 0 rfl rfl (by decide) rfl rfl dX8_town_113 ?_
                refine j_iload C 1 dX8_town_116 rfl ?_
                refine j_aload_n C 0 dX8_town_118 rfl rfl ?_
                refine j_get C mh0 12 mh11 0 rfl rfl (by decide) rfl rfl dX8_town_119 ?_
                refine j_iload C 1 dX8_town_122 rfl ?_
                refine j_iald (v := u.2.2.2.2.1 t) C 6 rfl (by omega) (by decide) rfl dX8_town_124 ?_
                refine j_iast (ws' := wM mm cy (nI 0) tv so sg ce (nI (Nx (fun j => sc q1 (i1 + j)))) (nI (dv (sc q1 (i1 + 2)))) (upd (fil u.2.2.2.2.1 kf t) t (u.2.2.2.2.1 t)) pf (nI (60 * q1 + i1 + u.2.1)) (nI (Nx (fun j => sc q1 (i1 + j)))) (nI (dv (sc q1 (i1 + 2)))) u.2.2.2.2.1 u.2.2.2.2.2 lf tf kp (nI c) df mf gf) C 4 rfl (by omega) (by decide) rfl dX8_town_125 ?_
                refine j_iinc (v := nI (t + 1)) (lv' := [(7, .int (nI (t + 1))), (0, .ref (mm 0))]) C 1 dX8_town_126 rfl (nI_inc t) (by decide) rfl ?_
                refine j_goto (tgt := 103) C dX8_town_129 (by decide) ?_
                refine J.sub [1, 0] rfl ?_
                have e := ih103 (t + 1) (by omega) (by omega)
                rw [← fil_s] at e
                exact e
          have e := L103 (Nx (fun j => sc q1 (i1 + j)) + 1) 0 (by omega) (by omega)
          rw [fil_0] at e
          exact e
        · have c70 := bN_0.mp c70
          have hu2 := hu.resolve_left (fun z => c70 z.1)
          have hfl := fl_ffs hu2.2
          have qP : ¬ (ffs (vcd (fun j => sc q1 (i1 + j))) m1 = m1 ∧ tl (Nx (fun j => sc q1 (i1 + j))) ≤ m1) := fun z => hfl.2 ((suc_cong htx).mpr z)
          have hff : ffs (vcd (fun j => sc q1 (i1 + j))) m1 = u.2.1 := by rw [← ffs_cong (vcd_cong htx)]; exact hfl.1
          have hul := hu2.2.1
          refine j_bipush (v := (-100)) C dX8_town_73 (by decide) ?_
          refine j_aload_n C 2 dX8_town_75 rfl rfl ?_
          refine j_get C mh0 9 mh2 0 rfl rfl (by decide) rfl rfl dX8_town_76 ?_
          refine j_iload C 0 dX8_town_79 rfl ?_
          refine j_isub (v := nI u.2.1) C dX8_town_81 (by rw [pk_sub (by omega)]; congr 1; omega) ?_
          refine j_isub (v := ((-100)) - (nI u.2.1)) C dX8_town_82 rfl ?_
          exact j_iret C E dX8_town_83 (nI 0, tv, so, sg, ce, nI N, nI B, kf, pf, nI (60 * q1 + i1 + u.2.1), u.2.2.1, u.2.2.2.1, u.2.2.2.2.1, u.2.2.2.2.2, lf, tf, kp, nI c, df, mf, gf) (by rw [show m_town ((N, B, k, p), (c, rd, rl, ra), (hs, sl, sa, sc), tv, fl) (nI q1) (nI v1) (nI i1) (nI m1) = (((-100)) - (nI u.2.1), ((N, B, k, p), (c, rd, rl, ra), (hs, sl, sa, sc), tv, nI 0)) from (by simp only [m_town, qq1, qv1, c37, t1, t2, reduceCtorEq, if_true, if_false, Bool.false_eq_true, ne_eq, not_true_eq_false, not_false_eq_true, and_true, true_and, and_false, false_and, or_true, true_or, or_false, false_or]; rw [if_neg qP, hff])]; exact MI.mk hB hN2 hT hR hS) (by rw [show m_town ((N, B, k, p), (c, rd, rl, ra), (hs, sl, sa, sc), tv, fl) (nI q1) (nI v1) (nI i1) (nI m1) = (((-100)) - (nI u.2.1), ((N, B, k, p), (c, rd, rl, ra), (hs, sl, sa, sc), tv, nI 0)) from (by simp only [m_town, qq1, qv1, c37, t1, t2, reduceCtorEq, if_true, if_false, Bool.false_eq_true, ne_eq, not_true_eq_false, not_false_eq_true, and_true, true_and, and_false, false_and, or_true, true_or, or_false, false_or]; rw [if_neg qP, hff])]) rfl
      · refine j_aload_n C 1 dX8_town_40 rfl rfl ?_
        refine j_iload C 0 dX8_town_41 rfl ?_
        refine j_callV0 (As := [.int (nI (agn hs sl sa q1 v1 (i) (m)))]) (rest := []) C (c_X8_fails mm (nI 0) tv so sg ce N B kf pf vat vrm vrb rk rp lf tf kp c df mf gf (agn hs sl sa q1 v1 (i) (m))) gX8_town_X8_fails rfl 1 rfl (by decide +kernel) (by decide) 0 rfl rfl (Nat.le_of_ble_eq_true rfl) dX8_town_43 rfl (fun _ _ => ?_)
        show J X (wM mm cy (nI (agn hs sl sa q1 v1 (i) (m))) tv so sg ce (nI N) (nI B) kf pf vat vrm vrb rk rp lf tf kp (nI c) df mf gf) 46 [(5, .int (nI (agn hs sl sa q1 v1 (i) (m)))), (0, .ref (mm 0)), (1, .int (nI q1)), (2, .int (nI v1)), (3, .int i), (4, .int m)] [.int ((-10) - nI (agn hs sl sa q1 v1 (i) (m)))]
        exact j_iret C E dX8_town_46 (nI (agn hs sl sa q1 v1 (i) (m)), tv, so, sg, ce, nI N, nI B, kf, pf, vat, vrm, vrb, rk, rp, lf, tf, kp, nI c, df, mf, gf) (by rw [show m_town ((N, B, k, p), (c, rd, rl, ra), (hs, sl, sa, sc), tv, fl) (nI q1) (nI v1) i m = ((-10) - nI (agn hs sl sa q1 v1 (i) (m)), ((N, B, k, p), (c, rd, rl, ra), (hs, sl, sa, sc), tv, nI (agn hs sl sa q1 v1 i m))) from (by simp only [m_town, qq1, qv1, if_pos c37, reduceCtorEq, if_true, if_false, Bool.false_eq_true, ne_eq, not_true_eq_false, not_false_eq_true, and_true, true_and, and_false, false_and, or_true, true_or, or_false, false_or]; try rfl)]; exact MI.mk hB hN2 hT hR hS) (by rw [show m_town ((N, B, k, p), (c, rd, rl, ra), (hs, sl, sa, sc), tv, fl) (nI q1) (nI v1) i m = ((-10) - nI (agn hs sl sa q1 v1 (i) (m)), ((N, B, k, p), (c, rd, rl, ra), (hs, sl, sa, sc), tv, nI (agn hs sl sa q1 v1 i m))) from (by simp only [m_town, qq1, qv1, if_pos c37, reduceCtorEq, if_true, if_false, Bool.false_eq_true, ne_eq, not_true_eq_false, not_false_eq_true, and_true, true_and, and_false, false_and, or_true, true_or, or_false, false_or]; try rfl)]) rfl
    · have c18 := bN_0.mp c18
      have qv1 := pOf_n c18
      refine j_bipush (v := (-2)) C dX8_town_21 (by decide) ?_
      exact j_iret C E dX8_town_23 (nI 0, tv, so, sg, ce, nI N, nI B, kf, pf, vat, vrm, vrb, rk, rp, lf, tf, kp, nI c, df, mf, gf) (by rw [show m_town ((N, B, k, p), (c, rd, rl, ra), (hs, sl, sa, sc), tv, fl) (nI q1) lx i m = ((-2), ((N, B, k, p), (c, rd, rl, ra), (hs, sl, sa, sc), tv, nI 0)) from (by simp only [m_town, qq1, qv1, reduceCtorEq, if_true, if_false, Bool.false_eq_true, ne_eq, not_true_eq_false, not_false_eq_true, and_true, true_and, and_false, false_and, or_true, true_or, or_false, false_or]; try rfl)]; exact MI.mk hB hN2 hT hR hS) (by rw [show m_town ((N, B, k, p), (c, rd, rl, ra), (hs, sl, sa, sc), tv, fl) (nI q1) lx i m = ((-2), ((N, B, k, p), (c, rd, rl, ra), (hs, sl, sa, sc), tv, nI 0)) from (by simp only [m_town, qq1, qv1, reduceCtorEq, if_true, if_false, Bool.false_eq_true, ne_eq, not_true_eq_false, not_false_eq_true, and_true, true_and, and_false, false_and, or_true, true_or, or_false, false_or]; try rfl)]) rfl
  · have c9 := bN_0.mp c9
    have qq1 := pOf_n c9
    refine j_iconst (v := (-1)) C dX8_town_12 (by decide) ?_
    exact j_iret C E dX8_town_13 (nI 0, tv, so, sg, ce, nI N, nI B, kf, pf, vat, vrm, vrb, rk, rp, lf, tf, kp, nI c, df, mf, gf) (by rw [show m_town ((N, B, k, p), (c, rd, rl, ra), (hs, sl, sa, sc), tv, fl) s lx i m = ((-1), ((N, B, k, p), (c, rd, rl, ra), (hs, sl, sa, sc), tv, nI 0)) from (by simp only [m_town, qq1, reduceCtorEq, if_true, if_false, Bool.false_eq_true, ne_eq, not_true_eq_false, not_false_eq_true, and_true, true_and, and_false, false_and, or_true, true_or, or_false, false_or]; try rfl)]; exact MI.mk hB hN2 hT hR hS) (by rw [show m_town ((N, B, k, p), (c, rd, rl, ra), (hs, sl, sa, sc), tv, fl) s lx i m = ((-1), ((N, B, k, p), (c, rd, rl, ra), (hs, sl, sa, sc), tv, nI 0)) from (by simp only [m_town, qq1, reduceCtorEq, if_true, if_false, Bool.false_eq_true, ne_eq, not_true_eq_false, not_false_eq_true, and_true, true_and, and_false, false_and, or_true, true_or, or_false, false_or]; try rfl)]) rfl
