set_option maxHeartbeats 4000000 in
set_option maxRecDepth 20000 in
theorem c_X8_areSo {l : Launch} {D : va_G} {cy : Nat → ClassId} (mm : Nat → Nat) (fl tv : Int32) (so sg ce : Nat → Int32) (N B : Nat) (kf pf : Nat → Int32) (vat vrm vrb : Int32) (rk rp lf tf kp : Nat → Int32) (c : Nat) (df mf gf : Nat → Int32) (k : Nat → Nat) (p : Nat → Nat → Nat) (hT : Ag N k p kf (PF pf)) (rd rl : Nat → Nat) (ra : Nat → Option Nat) (hR : Rg N c rd rl ra df mf gf) (hB : B ≤ 9) : Ct l yX8_areSo wsX8_areSo ({ frames := 6, cells := 0, slots := 0, locals := 134 }) D cy [.ref (mm 0)] (wM mm cy fl tv so sg ce (nI N) (nI B) kf pf vat vrm vrb rk rp lf tf kp (nI c) df mf gf) (fun u : (Nat → Int32) × (Nat → Int32) × (Nat → Int32) × (Nat → Int32) => ∀ j, j < 36 → u.1 j = pf j) (fun _ => some (.int (nI (bN (soT N B c k p rd rl ra 11 = true))))) (fun u => wM mm cy fl tv so sg ce (nI N) (nI B) kf u.1 vat vrm vrb rk rp u.2.1 u.2.2.1 u.2.2.2 (nI c) df mf gf) := by
  refine Ct.of (cc := cX8_areSo) (nL := 4) (ret := (some .boolean)) rfl (by decide) ⟨rfl, rfl⟩ (Nat.le_of_ble_eq_true rfl) ?_
  intro X C E
  have C : Cx X l D cy cX8_areSo 4 wsX8_areSo RX8 ({ frames := 6, cells := 0, slots := 0, locals := 134 }) := C
  have mh0 : ∀ w ∈ u_ws RX8 TX8 21, w ∈ wsX8_areSo := by decide +kernel
  have mh1 : Cond.fieldLink RX8 96 RX8 (TX8 17).2.1 (TX8 17).2.2.1 ∈ wsX8_areSo := by decide +kernel
  have mh2 : Cond.fieldLink RX8 41 RX8 (TX8 18).2.1 (TX8 18).2.2.1 ∈ wsX8_areSo := by decide +kernel
  have mh3 : Cond.fieldLink RX8 44 RX8 (TX8 19).2.1 (TX8 19).2.2.1 ∈ wsX8_areSo := by decide +kernel
  have mh4 : Cond.fieldLink RX8 47 RX8 (TX8 20).2.1 (TX8 20).2.2.1 ∈ wsX8_areSo := by decide +kernel
  have hN := hT.n
  have hc8 := hR.1
  show J X (wM mm cy fl tv so sg ce (nI N) (nI B) kf pf vat vrm vrb rk rp lf tf kp (nI c) df mf gf) 0 [(0, .ref (mm 0))] []
  refine j_aload_n C 0 dX8_areSo_0 rfl rfl ?_
  refine j_callV0 (As := []) (rest := []) C (c_X8_keep mm fl tv so sg ce N B kf pf vat vrm vrb rk rp lf tf kp c df mf gf ) gX8_areSo_X8_keep rfl 0 rfl (by decide +kernel) (by decide) 0 rfl rfl (Nat.le_of_ble_eq_true rfl) dX8_areSo_1 rfl (fun _ _ => ?_)
  show J X (wM mm cy fl tv so sg ce (nI N) (nI B) kf pf vat vrm vrb rk rp lf tf (fil pf kp 36) (nI c) df mf gf) 4 [(0, .ref (mm 0))] []
  refine j_iconst (v := nI 1) C dX8_areSo_4 (by decide) ?_
  refine j_istore_n (lv' := [(1, .int (nI 1)), (0, .ref (mm 0))]) C dX8_areSo_5 rfl (by decide) rfl ?_
  refine j_iconst (v := nI 0) C dX8_areSo_6 (by decide) ?_
  refine j_istore_n (lv' := [(2, .int (nI 0)), (1, .int (nI 1)), (0, .ref (mm 0))]) C dX8_areSo_7 rfl (by decide) rfl ?_
  refine J.sub [2, 1, 0] rfl ?_
  have L8 : ∀ (n : Nat) (t : Nat) (pf1 lf1 tf1 : Nat → Int32), 11 - t < n → t ≤ 11 → Ag N k (dks N B k t p) kf (PF pf1) → J X (wM mm cy fl tv so sg ce (nI N) (nI B) kf pf1 vat vrm vrb rk rp lf1 tf1 (fil pf kp 36) (nI c) df mf gf) 8 [(0, .ref (mm 0)), (1, .int (nI (bN (soT N B c k p rd rl ra t = true)))), (2, .int (nI t))] [] := by
    intro n
    induction n with
    | zero => intro t pf1 lf1 tf1 hm; exact absurd hm (Nat.not_lt_zero _)
    | succ n ih8 =>
      intro t pf1 lf1 tf1 h8_0 h8_1 h8_2
      refine j_iload_n C 2 dX8_areSo_8 rfl rfl ?_
      refine j_bipush (v := nI 10) C dX8_areSo_9 (by decide) ?_
      refine j_icmp_gtN (tgt := 83) C dX8_areSo_11 (by decide) (by omega) (by omega) (fun c11 => ?_) (fun c11 => ?_)
      · refine j_aload_n C 0 dX8_areSo_83 rfl rfl ?_
        refine j_callV0 (As := []) (rest := []) C (c_X8_restore mm fl tv so sg ce N B kf pf1 vat vrm vrb rk rp lf1 tf1 (fil pf kp 36) c df mf gf ) gX8_areSo_X8_restore rfl 0 rfl (by decide +kernel) (by decide) 0 rfl rfl (Nat.le_of_ble_eq_true rfl) dX8_areSo_84 rfl (fun _ _ => ?_)
        show J X (wM mm cy fl tv so sg ce (nI N) (nI B) kf (fil (fil pf kp 36) pf1 36) vat vrm vrb rk rp lf1 tf1 (fil pf kp 36) (nI c) df mf gf) 87 [(0, .ref (mm 0)), (1, .int (nI (bN (soT N B c k p rd rl ra t = true)))), (2, .int (nI t))] []
        refine j_iload_n C 1 dX8_areSo_87 rfl rfl ?_
        exact j_zret C E dX8_areSo_88 (narB _) (fil (fil pf kp 36) pf1 36, lf1, tf1, fil pf kp 36) (fun j hj => kept hj) (by first | (have et : t = 11 := (by omega); rw [et]; done) | exact rv_c ⟨fun z => absurd z (soT_t h8_1 c15), fun z => absurd z c15⟩) rfl
      · refine j_iload_n C 1 dX8_areSo_14 rfl rfl ?_
        refine j_if_eqN (tgt := 83) C dX8_areSo_15 (by decide) (bN_lt _) (fun c15 => ?_) (fun c15 => ?_)
        · have c15 := bN_0.mp c15
          refine j_aload_n C 0 dX8_areSo_83 rfl rfl ?_
          refine j_callV0 (As := []) (rest := []) C (c_X8_restore mm fl tv so sg ce N B kf pf1 vat vrm vrb rk rp lf1 tf1 (fil pf kp 36) c df mf gf ) gX8_areSo_X8_restore rfl 0 rfl (by decide +kernel) (by decide) 0 rfl rfl (Nat.le_of_ble_eq_true rfl) dX8_areSo_84 rfl (fun _ _ => ?_)
          show J X (wM mm cy fl tv so sg ce (nI N) (nI B) kf (fil (fil pf kp 36) pf1 36) vat vrm vrb rk rp lf1 tf1 (fil pf kp 36) (nI c) df mf gf) 87 [(0, .ref (mm 0)), (1, .int (nI (bN (soT N B c k p rd rl ra t = true)))), (2, .int (nI t))] []
          refine j_iload_n C 1 dX8_areSo_87 rfl rfl ?_
          exact j_zret C E dX8_areSo_88 (narB _) (fil (fil pf kp 36) pf1 36, lf1, tf1, fil pf kp 36) (fun j hj => kept hj) (by first | (have et : t = 11 := (by omega); rw [et]; done) | exact rv_c ⟨fun z => absurd z (soT_t h8_1 c15), fun z => absurd z c15⟩) rfl
        · have c15 := bN_1.mp c15
          rw [bN_y c15]
          show J X (wM mm cy fl tv so sg ce (nI N) (nI B) kf pf1 vat vrm vrb rk rp lf1 tf1 (fil pf kp 36) (nI c) df mf gf) 18 [(0, .ref (mm 0)), (1, .int (nI 1)), (2, .int (nI t))] []
          refine j_iconst (v := nI 0) C dX8_areSo_18 (by decide) ?_
          refine j_istore_n (lv' := [(3, .int (nI 0)), (0, .ref (mm 0)), (1, .int (nI 1)), (2, .int (nI t))]) C dX8_areSo_19 rfl (by decide) rfl ?_
          refine J.sub [1, 2, 3, 0] rfl ?_
          have L20 : ∀ (n : Nat) (j : Nat), c - j < n → j ≤ c → J X (wM mm cy fl tv so sg ce (nI N) (nI B) kf pf1 vat vrm vrb rk rp lf1 tf1 (fil pf kp 36) (nI c) df mf gf) 20 [(0, .ref (mm 0)), (1, .int (nI (bN (allB (soP N t k (dks N B k t p) rd rl ra) j = true)))), (2, .int (nI t)), (3, .int (nI j))] [] := by
            intro n
            induction n with
            | zero => intro j hm; exact absurd hm (Nat.not_lt_zero _)
            | succ n ih20 =>
              intro j h20_0 h20_1
              refine j_iload_n C 3 dX8_areSo_20 rfl rfl ?_
              refine j_aload_n C 0 dX8_areSo_21 rfl rfl ?_
              refine j_get C mh0 17 mh1 0 rfl rfl (by decide) rfl rfl dX8_areSo_22 ?_
              refine j_icmp_geN (tgt := 73) C dX8_areSo_25 (by decide) (by omega) (by omega) (fun c25 => ?_) (fun c25 => ?_)
              · refine j_aload_n C 0 dX8_areSo_73 rfl rfl ?_
                refine j_callV0 (As := []) (rest := []) C (c_X8_goDusk mm fl tv so sg ce N B kf pf1 vat vrm vrb rk rp lf1 tf1 (fil pf kp 36) c df mf gf k (dks N B k t p) h8_2 hB) gX8_areSo_X8_goDusk rfl 0 rfl (by decide +kernel) (by decide) 0 rfl rfl (Nat.le_of_ble_eq_true rfl) dX8_areSo_74 rfl (fun _ _ => ?_)
                show J X (wM mm cy fl tv so sg ce (nI N) (nI B) kf (pfM N B k (dks N B k t p) pf1 N) vat vrm vrb rk rp (fil (lgF N k (dks N B k t p)) lf1 N) (fil (tI N B k (dks N B k t p)) tf1 N) (fil pf kp 36) (nI c) df mf gf) 77 [(0, .ref (mm 0)), (1, .int (nI (bN (allB (soP N t k (dks N B k t p) rd rl ra) j = true)))), (2, .int (nI t)), (3, .int (nI j))] []
                refine j_iinc (v := nI (t + 1)) (lv' := [(2, .int (nI (t + 1))), (0, .ref (mm 0)), (1, .int (nI (bN (allB (soP N t k (dks N B k t p) rd rl ra) j = true)))), (3, .int (nI j))]) C 2 dX8_areSo_77 rfl (nI_inc t) (by decide) rfl ?_
                refine j_goto (tgt := 8) C dX8_areSo_80 (by decide) ?_
                refine J.sub [1, 2, 0] rfl ?_
                have e := ih8 (t + 1) (pfM N B k (dks N B k t p) pf1 N) (fil (lgF N k (dks N B k t p)) lf1 N) (fil (tI N B k (dks N B k t p)) tf1 N) (by omega) (by omega) (ag_dkM h8_2)
                rw [bN_c (show soT N B c k p rd rl ra (t + 1) = true ↔ allB (soP N t k (dks N B k t p) rd rl ra) j = true by rw [show j = c by omega]; show (allB _ t && _) = true ↔ _; rw [show allB _ t = true from c15]; exact Iff.rfl)] at e
                exact e
              · refine j_iload_n C 1 dX8_areSo_28 rfl rfl ?_
                refine j_if_eqN (tgt := 65) C dX8_areSo_29 (by decide) (bN_lt _) (fun c29 => ?_) (fun c29 => ?_)
                · have c29 := bN_0.mp c29
                  refine j_iconst (v := nI 0) C dX8_areSo_65 (by decide) ?_
                  refine j_istore_n (lv' := [(1, .int (nI 0)), (0, .ref (mm 0)), (2, .int (nI t)), (3, .int (nI j))]) C dX8_areSo_66 rfl (by decide) rfl ?_
                  refine j_iinc (v := nI (j + 1)) (lv' := [(3, .int (nI (j + 1))), (1, .int (nI 0)), (0, .ref (mm 0)), (2, .int (nI t))]) C 3 dX8_areSo_67 rfl (nI_inc j) (by decide) rfl ?_
                  refine j_goto (tgt := 20) C dX8_areSo_70 (by decide) ?_
                  refine J.sub [2, 1, 3, 0] rfl ?_
                  have e := ih20 (j + 1) (by omega) (by omega)
                  first
                    | (rw [bN_n (P := allB (soP N t k (dks N B k t p) rd rl ra) (j + 1) = true) (by rw [allB_s, Bool.eq_false_iff.mpr c29]; exact Bool.false_ne_true)] at e; exact e)
                    | (rw [bN_y (P := allB (soP N t k (dks N B k t p) rd rl ra) (j + 1) = true) (by rw [allB_s, c29]; exact decide_eq_true (fun z => absurd z c39))] at e; exact e)
                    | (rw [bN_y (P := allB (soP N t k (dks N B k t p) rd rl ra) (j + 1) = true) (by rw [allB_s, c29]; exact decide_eq_true (fun _ => lI_inj (lg_31 hN) (fun a z => by have := hR.gN (j := j) (by omega) z; omega) c58))] at e; exact e)
                    | (rw [bN_n (P := allB (soP N t k (dks N B k t p) rd rl ra) (j + 1) = true) (by rw [allB_s, c29]; exact fun w => c58 (by rw [of_decide_eq_true (show decide (rd j = t → lg N k (dks N B k t p) (rl j) = ra j) = true from w) c39]))] at e; exact e)
                · have c29 := bN_1.mp c29
                  refine j_aload_n C 0 dX8_areSo_32 rfl rfl ?_
                  refine j_get C mh0 18 mh2 0 rfl rfl (by decide) rfl rfl dX8_areSo_33 ?_
                  refine j_iload_n C 3 dX8_areSo_36 rfl rfl ?_
                  have := hR.d10 (j := j) (by omega)
                  have := hR.mN (j := j) (by omega)
                  refine j_iald (v := nI (rd j)) C 11 rfl (by omega) (by decide) (hR.d (by omega)) dX8_areSo_37 ?_
                  refine j_iload_n C 2 dX8_areSo_38 rfl rfl ?_
                  refine j_icmp_neN (tgt := 61) C dX8_areSo_39 (by decide) (by omega) (by omega) (fun c39 => ?_) (fun c39 => ?_)
                  · refine j_iconst (v := nI 1) C dX8_areSo_61 (by decide) ?_
                    refine j_goto (tgt := 66) C dX8_areSo_62 (by decide) ?_
                    refine j_istore_n (lv' := [(1, .int (nI 1)), (0, .ref (mm 0)), (2, .int (nI t)), (3, .int (nI j))]) C dX8_areSo_66 rfl (by decide) rfl ?_
                    refine j_iinc (v := nI (j + 1)) (lv' := [(3, .int (nI (j + 1))), (1, .int (nI 1)), (0, .ref (mm 0)), (2, .int (nI t))]) C 3 dX8_areSo_67 rfl (nI_inc j) (by decide) rfl ?_
                    refine j_goto (tgt := 20) C dX8_areSo_70 (by decide) ?_
                    refine J.sub [2, 1, 3, 0] rfl ?_
                    have e := ih20 (j + 1) (by omega) (by omega)
                    first
                      | (rw [bN_n (P := allB (soP N t k (dks N B k t p) rd rl ra) (j + 1) = true) (by rw [allB_s, Bool.eq_false_iff.mpr c29]; exact Bool.false_ne_true)] at e; exact e)
                      | (rw [bN_y (P := allB (soP N t k (dks N B k t p) rd rl ra) (j + 1) = true) (by rw [allB_s, c29]; exact decide_eq_true (fun z => absurd z c39))] at e; exact e)
                      | (rw [bN_y (P := allB (soP N t k (dks N B k t p) rd rl ra) (j + 1) = true) (by rw [allB_s, c29]; exact decide_eq_true (fun _ => lI_inj (lg_31 hN) (fun a z => by have := hR.gN (j := j) (by omega) z; omega) c58))] at e; exact e)
                      | (rw [bN_n (P := allB (soP N t k (dks N B k t p) rd rl ra) (j + 1) = true) (by rw [allB_s, c29]; exact fun w => c58 (by rw [of_decide_eq_true (show decide (rd j = t → lg N k (dks N B k t p) (rl j) = ra j) = true from w) c39]))] at e; exact e)
                  · refine j_aload_n C 0 dX8_areSo_42 rfl rfl ?_
                    refine j_aload_n C 0 dX8_areSo_43 rfl rfl ?_
                    refine j_get C mh0 19 mh3 0 rfl rfl (by decide) rfl rfl dX8_areSo_44 ?_
                    refine j_iload_n C 3 dX8_areSo_47 rfl rfl ?_
                    have := hR.d10 (j := j) (by omega)
                    have := hR.mN (j := j) (by omega)
                    refine j_iald (v := nI (rl j)) C 12 rfl (by omega) (by decide) (hR.m (by omega)) dX8_areSo_48 ?_
                    refine j_callV0 (As := [.int (nI (rl j))]) (rest := []) C (c_X8_lighterOf mm fl tv so sg ce N B kf pf1 vat vrm vrb rk rp lf1 tf1 (fil pf kp 36) c df mf gf k (dks N B k t p) h8_2 (rl j) (by omega)) gX8_areSo_X8_lighterOf rfl 1 rfl (by decide +kernel) (by decide) 0 rfl rfl (Nat.le_of_ble_eq_true rfl) dX8_areSo_49 rfl (fun _ _ => ?_)
                    show J X (wM mm cy fl tv so sg ce (nI N) (nI B) kf pf1 vat vrm vrb rk rp lf1 tf1 (fil pf kp 36) (nI c) df mf gf) 52 [(0, .ref (mm 0)), (1, .int (nI (bN (allB (soP N t k (dks N B k t p) rd rl ra) j = true)))), (2, .int (nI t)), (3, .int (nI j))] [.int (lI (lg N k (dks N B k t p) (rl j)))]
                    refine j_aload_n C 0 dX8_areSo_52 rfl rfl ?_
                    refine j_get C mh0 20 mh4 0 rfl rfl (by decide) rfl rfl dX8_areSo_53 ?_
                    refine j_iload_n C 3 dX8_areSo_56 rfl rfl ?_
                    have := hR.d10 (j := j) (by omega)
                    have := hR.mN (j := j) (by omega)
                    refine j_iald (v := lI (ra j)) C 13 rfl (by omega) (by decide) (hR.g (by omega)) dX8_areSo_57 ?_
                    refine j_icmp_ne (tgt := 65) C dX8_areSo_58 (by decide) (fun c58 => ?_) (fun c58 => ?_)
                    · refine j_iconst (v := nI 0) C dX8_areSo_65 (by decide) ?_
                      refine j_istore_n (lv' := [(1, .int (nI 0)), (0, .ref (mm 0)), (2, .int (nI t)), (3, .int (nI j))]) C dX8_areSo_66 rfl (by decide) rfl ?_
                      refine j_iinc (v := nI (j + 1)) (lv' := [(3, .int (nI (j + 1))), (1, .int (nI 0)), (0, .ref (mm 0)), (2, .int (nI t))]) C 3 dX8_areSo_67 rfl (nI_inc j) (by decide) rfl ?_
                      refine j_goto (tgt := 20) C dX8_areSo_70 (by decide) ?_
                      refine J.sub [2, 1, 3, 0] rfl ?_
                      have e := ih20 (j + 1) (by omega) (by omega)
                      first
                        | (rw [bN_n (P := allB (soP N t k (dks N B k t p) rd rl ra) (j + 1) = true) (by rw [allB_s, Bool.eq_false_iff.mpr c29]; exact Bool.false_ne_true)] at e; exact e)
                        | (rw [bN_y (P := allB (soP N t k (dks N B k t p) rd rl ra) (j + 1) = true) (by rw [allB_s, c29]; exact decide_eq_true (fun z => absurd z c39))] at e; exact e)
                        | (rw [bN_y (P := allB (soP N t k (dks N B k t p) rd rl ra) (j + 1) = true) (by rw [allB_s, c29]; exact decide_eq_true (fun _ => lI_inj (lg_31 hN) (fun a z => by have := hR.gN (j := j) (by omega) z; omega) c58))] at e; exact e)
                        | (rw [bN_n (P := allB (soP N t k (dks N B k t p) rd rl ra) (j + 1) = true) (by rw [allB_s, c29]; exact fun w => c58 (by rw [of_decide_eq_true (show decide (rd j = t → lg N k (dks N B k t p) (rl j) = ra j) = true from w) c39]))] at e; exact e)
                    · refine j_iconst (v := nI 1) C dX8_areSo_61 (by decide) ?_
                      refine j_goto (tgt := 66) C dX8_areSo_62 (by decide) ?_
                      refine j_istore_n (lv' := [(1, .int (nI 1)), (0, .ref (mm 0)), (2, .int (nI t)), (3, .int (nI j))]) C dX8_areSo_66 rfl (by decide) rfl ?_
                      refine j_iinc (v := nI (j + 1)) (lv' := [(3, .int (nI (j + 1))), (1, .int (nI 1)), (0, .ref (mm 0)), (2, .int (nI t))]) C 3 dX8_areSo_67 rfl (nI_inc j) (by decide) rfl ?_
                      refine j_goto (tgt := 20) C dX8_areSo_70 (by decide) ?_
                      refine J.sub [2, 1, 3, 0] rfl ?_
                      have e := ih20 (j + 1) (by omega) (by omega)
                      first
                        | (rw [bN_n (P := allB (soP N t k (dks N B k t p) rd rl ra) (j + 1) = true) (by rw [allB_s, Bool.eq_false_iff.mpr c29]; exact Bool.false_ne_true)] at e; exact e)
                        | (rw [bN_y (P := allB (soP N t k (dks N B k t p) rd rl ra) (j + 1) = true) (by rw [allB_s, c29]; exact decide_eq_true (fun z => absurd z c39))] at e; exact e)
                        | (rw [bN_y (P := allB (soP N t k (dks N B k t p) rd rl ra) (j + 1) = true) (by rw [allB_s, c29]; exact decide_eq_true (fun _ => lI_inj (lg_31 hN) (fun a z => by have := hR.gN (j := j) (by omega) z; omega) c58))] at e; exact e)
                        | (rw [bN_n (P := allB (soP N t k (dks N B k t p) rd rl ra) (j + 1) = true) (by rw [allB_s, c29]; exact fun w => c58 (by rw [of_decide_eq_true (show decide (rd j = t → lg N k (dks N B k t p) (rl j) = ra j) = true from w) c39]))] at e; exact e)
          have e := L20 (c + 1) 0 (by omega) (by omega)
          exact e
  have e := L8 12 0 pf lf tf (by omega) (by omega) hT
  exact e
set_option maxHeartbeats 4000000 in
set_option maxRecDepth 20000 in
theorem c_X8_owes {l : Launch} {D : va_G} {cy : Nat → ClassId} (mm : Nat → Nat) (fl tv : Int32) (so sg ce : Nat → Int32) (N B : Nat) (kf pf : Nat → Int32) (vat vrm vrb : Int32) (rk rp lf tf kp : Nat → Int32) (c : Nat) (df mf gf : Nat → Int32) (k : Nat → Nat) (p : Nat → Nat → Nat) (rd rl : Nat → Nat) (ra : Nat → Option Nat) (hs : Nat → Bool) (sl sa : Nat → Nat) (sc : Nat → Nat → Int32) (hX : MI ((N, B, k, p), (c, rd, rl, ra), (hs, sl, sa, sc), tv, fl) (fl, tv, so, sg, ce, nI N, nI B, kf, pf, vat, vrm, vrb, rk, rp, lf, tf, kp, nI c, df, mf, gf)) (x y : Int32)  : Ct l yX8_owes wsX8_owes ({ frames := 1, cells := 0, slots := 0, locals := 21 }) D cy [.ref (mm 0), .int x, .int y] (wM mm cy fl tv so sg ce (nI N) (nI B) kf pf vat vrm vrb rk rp lf tf kp (nI c) df mf gf) (fun u : MS => MI (m_owes ((N, B, k, p), (c, rd, rl, ra), (hs, sl, sa, sc), tv, fl) x y).2 u) (fun _ => some (.int (m_owes ((N, B, k, p), (c, rd, rl, ra), (hs, sl, sa, sc), tv, fl) x y).1)) (fun u => wMu mm cy u) := by
  refine Ct.of (cc := cX8_owes) (nL := 3) (ret := (some .int)) rfl (by decide) ⟨rfl, rfl⟩ (Nat.le_of_ble_eq_true rfl) ?_
  intro X C E
  have C : Cx X l D cy cX8_owes 3 wsX8_owes RX8 ({ frames := 1, cells := 0, slots := 0, locals := 21 }) := C
  have mh0 : ∀ w ∈ u_ws RX8 TX8 21, w ∈ wsX8_owes := by decide +kernel
  have mh1 : Cond.fieldLink RX8 22 RX8 (TX8 8).2.1 (TX8 8).2.2.1 ∈ wsX8_owes := by decide +kernel
  obtain ⟨-, ⟨hB, hN2⟩, hT, hR, hS⟩ := hX
  have hN := hT.n
  have hc8 := hR.1
  have hN30 : N ≤ 2 ^ 30 := by omega
  show J X (wM mm cy fl tv so sg ce (nI N) (nI B) kf pf vat vrm vrb rk rp lf tf kp (nI c) df mf gf) 0 [(0, .ref (mm 0)), (1, .int x), (2, .int y)] []
  refine j_aload_n C 0 dX8_owes_0 rfl rfl ?_
  refine j_iload_n C 1 dX8_owes_1 rfl rfl ?_
  refine j_callV0 (As := [.int x]) (rest := []) C (c_X8_isPerson mm fl tv so sg ce N B kf pf vat vrm vrb rk rp lf tf kp c df mf gf (x) hN) gX8_owes_X8_isPerson rfl 1 rfl (by decide +kernel) (by decide) 0 rfl rfl (Nat.le_of_ble_eq_true rfl) dX8_owes_2 rfl (fun _ _ => ?_)
  show J X (wM mm cy fl tv so sg ce (nI N) (nI B) kf pf vat vrm vrb rk rp lf tf kp (nI c) df mf gf) 5 [(0, .ref (mm 0)), (1, .int x), (2, .int y)] [.int (nI (bN ((pOf N (x)).isSome = true)))]
  refine j_if_eqN (tgt := 29) C dX8_owes_5 (by decide) (bN_lt _) (fun c5 => ?_) (fun c5 => ?_)
  · have c5 := bN_0.mp c5
    have qa1 := pOf_n c5
    refine j_iconst (v := (-1)) C dX8_owes_29 (by decide) ?_
    exact j_iret C E dX8_owes_30 (fl, tv, so, sg, ce, nI N, nI B, kf, pf, vat, vrm, vrb, rk, rp, lf, tf, kp, nI c, df, mf, gf) (by rw [show m_owes ((N, B, k, p), (c, rd, rl, ra), (hs, sl, sa, sc), tv, fl) x y = ((-1), ((N, B, k, p), (c, rd, rl, ra), (hs, sl, sa, sc), tv, fl)) from (by simp only [m_owes, qa1]; try rfl)]; exact MI.mk hB hN2 hT hR hS) (by rw [show m_owes ((N, B, k, p), (c, rd, rl, ra), (hs, sl, sa, sc), tv, fl) x y = ((-1), ((N, B, k, p), (c, rd, rl, ra), (hs, sl, sa, sc), tv, fl)) from (by simp only [m_owes, qa1]; try rfl)]) rfl
  · have c5 := bN_1.mp c5
    obtain ⟨a1, ha1, rfl⟩ := pY hN30 c5
    have qa1 := pI ha1 hN30
    show J X (wM mm cy fl tv so sg ce (nI N) (nI B) kf pf vat vrm vrb rk rp lf tf kp (nI c) df mf gf) 8 [(0, .ref (mm 0)), (1, .int (nI a1)), (2, .int y)] []
    refine j_aload_n C 0 dX8_owes_8 rfl rfl ?_
    refine j_iload_n C 2 dX8_owes_9 rfl rfl ?_
    refine j_callV0 (As := [.int y]) (rest := []) C (c_X8_isPerson mm fl tv so sg ce N B kf pf vat vrm vrb rk rp lf tf kp c df mf gf (y) hN) gX8_owes_X8_isPerson rfl 1 rfl (by decide +kernel) (by decide) 0 rfl rfl (Nat.le_of_ble_eq_true rfl) dX8_owes_10 rfl (fun _ _ => ?_)
    show J X (wM mm cy fl tv so sg ce (nI N) (nI B) kf pf vat vrm vrb rk rp lf tf kp (nI c) df mf gf) 13 [(0, .ref (mm 0)), (1, .int (nI a1)), (2, .int y)] [.int (nI (bN ((pOf N (y)).isSome = true)))]
    refine j_if_eqN (tgt := 29) C dX8_owes_13 (by decide) (bN_lt _) (fun c13 => ?_) (fun c13 => ?_)
    · have c13 := bN_0.mp c13
      have qa2 := pOf_n c13
      refine j_iconst (v := (-1)) C dX8_owes_29 (by decide) ?_
      exact j_iret C E dX8_owes_30 (fl, tv, so, sg, ce, nI N, nI B, kf, pf, vat, vrm, vrb, rk, rp, lf, tf, kp, nI c, df, mf, gf) (by rw [show m_owes ((N, B, k, p), (c, rd, rl, ra), (hs, sl, sa, sc), tv, fl) (nI a1) y = ((-1), ((N, B, k, p), (c, rd, rl, ra), (hs, sl, sa, sc), tv, fl)) from (by simp only [m_owes, qa1, qa2]; try rfl)]; exact MI.mk hB hN2 hT hR hS) (by rw [show m_owes ((N, B, k, p), (c, rd, rl, ra), (hs, sl, sa, sc), tv, fl) (nI a1) y = ((-1), ((N, B, k, p), (c, rd, rl, ra), (hs, sl, sa, sc), tv, fl)) from (by simp only [m_owes, qa1, qa2]; try rfl)]) rfl
    · have c13 := bN_1.mp c13
      obtain ⟨a2, ha2, rfl⟩ := pY hN30 c13
      have qa2 := pI ha2 hN30
      show J X (wM mm cy fl tv so sg ce (nI N) (nI B) kf pf vat vrm vrb rk rp lf tf kp (nI c) df mf gf) 16 [(0, .ref (mm 0)), (1, .int (nI a1)), (2, .int (nI a2))] []
      refine j_aload_n C 0 dX8_owes_16 rfl rfl ?_
      refine j_get C mh0 8 mh1 0 rfl rfl (by decide) rfl rfl dX8_owes_17 ?_
      refine j_iload_n C 1 dX8_owes_20 rfl rfl ?_
      refine j_iload_n C 2 dX8_owes_21 rfl rfl ?_
      refine j_callP (As := [.int (nI a1), .int (nI a2)]) (rest := [.ref (mm 5)]) C (c_X8_spot a1 a2) gX8_owes_X8_spot rfl 2 rfl (by decide +kernel) (by decide) (Nat.le_of_ble_eq_true rfl) dX8_owes_22 rfl (fun _ _ => ?_)
      show J X (wM mm cy fl tv so sg ce (nI N) (nI B) kf pf vat vrm vrb rk rp lf tf kp (nI c) df mf gf) 25 [(0, .ref (mm 0)), (1, .int (nI a1)), (2, .int (nI a2))] [.int (nI (6 * a1 + a2)), .ref (mm 5)]
      have := hT.p9 (a := a1) (b := a2) (by omega) (by omega)
      refine j_iald (v := nI (p a1 a2)) C 5 rfl (by omega) (by decide) (hT.pp (a := a1) (b := a2) (by omega) (by omega)) dX8_owes_25 ?_
      refine j_goto (tgt := 30) C dX8_owes_26 (by decide) ?_
      exact j_iret C E dX8_owes_30 (fl, tv, so, sg, ce, nI N, nI B, kf, pf, vat, vrm, vrb, rk, rp, lf, tf, kp, nI c, df, mf, gf) (by rw [show m_owes ((N, B, k, p), (c, rd, rl, ra), (hs, sl, sa, sc), tv, fl) (nI a1) (nI a2) = (nI (p a1 a2), ((N, B, k, p), (c, rd, rl, ra), (hs, sl, sa, sc), tv, fl)) from (by simp only [m_owes, qa1, qa2]; try rfl)]; exact MI.mk hB hN2 hT hR hS) (by rw [show m_owes ((N, B, k, p), (c, rd, rl, ra), (hs, sl, sa, sc), tv, fl) (nI a1) (nI a2) = (nI (p a1 a2), ((N, B, k, p), (c, rd, rl, ra), (hs, sl, sa, sc), tv, fl)) from (by simp only [m_owes, qa1, qa2]; try rfl)]) rfl
set_option maxHeartbeats 4000000 in
set_option maxRecDepth 20000 in
theorem c_X8_weight {l : Launch} {D : va_G} {cy : Nat → ClassId} (mm : Nat → Nat) (fl tv : Int32) (so sg ce : Nat → Int32) (N B : Nat) (kf pf : Nat → Int32) (vat vrm vrb : Int32) (rk rp lf tf kp : Nat → Int32) (c : Nat) (df mf gf : Nat → Int32) (k : Nat → Nat) (p : Nat → Nat → Nat) (rd rl : Nat → Nat) (ra : Nat → Option Nat) (hs : Nat → Bool) (sl sa : Nat → Nat) (sc : Nat → Nat → Int32) (hX : MI ((N, B, k, p), (c, rd, rl, ra), (hs, sl, sa, sc), tv, fl) (fl, tv, so, sg, ce, nI N, nI B, kf, pf, vat, vrm, vrb, rk, rp, lf, tf, kp, nI c, df, mf, gf)) (x y : Int32)  : Ct l yX8_weight wsX8_weight ({ frames := 2, cells := 0, slots := 0, locals := 44 }) D cy [.ref (mm 0), .int x, .int y] (wM mm cy fl tv so sg ce (nI N) (nI B) kf pf vat vrm vrb rk rp lf tf kp (nI c) df mf gf) (fun u : MS => MI (m_weight ((N, B, k, p), (c, rd, rl, ra), (hs, sl, sa, sc), tv, fl) x y).2 u) (fun _ => some (.int (m_weight ((N, B, k, p), (c, rd, rl, ra), (hs, sl, sa, sc), tv, fl) x y).1)) (fun u => wMu mm cy u) := by
  refine Ct.of (cc := cX8_weight) (nL := 3) (ret := (some .int)) rfl (by decide) ⟨rfl, rfl⟩ (Nat.le_of_ble_eq_true rfl) ?_
  intro X C E
  have C : Cx X l D cy cX8_weight 3 wsX8_weight RX8 ({ frames := 2, cells := 0, slots := 0, locals := 44 }) := C
  obtain ⟨-, ⟨hB, hN2⟩, hT, hR, hS⟩ := hX
  have hN := hT.n
  have hc8 := hR.1
  have hN30 : N ≤ 2 ^ 30 := by omega
  show J X (wM mm cy fl tv so sg ce (nI N) (nI B) kf pf vat vrm vrb rk rp lf tf kp (nI c) df mf gf) 0 [(0, .ref (mm 0)), (1, .int x), (2, .int y)] []
  refine j_aload_n C 0 dX8_weight_0 rfl rfl ?_
  refine j_iload_n C 1 dX8_weight_1 rfl rfl ?_
  refine j_callV0 (As := [.int x]) (rest := []) C (c_X8_isPerson mm fl tv so sg ce N B kf pf vat vrm vrb rk rp lf tf kp c df mf gf (x) hN) gX8_weight_X8_isPerson rfl 1 rfl (by decide +kernel) (by decide) 0 rfl rfl (Nat.le_of_ble_eq_true rfl) dX8_weight_2 rfl (fun _ _ => ?_)
  show J X (wM mm cy fl tv so sg ce (nI N) (nI B) kf pf vat vrm vrb rk rp lf tf kp (nI c) df mf gf) 5 [(0, .ref (mm 0)), (1, .int x), (2, .int y)] [.int (nI (bN ((pOf N (x)).isSome = true)))]
  refine j_if_eqN (tgt := 25) C dX8_weight_5 (by decide) (bN_lt _) (fun c5 => ?_) (fun c5 => ?_)
  · have c5 := bN_0.mp c5
    have qa1 := pOf_n c5
    refine j_iconst (v := (-1)) C dX8_weight_25 (by decide) ?_
    exact j_iret C E dX8_weight_26 (fl, tv, so, sg, ce, nI N, nI B, kf, pf, vat, vrm, vrb, rk, rp, lf, tf, kp, nI c, df, mf, gf) (by rw [show m_weight ((N, B, k, p), (c, rd, rl, ra), (hs, sl, sa, sc), tv, fl) x y = ((-1), ((N, B, k, p), (c, rd, rl, ra), (hs, sl, sa, sc), tv, fl)) from (by simp only [m_weight, qa1]; try rfl)]; exact MI.mk hB hN2 hT hR hS) (by rw [show m_weight ((N, B, k, p), (c, rd, rl, ra), (hs, sl, sa, sc), tv, fl) x y = ((-1), ((N, B, k, p), (c, rd, rl, ra), (hs, sl, sa, sc), tv, fl)) from (by simp only [m_weight, qa1]; try rfl)]) rfl
  · have c5 := bN_1.mp c5
    obtain ⟨a1, ha1, rfl⟩ := pY hN30 c5
    have qa1 := pI ha1 hN30
    show J X (wM mm cy fl tv so sg ce (nI N) (nI B) kf pf vat vrm vrb rk rp lf tf kp (nI c) df mf gf) 8 [(0, .ref (mm 0)), (1, .int (nI a1)), (2, .int y)] []
    refine j_aload_n C 0 dX8_weight_8 rfl rfl ?_
    refine j_iload_n C 2 dX8_weight_9 rfl rfl ?_
    refine j_callV0 (As := [.int y]) (rest := []) C (c_X8_isPerson mm fl tv so sg ce N B kf pf vat vrm vrb rk rp lf tf kp c df mf gf (y) hN) gX8_weight_X8_isPerson rfl 1 rfl (by decide +kernel) (by decide) 0 rfl rfl (Nat.le_of_ble_eq_true rfl) dX8_weight_10 rfl (fun _ _ => ?_)
    show J X (wM mm cy fl tv so sg ce (nI N) (nI B) kf pf vat vrm vrb rk rp lf tf kp (nI c) df mf gf) 13 [(0, .ref (mm 0)), (1, .int (nI a1)), (2, .int y)] [.int (nI (bN ((pOf N (y)).isSome = true)))]
    refine j_if_eqN (tgt := 25) C dX8_weight_13 (by decide) (bN_lt _) (fun c13 => ?_) (fun c13 => ?_)
    · have c13 := bN_0.mp c13
      have qa2 := pOf_n c13
      refine j_iconst (v := (-1)) C dX8_weight_25 (by decide) ?_
      exact j_iret C E dX8_weight_26 (fl, tv, so, sg, ce, nI N, nI B, kf, pf, vat, vrm, vrb, rk, rp, lf, tf, kp, nI c, df, mf, gf) (by rw [show m_weight ((N, B, k, p), (c, rd, rl, ra), (hs, sl, sa, sc), tv, fl) (nI a1) y = ((-1), ((N, B, k, p), (c, rd, rl, ra), (hs, sl, sa, sc), tv, fl)) from (by simp only [m_weight, qa1, qa2]; try rfl)]; exact MI.mk hB hN2 hT hR hS) (by rw [show m_weight ((N, B, k, p), (c, rd, rl, ra), (hs, sl, sa, sc), tv, fl) (nI a1) y = ((-1), ((N, B, k, p), (c, rd, rl, ra), (hs, sl, sa, sc), tv, fl)) from (by simp only [m_weight, qa1, qa2]; try rfl)]) rfl
    · have c13 := bN_1.mp c13
      obtain ⟨a2, ha2, rfl⟩ := pY hN30 c13
      have qa2 := pI ha2 hN30
      show J X (wM mm cy fl tv so sg ce (nI N) (nI B) kf pf vat vrm vrb rk rp lf tf kp (nI c) df mf gf) 16 [(0, .ref (mm 0)), (1, .int (nI a1)), (2, .int (nI a2))] []
      refine j_aload_n C 0 dX8_weight_16 rfl rfl ?_
      refine j_iload_n C 1 dX8_weight_17 rfl rfl ?_
      refine j_iload_n C 2 dX8_weight_18 rfl rfl ?_
      refine j_callV0 (As := [.int (nI a1), .int (nI a2)]) (rest := []) C (c_X8_weightOf mm fl tv so sg ce N B kf pf vat vrm vrb rk rp lf tf kp c df mf gf k p hT a1 a2 (by omega) (by omega)) gX8_weight_X8_weightOf rfl 2 rfl (by decide +kernel) (by decide) 0 rfl rfl (Nat.le_of_ble_eq_true rfl) dX8_weight_19 rfl (fun _ _ => ?_)
      have := hT.w (a := a1) (b := a2) (by omega) (by omega)
      show J X (wM mm cy fl tv so sg ce (nI N) (nI B) kf pf vat vrm vrb rk rp lf tf kp (nI c) df mf gf) 22 [(0, .ref (mm 0)), (1, .int (nI a1)), (2, .int (nI a2))] [.int (nI (wt (k a1) (p a1 a2)))]
      refine j_goto (tgt := 26) C dX8_weight_22 (by decide) ?_
      exact j_iret C E dX8_weight_26 (fl, tv, so, sg, ce, nI N, nI B, kf, pf, vat, vrm, vrb, rk, rp, lf, tf, kp, nI c, df, mf, gf) (by rw [show m_weight ((N, B, k, p), (c, rd, rl, ra), (hs, sl, sa, sc), tv, fl) (nI a1) (nI a2) = (nI (wt (k a1) (p a1 a2)), ((N, B, k, p), (c, rd, rl, ra), (hs, sl, sa, sc), tv, fl)) from (by simp only [m_weight, qa1, qa2]; try rfl)]; exact MI.mk hB hN2 hT hR hS) (by rw [show m_weight ((N, B, k, p), (c, rd, rl, ra), (hs, sl, sa, sc), tv, fl) (nI a1) (nI a2) = (nI (wt (k a1) (p a1 a2)), ((N, B, k, p), (c, rd, rl, ra), (hs, sl, sa, sc), tv, fl)) from (by simp only [m_weight, qa1, qa2]; try rfl)]) rfl
set_option maxHeartbeats 4000000 in
set_option maxRecDepth 20000 in
theorem c_X8_lighter {l : Launch} {D : va_G} {cy : Nat → ClassId} (mm : Nat → Nat) (fl tv : Int32) (so sg ce : Nat → Int32) (N B : Nat) (kf pf : Nat → Int32) (vat vrm vrb : Int32) (rk rp lf tf kp : Nat → Int32) (c : Nat) (df mf gf : Nat → Int32) (k : Nat → Nat) (p : Nat → Nat → Nat) (rd rl : Nat → Nat) (ra : Nat → Option Nat) (hs : Nat → Bool) (sl sa : Nat → Nat) (sc : Nat → Nat → Int32) (hX : MI ((N, B, k, p), (c, rd, rl, ra), (hs, sl, sa, sc), tv, fl) (fl, tv, so, sg, ce, nI N, nI B, kf, pf, vat, vrm, vrb, rk, rp, lf, tf, kp, nI c, df, mf, gf)) (x : Int32)  : Ct l yX8_lighter wsX8_lighter ({ frames := 3, cells := 0, slots := 0, locals := 67 }) D cy [.ref (mm 0), .int x] (wM mm cy fl tv so sg ce (nI N) (nI B) kf pf vat vrm vrb rk rp lf tf kp (nI c) df mf gf) (fun u : MS => MI (m_lighter ((N, B, k, p), (c, rd, rl, ra), (hs, sl, sa, sc), tv, fl) x).2 u) (fun _ => some (.int (m_lighter ((N, B, k, p), (c, rd, rl, ra), (hs, sl, sa, sc), tv, fl) x).1)) (fun u => wMu mm cy u) := by
  refine Ct.of (cc := cX8_lighter) (nL := 2) (ret := (some .int)) rfl (by decide) ⟨rfl, rfl⟩ (Nat.le_of_ble_eq_true rfl) ?_
  intro X C E
  have C : Cx X l D cy cX8_lighter 2 wsX8_lighter RX8 ({ frames := 3, cells := 0, slots := 0, locals := 67 }) := C
  obtain ⟨-, ⟨hB, hN2⟩, hT, hR, hS⟩ := hX
  have hN := hT.n
  have hc8 := hR.1
  have hN30 : N ≤ 2 ^ 30 := by omega
  show J X (wM mm cy fl tv so sg ce (nI N) (nI B) kf pf vat vrm vrb rk rp lf tf kp (nI c) df mf gf) 0 [(0, .ref (mm 0)), (1, .int x)] []
  refine j_aload_n C 0 dX8_lighter_0 rfl rfl ?_
  refine j_iload_n C 1 dX8_lighter_1 rfl rfl ?_
  refine j_callV0 (As := [.int x]) (rest := []) C (c_X8_isPerson mm fl tv so sg ce N B kf pf vat vrm vrb rk rp lf tf kp c df mf gf (x) hN) gX8_lighter_X8_isPerson rfl 1 rfl (by decide +kernel) (by decide) 0 rfl rfl (Nat.le_of_ble_eq_true rfl) dX8_lighter_2 rfl (fun _ _ => ?_)
  show J X (wM mm cy fl tv so sg ce (nI N) (nI B) kf pf vat vrm vrb rk rp lf tf kp (nI c) df mf gf) 5 [(0, .ref (mm 0)), (1, .int x)] [.int (nI (bN ((pOf N (x)).isSome = true)))]
  refine j_if_eqN (tgt := 16) C dX8_lighter_5 (by decide) (bN_lt _) (fun c5 => ?_) (fun c5 => ?_)
  · have c5 := bN_0.mp c5
    have qb1 := pOf_n c5
    refine j_iconst (v := (-1)) C dX8_lighter_16 (by decide) ?_
    exact j_iret C E dX8_lighter_17 (fl, tv, so, sg, ce, nI N, nI B, kf, pf, vat, vrm, vrb, rk, rp, lf, tf, kp, nI c, df, mf, gf) (by rw [show m_lighter ((N, B, k, p), (c, rd, rl, ra), (hs, sl, sa, sc), tv, fl) x = ((-1), ((N, B, k, p), (c, rd, rl, ra), (hs, sl, sa, sc), tv, fl)) from (by simp only [m_lighter, qb1]; try rfl)]; exact MI.mk hB hN2 hT hR hS) (by rw [show m_lighter ((N, B, k, p), (c, rd, rl, ra), (hs, sl, sa, sc), tv, fl) x = ((-1), ((N, B, k, p), (c, rd, rl, ra), (hs, sl, sa, sc), tv, fl)) from (by simp only [m_lighter, qb1]; try rfl)]) rfl
  · have c5 := bN_1.mp c5
    obtain ⟨b1, hb1, rfl⟩ := pY hN30 c5
    have qb1 := pI hb1 hN30
    show J X (wM mm cy fl tv so sg ce (nI N) (nI B) kf pf vat vrm vrb rk rp lf tf kp (nI c) df mf gf) 8 [(0, .ref (mm 0)), (1, .int (nI b1))] []
    refine j_aload_n C 0 dX8_lighter_8 rfl rfl ?_
    refine j_iload_n C 1 dX8_lighter_9 rfl rfl ?_
    refine j_callV0 (As := [.int (nI b1)]) (rest := []) C (c_X8_lighterOf mm fl tv so sg ce N B kf pf vat vrm vrb rk rp lf tf kp c df mf gf k p hT b1 (by omega)) gX8_lighter_X8_lighterOf rfl 1 rfl (by decide +kernel) (by decide) 0 rfl rfl (Nat.le_of_ble_eq_true rfl) dX8_lighter_10 rfl (fun _ _ => ?_)
    show J X (wM mm cy fl tv so sg ce (nI N) (nI B) kf pf vat vrm vrb rk rp lf tf kp (nI c) df mf gf) 13 [(0, .ref (mm 0)), (1, .int (nI b1))] [.int (lI (lg N k p b1))]
    refine j_goto (tgt := 17) C dX8_lighter_13 (by decide) ?_
    exact j_iret C E dX8_lighter_17 (fl, tv, so, sg, ce, nI N, nI B, kf, pf, vat, vrm, vrb, rk, rp, lf, tf, kp, nI c, df, mf, gf) (by rw [show m_lighter ((N, B, k, p), (c, rd, rl, ra), (hs, sl, sa, sc), tv, fl) (nI b1) = (lI (lg N k p b1), ((N, B, k, p), (c, rd, rl, ra), (hs, sl, sa, sc), tv, fl)) from (by simp only [m_lighter, qb1]; try rfl)]; exact MI.mk hB hN2 hT hR hS) (by rw [show m_lighter ((N, B, k, p), (c, rd, rl, ra), (hs, sl, sa, sc), tv, fl) (nI b1) = (lI (lg N k p b1), ((N, B, k, p), (c, rd, rl, ra), (hs, sl, sa, sc), tv, fl)) from (by simp only [m_lighter, qb1]; try rfl)]) rfl
set_option maxHeartbeats 4000000 in
set_option maxRecDepth 20000 in
theorem c_X8_owe {l : Launch} {D : va_G} {cy : Nat → ClassId} (mm : Nat → Nat) (fl tv : Int32) (so sg ce : Nat → Int32) (N B : Nat) (kf pf : Nat → Int32) (vat vrm vrb : Int32) (rk rp lf tf kp : Nat → Int32) (c : Nat) (df mf gf : Nat → Int32) (k : Nat → Nat) (p : Nat → Nat → Nat) (rd rl : Nat → Nat) (ra : Nat → Option Nat) (hs : Nat → Bool) (sl sa : Nat → Nat) (sc : Nat → Nat → Int32) (hX : MI ((N, B, k, p), (c, rd, rl, ra), (hs, sl, sa, sc), tv, fl) (fl, tv, so, sg, ce, nI N, nI B, kf, pf, vat, vrm, vrb, rk, rp, lf, tf, kp, nI c, df, mf, gf)) (x y v : Int32)  : Ct l yX8_owe wsX8_owe ({ frames := 2, cells := 0, slots := 0, locals := 43 }) D cy [.ref (mm 0), .int x, .int y, .int v] (wM mm cy fl tv so sg ce (nI N) (nI B) kf pf vat vrm vrb rk rp lf tf kp (nI c) df mf gf) (fun u : MS => MI (m_owe ((N, B, k, p), (c, rd, rl, ra), (hs, sl, sa, sc), tv, fl) x y v).2 u) (fun _ => some (.int (m_owe ((N, B, k, p), (c, rd, rl, ra), (hs, sl, sa, sc), tv, fl) x y v).1)) (fun u => wMu mm cy u) := by
  refine Ct.of (cc := cX8_owe) (nL := 5) (ret := (some .int)) rfl (by decide) ⟨rfl, rfl⟩ (Nat.le_of_ble_eq_true rfl) ?_
  intro X C E
  have C : Cx X l D cy cX8_owe 5 wsX8_owe RX8 ({ frames := 2, cells := 0, slots := 0, locals := 43 }) := C
  have mh0 : ∀ w ∈ u_ws RX8 TX8 21, w ∈ wsX8_owe := by decide +kernel
  have mh1 : Cond.fieldLink RX8 22 RX8 (TX8 8).2.1 (TX8 8).2.2.1 ∈ wsX8_owe := by decide +kernel
  obtain ⟨-, ⟨hB, hN2⟩, hT, hR, hS⟩ := hX
  have hN := hT.n
  have hc8 := hR.1
  have hN30 : N ≤ 2 ^ 30 := by omega
  show J X (wM mm cy fl tv so sg ce (nI N) (nI B) kf pf vat vrm vrb rk rp lf tf kp (nI c) df mf gf) 0 [(0, .ref (mm 0)), (1, .int x), (2, .int y), (3, .int v)] []
  refine j_aload_n C 0 dX8_owe_0 rfl rfl ?_
  refine j_iload_n C 1 dX8_owe_1 rfl rfl ?_
  refine j_iload_n C 2 dX8_owe_2 rfl rfl ?_
  refine j_callV0 (As := [.int x, .int y]) (rest := []) C (c_X8_areTwo mm fl tv so sg ce N B kf pf vat vrm vrb rk rp lf tf kp c df mf gf (x) (y) hN) gX8_owe_X8_areTwo rfl 2 rfl (by decide +kernel) (by decide) 0 rfl rfl (Nat.le_of_ble_eq_true rfl) dX8_owe_3 rfl (fun _ _ => ?_)
  show J X (wM mm cy fl tv so sg ce (nI N) (nI B) kf pf vat vrm vrb rk rp lf tf kp (nI c) df mf gf) 6 [(0, .ref (mm 0)), (1, .int x), (2, .int y), (3, .int v)] [.int (nI (bN ((pOf N x).isSome = true ∧ (pOf N y).isSome = true ∧ ¬ x = y)))]
  refine j_if_neN (tgt := 11) C dX8_owe_6 (by decide) (bN_lt _) (fun c6 => ?_) (fun c6 => ?_)
  · have c6 := bN_1.mp c6
    obtain ⟨a1, ha1, rfl⟩ := pY hN30 c6.1
    obtain ⟨a2, ha2, rfl⟩ := pY hN30 c6.2.1
    have qa1 := pI ha1 hN30
    have qa2 := pI ha2 hN30
    have qne : ¬ a1 = a2 := fun z => c6.2.2 (by rw [z])
    show J X (wM mm cy fl tv so sg ce (nI N) (nI B) kf pf vat vrm vrb rk rp lf tf kp (nI c) df mf gf) 11 [(0, .ref (mm 0)), (1, .int (nI a1)), (2, .int (nI a2)), (3, .int v)] []
    refine j_iload_n C 3 dX8_owe_11 rfl rfl ?_
    refine j_iconst (v := nI 0) C dX8_owe_12 (by decide) ?_
    refine j_bipush (v := nI 9) C dX8_owe_13 (by decide) ?_
    refine j_callP (As := [.int v, .int (nI 0), .int (nI 9)]) (rest := []) C (c_X8_withinP (v) 9 (by omega)) gX8_owe_X8_within rfl 3 rfl (by decide +kernel) (by decide) (Nat.le_of_ble_eq_true rfl) dX8_owe_15 rfl (fun _ _ => ?_)
    show J X (wM mm cy fl tv so sg ce (nI N) (nI B) kf pf vat vrm vrb rk rp lf tf kp (nI c) df mf gf) 18 [(0, .ref (mm 0)), (1, .int (nI a1)), (2, .int (nI a2)), (3, .int v)] [.int (nI (bN ((pOf 10 (v)).isSome = true)))]
    refine j_if_neN (tgt := 24) C dX8_owe_18 (by decide) (bN_lt _) (fun c18 => ?_) (fun c18 => ?_)
    · have c18 := bN_1.mp c18
      obtain ⟨w1, hw1, rfl⟩ := pY (by decide) c18
      have qw1 := pI hw1 (by decide)
      show J X (wM mm cy fl tv so sg ce (nI N) (nI B) kf pf vat vrm vrb rk rp lf tf kp (nI c) df mf gf) 24 [(0, .ref (mm 0)), (1, .int (nI a1)), (2, .int (nI a2)), (3, .int (nI w1))] []
      refine j_aload_n C 0 dX8_owe_24 rfl rfl ?_
      refine j_get C mh0 8 mh1 0 rfl rfl (by decide) rfl rfl dX8_owe_25 ?_
      refine j_iload_n C 1 dX8_owe_28 rfl rfl ?_
      refine j_iload_n C 2 dX8_owe_29 rfl rfl ?_
      refine j_callP (As := [.int (nI a1), .int (nI a2)]) (rest := [.ref (mm 5)]) C (c_X8_spot a1 a2) gX8_owe_X8_spot rfl 2 rfl (by decide +kernel) (by decide) (Nat.le_of_ble_eq_true rfl) dX8_owe_30 rfl (fun _ _ => ?_)
      show J X (wM mm cy fl tv so sg ce (nI N) (nI B) kf pf vat vrm vrb rk rp lf tf kp (nI c) df mf gf) 33 [(0, .ref (mm 0)), (1, .int (nI a1)), (2, .int (nI a2)), (3, .int (nI w1))] [.int (nI (6 * a1 + a2)), .ref (mm 5)]
      have := hT.p9 (a := a1) (b := a2) (by omega) (by omega)
      refine j_iald (v := nI (p a1 a2)) C 5 rfl (by omega) (by decide) (hT.pp (a := a1) (b := a2) (by omega) (by omega)) dX8_owe_33 ?_
      refine j_istore (lv' := [(4, .int (nI (p a1 a2))), (0, .ref (mm 0)), (1, .int (nI a1)), (2, .int (nI a2)), (3, .int (nI w1))]) C dX8_owe_34 (by decide) rfl ?_
      refine j_aload_n C 1 dX8_owe_36 rfl rfl ?_
      refine j_get C mh0 8 mh1 0 rfl rfl (by decide) rfl rfl dX8_owe_37 ?_
      refine j_iload_n C 2 dX8_owe_40 rfl rfl ?_
      refine j_iload_n C 3 dX8_owe_41 rfl rfl ?_
      refine j_callP (As := [.int (nI a1), .int (nI a2)]) (rest := [.ref (mm 5)]) C (c_X8_spot a1 a2) gX8_owe_X8_spot rfl 2 rfl (by decide +kernel) (by decide) (Nat.le_of_ble_eq_true rfl) dX8_owe_42 rfl (fun _ _ => ?_)
      show J X (wM mm cy fl tv so sg ce (nI N) (nI B) kf pf vat vrm vrb rk rp lf tf kp (nI c) df mf gf) 45 [(4, .int (nI (p a1 a2))), (0, .ref (mm 0)), (1, .int (nI a1)), (2, .int (nI a2)), (3, .int (nI w1))] [.int (nI (6 * a1 + a2)), .ref (mm 5)]
      refine j_iload_n C 4 dX8_owe_45 rfl rfl ?_
      refine j_iast (ws' := wM mm cy fl tv so sg ce (nI N) (nI B) kf (upd pf (6 * a1 + a2) (nI w1)) vat vrm vrb rk rp lf tf kp (nI c) df mf gf) C 5 rfl (by omega) (by decide) rfl dX8_owe_46 ?_
      refine j_iload C 0 dX8_owe_47 rfl ?_
      exact j_iret C E dX8_owe_49 (fl, tv, so, sg, ce, nI N, nI B, kf, upd pf (6 * a1 + a2) (nI w1), vat, vrm, vrb, rk, rp, lf, tf, kp, nI c, df, mf, gf) (by rw [show m_owe ((N, B, k, p), (c, rd, rl, ra), (hs, sl, sa, sc), tv, fl) (nI a1) (nI a2) (nI w1) = (nI (p a1 a2), ((N, B, k, setp p a1 a2 w1), (c, rd, rl, ra), (hs, sl, sa, sc), tv, fl)) from (by simp only [m_owe, qa1, qa2, qne, qw1, if_false]; try rfl)]; exact MI.mk hB hN2 (ag_setM hT ha1 ha2 qne (by omega)) hR hS) (by rw [show m_owe ((N, B, k, p), (c, rd, rl, ra), (hs, sl, sa, sc), tv, fl) (nI a1) (nI a2) (nI w1) = (nI (p a1 a2), ((N, B, k, setp p a1 a2 w1), (c, rd, rl, ra), (hs, sl, sa, sc), tv, fl)) from (by simp only [m_owe, qa1, qa2, qne, qw1, if_false]; try rfl)]) rfl
    · have c18 := bN_0.mp c18
      have qw1 := pOf_n c18
      refine j_bipush (v := (-2)) C dX8_owe_21 (by decide) ?_
      exact j_iret C E dX8_owe_23 (fl, tv, so, sg, ce, nI N, nI B, kf, pf, vat, vrm, vrb, rk, rp, lf, tf, kp, nI c, df, mf, gf) (by rw [show m_owe ((N, B, k, p), (c, rd, rl, ra), (hs, sl, sa, sc), tv, fl) (nI a1) (nI a2) v = ((-2), ((N, B, k, p), (c, rd, rl, ra), (hs, sl, sa, sc), tv, fl)) from (by simp only [m_owe, qa1, qa2, qne, qw1, if_false]; try rfl)]; exact MI.mk hB hN2 hT hR hS) (by rw [show m_owe ((N, B, k, p), (c, rd, rl, ra), (hs, sl, sa, sc), tv, fl) (nI a1) (nI a2) v = ((-2), ((N, B, k, p), (c, rd, rl, ra), (hs, sl, sa, sc), tv, fl)) from (by simp only [m_owe, qa1, qa2, qne, qw1, if_false]; try rfl)]) rfl
  · have c6 := bN_0.mp c6
    refine j_iconst (v := (-1)) C dX8_owe_9 (by decide) ?_
    exact j_iret C E dX8_owe_10 (fl, tv, so, sg, ce, nI N, nI B, kf, pf, vat, vrm, vrb, rk, rp, lf, tf, kp, nI c, df, mf, gf) (by rw [show m_owe ((N, B, k, p), (c, rd, rl, ra), (hs, sl, sa, sc), tv, fl) x y v = ((-1), ((N, B, k, p), (c, rd, rl, ra), (hs, sl, sa, sc), tv, fl)) from (by rcases two_n hN c6 with e | ⟨a, e, e2⟩ | ⟨a, e, e2⟩ <;> first | (simp only [m_owe, e]; done) | (simp only [m_owe, e]; rfl) | (simp only [m_owe, e, e2]; done) | (simp only [m_owe, e, e2]; rfl) | (simp only [m_owe, e, e2, if_true]; done))]; exact MI.mk hB hN2 hT hR hS) (by rw [show m_owe ((N, B, k, p), (c, rd, rl, ra), (hs, sl, sa, sc), tv, fl) x y v = ((-1), ((N, B, k, p), (c, rd, rl, ra), (hs, sl, sa, sc), tv, fl)) from (by rcases two_n hN c6 with e | ⟨a, e, e2⟩ | ⟨a, e, e2⟩ <;> first | (simp only [m_owe, e]; done) | (simp only [m_owe, e]; rfl) | (simp only [m_owe, e, e2]; done) | (simp only [m_owe, e, e2]; rfl) | (simp only [m_owe, e, e2, if_true]; done))]) rfl
set_option maxHeartbeats 4000000 in
set_option maxRecDepth 20000 in
theorem c_X8_bell {l : Launch} {D : va_G} {cy : Nat → ClassId} (mm : Nat → Nat) (fl tv : Int32) (so sg ce : Nat → Int32) (N B : Nat) (kf pf : Nat → Int32) (vat vrm vrb : Int32) (rk rp lf tf kp : Nat → Int32) (c : Nat) (df mf gf : Nat → Int32) (k : Nat → Nat) (p : Nat → Nat → Nat) (rd rl : Nat → Nat) (ra : Nat → Option Nat) (hs : Nat → Bool) (sl sa : Nat → Nat) (sc : Nat → Nat → Int32) (hX : MI ((N, B, k, p), (c, rd, rl, ra), (hs, sl, sa, sc), tv, fl) (fl, tv, so, sg, ce, nI N, nI B, kf, pf, vat, vrm, vrb, rk, rp, lf, tf, kp, nI c, df, mf, gf)) (v : Int32)  : Ct l yX8_bell wsX8_bell ({ frames := 1, cells := 0, slots := 0, locals := 22 }) D cy [.ref (mm 0), .int v] (wM mm cy fl tv so sg ce (nI N) (nI B) kf pf vat vrm vrb rk rp lf tf kp (nI c) df mf gf) (fun u : MS => MI (m_bell ((N, B, k, p), (c, rd, rl, ra), (hs, sl, sa, sc), tv, fl) v).2 u) (fun _ => some (.int (m_bell ((N, B, k, p), (c, rd, rl, ra), (hs, sl, sa, sc), tv, fl) v).1)) (fun u => wMu mm cy u) := by
  refine Ct.of (cc := cX8_bell) (nL := 3) (ret := (some .int)) rfl (by decide) ⟨rfl, rfl⟩ (Nat.le_of_ble_eq_true rfl) ?_
  intro X C E
  have C : Cx X l D cy cX8_bell 3 wsX8_bell RX8 ({ frames := 1, cells := 0, slots := 0, locals := 22 }) := C
  have mh0 : ∀ w ∈ u_ws RX8 TX8 21, w ∈ wsX8_bell := by decide +kernel
  have mh1 : Cond.fieldLink RX8 60 RX8 (TX8 5).2.1 (TX8 5).2.2.1 ∈ wsX8_bell := by decide +kernel
  have mh2 : Cond.fieldLink RX8 93 RX8 (TX8 6).2.1 (TX8 6).2.2.1 ∈ wsX8_bell := by decide +kernel
  obtain ⟨-, ⟨hB, hN2⟩, hT, hR, hS⟩ := hX
  have hN := hT.n
  have hc8 := hR.1
  have hN30 : N ≤ 2 ^ 30 := by omega
  show J X (wM mm cy fl tv so sg ce (nI N) (nI B) kf pf vat vrm vrb rk rp lf tf kp (nI c) df mf gf) 0 [(0, .ref (mm 0)), (1, .int v)] []
  refine j_iload_n C 1 dX8_bell_0 rfl rfl ?_
  refine j_iconst (v := nI 0) C dX8_bell_1 (by decide) ?_
  refine j_bipush (v := nI 9) C dX8_bell_2 (by decide) ?_
  refine j_callP (As := [.int v, .int (nI 0), .int (nI 9)]) (rest := []) C (c_X8_withinP (v) 9 (by omega)) gX8_bell_X8_within rfl 3 rfl (by decide +kernel) (by decide) (Nat.le_of_ble_eq_true rfl) dX8_bell_4 rfl (fun _ _ => ?_)
  show J X (wM mm cy fl tv so sg ce (nI N) (nI B) kf pf vat vrm vrb rk rp lf tf kp (nI c) df mf gf) 7 [(0, .ref (mm 0)), (1, .int v)] [.int (nI (bN ((pOf 10 (v)).isSome = true)))]
  refine j_if_neN (tgt := 13) C dX8_bell_7 (by decide) (bN_lt _) (fun c7 => ?_) (fun c7 => ?_)
  · have c7 := bN_1.mp c7
    obtain ⟨w1, hw1, rfl⟩ := pY (by decide) c7
    have qw1 := pI hw1 (by decide)
    show J X (wM mm cy fl tv so sg ce (nI N) (nI B) kf pf vat vrm vrb rk rp lf tf kp (nI c) df mf gf) 13 [(0, .ref (mm 0)), (1, .int (nI w1))] []
    refine j_aload_n C 0 dX8_bell_13 rfl rfl ?_
    refine j_get C mh0 5 mh1 0 rfl rfl (by decide) rfl rfl dX8_bell_14 ?_
    refine j_if_neN (tgt := 23) C dX8_bell_17 (by decide) (by omega) (fun c17 => ?_) (fun c17 => ?_)
    · refine j_aload_n C 0 dX8_bell_23 rfl rfl ?_
      refine j_get C mh0 6 mh2 0 rfl rfl (by decide) rfl rfl dX8_bell_24 ?_
      refine j_istore_n (lv' := [(2, .int (nI B)), (0, .ref (mm 0)), (1, .int (nI w1))]) C dX8_bell_27 rfl (by decide) rfl ?_
      refine j_aload_n C 1 dX8_bell_28 rfl rfl ?_
      refine j_iload_n C 2 dX8_bell_29 rfl rfl ?_
      refine j_put (ws' := wM mm cy fl tv so sg ce (nI N) (nI w1) kf pf vat vrm vrb rk rp lf tf kp (nI c) df mf gf) C mh0 6 mh2 tyX8 tyX8_ok nmX8 0 rfl rfl (by decide) rfl rfl (by decide +kernel) (Nat.le_of_ble_eq_true rfl) rfl dX8_bell_30 ?_
      refine j_iload_n C 0 dX8_bell_33 rfl rfl ?_
      exact j_iret C E dX8_bell_34 (fl, tv, so, sg, ce, nI N, nI w1, kf, pf, vat, vrm, vrb, rk, rp, lf, tf, kp, nI c, df, mf, gf) (by rw [show m_bell ((N, B, k, p), (c, rd, rl, ra), (hs, sl, sa, sc), tv, fl) (nI w1) = (nI B, ((N, w1, k, p), (c, rd, rl, ra), (hs, sl, sa, sc), tv, fl)) from (by simp only [m_bell, qw1, c17, if_false]; try rfl)]; exact MI.mk (by omega) hN2 hT hR hS) (by rw [show m_bell ((N, B, k, p), (c, rd, rl, ra), (hs, sl, sa, sc), tv, fl) (nI w1) = (nI B, ((N, w1, k, p), (c, rd, rl, ra), (hs, sl, sa, sc), tv, fl)) from (by simp only [m_bell, qw1, c17, if_false]; try rfl)]) rfl
    · have c17 : N = 0 := by omega
      refine j_bipush (v := (-3)) C dX8_bell_20 (by decide) ?_
      exact j_iret C E dX8_bell_22 (fl, tv, so, sg, ce, nI N, nI B, kf, pf, vat, vrm, vrb, rk, rp, lf, tf, kp, nI c, df, mf, gf) (by rw [show m_bell ((N, B, k, p), (c, rd, rl, ra), (hs, sl, sa, sc), tv, fl) (nI w1) = ((-3), ((N, B, k, p), (c, rd, rl, ra), (hs, sl, sa, sc), tv, fl)) from (by simp only [m_bell, qw1, c17, if_true]; try rfl)]; exact MI.mk hB hN2 hT hR hS) (by rw [show m_bell ((N, B, k, p), (c, rd, rl, ra), (hs, sl, sa, sc), tv, fl) (nI w1) = ((-3), ((N, B, k, p), (c, rd, rl, ra), (hs, sl, sa, sc), tv, fl)) from (by simp only [m_bell, qw1, c17, if_true]; try rfl)]) rfl
  · have c7 := bN_0.mp c7
    have qw1 := pOf_n c7
    refine j_bipush (v := (-2)) C dX8_bell_10 (by decide) ?_
    exact j_iret C E dX8_bell_12 (fl, tv, so, sg, ce, nI N, nI B, kf, pf, vat, vrm, vrb, rk, rp, lf, tf, kp, nI c, df, mf, gf) (by rw [show m_bell ((N, B, k, p), (c, rd, rl, ra), (hs, sl, sa, sc), tv, fl) v = ((-2), ((N, B, k, p), (c, rd, rl, ra), (hs, sl, sa, sc), tv, fl)) from (by simp only [m_bell, qw1]; try rfl)]; exact MI.mk hB hN2 hT hR hS) (by rw [show m_bell ((N, B, k, p), (c, rd, rl, ra), (hs, sl, sa, sc), tv, fl) v = ((-2), ((N, B, k, p), (c, rd, rl, ra), (hs, sl, sa, sc), tv, fl)) from (by simp only [m_bell, qw1]; try rfl)]) rfl
set_option maxHeartbeats 4000000 in
set_option maxRecDepth 20000 in
theorem c_X8_trace {l : Launch} {D : va_G} {cy : Nat → ClassId} (mm : Nat → Nat) (fl tv : Int32) (so sg ce : Nat → Int32) (N B : Nat) (kf pf : Nat → Int32) (vat vrm vrb : Int32) (rk rp lf tf kp : Nat → Int32) (c : Nat) (df mf gf : Nat → Int32) (k : Nat → Nat) (p : Nat → Nat → Nat) (rd rl : Nat → Nat) (ra : Nat → Option Nat) (hs : Nat → Bool) (sl sa : Nat → Nat) (sc : Nat → Nat → Int32) (hX : MI ((N, B, k, p), (c, rd, rl, ra), (hs, sl, sa, sc), tv, fl) (fl, tv, so, sg, ce, nI N, nI B, kf, pf, vat, vrm, vrb, rk, rp, lf, tf, kp, nI c, df, mf, gf))  : Ct l yX8_trace wsX8_trace ({ frames := 0, cells := 0, slots := 0, locals := 0 }) D cy [.ref (mm 0)] (wM mm cy fl tv so sg ce (nI N) (nI B) kf pf vat vrm vrb rk rp lf tf kp (nI c) df mf gf) (fun u : MS => MI (m_trace ((N, B, k, p), (c, rd, rl, ra), (hs, sl, sa, sc), tv, fl)).2 u) (fun _ => some (.int (m_trace ((N, B, k, p), (c, rd, rl, ra), (hs, sl, sa, sc), tv, fl)).1)) (fun u => wMu mm cy u) := by
  refine Ct.of (cc := cX8_trace) (nL := 1) (ret := (some .int)) rfl (by decide) ⟨rfl, rfl⟩ (Nat.le_of_ble_eq_true rfl) ?_
  intro X C E
  have C : Cx X l D cy cX8_trace 1 wsX8_trace RX8 ({ frames := 0, cells := 0, slots := 0, locals := 0 }) := C
  have mh0 : ∀ w ∈ u_ws RX8 TX8 21, w ∈ wsX8_trace := by decide +kernel
  have mh1 : Cond.fieldLink RX8 163 RX8 (TX8 1).2.1 (TX8 1).2.2.1 ∈ wsX8_trace := by decide +kernel
  obtain ⟨-, ⟨hB, hN2⟩, hT, hR, hS⟩ := hX
  have hN := hT.n
  have hc8 := hR.1
  have hN30 : N ≤ 2 ^ 30 := by omega
  show J X (wM mm cy fl tv so sg ce (nI N) (nI B) kf pf vat vrm vrb rk rp lf tf kp (nI c) df mf gf) 0 [(0, .ref (mm 0))] []
  refine j_aload_n C 0 dX8_trace_0 rfl rfl ?_
  refine j_get C mh0 1 mh1 0 rfl rfl (by decide) rfl rfl dX8_trace_1 ?_
  exact j_iret C E dX8_trace_4 (fl, tv, so, sg, ce, nI N, nI B, kf, pf, vat, vrm, vrb, rk, rp, lf, tf, kp, nI c, df, mf, gf) (by rw [show m_trace ((N, B, k, p), (c, rd, rl, ra), (hs, sl, sa, sc), tv, fl) = (tv, ((N, B, k, p), (c, rd, rl, ra), (hs, sl, sa, sc), tv, fl)) from (by simp only [m_trace]; try rfl)]; exact MI.mk hB hN2 hT hR hS) (by rw [show m_trace ((N, B, k, p), (c, rd, rl, ra), (hs, sl, sa, sc), tv, fl) = (tv, ((N, B, k, p), (c, rd, rl, ra), (hs, sl, sa, sc), tv, fl)) from (by simp only [m_trace]; try rfl)]) rfl
set_option maxHeartbeats 4000000 in
set_option maxRecDepth 20000 in
theorem c_X8_fault {l : Launch} {D : va_G} {cy : Nat → ClassId} (mm : Nat → Nat) (fl tv : Int32) (so sg ce : Nat → Int32) (N B : Nat) (kf pf : Nat → Int32) (vat vrm vrb : Int32) (rk rp lf tf kp : Nat → Int32) (c : Nat) (df mf gf : Nat → Int32) (k : Nat → Nat) (p : Nat → Nat → Nat) (rd rl : Nat → Nat) (ra : Nat → Option Nat) (hs : Nat → Bool) (sl sa : Nat → Nat) (sc : Nat → Nat → Int32) (hX : MI ((N, B, k, p), (c, rd, rl, ra), (hs, sl, sa, sc), tv, fl) (fl, tv, so, sg, ce, nI N, nI B, kf, pf, vat, vrm, vrb, rk, rp, lf, tf, kp, nI c, df, mf, gf))  : Ct l yX8_fault wsX8_fault ({ frames := 0, cells := 0, slots := 0, locals := 0 }) D cy [.ref (mm 0)] (wM mm cy fl tv so sg ce (nI N) (nI B) kf pf vat vrm vrb rk rp lf tf kp (nI c) df mf gf) (fun u : MS => MI (m_fault ((N, B, k, p), (c, rd, rl, ra), (hs, sl, sa, sc), tv, fl)).2 u) (fun _ => some (.int (m_fault ((N, B, k, p), (c, rd, rl, ra), (hs, sl, sa, sc), tv, fl)).1)) (fun u => wMu mm cy u) := by
  refine Ct.of (cc := cX8_fault) (nL := 1) (ret := (some .int)) rfl (by decide) ⟨rfl, rfl⟩ (Nat.le_of_ble_eq_true rfl) ?_
  intro X C E
  have C : Cx X l D cy cX8_fault 1 wsX8_fault RX8 ({ frames := 0, cells := 0, slots := 0, locals := 0 }) := C
  have mh0 : ∀ w ∈ u_ws RX8 TX8 21, w ∈ wsX8_fault := by decide +kernel
  have mh1 : Cond.fieldLink RX8 50 RX8 (TX8 0).2.1 (TX8 0).2.2.1 ∈ wsX8_fault := by decide +kernel
  obtain ⟨-, ⟨hB, hN2⟩, hT, hR, hS⟩ := hX
  have hN := hT.n
  have hc8 := hR.1
  have hN30 : N ≤ 2 ^ 30 := by omega
  show J X (wM mm cy fl tv so sg ce (nI N) (nI B) kf pf vat vrm vrb rk rp lf tf kp (nI c) df mf gf) 0 [(0, .ref (mm 0))] []
  refine j_aload_n C 0 dX8_fault_0 rfl rfl ?_
  refine j_get C mh0 0 mh1 0 rfl rfl (by decide) rfl rfl dX8_fault_1 ?_
  exact j_iret C E dX8_fault_4 (fl, tv, so, sg, ce, nI N, nI B, kf, pf, vat, vrm, vrb, rk, rp, lf, tf, kp, nI c, df, mf, gf) (by rw [show m_fault ((N, B, k, p), (c, rd, rl, ra), (hs, sl, sa, sc), tv, fl) = (fl, ((N, B, k, p), (c, rd, rl, ra), (hs, sl, sa, sc), tv, fl)) from (by simp only [m_fault]; try rfl)]; exact MI.mk hB hN2 hT hR hS) (by rw [show m_fault ((N, B, k, p), (c, rd, rl, ra), (hs, sl, sa, sc), tv, fl) = (fl, ((N, B, k, p), (c, rd, rl, ra), (hs, sl, sa, sc), tv, fl)) from (by simp only [m_fault]; try rfl)]) rfl
set_option maxHeartbeats 4000000 in
set_option maxRecDepth 20000 in
theorem c_X8_as {l : Launch} {D : va_G} {cy : Nat → ClassId} (mm : Nat → Nat) (fl tv : Int32) (so sg ce : Nat → Int32) (N B : Nat) (kf pf : Nat → Int32) (vat vrm vrb : Int32) (rk rp lf tf kp : Nat → Int32) (c : Nat) (df mf gf : Nat → Int32) (k : Nat → Nat) (p : Nat → Nat → Nat) (rd rl : Nat → Nat) (ra : Nat → Option Nat) (hs : Nat → Bool) (sl sa : Nat → Nat) (sc : Nat → Nat → Int32) (hX : MI ((N, B, k, p), (c, rd, rl, ra), (hs, sl, sa, sc), tv, fl) (fl, tv, so, sg, ce, nI N, nI B, kf, pf, vat, vrm, vrb, rk, rp, lf, tf, kp, nI c, df, mf, gf)) (x v : Int32)  : Ct l yX8_as wsX8_as ({ frames := 1, cells := 0, slots := 0, locals := 22 }) D cy [.ref (mm 0), .int x, .int v] (wM mm cy fl tv so sg ce (nI N) (nI B) kf pf vat vrm vrb rk rp lf tf kp (nI c) df mf gf) (fun u : MS => MI (m_as ((N, B, k, p), (c, rd, rl, ra), (hs, sl, sa, sc), tv, fl) x v).2 u) (fun _ => some (.int (m_as ((N, B, k, p), (c, rd, rl, ra), (hs, sl, sa, sc), tv, fl) x v).1)) (fun u => wMu mm cy u) := by
  refine Ct.of (cc := cX8_as) (nL := 3) (ret := (some .int)) rfl (by decide) ⟨rfl, rfl⟩ (Nat.le_of_ble_eq_true rfl) ?_
  intro X C E
  have C : Cx X l D cy cX8_as 3 wsX8_as RX8 ({ frames := 1, cells := 0, slots := 0, locals := 22 }) := C
  have mh0 : ∀ w ∈ u_ws RX8 TX8 21, w ∈ wsX8_as := by decide +kernel
  have mh1 : Cond.fieldLink RX8 50 RX8 (TX8 0).2.1 (TX8 0).2.2.1 ∈ wsX8_as := by decide +kernel
  have mh2 : Cond.fieldLink RX8 19 RX8 (TX8 7).2.1 (TX8 7).2.2.1 ∈ wsX8_as := by decide +kernel
  obtain ⟨-, ⟨hB, hN2⟩, hT, hR, hS⟩ := hX
  have hN := hT.n
  have hc8 := hR.1
  have hN30 : N ≤ 2 ^ 30 := by omega
  show J X (wM mm cy fl tv so sg ce (nI N) (nI B) kf pf vat vrm vrb rk rp lf tf kp (nI c) df mf gf) 0 [(0, .ref (mm 0)), (1, .int x), (2, .int v)] []
  refine j_aload_n C 0 dX8_as_0 rfl rfl ?_
  refine j_iconst (v := nI 0) C dX8_as_1 (by decide) ?_
  refine j_put (ws' := wM mm cy (nI 0) tv so sg ce (nI N) (nI B) kf pf vat vrm vrb rk rp lf tf kp (nI c) df mf gf) C mh0 0 mh1 tyX8 tyX8_ok nmX8 0 rfl rfl (by decide) rfl rfl (by decide +kernel) (Nat.le_of_ble_eq_true rfl) rfl dX8_as_2 ?_
  refine j_aload_n C 0 dX8_as_5 rfl rfl ?_
  refine j_iload_n C 1 dX8_as_6 rfl rfl ?_
  refine j_callV0 (As := [.int x]) (rest := []) C (c_X8_isPerson mm (nI 0) tv so sg ce N B kf pf vat vrm vrb rk rp lf tf kp c df mf gf (x) hN) gX8_as_X8_isPerson rfl 1 rfl (by decide +kernel) (by decide) 0 rfl rfl (Nat.le_of_ble_eq_true rfl) dX8_as_7 rfl (fun _ _ => ?_)
  show J X (wM mm cy (nI 0) tv so sg ce (nI N) (nI B) kf pf vat vrm vrb rk rp lf tf kp (nI c) df mf gf) 10 [(0, .ref (mm 0)), (1, .int x), (2, .int v)] [.int (nI (bN ((pOf N (x)).isSome = true)))]
  refine j_if_neN (tgt := 15) C dX8_as_10 (by decide) (bN_lt _) (fun c10 => ?_) (fun c10 => ?_)
  · have c10 := bN_1.mp c10
    obtain ⟨a1, ha1, rfl⟩ := pY hN30 c10
    have qa1 := pI ha1 hN30
    show J X (wM mm cy (nI 0) tv so sg ce (nI N) (nI B) kf pf vat vrm vrb rk rp lf tf kp (nI c) df mf gf) 15 [(0, .ref (mm 0)), (1, .int (nI a1)), (2, .int v)] []
    refine j_iload_n C 2 dX8_as_15 rfl rfl ?_
    refine j_iconst (v := nI 0) C dX8_as_16 (by decide) ?_
    refine j_iconst (v := nI 2) C dX8_as_17 (by decide) ?_
    refine j_callP (As := [.int v, .int (nI 0), .int (nI 2)]) (rest := []) C (c_X8_withinP (v) 2 (by omega)) gX8_as_X8_within rfl 3 rfl (by decide +kernel) (by decide) (Nat.le_of_ble_eq_true rfl) dX8_as_18 rfl (fun _ _ => ?_)
    show J X (wM mm cy (nI 0) tv so sg ce (nI N) (nI B) kf pf vat vrm vrb rk rp lf tf kp (nI c) df mf gf) 21 [(0, .ref (mm 0)), (1, .int (nI a1)), (2, .int v)] [.int (nI (bN ((pOf 3 (v)).isSome = true)))]
    refine j_if_neN (tgt := 27) C dX8_as_21 (by decide) (bN_lt _) (fun c21 => ?_) (fun c21 => ?_)
    · have c21 := bN_1.mp c21
      obtain ⟨w1, hw1, rfl⟩ := pY (by decide) c21
      have qw1 := pI hw1 (by decide)
      show J X (wM mm cy (nI 0) tv so sg ce (nI N) (nI B) kf pf vat vrm vrb rk rp lf tf kp (nI c) df mf gf) 27 [(0, .ref (mm 0)), (1, .int (nI a1)), (2, .int (nI w1))] []
      refine j_aload_n C 0 dX8_as_27 rfl rfl ?_
      refine j_get C mh0 7 mh2 0 rfl rfl (by decide) rfl rfl dX8_as_28 ?_
      refine j_iload_n C 1 dX8_as_31 rfl rfl ?_
      have := hT.k2 (a := a1) (by omega)
      refine j_iald (v := nI (k a1)) C 4 rfl (by omega) (by decide) (hT.kk (by omega)) dX8_as_32 ?_
      refine j_iload_n C 2 dX8_as_33 rfl rfl ?_
      refine j_icmp_ltN (tgt := 41) C dX8_as_34 (by decide) (by omega) (by omega) (fun c34 => ?_) (fun c34 => ?_)
      · have nc : ¬ w1 ≤ k a1 := by omega
        refine j_aload_n C 0 dX8_as_41 rfl rfl ?_
        refine j_iconst (v := nI 2) C dX8_as_42 (by decide) ?_
        refine j_callV0 (As := [.int (nI 2)]) (rest := []) C (c_X8_fails mm (nI 0) tv so sg ce N B kf pf vat vrm vrb rk rp lf tf kp c df mf gf 2) gX8_as_X8_fails rfl 1 rfl (by decide +kernel) (by decide) 0 rfl rfl (Nat.le_of_ble_eq_true rfl) dX8_as_43 rfl (fun _ _ => ?_)
        show J X (wM mm cy (nI 2) tv so sg ce (nI N) (nI B) kf pf vat vrm vrb rk rp lf tf kp (nI c) df mf gf) 46 [(0, .ref (mm 0)), (1, .int (nI a1)), (2, .int (nI w1))] [.int ((-10) - nI 2)]
        exact j_iret C E dX8_as_46 (nI 2, tv, so, sg, ce, nI N, nI B, kf, pf, vat, vrm, vrb, rk, rp, lf, tf, kp, nI c, df, mf, gf) (by rw [show m_as ((N, B, k, p), (c, rd, rl, ra), (hs, sl, sa, sc), tv, fl) (nI a1) (nI w1) = ((-10) - nI 2, ((N, B, k, p), (c, rd, rl, ra), (hs, sl, sa, sc), tv, nI 2)) from (by simp only [m_as, qa1, qw1, nc, if_true, if_false]; try rfl)]; exact MI.mk hB hN2 hT hR hS) (by rw [show m_as ((N, B, k, p), (c, rd, rl, ra), (hs, sl, sa, sc), tv, fl) (nI a1) (nI w1) = ((-10) - nI 2, ((N, B, k, p), (c, rd, rl, ra), (hs, sl, sa, sc), tv, nI 2)) from (by simp only [m_as, qa1, qw1, nc, if_true, if_false]; try rfl)]) rfl
      · refine j_iconst (v := nI 1) C dX8_as_37 (by decide) ?_
        refine j_goto (tgt := 46) C dX8_as_38 (by decide) ?_
        exact j_iret C E dX8_as_46 (nI 0, tv, so, sg, ce, nI N, nI B, kf, pf, vat, vrm, vrb, rk, rp, lf, tf, kp, nI c, df, mf, gf) (by rw [show m_as ((N, B, k, p), (c, rd, rl, ra), (hs, sl, sa, sc), tv, fl) (nI a1) (nI w1) = (nI 1, ((N, B, k, p), (c, rd, rl, ra), (hs, sl, sa, sc), tv, nI 0)) from (by simp only [m_as, qa1, qw1, c34, if_true, if_false]; try rfl)]; exact MI.mk hB hN2 hT hR hS) (by rw [show m_as ((N, B, k, p), (c, rd, rl, ra), (hs, sl, sa, sc), tv, fl) (nI a1) (nI w1) = (nI 1, ((N, B, k, p), (c, rd, rl, ra), (hs, sl, sa, sc), tv, nI 0)) from (by simp only [m_as, qa1, qw1, c34, if_true, if_false]; try rfl)]) rfl
    · have c21 := bN_0.mp c21
      have qw1 := pOf_n c21
      refine j_bipush (v := (-2)) C dX8_as_24 (by decide) ?_
      exact j_iret C E dX8_as_26 (nI 0, tv, so, sg, ce, nI N, nI B, kf, pf, vat, vrm, vrb, rk, rp, lf, tf, kp, nI c, df, mf, gf) (by rw [show m_as ((N, B, k, p), (c, rd, rl, ra), (hs, sl, sa, sc), tv, fl) (nI a1) v = ((-2), ((N, B, k, p), (c, rd, rl, ra), (hs, sl, sa, sc), tv, nI 0)) from (by simp only [m_as, qa1, qw1]; try rfl)]; exact MI.mk hB hN2 hT hR hS) (by rw [show m_as ((N, B, k, p), (c, rd, rl, ra), (hs, sl, sa, sc), tv, fl) (nI a1) v = ((-2), ((N, B, k, p), (c, rd, rl, ra), (hs, sl, sa, sc), tv, nI 0)) from (by simp only [m_as, qa1, qw1]; try rfl)]) rfl
  · have c10 := bN_0.mp c10
    have qa1 := pOf_n c10
    refine j_iconst (v := (-1)) C dX8_as_13 (by decide) ?_
    exact j_iret C E dX8_as_14 (nI 0, tv, so, sg, ce, nI N, nI B, kf, pf, vat, vrm, vrb, rk, rp, lf, tf, kp, nI c, df, mf, gf) (by rw [show m_as ((N, B, k, p), (c, rd, rl, ra), (hs, sl, sa, sc), tv, fl) x v = ((-1), ((N, B, k, p), (c, rd, rl, ra), (hs, sl, sa, sc), tv, nI 0)) from (by simp only [m_as, qa1]; try rfl)]; exact MI.mk hB hN2 hT hR hS) (by rw [show m_as ((N, B, k, p), (c, rd, rl, ra), (hs, sl, sa, sc), tv, fl) x v = ((-1), ((N, B, k, p), (c, rd, rl, ra), (hs, sl, sa, sc), tv, nI 0)) from (by simp only [m_as, qa1]; try rfl)]) rfl
set_option maxHeartbeats 4000000 in
set_option maxRecDepth 20000 in
theorem c_X8_ofPerson {l : Launch} {D : va_G} {cy : Nat → ClassId} (mm : Nat → Nat) (fl tv : Int32) (so sg ce : Nat → Int32) (N B : Nat) (kf pf : Nat → Int32) (vat vrm vrb : Int32) (rk rp lf tf kp : Nat → Int32) (c : Nat) (df mf gf : Nat → Int32) (k : Nat → Nat) (p : Nat → Nat → Nat) (rd rl : Nat → Nat) (ra : Nat → Option Nat) (hs : Nat → Bool) (sl sa : Nat → Nat) (sc : Nat → Nat → Int32) (hX : MI ((N, B, k, p), (c, rd, rl, ra), (hs, sl, sa, sc), tv, fl) (fl, tv, so, sg, ce, nI N, nI B, kf, pf, vat, vrm, vrb, rk, rp, lf, tf, kp, nI c, df, mf, gf)) (x w : Int32)  : Ct l yX8_ofPerson wsX8_ofPerson ({ frames := 5, cells := 0, slots := 0, locals := 111 }) D cy [.ref (mm 0), .int x, .int w] (wM mm cy fl tv so sg ce (nI N) (nI B) kf pf vat vrm vrb rk rp lf tf kp (nI c) df mf gf) (fun u : MS => MI (m_ofPerson ((N, B, k, p), (c, rd, rl, ra), (hs, sl, sa, sc), tv, fl) x w).2 u) (fun _ => some (.int (m_ofPerson ((N, B, k, p), (c, rd, rl, ra), (hs, sl, sa, sc), tv, fl) x w).1)) (fun u => wMu mm cy u) := by
  refine Ct.of (cc := cX8_ofPerson) (nL := 3) (ret := (some .int)) rfl (by decide) ⟨rfl, rfl⟩ (Nat.le_of_ble_eq_true rfl) ?_
  intro X C E
  have C : Cx X l D cy cX8_ofPerson 3 wsX8_ofPerson RX8 ({ frames := 5, cells := 0, slots := 0, locals := 111 }) := C
  have mh0 : ∀ w ∈ u_ws RX8 TX8 21, w ∈ wsX8_ofPerson := by decide +kernel
  have mh1 : Cond.fieldLink RX8 19 RX8 (TX8 7).2.1 (TX8 7).2.2.1 ∈ wsX8_ofPerson := by decide +kernel
  obtain ⟨-, ⟨hB, hN2⟩, hT, hR, hS⟩ := hX
  have hN := hT.n
  have hc8 := hR.1
  have hN30 : N ≤ 2 ^ 30 := by omega
  show J X (wM mm cy fl tv so sg ce (nI N) (nI B) kf pf vat vrm vrb rk rp lf tf kp (nI c) df mf gf) 0 [(0, .ref (mm 0)), (1, .int x), (2, .int w)] []
  refine j_aload_n C 0 dX8_ofPerson_0 rfl rfl ?_
  refine j_iload_n C 1 dX8_ofPerson_1 rfl rfl ?_
  refine j_callV0 (As := [.int x]) (rest := []) C (c_X8_isPerson mm fl tv so sg ce N B kf pf vat vrm vrb rk rp lf tf kp c df mf gf (x) hN) gX8_ofPerson_X8_isPerson rfl 1 rfl (by decide +kernel) (by decide) 0 rfl rfl (Nat.le_of_ble_eq_true rfl) dX8_ofPerson_2 rfl (fun _ _ => ?_)
  show J X (wM mm cy fl tv so sg ce (nI N) (nI B) kf pf vat vrm vrb rk rp lf tf kp (nI c) df mf gf) 5 [(0, .ref (mm 0)), (1, .int x), (2, .int w)] [.int (nI (bN ((pOf N (x)).isSome = true)))]
  refine j_if_neN (tgt := 10) C dX8_ofPerson_5 (by decide) (bN_lt _) (fun c5 => ?_) (fun c5 => ?_)
  · have c5 := bN_1.mp c5
    obtain ⟨a1, ha1, rfl⟩ := pY hN30 c5
    have qa1 := pI ha1 hN30
    show J X (wM mm cy fl tv so sg ce (nI N) (nI B) kf pf vat vrm vrb rk rp lf tf kp (nI c) df mf gf) 10 [(0, .ref (mm 0)), (1, .int (nI a1)), (2, .int w)] []
    refine j_iload_n C 2 dX8_ofPerson_10 rfl rfl ?_
    refine j_table C dX8_ofPerson_11 88 (by decide) (fun hw => ?_) (fun h1 h2 => ?_)
    · have qw := tb_n (m := 4) hw
      refine j_bipush (v := (-2)) C dX8_ofPerson_88 (by decide) ?_
      exact j_iret C E dX8_ofPerson_90 (fl, tv, so, sg, ce, nI N, nI B, kf, pf, vat, vrm, vrb, rk, rp, lf, tf, kp, nI c, df, mf, gf) (by rw [show m_ofPerson ((N, B, k, p), (c, rd, rl, ra), (hs, sl, sa, sc), tv, fl) (nI a1) w = ((-2), ((N, B, k, p), (c, rd, rl, ra), (hs, sl, sa, sc), tv, fl)) from (by simp only [m_ofPerson, qa1, qw]; try rfl)]; exact MI.mk hB hN2 hT hR hS) (by rw [show m_ofPerson ((N, B, k, p), (c, rd, rl, ra), (hs, sl, sa, sc), tv, fl) (nI a1) w = ((-2), ((N, B, k, p), (c, rd, rl, ra), (hs, sl, sa, sc), tv, fl)) from (by simp only [m_ofPerson, qa1, qw]; try rfl)]) rfl
    · obtain ⟨z, hz, rfl⟩ := tb_y (m := 4) (by decide) h1 h2
      match z, hz with
      | 0, _ =>
        refine ⟨33, 44, by decide +kernel, by decide, ?_⟩
        have qw := pI (n := 5) (j := 0) (by decide) (by decide)
        refine j_aload_n C 0 dX8_ofPerson_44 rfl rfl ?_
        refine j_get C mh0 7 mh1 0 rfl rfl (by decide) rfl rfl dX8_ofPerson_45 ?_
        refine j_iload_n C 1 dX8_ofPerson_48 rfl rfl ?_
        have := hT.k2 (a := a1) (by omega)
        refine j_iald (v := nI (k a1)) C 4 rfl (by omega) (by decide) (hT.kk (by omega)) dX8_ofPerson_49 ?_
        exact j_iret C E dX8_ofPerson_50 (fl, tv, so, sg, ce, nI N, nI B, kf, pf, vat, vrm, vrb, rk, rp, lf, tf, kp, nI c, df, mf, gf) (by rw [show m_ofPerson ((N, B, k, p), (c, rd, rl, ra), (hs, sl, sa, sc), tv, fl) (nI a1) (nI 0) = (nI (k a1), ((N, B, k, p), (c, rd, rl, ra), (hs, sl, sa, sc), tv, fl)) from (by simp only [m_ofPerson, qa1, qw]; try rfl)]; exact MI.mk hB hN2 hT hR hS) (by rw [show m_ofPerson ((N, B, k, p), (c, rd, rl, ra), (hs, sl, sa, sc), tv, fl) (nI a1) (nI 0) = (nI (k a1), ((N, B, k, p), (c, rd, rl, ra), (hs, sl, sa, sc), tv, fl)) from (by simp only [m_ofPerson, qa1, qw]; try rfl)]) rfl
      | 1, _ =>
        refine ⟨40, 51, by decide +kernel, by decide, ?_⟩
        have qw := pI (n := 5) (j := 1) (by decide) (by decide)
        refine j_aload_n C 0 dX8_ofPerson_51 rfl rfl ?_
        refine j_iload_n C 1 dX8_ofPerson_52 rfl rfl ?_
        refine j_callV0 (As := [.int (nI a1)]) (rest := []) C (c_X8_owesAll mm fl tv so sg ce N B kf pf vat vrm vrb rk rp lf tf kp c df mf gf k p hT a1 (by omega)) gX8_ofPerson_X8_owesAll rfl 1 rfl (by decide +kernel) (by decide) 0 rfl rfl (Nat.le_of_ble_eq_true rfl) dX8_ofPerson_53 rfl (fun _ _ => ?_)
        show J X (wM mm cy fl tv so sg ce (nI N) (nI B) kf pf vat vrm vrb rk rp lf tf kp (nI c) df mf gf) 56 [(0, .ref (mm 0)), (1, .int (nI a1)), (2, .int (nI 1))] [.int (nI (psum p a1 N))]
        exact j_iret C E dX8_ofPerson_56 (fl, tv, so, sg, ce, nI N, nI B, kf, pf, vat, vrm, vrb, rk, rp, lf, tf, kp, nI c, df, mf, gf) (by rw [show m_ofPerson ((N, B, k, p), (c, rd, rl, ra), (hs, sl, sa, sc), tv, fl) (nI a1) (nI 1) = (nI (psum p a1 N), ((N, B, k, p), (c, rd, rl, ra), (hs, sl, sa, sc), tv, fl)) from (by simp only [m_ofPerson, qa1, qw]; try rfl)]; exact MI.mk hB hN2 hT hR hS) (by rw [show m_ofPerson ((N, B, k, p), (c, rd, rl, ra), (hs, sl, sa, sc), tv, fl) (nI a1) (nI 1) = (nI (psum p a1 N), ((N, B, k, p), (c, rd, rl, ra), (hs, sl, sa, sc), tv, fl)) from (by simp only [m_ofPerson, qa1, qw]; try rfl)]) rfl
      | 2, _ =>
        refine ⟨46, 57, by decide +kernel, by decide, ?_⟩
        have qw := pI (n := 5) (j := 2) (by decide) (by decide)
        refine j_aload_n C 0 dX8_ofPerson_57 rfl rfl ?_
        refine j_iload_n C 1 dX8_ofPerson_58 rfl rfl ?_
        refine j_callV0 (As := [.int (nI a1)]) (rest := []) C (c_X8_roundOf mm fl tv so sg ce N B kf pf vat vrm vrb rk rp lf tf kp c df mf gf k p hT a1 (by omega)) gX8_ofPerson_X8_roundOf rfl 1 rfl (by decide +kernel) (by decide) 0 rfl rfl (Nat.le_of_ble_eq_true rfl) dX8_ofPerson_59 rfl (fun _ _ => ?_)
        have hrl := rnd_lt (k := k) (p := p) hN a1
        show J X (wM mm cy fl tv so sg ce (nI N) (nI B) kf pf vat vrm vrb rk rp lf tf kp (nI c) df mf gf) 62 [(0, .ref (mm 0)), (1, .int (nI a1)), (2, .int (nI 2))] [.int (nI (rnd N k p a1))]
        exact j_iret C E dX8_ofPerson_62 (fl, tv, so, sg, ce, nI N, nI B, kf, pf, vat, vrm, vrb, rk, rp, lf, tf, kp, nI c, df, mf, gf) (by rw [show m_ofPerson ((N, B, k, p), (c, rd, rl, ra), (hs, sl, sa, sc), tv, fl) (nI a1) (nI 2) = (nI (rnd N k p a1), ((N, B, k, p), (c, rd, rl, ra), (hs, sl, sa, sc), tv, fl)) from (by simp only [m_ofPerson, qa1, qw]; try rfl)]; exact MI.mk hB hN2 hT hR hS) (by rw [show m_ofPerson ((N, B, k, p), (c, rd, rl, ra), (hs, sl, sa, sc), tv, fl) (nI a1) (nI 2) = (nI (rnd N k p a1), ((N, B, k, p), (c, rd, rl, ra), (hs, sl, sa, sc), tv, fl)) from (by simp only [m_ofPerson, qa1, qw]; try rfl)]) rfl
      | 3, _ =>
        refine ⟨52, 63, by decide +kernel, by decide, ?_⟩
        have qw := pI (n := 5) (j := 3) (by decide) (by decide)
        refine j_aload_n C 0 dX8_ofPerson_63 rfl rfl ?_
        refine j_iload_n C 1 dX8_ofPerson_64 rfl rfl ?_
        refine j_aload_n C 0 dX8_ofPerson_65 rfl rfl ?_
        refine j_iload_n C 1 dX8_ofPerson_66 rfl rfl ?_
        refine j_callV0 (As := [.int (nI a1)]) (rest := [.int (nI a1), .ref (mm 0)]) C (c_X8_roundOf mm fl tv so sg ce N B kf pf vat vrm vrb rk rp lf tf kp c df mf gf k p hT a1 (by omega)) gX8_ofPerson_X8_roundOf rfl 1 rfl (by decide +kernel) (by decide) 0 rfl rfl (Nat.le_of_ble_eq_true rfl) dX8_ofPerson_67 rfl (fun _ _ => ?_)
        have hrl := rnd_lt (k := k) (p := p) hN a1
        show J X (wM mm cy fl tv so sg ce (nI N) (nI B) kf pf vat vrm vrb rk rp lf tf kp (nI c) df mf gf) 70 [(0, .ref (mm 0)), (1, .int (nI a1)), (2, .int (nI 3))] [.int (nI (rnd N k p a1)), .int (nI a1), .ref (mm 0)]
        refine j_callV0 (As := [.int (nI a1), .int (nI (rnd N k p a1))]) (rest := []) C (c_X8_steps mm fl tv so sg ce N B kf pf vat vrm vrb rk rp lf tf kp c df mf gf a1 (rnd N k p a1) hN (by omega) (by omega)) gX8_ofPerson_X8_steps rfl 2 rfl (by decide +kernel) (by decide) 0 rfl rfl (Nat.le_of_ble_eq_true rfl) dX8_ofPerson_70 rfl (fun _ _ => ?_)
        have hsp := sps_le (k := k) (p := p) hN (q := a1) (by omega)
        show J X (wM mm cy fl tv so sg ce (nI N) (nI B) kf pf vat vrm vrb rk rp lf tf kp (nI c) df mf gf) 73 [(0, .ref (mm 0)), (1, .int (nI a1)), (2, .int (nI 3))] [.int (nI (sps N k p a1))]
        exact j_iret C E dX8_ofPerson_73 (fl, tv, so, sg, ce, nI N, nI B, kf, pf, vat, vrm, vrb, rk, rp, lf, tf, kp, nI c, df, mf, gf) (by rw [show m_ofPerson ((N, B, k, p), (c, rd, rl, ra), (hs, sl, sa, sc), tv, fl) (nI a1) (nI 3) = (nI (sps N k p a1), ((N, B, k, p), (c, rd, rl, ra), (hs, sl, sa, sc), tv, fl)) from (by simp only [m_ofPerson, qa1, qw]; try rfl)]; exact MI.mk hB hN2 hT hR hS) (by rw [show m_ofPerson ((N, B, k, p), (c, rd, rl, ra), (hs, sl, sa, sc), tv, fl) (nI a1) (nI 3) = (nI (sps N k p a1), ((N, B, k, p), (c, rd, rl, ra), (hs, sl, sa, sc), tv, fl)) from (by simp only [m_ofPerson, qa1, qw]; try rfl)]) rfl
      | 4, _ =>
        refine ⟨63, 74, by decide +kernel, by decide, ?_⟩
        have qw := pI (n := 5) (j := 4) (by decide) (by decide)
        refine j_aload_n C 0 dX8_ofPerson_74 rfl rfl ?_
        refine j_iload_n C 1 dX8_ofPerson_75 rfl rfl ?_
        refine j_callV0 (As := [.int (nI a1)]) (rest := []) C (c_X8_isInTime mm fl tv so sg ce N B kf pf vat vrm vrb rk rp lf tf kp c df mf gf k p hT a1 hB (by omega)) gX8_ofPerson_X8_isInTime rfl 1 rfl (by decide +kernel) (by decide) 0 rfl rfl (Nat.le_of_ble_eq_true rfl) dX8_ofPerson_76 rfl (fun _ _ => ?_)
        show J X (wM mm cy fl tv so sg ce (nI N) (nI B) kf pf vat vrm vrb rk rp lf tf kp (nI c) df mf gf) 79 [(0, .ref (mm 0)), (1, .int (nI a1)), (2, .int (nI 4))] [.int (nI (bN (sps N k p a1 ≤ B)))]
        refine j_if_eqN (tgt := 86) C dX8_ofPerson_79 (by decide) (bN_lt _) (fun c79 => ?_) (fun c79 => ?_)
        · have c79 := bN_0.mp c79
          refine j_iconst (v := nI 0) C dX8_ofPerson_86 (by decide) ?_
          exact j_iret C E dX8_ofPerson_87 (fl, tv, so, sg, ce, nI N, nI B, kf, pf, vat, vrm, vrb, rk, rp, lf, tf, kp, nI c, df, mf, gf) (by rw [show m_ofPerson ((N, B, k, p), (c, rd, rl, ra), (hs, sl, sa, sc), tv, fl) (nI a1) (nI 4) = (nI 0, ((N, B, k, p), (c, rd, rl, ra), (hs, sl, sa, sc), tv, fl)) from (by simp only [m_ofPerson, qa1, qw, bN_n c79]; try rfl)]; exact MI.mk hB hN2 hT hR hS) (by rw [show m_ofPerson ((N, B, k, p), (c, rd, rl, ra), (hs, sl, sa, sc), tv, fl) (nI a1) (nI 4) = (nI 0, ((N, B, k, p), (c, rd, rl, ra), (hs, sl, sa, sc), tv, fl)) from (by simp only [m_ofPerson, qa1, qw, bN_n c79]; try rfl)]) rfl
        · have c79 := bN_1.mp c79
          refine j_iconst (v := nI 1) C dX8_ofPerson_82 (by decide) ?_
          refine j_goto (tgt := 87) C dX8_ofPerson_83 (by decide) ?_
          exact j_iret C E dX8_ofPerson_87 (fl, tv, so, sg, ce, nI N, nI B, kf, pf, vat, vrm, vrb, rk, rp, lf, tf, kp, nI c, df, mf, gf) (by rw [show m_ofPerson ((N, B, k, p), (c, rd, rl, ra), (hs, sl, sa, sc), tv, fl) (nI a1) (nI 4) = (nI 1, ((N, B, k, p), (c, rd, rl, ra), (hs, sl, sa, sc), tv, fl)) from (by simp only [m_ofPerson, qa1, qw, bN_y c79]; try rfl)]; exact MI.mk hB hN2 hT hR hS) (by rw [show m_ofPerson ((N, B, k, p), (c, rd, rl, ra), (hs, sl, sa, sc), tv, fl) (nI a1) (nI 4) = (nI 1, ((N, B, k, p), (c, rd, rl, ra), (hs, sl, sa, sc), tv, fl)) from (by simp only [m_ofPerson, qa1, qw, bN_y c79]; try rfl)]) rfl
      | z + 5, hz => exact absurd hz (by omega)
  · have c5 := bN_0.mp c5
    have qa1 := pOf_n c5
    refine j_iconst (v := (-1)) C dX8_ofPerson_8 (by decide) ?_
    exact j_iret C E dX8_ofPerson_9 (fl, tv, so, sg, ce, nI N, nI B, kf, pf, vat, vrm, vrb, rk, rp, lf, tf, kp, nI c, df, mf, gf) (by rw [show m_ofPerson ((N, B, k, p), (c, rd, rl, ra), (hs, sl, sa, sc), tv, fl) x w = ((-1), ((N, B, k, p), (c, rd, rl, ra), (hs, sl, sa, sc), tv, fl)) from (by simp only [m_ofPerson, qa1]; try rfl)]; exact MI.mk hB hN2 hT hR hS) (by rw [show m_ofPerson ((N, B, k, p), (c, rd, rl, ra), (hs, sl, sa, sc), tv, fl) x w = ((-1), ((N, B, k, p), (c, rd, rl, ra), (hs, sl, sa, sc), tv, fl)) from (by simp only [m_ofPerson, qa1]; try rfl)]) rfl
