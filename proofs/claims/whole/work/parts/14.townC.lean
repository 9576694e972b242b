set_option maxHeartbeats 4000000 in
set_option maxRecDepth 20000 in
theorem c_X5_passDusk {l : Launch} {D : va_G} {cy : Nat → ClassId} (a : Nat → Nat) (N B : Nat) (kf : Nat → Int32) (pf : Nat → Nat → Int32) (lf tf : Nat → Int32) (k : Nat → Nat) (p : Nat → Nat → Nat) (hT : Ag N k p kf pf) (hB : B ≤ 9) : Ct l yX5_passDusk wsX5_passDusk ({ frames := 4, cells := 0, slots := 0, locals := 90 }) D cy [.ref (a 0)] (wT a cy (nI N) (nI B) kf pf lf tf) (fun _ : Unit => True) (fun _ => none) (fun _ => wT a cy (nI N) (nI B) kf (pfD N B k p pf N) (fil (lgF N k p) lf N) (fil (tI N B k p) tf N)) := by
  refine Ct.of (cc := cX5_passDusk) (nL := 4) (ret := none) rfl (by decide) ⟨rfl, rfl⟩ (Nat.le_of_ble_eq_true rfl) ?_
  intro X C E
  have C : Cx X l D cy cX5_passDusk 4 wsX5_passDusk RX5 ({ frames := 4, cells := 0, slots := 0, locals := 90 }) := C
  have mh0 : ∀ w ∈ u_ws RX5 TX5 7, w ∈ wsX5_passDusk := by decide +kernel
  have mh1 : Cond.fieldLink RX5 40 RX5 (TX5 5).2.1 (TX5 5).2.2.1 ∈ wsX5_passDusk := by decide +kernel
  have mh2 : Cond.fieldLink RX5 33 RX5 (TX5 3).2.1 (TX5 3).2.2.1 ∈ wsX5_passDusk := by decide +kernel
  have mh3 : Cond.fieldLink RX5 30 RX5 (TX5 2).2.1 (TX5 2).2.2.1 ∈ wsX5_passDusk := by decide +kernel
  have mh4 : Cond.fieldLink RX5 36 RX5 (TX5 4).2.1 (TX5 4).2.2.1 ∈ wsX5_passDusk := by decide +kernel
  have mh5 : Cond.methodLink RX5 102 Lib.Math.min.name ∈ wsX5_passDusk := by decide +kernel
  have mh6 : Cond.static Lib.Math.min.name ∈ wsX5_passDusk := by decide +kernel
  have mh7 : Cond.initialized "java/lang/Math" ∈ wsX5_passDusk := by decide +kernel
  have mh8 : Cond.code Lib.Math.min.name Lib.Math.min.code 2 (some .int) ∈ wsX5_passDusk := by decide +kernel
  have mh9 : Cond.methodLink RX5 97 Lib.Math.max.name ∈ wsX5_passDusk := by decide +kernel
  have mh10 : Cond.static Lib.Math.max.name ∈ wsX5_passDusk := by decide +kernel
  have mh11 : Cond.code Lib.Math.max.name Lib.Math.max.code 2 (some .int) ∈ wsX5_passDusk := by decide +kernel
  have mh12 : Cond.fieldLink RX5 44 RX5 (TX5 6).2.1 (TX5 6).2.2.1 ∈ wsX5_passDusk := by decide +kernel
  have hN := hT.n
  show J X (wT a cy (nI N) (nI B) kf pf lf tf) 0 [(0, .ref (a 0))] []
  refine j_aload_n C 0 dX5_passDusk_0 rfl rfl ?_
  refine j_callV0 (As := []) (rest := []) C (c_X5_findLighters a N B kf pf lf tf k p hT) gX5_passDusk_X5_findLighters rfl 0 rfl (by decide +kernel) (by decide) 0 rfl rfl (Nat.le_of_ble_eq_true rfl) dX5_passDusk_1 rfl (fun _ _ => ?_)
  show J X (wT a cy (nI N) (nI B) kf pf (fil (lgF N k p) lf N) tf) 4 [(0, .ref (a 0))] []
  refine j_iconst (v := nI 0) C dX5_passDusk_4 (by decide) ?_
  refine j_istore_n (lv' := [(1, .int (nI 0)), (0, .ref (a 0))]) C dX5_passDusk_5 rfl (by decide) rfl ?_
  refine J.sub [1, 0] rfl ?_
  have L6 : ∀ (n : Nat) (i : Nat), N - i < n → i ≤ N → J X (wT a cy (nI N) (nI B) kf pf (fil (lgF N k p) lf N) (fil (tI N B k p) tf i)) 6 [(0, .ref (a 0)), (1, .int (nI i))] [] := by
    intro n
    induction n with
    | zero => intro i hm; exact absurd hm (Nat.not_lt_zero _)
    | succ n ih6 =>
      intro i h6_0 h6_1
      refine j_iload_n C 1 dX5_passDusk_6 rfl rfl ?_
      refine j_aload_n C 0 dX5_passDusk_7 rfl rfl ?_
      refine j_get C mh0 5 mh1 0 rfl rfl (by decide) rfl rfl dX5_passDusk_8 ?_
      refine j_icmp_geN (tgt := 47) C dX5_passDusk_11 (by decide) (by omega) (by omega) (fun c11 => ?_) (fun c11 => ?_)
      · refine j_iconst (v := nI 0) C dX5_passDusk_47 (by decide) ?_
        refine j_istore_n (lv' := [(1, .int (nI 0)), (0, .ref (a 0))]) C dX5_passDusk_48 rfl (by decide) rfl ?_
        refine J.sub [1, 0] rfl ?_
        have L49 : ∀ (n : Nat) (c : Nat), N - c < n → c ≤ N → J X (wT a cy (nI N) (nI B) kf (pfD N B k p pf c) (fil (lgF N k p) lf N) (fil (tI N B k p) tf i)) 49 [(0, .ref (a 0)), (1, .int (nI c))] [] := by
          intro n
          induction n with
          | zero => intro c hm; exact absurd hm (Nat.not_lt_zero _)
          | succ n ih49 =>
            intro c h49_0 h49_1
            refine j_iload_n C 1 dX5_passDusk_49 rfl rfl ?_
            refine j_aload_n C 0 dX5_passDusk_50 rfl rfl ?_
            refine j_get C mh0 5 mh1 0 rfl rfl (by decide) rfl rfl dX5_passDusk_51 ?_
            refine j_icmp_geN (tgt := 123) C dX5_passDusk_54 (by decide) (by omega) (by omega) (fun c54 => ?_) (fun c54 => ?_)
            · exact j_vret C E dX5_passDusk_123 () trivial rfl (by rw [show c = N by omega, show i = N by omega])
            · refine j_aload_n C 0 dX5_passDusk_57 rfl rfl ?_
              refine j_get C mh0 3 mh2 0 rfl rfl (by decide) rfl rfl dX5_passDusk_58 ?_
              refine j_iload_n C 1 dX5_passDusk_61 rfl rfl ?_
              refine j_iald (v := lI (lg N k p c)) C 4 rfl (by omega) (by decide) (fil_in (by omega)) dX5_passDusk_62 ?_
              refine j_istore_n (lv' := [(2, .int (lI (lg N k p c))), (0, .ref (a 0)), (1, .int (nI c))]) C dX5_passDusk_63 rfl (by decide) rfl ?_
              refine j_iload_n C 0 dX5_passDusk_64 rfl rfl ?_
              refine j_bipush (v := (-9)) C dX5_passDusk_65 (by decide) ?_
              refine j_icmp_ne (tgt := 73) C dX5_passDusk_67 (by decide) (fun c67 => ?_) (fun c67 => ?_)
              · obtain ⟨q, hq⟩ := some_of c67
                have hqN := lg_lt hq
                rw [hq]
                show J X (wT a cy (nI N) (nI B) kf (pfD N B k p pf c) (fil (lgF N k p) lf N) (fil (tI N B k p) tf i)) 73 [(2, .int (nI q)), (0, .ref (a 0)), (1, .int (nI c))] []
                refine j_aload_n C 1 dX5_passDusk_73 rfl rfl ?_
                refine j_get C mh0 2 mh3 0 rfl rfl (by decide) rfl rfl dX5_passDusk_74 ?_
                refine j_iload_n C 0 dX5_passDusk_77 rfl rfl ?_
                refine j_gald (b := a (9 + q)) C 3 rfl (by omega) (by decide) (wT_out (by omega)) dX5_passDusk_78 ?_
                refine j_iload_n C 2 dX5_passDusk_79 rfl rfl ?_
                have := hT.p9 (a := q) (b := c) (by omega) (by omega)
                refine j_iald (v := nI (p q c)) C (9 + q) (wT_row (by omega)) (by omega) (by decide) (pfD_at.trans (hT.pp (by omega) (by omega))) dX5_passDusk_80 ?_
                refine j_istore_n (lv' := [(3, .int (nI (p q c))), (2, .int (nI q)), (0, .ref (a 0)), (1, .int (nI c))]) C dX5_passDusk_81 rfl (by decide) rfl ?_
                refine j_aload_n C 2 dX5_passDusk_82 rfl rfl ?_
                refine j_get C mh0 2 mh3 0 rfl rfl (by decide) rfl rfl dX5_passDusk_83 ?_
                refine j_iload_n C 1 dX5_passDusk_86 rfl rfl ?_
                refine j_gald (b := a (9 + q)) C 3 rfl (by omega) (by decide) (wT_out (by omega)) dX5_passDusk_87 ?_
                refine j_iload_n C 3 dX5_passDusk_88 rfl rfl ?_
                refine j_aload_n C 2 dX5_passDusk_89 rfl rfl ?_
                refine j_get C mh0 4 mh4 0 rfl rfl (by decide) rfl rfl dX5_passDusk_90 ?_
                refine j_iload_n C 1 dX5_passDusk_93 rfl rfl ?_
                refine j_zald (v := tI N B k p q) C 5 rfl (by omega) (by decide) (fil_in (by omega)) dX5_passDusk_94 ?_
                refine j_if_eq (tgt := 108) C dX5_passDusk_95 (by decide) (fun c95 => ?_) (fun c95 => ?_)
                · refine j_bipush (v := nI 9) C dX5_passDusk_108 (by decide) ?_
                  refine j_iconst (v := nI 2) C dX5_passDusk_110 (by decide) ?_
                  refine j_iload_n C 0 dX5_passDusk_111 rfl rfl ?_
                  refine j_imul (v := nI (2 * (p q c))) C dX5_passDusk_112 (pk_mul _ _) ?_
                  refine j_mmin (v := nI (min 9 (2 * p q c))) (rest := [.int (nI c), .ref (a (9 + q))]) C mh5 mh6 mh7 mh8 ⟨by decide, Nat.le_of_ble_eq_true rfl⟩ (mn_n (by omega) (by omega)) dX5_passDusk_113 ?_
                  refine j_iast (ws' := wT a cy (nI N) (nI B) kf (updR (pfD N B k p pf c) q (upd ((pfD N B k p pf c) q) c (nI (min 9 (2 * p q c))))) (fil (lgF N k p) lf N) (fil (tI N B k p) tf i)) C (9 + q) (wT_row (by omega)) (by omega) (by decide) (wT_set (by omega)) dX5_passDusk_116 ?_
                  refine j_iinc (v := nI (c + 1)) (lv' := [(1, .int (nI (c + 1))), (3, .int (nI (p q c))), (2, .int (nI q)), (0, .ref (a 0))]) C 3 dX5_passDusk_117 rfl (nI_inc c) (by decide) rfl ?_
                  refine j_goto (tgt := 49) C dX5_passDusk_120 (by decide) ?_
                  refine J.sub [3, 0] rfl ?_
                  have e := ih49 (c + 1) (by omega) (by omega)
                  first
                    | (rw [pfD_n ((lI_none (lg_31 hN)).mp c67)] at e; exact e)
                    | (rw [← pfD_s hq (dk_in hq (tI_1 c95))] at e; exact e)
                    | (rw [← pfD_s hq (dk_out hq (tI_0 c95))] at e; exact e)
                · refine j_iconst (v := nI 0) C dX5_passDusk_98 (by decide) ?_
                  refine j_iload_n C 0 dX5_passDusk_99 rfl rfl ?_
                  refine j_iconst (v := nI 1) C dX5_passDusk_100 (by decide) ?_
                  refine j_isub (v := nI (p q c) - nI 1) C dX5_passDusk_101 rfl ?_
                  refine j_mmax (v := nI (max 0 (p q c - 1))) (rest := [.int (nI c), .ref (a (9 + q))]) C mh9 mh10 mh7 mh11 ⟨by decide, Nat.le_of_ble_eq_true rfl⟩ (mx_s (by omega) (by omega) (by omega)) dX5_passDusk_102 ?_
                  refine j_goto (tgt := 116) C dX5_passDusk_105 (by decide) ?_
                  refine j_iast (ws' := wT a cy (nI N) (nI B) kf (updR (pfD N B k p pf c) q (upd ((pfD N B k p pf c) q) c (nI (max 0 (p q c - 1))))) (fil (lgF N k p) lf N) (fil (tI N B k p) tf i)) C (9 + q) (wT_row (by omega)) (by omega) (by decide) (wT_set (by omega)) dX5_passDusk_116 ?_
                  refine j_iinc (v := nI (c + 1)) (lv' := [(1, .int (nI (c + 1))), (3, .int (nI (p q c))), (2, .int (nI q)), (0, .ref (a 0))]) C 3 dX5_passDusk_117 rfl (nI_inc c) (by decide) rfl ?_
                  refine j_goto (tgt := 49) C dX5_passDusk_120 (by decide) ?_
                  refine J.sub [3, 0] rfl ?_
                  have e := ih49 (c + 1) (by omega) (by omega)
                  first
                    | (rw [pfD_n ((lI_none (lg_31 hN)).mp c67)] at e; exact e)
                    | (rw [← pfD_s hq (dk_in hq (tI_1 c95))] at e; exact e)
                    | (rw [← pfD_s hq (dk_out hq (tI_0 c95))] at e; exact e)
              · refine j_goto (tgt := 117) C dX5_passDusk_70 (by decide) ?_
                refine j_iinc (v := nI (c + 1)) (lv' := [(1, .int (nI (c + 1))), (2, .int (lI (lg N k p c))), (0, .ref (a 0))]) C 2 dX5_passDusk_117 rfl (nI_inc c) (by decide) rfl ?_
                refine j_goto (tgt := 49) C dX5_passDusk_120 (by decide) ?_
                refine J.sub [2, 0] rfl ?_
                have e := ih49 (c + 1) (by omega) (by omega)
                first
                  | (rw [pfD_n ((lI_none (lg_31 hN)).mp c67)] at e; exact e)
                  | (rw [← pfD_s hq (dk_in hq (tI_1 c95))] at e; exact e)
                  | (rw [← pfD_s hq (dk_out hq (tI_0 c95))] at e; exact e)
        have e := L49 (N + 1) 0 (by omega) (by omega)
        rw [pfD_0] at e
        exact e
      · refine j_aload_n C 0 dX5_passDusk_14 rfl rfl ?_
        refine j_get C mh0 4 mh4 0 rfl rfl (by decide) rfl rfl dX5_passDusk_15 ?_
        refine j_iload_n C 1 dX5_passDusk_18 rfl rfl ?_
        refine j_iload_n C 1 dX5_passDusk_19 rfl rfl ?_
        refine j_aload_n C 0 dX5_passDusk_20 rfl rfl ?_
        refine j_iload_n C 1 dX5_passDusk_21 rfl rfl ?_
        refine j_callV0 (As := [.int (nI i)]) (rest := [.int (nI i), .int (nI i), .ref (a 5)]) C (c_X5_roundByLighters a N B kf pf (fil (lgF N k p) lf N) (fil (tI N B k p) tf i) k p hT (fun j hj => fil_in hj) i (by omega)) gX5_passDusk_X5_roundByLighters rfl 1 rfl (by decide +kernel) (by decide) 0 rfl rfl (Nat.le_of_ble_eq_true rfl) dX5_passDusk_22 rfl (fun _ _ => ?_)
        show J X (wT a cy (nI N) (nI B) kf pf (fil (lgF N k p) lf N) (fil (tI N B k p) tf i)) 25 [(0, .ref (a 0)), (1, .int (nI i))] [.int (nI (rnd N k p i)), .int (nI i), .int (nI i), .ref (a 5)]
        refine j_callP (As := [.int (nI i), .int (nI (rnd N k p i))]) (rest := [.int (nI i), .ref (a 5)]) C (c_X5_fewestSteps i (rnd N k p i) (by omega) (rnd_lt hN _)) gX5_passDusk_X5_fewestSteps rfl 2 rfl (by decide +kernel) (by decide) (Nat.le_of_ble_eq_true rfl) dX5_passDusk_25 rfl (fun _ _ => ?_)
        rw [sps_6 hN]
        have hsp := sps_le (k := k) (p := p) hN (q := i) (by omega)
        show J X (wT a cy (nI N) (nI B) kf pf (fil (lgF N k p) lf N) (fil (tI N B k p) tf i)) 28 [(0, .ref (a 0)), (1, .int (nI i))] [.int (nI (sps N k p i)), .int (nI i), .ref (a 5)]
        refine j_aload_n C 0 dX5_passDusk_28 rfl rfl ?_
        refine j_get C mh0 6 mh12 0 rfl rfl (by decide) rfl rfl dX5_passDusk_29 ?_
        refine j_icmp_gtN (tgt := 39) C dX5_passDusk_32 (by decide) (by omega) (by omega) (fun c32 => ?_) (fun c32 => ?_)
        · refine j_iconst (v := nI 0) C dX5_passDusk_39 (by decide) ?_
          refine j_zast (ws' := wT a cy (nI N) (nI B) kf pf (fil (lgF N k p) lf N) (upd (fil (tI N B k p) tf i) i (nI 0))) C 5 rfl (by omega) (by decide) (by decide) rfl dX5_passDusk_40 ?_
          refine j_iinc (v := nI (i + 1)) (lv' := [(1, .int (nI (i + 1))), (0, .ref (a 0))]) C 1 dX5_passDusk_41 rfl (nI_inc i) (by decide) rfl ?_
          refine j_goto (tgt := 6) C dX5_passDusk_44 (by decide) ?_
          refine J.sub [1, 0] rfl ?_
          have e := ih6 (i + 1) (by omega) (by omega)
          first
            | (rw [← fil_s, tI_n c32] at e; exact e)
            | (rw [← fil_s, tI_y c32] at e; exact e)
        · refine j_iconst (v := nI 1) C dX5_passDusk_35 (by decide) ?_
          refine j_goto (tgt := 40) C dX5_passDusk_36 (by decide) ?_
          refine j_zast (ws' := wT a cy (nI N) (nI B) kf pf (fil (lgF N k p) lf N) (upd (fil (tI N B k p) tf i) i (nI 1))) C 5 rfl (by omega) (by decide) (by decide) rfl dX5_passDusk_40 ?_
          refine j_iinc (v := nI (i + 1)) (lv' := [(1, .int (nI (i + 1))), (0, .ref (a 0))]) C 1 dX5_passDusk_41 rfl (nI_inc i) (by decide) rfl ?_
          refine j_goto (tgt := 6) C dX5_passDusk_44 (by decide) ?_
          refine J.sub [1, 0] rfl ?_
          have e := ih6 (i + 1) (by omega) (by omega)
          first
            | (rw [← fil_s, tI_n c32] at e; exact e)
            | (rw [← fil_s, tI_y c32] at e; exact e)
  have e := L6 (N + 1) 0 (by omega) (by omega)
  rw [fil_0] at e
  exact e
set_option maxHeartbeats 4000000 in
set_option maxRecDepth 20000 in
theorem c_X5_penceInAll {l : Launch} {D : va_G} {cy : Nat → ClassId} (a : Nat → Nat) (N B : Nat) (kf : Nat → Int32) (pf : Nat → Nat → Int32) (lf tf : Nat → Int32) (k : Nat → Nat) (p : Nat → Nat → Nat) (hT : Ag N k p kf pf) (x : Nat) (hx : x < N) : Ct l yX5_penceInAll wsX5_penceInAll ({ frames := 0, cells := 0, slots := 0, locals := 0 }) D cy [.ref (a 0), .int (nI x)] (wT a cy (nI N) (nI B) kf pf lf tf) (fun _ : Unit => True) (fun _ => some (.int (nI (psum p x N)))) (fun _ => wT a cy (nI N) (nI B) kf pf lf tf) := by
  refine Ct.of (cc := cX5_penceInAll) (nL := 4) (ret := (some .int)) rfl (by decide) ⟨rfl, rfl⟩ (Nat.le_of_ble_eq_true rfl) ?_
  intro X C E
  have C : Cx X l D cy cX5_penceInAll 4 wsX5_penceInAll RX5 ({ frames := 0, cells := 0, slots := 0, locals := 0 }) := C
  have mh0 : ∀ w ∈ u_ws RX5 TX5 7, w ∈ wsX5_penceInAll := by decide +kernel
  have mh1 : Cond.fieldLink RX5 40 RX5 (TX5 5).2.1 (TX5 5).2.2.1 ∈ wsX5_penceInAll := by decide +kernel
  have mh2 : Cond.fieldLink RX5 30 RX5 (TX5 2).2.1 (TX5 2).2.2.1 ∈ wsX5_penceInAll := by decide +kernel
  have hN := hT.n
  show J X (wT a cy (nI N) (nI B) kf pf lf tf) 0 [(0, .ref (a 0)), (1, .int (nI x))] []
  refine j_iconst (v := nI 0) C dX5_penceInAll_0 (by decide) ?_
  refine j_istore_n (lv' := [(2, .int (nI 0)), (0, .ref (a 0)), (1, .int (nI x))]) C dX5_penceInAll_1 rfl (by decide) rfl ?_
  refine j_iconst (v := nI 0) C dX5_penceInAll_2 (by decide) ?_
  refine j_istore_n (lv' := [(3, .int (nI 0)), (2, .int (nI 0)), (0, .ref (a 0)), (1, .int (nI x))]) C dX5_penceInAll_3 rfl (by decide) rfl ?_
  refine J.sub [2, 3, 1, 0] rfl ?_
  have L4 : ∀ (n : Nat) (i : Nat), N - i < n → i ≤ N → J X (wT a cy (nI N) (nI B) kf pf lf tf) 4 [(0, .ref (a 0)), (1, .int (nI x)), (2, .int (nI (psum p x i))), (3, .int (nI i))] [] := by
    intro n
    induction n with
    | zero => intro i hm; exact absurd hm (Nat.not_lt_zero _)
    | succ n ih4 =>
      intro i h4_0 h4_1
      refine j_iload_n C 3 dX5_penceInAll_4 rfl rfl ?_
      refine j_aload_n C 0 dX5_penceInAll_5 rfl rfl ?_
      refine j_get C mh0 5 mh1 0 rfl rfl (by decide) rfl rfl dX5_penceInAll_6 ?_
      refine j_icmp_geN (tgt := 29) C dX5_penceInAll_9 (by decide) (by omega) (by omega) (fun c9 => ?_) (fun c9 => ?_)
      · refine j_iload_n C 2 dX5_penceInAll_29 rfl rfl ?_
        exact j_iret C E dX5_penceInAll_30 () trivial (by rw [show i = N by omega]) rfl
      · refine j_iload_n C 2 dX5_penceInAll_12 rfl rfl ?_
        refine j_aload_n C 0 dX5_penceInAll_13 rfl rfl ?_
        refine j_get C mh0 2 mh2 0 rfl rfl (by decide) rfl rfl dX5_penceInAll_14 ?_
        refine j_iload_n C 1 dX5_penceInAll_17 rfl rfl ?_
        refine j_gald (b := a (9 + x)) C 3 rfl (by omega) (by decide) (wT_out (by omega)) dX5_penceInAll_18 ?_
        refine j_iload_n C 3 dX5_penceInAll_19 rfl rfl ?_
        have := hT.p9 (a := x) (b := i) (by omega) (by omega)
        refine j_iald (v := nI (p x i)) C (9 + x) (wT_row (by omega)) (by omega) (by decide) (hT.pp (by omega) (by omega)) dX5_penceInAll_20 ?_
        refine j_iadd (v := nI ((psum p x i) + (p x i))) C dX5_penceInAll_21 (nI_add _ _) ?_
        refine j_istore_n (lv' := [(2, .int (nI ((psum p x i) + (p x i)))), (0, .ref (a 0)), (1, .int (nI x)), (3, .int (nI i))]) C dX5_penceInAll_22 rfl (by decide) rfl ?_
        refine j_iinc (v := nI (i + 1)) (lv' := [(3, .int (nI (i + 1))), (2, .int (nI ((psum p x i) + (p x i)))), (0, .ref (a 0)), (1, .int (nI x))]) C 3 dX5_penceInAll_23 rfl (nI_inc i) (by decide) rfl ?_
        refine j_goto (tgt := 4) C dX5_penceInAll_26 (by decide) ?_
        refine J.sub [2, 3, 1, 0] rfl ?_
        have e := ih4 (i + 1) (by omega) (by omega)
        exact e
  have e := L4 (N + 1) 0 (by omega) (by omega)
  exact e
set_option maxHeartbeats 4000000 in
set_option maxRecDepth 20000 in
theorem c_X5_owingTo {l : Launch} {D : va_G} {cy : Nat → ClassId} (a : Nat → Nat) (N B : Nat) (kf : Nat → Int32) (pf : Nat → Nat → Int32) (lf tf : Nat → Int32) (k : Nat → Nat) (p : Nat → Nat → Nat) (hT : Ag N k p kf pf) (b : Nat) (hb : b < N) : Ct l yX5_owingTo wsX5_owingTo ({ frames := 0, cells := 0, slots := 0, locals := 0 }) D cy [.ref (a 0), .int (nI b)] (wT a cy (nI N) (nI B) kf pf lf tf) (fun _ : Unit => True) (fun _ => some (.int (nI (bset (fun a => decide (0 < p a b)) N)))) (fun _ => wT a cy (nI N) (nI B) kf pf lf tf) := by
  refine Ct.of (cc := cX5_owingTo) (nL := 4) (ret := (some .int)) rfl (by decide) ⟨rfl, rfl⟩ (Nat.le_of_ble_eq_true rfl) ?_
  intro X C E
  have C : Cx X l D cy cX5_owingTo 4 wsX5_owingTo RX5 ({ frames := 0, cells := 0, slots := 0, locals := 0 }) := C
  have mh0 : ∀ w ∈ u_ws RX5 TX5 7, w ∈ wsX5_owingTo := by decide +kernel
  have mh1 : Cond.fieldLink RX5 40 RX5 (TX5 5).2.1 (TX5 5).2.2.1 ∈ wsX5_owingTo := by decide +kernel
  have mh2 : Cond.fieldLink RX5 30 RX5 (TX5 2).2.1 (TX5 2).2.2.1 ∈ wsX5_owingTo := by decide +kernel
  have hN := hT.n
  show J X (wT a cy (nI N) (nI B) kf pf lf tf) 0 [(0, .ref (a 0)), (1, .int (nI b))] []
  refine j_iconst (v := nI 0) C dX5_owingTo_0 (by decide) ?_
  refine j_istore_n (lv' := [(2, .int (nI 0)), (0, .ref (a 0)), (1, .int (nI b))]) C dX5_owingTo_1 rfl (by decide) rfl ?_
  refine j_iconst (v := nI 0) C dX5_owingTo_2 (by decide) ?_
  refine j_istore_n (lv' := [(3, .int (nI 0)), (2, .int (nI 0)), (0, .ref (a 0)), (1, .int (nI b))]) C dX5_owingTo_3 rfl (by decide) rfl ?_
  refine J.sub [2, 3, 1, 0] rfl ?_
  have L4 : ∀ (n : Nat) (i : Nat), N - i < n → i ≤ N → J X (wT a cy (nI N) (nI B) kf pf lf tf) 4 [(0, .ref (a 0)), (1, .int (nI b)), (2, .int (nI (bset (fun a => decide (0 < p a b)) i))), (3, .int (nI i))] [] := by
    intro n
    induction n with
    | zero => intro i hm; exact absurd hm (Nat.not_lt_zero _)
    | succ n ih4 =>
      intro i h4_0 h4_1
      refine j_iload_n C 3 dX5_owingTo_4 rfl rfl ?_
      refine j_aload_n C 0 dX5_owingTo_5 rfl rfl ?_
      refine j_get C mh0 5 mh1 0 rfl rfl (by decide) rfl rfl dX5_owingTo_6 ?_
      refine j_icmp_geN (tgt := 35) C dX5_owingTo_9 (by decide) (by omega) (by omega) (fun c9 => ?_) (fun c9 => ?_)
      · refine j_iload_n C 2 dX5_owingTo_35 rfl rfl ?_
        exact j_iret C E dX5_owingTo_36 () trivial (by rw [show i = N by omega]) rfl
      · refine j_aload_n C 0 dX5_owingTo_12 rfl rfl ?_
        refine j_get C mh0 2 mh2 0 rfl rfl (by decide) rfl rfl dX5_owingTo_13 ?_
        refine j_iload_n C 3 dX5_owingTo_16 rfl rfl ?_
        refine j_gald (b := a (9 + i)) C 3 rfl (by omega) (by decide) (wT_out (by omega)) dX5_owingTo_17 ?_
        refine j_iload_n C 1 dX5_owingTo_18 rfl rfl ?_
        have := hT.p9 (a := i) (b := b) (by omega) (by omega)
        refine j_iald (v := nI (p i b)) C (9 + i) (wT_row (by omega)) (by omega) (by decide) (hT.pp (by omega) (by omega)) dX5_owingTo_19 ?_
        refine j_if_leN (tgt := 29) C dX5_owingTo_20 (by decide) (by omega) (fun c20 => ?_) (fun c20 => ?_)
        · refine j_iinc (v := nI (i + 1)) (lv' := [(3, .int (nI (i + 1))), (0, .ref (a 0)), (1, .int (nI b)), (2, .int (nI (bset (fun a => decide (0 < p a b)) i)))]) C 3 dX5_owingTo_29 rfl (nI_inc i) (by decide) rfl ?_
          refine j_goto (tgt := 4) C dX5_owingTo_32 (by decide) ?_
          refine J.sub [1, 2, 3, 0] rfl ?_
          have e := ih4 (i + 1) (by omega) (by omega)
          first
            | (rw [bset_n (decide_eq_false (by omega))] at e; exact e)
            | (rw [bset_y (decide_eq_true (by omega))] at e; exact e)
        · refine j_iload_n C 2 dX5_owingTo_23 rfl rfl ?_
          refine j_iconst (v := nI 1) C dX5_owingTo_24 (by decide) ?_
          refine j_iload_n C 3 dX5_owingTo_25 rfl rfl ?_
          refine j_ishl (v := nI (2 ^ i)) C dX5_owingTo_26 (sh_l (by omega)) ?_
          refine j_ior (v := nI (bset (fun a => decide (0 < p a b)) i + 2 ^ i)) C dX5_owingTo_27 (or_2 (bset_lt _ _)) ?_
          refine j_istore_n (lv' := [(2, .int (nI (bset (fun a => decide (0 < p a b)) i + 2 ^ i))), (0, .ref (a 0)), (1, .int (nI b)), (3, .int (nI i))]) C dX5_owingTo_28 rfl (by decide) rfl ?_
          refine j_iinc (v := nI (i + 1)) (lv' := [(3, .int (nI (i + 1))), (2, .int (nI (bset (fun a => decide (0 < p a b)) i + 2 ^ i))), (0, .ref (a 0)), (1, .int (nI b))]) C 3 dX5_owingTo_29 rfl (nI_inc i) (by decide) rfl ?_
          refine j_goto (tgt := 4) C dX5_owingTo_32 (by decide) ?_
          refine J.sub [2, 3, 1, 0] rfl ?_
          have e := ih4 (i + 1) (by omega) (by omega)
          first
            | (rw [bset_n (decide_eq_false (by omega))] at e; exact e)
            | (rw [bset_y (decide_eq_true (by omega))] at e; exact e)
  have e := L4 (N + 1) 0 (by omega) (by omega)
  exact e
set_option maxHeartbeats 4000000 in
set_option maxRecDepth 20000 in
theorem c_X5_bodyOf {l : Launch} {D : va_G} {cy : Nat → ClassId} (a : Nat → Nat) (N B : Nat) (kf : Nat → Int32) (pf : Nat → Nat → Int32) (lf tf : Nat → Int32) (k : Nat → Nat) (p : Nat → Nat → Nat) (hT : Ag N k p kf pf) (x : Nat) (hx : x < N) : Ct l yX5_bodyOf wsX5_bodyOf ({ frames := 0, cells := 0, slots := 0, locals := 0 }) D cy [.ref (a 0), .int (nI x)] (wT a cy (nI N) (nI B) kf pf lf tf) (fun _ : Unit => True) (fun _ => some (.ref (a (6 + k x)))) (fun _ => wT a cy (nI N) (nI B) kf pf lf tf) := by
  refine Ct.of (cc := cX5_bodyOf) (nL := 2) (ret := (some (.object "DebtLamps$Person"))) rfl (by decide) ⟨rfl, rfl⟩ (Nat.le_of_ble_eq_true rfl) ?_
  intro X C E
  have C : Cx X l D cy cX5_bodyOf 2 wsX5_bodyOf RX5 ({ frames := 0, cells := 0, slots := 0, locals := 0 }) := C
  have mh0 : ∀ w ∈ u_ws RX5 TX5 7, w ∈ wsX5_bodyOf := by decide +kernel
  have mh1 : Cond.fieldLink RX5 18 RX5 (TX5 0).2.1 (TX5 0).2.2.1 ∈ wsX5_bodyOf := by decide +kernel
  have mh2 : Cond.fieldLink RX5 24 RX5 (TX5 1).2.1 (TX5 1).2.2.1 ∈ wsX5_bodyOf := by decide +kernel
  have hN := hT.n
  show J X (wT a cy (nI N) (nI B) kf pf lf tf) 0 [(0, .ref (a 0)), (1, .int (nI x))] []
  refine j_aload_n C 0 dX5_bodyOf_0 rfl rfl ?_
  refine j_get C mh0 0 mh1 0 rfl rfl (by decide) rfl rfl dX5_bodyOf_1 ?_
  refine j_aload_n C 0 dX5_bodyOf_4 rfl rfl ?_
  refine j_get C mh0 1 mh2 0 rfl rfl (by decide) rfl rfl dX5_bodyOf_5 ?_
  refine j_iload_n C 1 dX5_bodyOf_8 rfl rfl ?_
  have := hT.k2 (a := x) (by omega)
  refine j_iald (v := nI (k x)) C 2 rfl (by omega) (by decide) (hT.kk (by omega)) dX5_bodyOf_9 ?_
  refine j_aald (t0 := 2) (Cn := "DebtLamps$Person") (b := a (6 + (k x))) C 1 rfl rfl (by omega) (by decide) (if_pos (by omega)) dX5_bodyOf_10 ?_
  exact j_aret C E dX5_bodyOf_11 () trivial rfl rfl
