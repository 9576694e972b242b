set_option maxHeartbeats 4000000 in
set_option maxRecDepth 20000 in
theorem c_X8_roundOf {l : Launch} {D : va_G} {cy : Nat → ClassId} (mm : Nat → Nat) (fl tv : Int32) (so sg ce : Nat → Int32) (N B : Nat) (kf pf : Nat → Int32) (vat vrm vrb : Int32) (rk rp lf tf kp : Nat → Int32) (c : Nat) (df mf gf : Nat → Int32) (k : Nat → Nat) (p : Nat → Nat → Nat) (hT : Ag N k p kf (PF pf)) (q : Nat) (hq : q < 6) : Ct l yX8_roundOf wsX8_roundOf ({ frames := 3, cells := 0, slots := 0, locals := 67 }) D cy [.ref (mm 0), .int (nI q)] (wM mm cy fl tv so sg ce (nI N) (nI B) kf pf vat vrm vrb rk rp lf tf kp (nI c) df mf gf) (fun _ : Unit => True) (fun _ => some (.int (nI (rnd N k p q)))) (fun _ => wM mm cy fl tv so sg ce (nI N) (nI B) kf pf vat vrm vrb rk rp lf tf kp (nI c) df mf gf) := by
  refine Ct.of (cc := cX8_roundOf) (nL := 4) (ret := (some .int)) rfl (by decide) ⟨rfl, rfl⟩ (Nat.le_of_ble_eq_true rfl) ?_
  intro X C E
  have C : Cx X l D cy cX8_roundOf 4 wsX8_roundOf RX8 ({ frames := 3, cells := 0, slots := 0, locals := 67 }) := C
  have mh0 : ∀ w ∈ u_ws RX8 TX8 21, w ∈ wsX8_roundOf := by decide +kernel
  have mh1 : Cond.fieldLink RX8 60 RX8 (TX8 5).2.1 (TX8 5).2.2.1 ∈ wsX8_roundOf := by decide +kernel
  have hN := hT.n
  show J X (wM mm cy fl tv so sg ce (nI N) (nI B) kf pf vat vrm vrb rk rp lf tf kp (nI c) df mf gf) 0 [(0, .ref (mm 0)), (1, .int (nI q))] []
  refine j_iconst (v := nI 0) C dX8_roundOf_0 (by decide) ?_
  refine j_istore_n (lv' := [(2, .int (nI 0)), (0, .ref (mm 0)), (1, .int (nI q))]) C dX8_roundOf_1 rfl (by decide) rfl ?_
  refine j_iconst (v := nI 0) C dX8_roundOf_2 (by decide) ?_
  refine j_istore_n (lv' := [(3, .int (nI 0)), (2, .int (nI 0)), (0, .ref (mm 0)), (1, .int (nI q))]) C dX8_roundOf_3 rfl (by decide) rfl ?_
  refine J.sub [2, 3, 1, 0] rfl ?_
  have L4 : ∀ (n : Nat) (i : Nat), N - i < n → i ≤ N → J X (wM mm cy fl tv so sg ce (nI N) (nI B) kf pf vat vrm vrb rk rp lf tf kp (nI c) df mf gf) 4 [(0, .ref (mm 0)), (1, .int (nI q)), (2, .int (nI (bset (fun b => lg N k p b == some q) i))), (3, .int (nI i))] [] := by
    intro n
    induction n with
    | zero => intro i hm; exact absurd hm (Nat.not_lt_zero _)
    | succ n ih4 =>
      intro i h4_0 h4_1
      refine j_iload_n C 3 dX8_roundOf_4 rfl rfl ?_
      refine j_aload_n C 0 dX8_roundOf_5 rfl rfl ?_
      refine j_get C mh0 5 mh1 0 rfl rfl (by decide) rfl rfl dX8_roundOf_6 ?_
      refine j_icmp_geN (tgt := 37) C dX8_roundOf_9 (by decide) (by omega) (by omega) (fun c9 => ?_) (fun c9 => ?_)
      · refine j_iload_n C 2 dX8_roundOf_37 rfl rfl ?_
        exact j_iret C E dX8_roundOf_38 () trivial (by rw [show i = N by omega]; rfl) rfl
      · refine j_iload_n C 2 dX8_roundOf_12 rfl rfl ?_
        refine j_aload_n C 0 dX8_roundOf_13 rfl rfl ?_
        refine j_iload_n C 3 dX8_roundOf_14 rfl rfl ?_
        refine j_callV0 (As := [.int (nI i)]) (rest := [.int (nI (bset (fun b => lg N k p b == some q) i))]) C (c_X8_lighterOf mm fl tv so sg ce N B kf pf vat vrm vrb rk rp lf tf kp c df mf gf k p hT i (by omega)) gX8_roundOf_X8_lighterOf rfl 1 rfl (by decide +kernel) (by decide) 0 rfl rfl (Nat.le_of_ble_eq_true rfl) dX8_roundOf_15 rfl (fun _ _ => ?_)
        show J X (wM mm cy fl tv so sg ce (nI N) (nI B) kf pf vat vrm vrb rk rp lf tf kp (nI c) df mf gf) 18 [(0, .ref (mm 0)), (1, .int (nI q)), (2, .int (nI (bset (fun b => lg N k p b == some q) i))), (3, .int (nI i))] [.int (lI (lg N k p i)), .int (nI (bset (fun b => lg N k p b == some q) i))]
        refine j_iload_n C 1 dX8_roundOf_18 rfl rfl ?_
        refine j_icmp_ne (tgt := 28) C dX8_roundOf_19 (by decide) (fun c19 => ?_) (fun c19 => ?_)
        · refine j_iconst (v := nI 0) C dX8_roundOf_28 (by decide) ?_
          refine j_ior (v := nI (bset (fun b => lg N k p b == some q) (i + 1))) C dX8_roundOf_29 (by first | exact bs_n (P := (fun b => lg N k p b == some q)) (n := i) (beq_eq_false_iff_ne.mpr (fun z => c19 (by rw [z]; rfl))) | exact bs_y (P := (fun b => lg N k p b == some q)) (n := i) (by show (lg N k p i == some q) = true; rw [(lI_eq (lg_31 hN) (by omega)).mp c19]; exact beq_self_eq_true _)) ?_
          refine j_istore_n (lv' := [(2, .int (nI (bset (fun b => lg N k p b == some q) (i + 1)))), (0, .ref (mm 0)), (1, .int (nI q)), (3, .int (nI i))]) C dX8_roundOf_30 rfl (by decide) rfl ?_
          refine j_iinc (v := nI (i + 1)) (lv' := [(3, .int (nI (i + 1))), (2, .int (nI (bset (fun b => lg N k p b == some q) (i + 1)))), (0, .ref (mm 0)), (1, .int (nI q))]) C 3 dX8_roundOf_31 rfl (nI_inc i) (by decide) rfl ?_
          refine j_goto (tgt := 4) C dX8_roundOf_34 (by decide) ?_
          refine J.sub [2, 3, 1, 0] rfl ?_
          have e := ih4 (i + 1) (by omega) (by omega)
          exact e
        · refine j_iconst (v := nI 1) C dX8_roundOf_22 (by decide) ?_
          refine j_iload_n C 3 dX8_roundOf_23 rfl rfl ?_
          refine j_ishl (v := nI (2 ^ i)) C dX8_roundOf_24 (sh_l (by omega)) ?_
          refine j_goto (tgt := 29) C dX8_roundOf_25 (by decide) ?_
          refine j_ior (v := nI (bset (fun b => lg N k p b == some q) (i + 1))) C dX8_roundOf_29 (by first | exact bs_n (P := (fun b => lg N k p b == some q)) (n := i) (beq_eq_false_iff_ne.mpr (fun z => c19 (by rw [z]; rfl))) | exact bs_y (P := (fun b => lg N k p b == some q)) (n := i) (by show (lg N k p i == some q) = true; rw [(lI_eq (lg_31 hN) (by omega)).mp c19]; exact beq_self_eq_true _)) ?_
          refine j_istore_n (lv' := [(2, .int (nI (bset (fun b => lg N k p b == some q) (i + 1)))), (0, .ref (mm 0)), (1, .int (nI q)), (3, .int (nI i))]) C dX8_roundOf_30 rfl (by decide) rfl ?_
          refine j_iinc (v := nI (i + 1)) (lv' := [(3, .int (nI (i + 1))), (2, .int (nI (bset (fun b => lg N k p b == some q) (i + 1)))), (0, .ref (mm 0)), (1, .int (nI q))]) C 3 dX8_roundOf_31 rfl (nI_inc i) (by decide) rfl ?_
          refine j_goto (tgt := 4) C dX8_roundOf_34 (by decide) ?_
          refine J.sub [2, 3, 1, 0] rfl ?_
          have e := ih4 (i + 1) (by omega) (by omega)
          exact e
  have e := L4 (N + 1) 0 (by omega) (by omega)
  exact e
set_option maxHeartbeats 4000000 in
set_option maxRecDepth 20000 in
theorem c_X8_steps {l : Launch} {D : va_G} {cy : Nat → ClassId} (mm : Nat → Nat) (fl tv : Int32) (so sg ce : Nat → Int32) (N B : Nat) (kf pf : Nat → Int32) (vat vrm vrb : Int32) (rk rp lf tf kp : Nat → Int32) (c : Nat) (df mf gf : Nat → Int32) (q s : Nat) (hN : N ≤ 6) (hq : q < 6) (hs : s < 64) : Ct l yX8_steps wsX8_steps ({ frames := 0, cells := 0, slots := 0, locals := 0 }) D cy [.ref (mm 0), .int (nI q), .int (nI s)] (wM mm cy fl tv so sg ce (nI N) (nI B) kf pf vat vrm vrb rk rp lf tf kp (nI c) df mf gf) (fun _ : Unit => True) (fun _ => some (.int (nI (stp (bitP s) q N)))) (fun _ => wM mm cy fl tv so sg ce (nI N) (nI B) kf pf vat vrm vrb rk rp lf tf kp (nI c) df mf gf) := by
  refine Ct.of (cc := cX8_steps) (nL := 6) (ret := (some .int)) rfl (by decide) ⟨rfl, rfl⟩ (Nat.le_of_ble_eq_true rfl) ?_
  intro X C E
  have C : Cx X l D cy cX8_steps 6 wsX8_steps RX8 ({ frames := 0, cells := 0, slots := 0, locals := 0 }) := C
  have mh0 : ∀ w ∈ u_ws RX8 TX8 21, w ∈ wsX8_steps := by decide +kernel
  have mh1 : Cond.fieldLink RX8 60 RX8 (TX8 5).2.1 (TX8 5).2.2.1 ∈ wsX8_steps := by decide +kernel
  show J X (wM mm cy fl tv so sg ce (nI N) (nI B) kf pf vat vrm vrb rk rp lf tf kp (nI c) df mf gf) 0 [(0, .ref (mm 0)), (1, .int (nI q)), (2, .int (nI s))] []
  refine j_iconst (v := nI 0) C dX8_steps_0 (by decide) ?_
  refine j_istore_n (lv' := [(3, .int (nI 0)), (0, .ref (mm 0)), (1, .int (nI q)), (2, .int (nI s))]) C dX8_steps_1 rfl (by decide) rfl ?_
  refine j_iconst (v := nI 0) C dX8_steps_2 (by decide) ?_
  refine j_istore (lv' := [(4, .int (nI 0)), (3, .int (nI 0)), (0, .ref (mm 0)), (1, .int (nI q)), (2, .int (nI s))]) C dX8_steps_3 (by decide) rfl ?_
  refine j_iconst (v := nI 0) C dX8_steps_5 (by decide) ?_
  refine j_istore (lv' := [(5, .int (nI 0)), (4, .int (nI 0)), (3, .int (nI 0)), (0, .ref (mm 0)), (1, .int (nI q)), (2, .int (nI s))]) C dX8_steps_6 (by decide) rfl ?_
  refine J.sub [3, 4, 5, 2, 1, 0] rfl ?_
  have L8 : ∀ (n : Nat) (i : Nat), N - i < n → i ≤ N → J X (wM mm cy fl tv so sg ce (nI N) (nI B) kf pf vat vrm vrb rk rp lf tf kp (nI c) df mf gf) 8 [(0, .ref (mm 0)), (1, .int (nI q)), (2, .int (nI s)), (3, .int (nI (dn (bitP s) q i))), (4, .int (nI (upp (bitP s) q i))), (5, .int (nI i))] [] := by
    intro n
    induction n with
    | zero => intro i hm; exact absurd hm (Nat.not_lt_zero _)
    | succ n ih8 =>
      intro i h8_0 h8_1
      have hdn := dn_le (bitP s) q i
      have hup := upp_le (bitP s) q i
      refine j_iload C 5 dX8_steps_8 rfl ?_
      refine j_aload_n C 0 dX8_steps_10 rfl rfl ?_
      refine j_get C mh0 5 mh1 0 rfl rfl (by decide) rfl rfl dX8_steps_11 ?_
      refine j_icmp_geN (tgt := 70) C dX8_steps_14 (by decide) (by omega) (by omega) (fun c14 => ?_) (fun c14 => ?_)
      · refine j_iload_n C 3 dX8_steps_70 rfl rfl ?_
        refine j_iload C 4 dX8_steps_71 rfl ?_
        refine j_iadd (v := nI ((dn (bitP s) q i) + (upp (bitP s) q i))) C dX8_steps_73 (nI_add _ _) ?_
        refine j_iload_n C 3 dX8_steps_74 rfl rfl ?_
        refine j_iload C 4 dX8_steps_75 rfl ?_
        refine j_icmp_geN (tgt := 84) C dX8_steps_77 (by decide) (by omega) (by omega) (fun c77 => ?_) (fun c77 => ?_)
        · refine j_iload C 4 dX8_steps_84 rfl ?_
          refine j_iadd (v := nI (((dn (bitP s) q i) + (upp (bitP s) q i)) + (upp (bitP s) q i))) C dX8_steps_86 (nI_add _ _) ?_
          exact j_iret C E dX8_steps_87 () trivial (by rw [show N = i by omega]; unfold stp; first | (rw [Nat.min_eq_left (by omega)]; done) | (rw [Nat.min_eq_right (by omega)]; done)) rfl
        · refine j_iload_n C 3 dX8_steps_80 rfl rfl ?_
          refine j_goto (tgt := 86) C dX8_steps_81 (by decide) ?_
          refine j_iadd (v := nI (((dn (bitP s) q i) + (upp (bitP s) q i)) + (dn (bitP s) q i))) C dX8_steps_86 (nI_add _ _) ?_
          exact j_iret C E dX8_steps_87 () trivial (by rw [show N = i by omega]; unfold stp; first | (rw [Nat.min_eq_left (by omega)]; done) | (rw [Nat.min_eq_right (by omega)]; done)) rfl
      · refine j_iload_n C 2 dX8_steps_17 rfl rfl ?_
        refine j_iload C 5 dX8_steps_18 rfl ?_
        refine j_ishr (v := nI (s / 2 ^ i)) C dX8_steps_20 (sh_r (by omega) (by omega)) ?_
        refine j_iconst (v := nI 1) C dX8_steps_21 (by decide) ?_
        refine j_iand (v := nI ((s / 2 ^ i) % 2)) C dX8_steps_22 (an_1 _) ?_
        refine j_iconst (v := nI 1) C dX8_steps_23 (by decide) ?_
        refine j_icmp_neN (tgt := 64) C dX8_steps_24 (by decide) (by omega) (by omega) (fun c24 => ?_) (fun c24 => ?_)
        · have hb : bitP s i = false := decide_eq_false (by omega)
          refine j_iinc (v := nI (i + 1)) (lv' := [(5, .int (nI (i + 1))), (0, .ref (mm 0)), (1, .int (nI q)), (2, .int (nI s)), (3, .int (nI (dn (bitP s) q i))), (4, .int (nI (upp (bitP s) q i)))]) C 5 dX8_steps_64 rfl (nI_inc i) (by decide) rfl ?_
          refine j_goto (tgt := 8) C dX8_steps_67 (by decide) ?_
          refine J.sub [1, 2, 3, 4, 5, 0] rfl ?_
          have e := ih8 (i + 1) (by omega) (by omega)
          first
            | (rw [h1, h2] at e; exact e)
            | (rw [dn_n hb, upp_n hb] at e; exact e)
        · have hb : bitP s i = true := decide_eq_true (by omega)
          refine j_iload_n C 1 dX8_steps_27 rfl rfl ?_
          refine j_iload C 5 dX8_steps_28 rfl ?_
          refine j_isub (v := nI q - nI i) C dX8_steps_30 rfl ?_
          refine j_iload_n C 3 dX8_steps_31 rfl rfl ?_
          refine j_icmp_le (tgt := 42) C dX8_steps_32 (by decide) (fun c32 => ?_) (fun c32 => ?_)
          · rw [sb_le (by omega) (by omega) (by omega)] at c32
            have h1 : dn (bitP s) q (i + 1) = dn (bitP s) q i := by rw [dn_y hb]; exact Nat.max_eq_left c32
            refine j_iload_n C 3 dX8_steps_42 rfl rfl ?_
            refine j_istore_n (lv' := [(3, .int (nI (dn (bitP s) q i))), (0, .ref (mm 0)), (1, .int (nI q)), (2, .int (nI s)), (4, .int (nI (upp (bitP s) q i))), (5, .int (nI i))]) C dX8_steps_43 rfl (by decide) rfl ?_
            refine j_iload C 5 dX8_steps_44 rfl ?_
            refine j_iload_n C 2 dX8_steps_46 rfl rfl ?_
            refine j_isub (v := nI i - nI q) C dX8_steps_47 rfl ?_
            refine j_iload C 4 dX8_steps_48 rfl ?_
            refine j_icmp_le (tgt := 60) C dX8_steps_50 (by decide) (fun c50 => ?_) (fun c50 => ?_)
            · rw [sb_le (by omega) (by omega) (by omega)] at c50
              have h2 : upp (bitP s) q (i + 1) = upp (bitP s) q i := by rw [upp_y hb]; exact Nat.max_eq_left c50
              refine j_iload C 4 dX8_steps_60 rfl ?_
              refine j_istore (lv' := [(4, .int (nI (upp (bitP s) q i))), (3, .int (nI (dn (bitP s) q i))), (0, .ref (mm 0)), (1, .int (nI q)), (2, .int (nI s)), (5, .int (nI i))]) C dX8_steps_62 (by decide) rfl ?_
              refine j_iinc (v := nI (i + 1)) (lv' := [(5, .int (nI (i + 1))), (4, .int (nI (upp (bitP s) q i))), (3, .int (nI (dn (bitP s) q i))), (0, .ref (mm 0)), (1, .int (nI q)), (2, .int (nI s))]) C 5 dX8_steps_64 rfl (nI_inc i) (by decide) rfl ?_
              refine j_goto (tgt := 8) C dX8_steps_67 (by decide) ?_
              refine J.sub [3, 4, 5, 2, 1, 0] rfl ?_
              have e := ih8 (i + 1) (by omega) (by omega)
              first
                | (rw [h1, h2] at e; exact e)
                | (rw [dn_n hb, upp_n hb] at e; exact e)
            · rw [sb_le (by omega) (by omega) (by omega)] at c50
              have h2 : upp (bitP s) q (i + 1) = i - q := by rw [upp_y hb]; exact Nat.max_eq_right (by omega)
              refine j_iload C 5 dX8_steps_53 rfl ?_
              refine j_iload_n C 2 dX8_steps_55 rfl rfl ?_
              refine j_isub (v := nI (i - q)) C dX8_steps_56 (pk_sub (by omega)) ?_
              refine j_goto (tgt := 62) C dX8_steps_57 (by decide) ?_
              refine j_istore (lv' := [(4, .int (nI (i - q))), (3, .int (nI (dn (bitP s) q i))), (0, .ref (mm 0)), (1, .int (nI q)), (2, .int (nI s)), (5, .int (nI i))]) C dX8_steps_62 (by decide) rfl ?_
              refine j_iinc (v := nI (i + 1)) (lv' := [(5, .int (nI (i + 1))), (4, .int (nI (i - q))), (3, .int (nI (dn (bitP s) q i))), (0, .ref (mm 0)), (1, .int (nI q)), (2, .int (nI s))]) C 5 dX8_steps_64 rfl (nI_inc i) (by decide) rfl ?_
              refine j_goto (tgt := 8) C dX8_steps_67 (by decide) ?_
              refine J.sub [3, 4, 5, 2, 1, 0] rfl ?_
              have e := ih8 (i + 1) (by omega) (by omega)
              first
                | (rw [h1, h2] at e; exact e)
                | (rw [dn_n hb, upp_n hb] at e; exact e)
          · rw [sb_le (by omega) (by omega) (by omega)] at c32
            have h1 : dn (bitP s) q (i + 1) = q - i := by rw [dn_y hb]; exact Nat.max_eq_right (by omega)
            refine j_iload_n C 1 dX8_steps_35 rfl rfl ?_
            refine j_iload C 5 dX8_steps_36 rfl ?_
            refine j_isub (v := nI (q - i)) C dX8_steps_38 (pk_sub (by omega)) ?_
            refine j_goto (tgt := 43) C dX8_steps_39 (by decide) ?_
            refine j_istore_n (lv' := [(3, .int (nI (q - i))), (0, .ref (mm 0)), (1, .int (nI q)), (2, .int (nI s)), (4, .int (nI (upp (bitP s) q i))), (5, .int (nI i))]) C dX8_steps_43 rfl (by decide) rfl ?_
            refine j_iload C 5 dX8_steps_44 rfl ?_
            refine j_iload_n C 2 dX8_steps_46 rfl rfl ?_
            refine j_isub (v := nI i - nI q) C dX8_steps_47 rfl ?_
            refine j_iload C 4 dX8_steps_48 rfl ?_
            refine j_icmp_le (tgt := 60) C dX8_steps_50 (by decide) (fun c50 => ?_) (fun c50 => ?_)
            · rw [sb_le (by omega) (by omega) (by omega)] at c50
              have h2 : upp (bitP s) q (i + 1) = upp (bitP s) q i := by rw [upp_y hb]; exact Nat.max_eq_left c50
              refine j_iload C 4 dX8_steps_60 rfl ?_
              refine j_istore (lv' := [(4, .int (nI (upp (bitP s) q i))), (3, .int (nI (q - i))), (0, .ref (mm 0)), (1, .int (nI q)), (2, .int (nI s)), (5, .int (nI i))]) C dX8_steps_62 (by decide) rfl ?_
              refine j_iinc (v := nI (i + 1)) (lv' := [(5, .int (nI (i + 1))), (4, .int (nI (upp (bitP s) q i))), (3, .int (nI (q - i))), (0, .ref (mm 0)), (1, .int (nI q)), (2, .int (nI s))]) C 5 dX8_steps_64 rfl (nI_inc i) (by decide) rfl ?_
              refine j_goto (tgt := 8) C dX8_steps_67 (by decide) ?_
              refine J.sub [3, 4, 5, 2, 1, 0] rfl ?_
              have e := ih8 (i + 1) (by omega) (by omega)
              first
                | (rw [h1, h2] at e; exact e)
                | (rw [dn_n hb, upp_n hb] at e; exact e)
            · rw [sb_le (by omega) (by omega) (by omega)] at c50
              have h2 : upp (bitP s) q (i + 1) = i - q := by rw [upp_y hb]; exact Nat.max_eq_right (by omega)
              refine j_iload C 5 dX8_steps_53 rfl ?_
              refine j_iload_n C 2 dX8_steps_55 rfl rfl ?_
              refine j_isub (v := nI (i - q)) C dX8_steps_56 (pk_sub (by omega)) ?_
              refine j_goto (tgt := 62) C dX8_steps_57 (by decide) ?_
              refine j_istore (lv' := [(4, .int (nI (i - q))), (3, .int (nI (q - i))), (0, .ref (mm 0)), (1, .int (nI q)), (2, .int (nI s)), (5, .int (nI i))]) C dX8_steps_62 (by decide) rfl ?_
              refine j_iinc (v := nI (i + 1)) (lv' := [(5, .int (nI (i + 1))), (4, .int (nI (i - q))), (3, .int (nI (q - i))), (0, .ref (mm 0)), (1, .int (nI q)), (2, .int (nI s))]) C 5 dX8_steps_64 rfl (nI_inc i) (by decide) rfl ?_
              refine j_goto (tgt := 8) C dX8_steps_67 (by decide) ?_
              refine J.sub [3, 4, 5, 2, 1, 0] rfl ?_
              have e := ih8 (i + 1) (by omega) (by omega)
              first
                | (rw [h1, h2] at e; exact e)
                | (rw [dn_n hb, upp_n hb] at e; exact e)
  have e := L8 (N + 1) 0 (by omega) (by omega)
  exact e
set_option maxHeartbeats 4000000 in
set_option maxRecDepth 20000 in
theorem c_X8_isInTime {l : Launch} {D : va_G} {cy : Nat → ClassId} (mm : Nat → Nat) (fl tv : Int32) (so sg ce : Nat → Int32) (N B : Nat) (kf pf : Nat → Int32) (vat vrm vrb : Int32) (rk rp lf tf kp : Nat → Int32) (c : Nat) (df mf gf : Nat → Int32) (k : Nat → Nat) (p : Nat → Nat → Nat) (hT : Ag N k p kf (PF pf)) (q : Nat) (hB : B ≤ 9) (hq : q < 6) : Ct l yX8_isInTime wsX8_isInTime ({ frames := 4, cells := 0, slots := 0, locals := 90 }) D cy [.ref (mm 0), .int (nI q)] (wM mm cy fl tv so sg ce (nI N) (nI B) kf pf vat vrm vrb rk rp lf tf kp (nI c) df mf gf) (fun _ : Unit => True) (fun _ => some (.int (nI (bN (sps N k p q ≤ B))))) (fun _ => wM mm cy fl tv so sg ce (nI N) (nI B) kf pf vat vrm vrb rk rp lf tf kp (nI c) df mf gf) := by
  refine Ct.of (cc := cX8_isInTime) (nL := 2) (ret := (some .boolean)) rfl (by decide) ⟨rfl, rfl⟩ (Nat.le_of_ble_eq_true rfl) ?_
  intro X C E
  have C : Cx X l D cy cX8_isInTime 2 wsX8_isInTime RX8 ({ frames := 4, cells := 0, slots := 0, locals := 90 }) := C
  have mh0 : ∀ w ∈ u_ws RX8 TX8 21, w ∈ wsX8_isInTime := by decide +kernel
  have mh1 : Cond.fieldLink RX8 93 RX8 (TX8 6).2.1 (TX8 6).2.2.1 ∈ wsX8_isInTime := by decide +kernel
  have hN := hT.n
  show J X (wM mm cy fl tv so sg ce (nI N) (nI B) kf pf vat vrm vrb rk rp lf tf kp (nI c) df mf gf) 0 [(0, .ref (mm 0)), (1, .int (nI q))] []
  refine j_aload_n C 0 dX8_isInTime_0 rfl rfl ?_
  refine j_iload_n C 1 dX8_isInTime_1 rfl rfl ?_
  refine j_aload_n C 0 dX8_isInTime_2 rfl rfl ?_
  refine j_iload_n C 1 dX8_isInTime_3 rfl rfl ?_
  refine j_callV0 (As := [.int (nI q)]) (rest := [.int (nI q), .ref (mm 0)]) C (c_X8_roundOf mm fl tv so sg ce N B kf pf vat vrm vrb rk rp lf tf kp c df mf gf k p hT q (by omega)) gX8_isInTime_X8_roundOf rfl 1 rfl (by decide +kernel) (by decide) 0 rfl rfl (Nat.le_of_ble_eq_true rfl) dX8_isInTime_4 rfl (fun _ _ => ?_)
  have hrl := rnd_lt (k := k) (p := p) hN q
  show J X (wM mm cy fl tv so sg ce (nI N) (nI B) kf pf vat vrm vrb rk rp lf tf kp (nI c) df mf gf) 7 [(0, .ref (mm 0)), (1, .int (nI q))] [.int (nI (rnd N k p q)), .int (nI q), .ref (mm 0)]
  refine j_callV0 (As := [.int (nI q), .int (nI (rnd N k p q))]) (rest := []) C (c_X8_steps mm fl tv so sg ce N B kf pf vat vrm vrb rk rp lf tf kp c df mf gf q (rnd N k p q) hN (by omega) (by omega)) gX8_isInTime_X8_steps rfl 2 rfl (by decide +kernel) (by decide) 0 rfl rfl (Nat.le_of_ble_eq_true rfl) dX8_isInTime_7 rfl (fun _ _ => ?_)
  have hsp := sps_le (k := k) (p := p) hN (q := q) (by omega)
  show J X (wM mm cy fl tv so sg ce (nI N) (nI B) kf pf vat vrm vrb rk rp lf tf kp (nI c) df mf gf) 10 [(0, .ref (mm 0)), (1, .int (nI q))] [.int (nI (sps N k p q))]
  refine j_aload_n C 0 dX8_isInTime_10 rfl rfl ?_
  refine j_get C mh0 6 mh1 0 rfl rfl (by decide) rfl rfl dX8_isInTime_11 ?_
  refine j_icmp_gtN (tgt := 21) C dX8_isInTime_14 (by decide) (by omega) (by omega) (fun c14 => ?_) (fun c14 => ?_)
  · refine j_iconst (v := nI 0) C dX8_isInTime_21 (by decide) ?_
    exact j_zret C E dX8_isInTime_22 rfl () trivial (by first | exact ret_y c14 | exact ret_n (by omega)) rfl
  · refine j_iconst (v := nI 1) C dX8_isInTime_17 (by decide) ?_
    refine j_goto (tgt := 22) C dX8_isInTime_18 (by decide) ?_
    exact j_zret C E dX8_isInTime_22 rfl () trivial (by first | exact ret_y c14 | exact ret_n (by omega)) rfl
set_option maxHeartbeats 4000000 in
set_option maxRecDepth 20000 in
theorem c_X8_owesAll {l : Launch} {D : va_G} {cy : Nat → ClassId} (mm : Nat → Nat) (fl tv : Int32) (so sg ce : Nat → Int32) (N B : Nat) (kf pf : Nat → Int32) (vat vrm vrb : Int32) (rk rp lf tf kp : Nat → Int32) (c : Nat) (df mf gf : Nat → Int32) (k : Nat → Nat) (p : Nat → Nat → Nat) (hT : Ag N k p kf (PF pf)) (x : Nat) (hx : x < N) : Ct l yX8_owesAll wsX8_owesAll ({ frames := 1, cells := 0, slots := 0, locals := 21 }) D cy [.ref (mm 0), .int (nI x)] (wM mm cy fl tv so sg ce (nI N) (nI B) kf pf vat vrm vrb rk rp lf tf kp (nI c) df mf gf) (fun _ : Unit => True) (fun _ => some (.int (nI (psum p x N)))) (fun _ => wM mm cy fl tv so sg ce (nI N) (nI B) kf pf vat vrm vrb rk rp lf tf kp (nI c) df mf gf) := by
  refine Ct.of (cc := cX8_owesAll) (nL := 4) (ret := (some .int)) rfl (by decide) ⟨rfl, rfl⟩ (Nat.le_of_ble_eq_true rfl) ?_
  intro X C E
  have C : Cx X l D cy cX8_owesAll 4 wsX8_owesAll RX8 ({ frames := 1, cells := 0, slots := 0, locals := 21 }) := C
  have mh0 : ∀ w ∈ u_ws RX8 TX8 21, w ∈ wsX8_owesAll := by decide +kernel
  have mh1 : Cond.fieldLink RX8 60 RX8 (TX8 5).2.1 (TX8 5).2.2.1 ∈ wsX8_owesAll := by decide +kernel
  have mh2 : Cond.fieldLink RX8 22 RX8 (TX8 8).2.1 (TX8 8).2.2.1 ∈ wsX8_owesAll := by decide +kernel
  have hN := hT.n
  show J X (wM mm cy fl tv so sg ce (nI N) (nI B) kf pf vat vrm vrb rk rp lf tf kp (nI c) df mf gf) 0 [(0, .ref (mm 0)), (1, .int (nI x))] []
  refine j_iconst (v := nI 0) C dX8_owesAll_0 (by decide) ?_
  refine j_istore_n (lv' := [(2, .int (nI 0)), (0, .ref (mm 0)), (1, .int (nI x))]) C dX8_owesAll_1 rfl (by decide) rfl ?_
  refine j_iconst (v := nI 0) C dX8_owesAll_2 (by decide) ?_
  refine j_istore_n (lv' := [(3, .int (nI 0)), (2, .int (nI 0)), (0, .ref (mm 0)), (1, .int (nI x))]) C dX8_owesAll_3 rfl (by decide) rfl ?_
  refine J.sub [2, 3, 1, 0] rfl ?_
  have L4 : ∀ (n : Nat) (i : Nat), N - i < n → i ≤ N → J X (wM mm cy fl tv so sg ce (nI N) (nI B) kf pf vat vrm vrb rk rp lf tf kp (nI c) df mf gf) 4 [(0, .ref (mm 0)), (1, .int (nI x)), (2, .int (nI (psum p x i))), (3, .int (nI i))] [] := by
    intro n
    induction n with
    | zero => intro i hm; exact absurd hm (Nat.not_lt_zero _)
    | succ n ih4 =>
      intro i h4_0 h4_1
      refine j_iload_n C 3 dX8_owesAll_4 rfl rfl ?_
      refine j_aload_n C 0 dX8_owesAll_5 rfl rfl ?_
      refine j_get C mh0 5 mh1 0 rfl rfl (by decide) rfl rfl dX8_owesAll_6 ?_
      refine j_icmp_geN (tgt := 31) C dX8_owesAll_9 (by decide) (by omega) (by omega) (fun c9 => ?_) (fun c9 => ?_)
      · refine j_iload_n C 2 dX8_owesAll_31 rfl rfl ?_
        exact j_iret C E dX8_owesAll_32 () trivial (by rw [show i = N by omega]) rfl
      · refine j_iload_n C 2 dX8_owesAll_12 rfl rfl ?_
        refine j_aload_n C 0 dX8_owesAll_13 rfl rfl ?_
        refine j_get C mh0 8 mh2 0 rfl rfl (by decide) rfl rfl dX8_owesAll_14 ?_
        refine j_iload_n C 1 dX8_owesAll_17 rfl rfl ?_
        refine j_iload_n C 3 dX8_owesAll_18 rfl rfl ?_
        refine j_callP (As := [.int (nI x), .int (nI i)]) (rest := [.ref (mm 5), .int (nI (psum p x i))]) C (c_X8_spot x i) gX8_owesAll_X8_spot rfl 2 rfl (by decide +kernel) (by decide) (Nat.le_of_ble_eq_true rfl) dX8_owesAll_19 rfl (fun _ _ => ?_)
        show J X (wM mm cy fl tv so sg ce (nI N) (nI B) kf pf vat vrm vrb rk rp lf tf kp (nI c) df mf gf) 22 [(0, .ref (mm 0)), (1, .int (nI x)), (2, .int (nI (psum p x i))), (3, .int (nI i))] [.int (nI (6 * x + i)), .ref (mm 5), .int (nI (psum p x i))]
        have := hT.p9 (a := x) (b := i) (by omega) (by omega)
        refine j_iald (v := nI (p x i)) C 5 rfl (by omega) (by decide) (hT.pp (a := x) (b := i) (by omega) (by omega)) dX8_owesAll_22 ?_
        refine j_iadd (v := nI ((psum p x i) + (p x i))) C dX8_owesAll_23 (nI_add _ _) ?_
        refine j_istore_n (lv' := [(2, .int (nI ((psum p x i) + (p x i)))), (0, .ref (mm 0)), (1, .int (nI x)), (3, .int (nI i))]) C dX8_owesAll_24 rfl (by decide) rfl ?_
        refine j_iinc (v := nI (i + 1)) (lv' := [(3, .int (nI (i + 1))), (2, .int (nI ((psum p x i) + (p x i)))), (0, .ref (mm 0)), (1, .int (nI x))]) C 3 dX8_owesAll_25 rfl (nI_inc i) (by decide) rfl ?_
        refine j_goto (tgt := 4) C dX8_owesAll_28 (by decide) ?_
        refine J.sub [2, 3, 1, 0] rfl ?_
        have e := ih4 (i + 1) (by omega) (by omega)
        exact e
  have e := L4 (N + 1) 0 (by omega) (by omega)
  exact e
set_option maxHeartbeats 4000000 in
set_option maxRecDepth 20000 in
theorem c_X8_lit {l : Launch} {D : va_G} {cy : Nat → ClassId} (mm : Nat → Nat) (fl tv : Int32) (so sg ce : Nat → Int32) (N B : Nat) (kf pf : Nat → Int32) (vat vrm vrb : Int32) (rk rp lf tf kp : Nat → Int32) (c : Nat) (df mf gf : Nat → Int32) (k : Nat → Nat) (p : Nat → Nat → Nat) (hT : Ag N k p kf (PF pf))  : Ct l yX8_lit wsX8_lit ({ frames := 3, cells := 0, slots := 0, locals := 67 }) D cy [.ref (mm 0)] (wM mm cy fl tv so sg ce (nI N) (nI B) kf pf vat vrm vrb rk rp lf tf kp (nI c) df mf gf) (fun _ : Unit => True) (fun _ => some (.int (nI (litS N k p)))) (fun _ => wM mm cy fl tv so sg ce (nI N) (nI B) kf pf vat vrm vrb rk rp lf tf kp (nI c) df mf gf) := by
  refine Ct.of (cc := cX8_lit) (nL := 3) (ret := (some .int)) rfl (by decide) ⟨rfl, rfl⟩ (Nat.le_of_ble_eq_true rfl) ?_
  intro X C E
  have C : Cx X l D cy cX8_lit 3 wsX8_lit RX8 ({ frames := 3, cells := 0, slots := 0, locals := 67 }) := C
  have mh0 : ∀ w ∈ u_ws RX8 TX8 21, w ∈ wsX8_lit := by decide +kernel
  have mh1 : Cond.fieldLink RX8 60 RX8 (TX8 5).2.1 (TX8 5).2.2.1 ∈ wsX8_lit := by decide +kernel
  have hN := hT.n
  show J X (wM mm cy fl tv so sg ce (nI N) (nI B) kf pf vat vrm vrb rk rp lf tf kp (nI c) df mf gf) 0 [(0, .ref (mm 0))] []
  refine j_iconst (v := nI 0) C dX8_lit_0 (by decide) ?_
  refine j_istore_n (lv' := [(1, .int (nI 0)), (0, .ref (mm 0))]) C dX8_lit_1 rfl (by decide) rfl ?_
  refine j_iconst (v := nI 0) C dX8_lit_2 (by decide) ?_
  refine j_istore_n (lv' := [(2, .int (nI 0)), (1, .int (nI 0)), (0, .ref (mm 0))]) C dX8_lit_3 rfl (by decide) rfl ?_
  refine J.sub [2, 1, 0] rfl ?_
  have L4 : ∀ (n : Nat) (i : Nat), N - i < n → i ≤ N → J X (wM mm cy fl tv so sg ce (nI N) (nI B) kf pf vat vrm vrb rk rp lf tf kp (nI c) df mf gf) 4 [(0, .ref (mm 0)), (1, .int (nI (bset (fun b => (lg N k p b).isSome) i))), (2, .int (nI i))] [] := by
    intro n
    induction n with
    | zero => intro i hm; exact absurd hm (Nat.not_lt_zero _)
    | succ n ih4 =>
      intro i h4_0 h4_1
      refine j_iload_n C 2 dX8_lit_4 rfl rfl ?_
      refine j_aload_n C 0 dX8_lit_5 rfl rfl ?_
      refine j_get C mh0 5 mh1 0 rfl rfl (by decide) rfl rfl dX8_lit_6 ?_
      refine j_icmp_geN (tgt := 38) C dX8_lit_9 (by decide) (by omega) (by omega) (fun c9 => ?_) (fun c9 => ?_)
      · refine j_iload_n C 1 dX8_lit_38 rfl rfl ?_
        exact j_iret C E dX8_lit_39 () trivial (by rw [show i = N by omega]; rfl) rfl
      · refine j_iload_n C 1 dX8_lit_12 rfl rfl ?_
        refine j_aload_n C 0 dX8_lit_13 rfl rfl ?_
        refine j_iload_n C 2 dX8_lit_14 rfl rfl ?_
        refine j_callV0 (As := [.int (nI i)]) (rest := [.int (nI (bset (fun b => (lg N k p b).isSome) i))]) C (c_X8_lighterOf mm fl tv so sg ce N B kf pf vat vrm vrb rk rp lf tf kp c df mf gf k p hT i (by omega)) gX8_lit_X8_lighterOf rfl 1 rfl (by decide +kernel) (by decide) 0 rfl rfl (Nat.le_of_ble_eq_true rfl) dX8_lit_15 rfl (fun _ _ => ?_)
        show J X (wM mm cy fl tv so sg ce (nI N) (nI B) kf pf vat vrm vrb rk rp lf tf kp (nI c) df mf gf) 18 [(0, .ref (mm 0)), (1, .int (nI (bset (fun b => (lg N k p b).isSome) i))), (2, .int (nI i))] [.int (lI (lg N k p i)), .int (nI (bset (fun b => (lg N k p b).isSome) i))]
        refine j_bipush (v := (-9)) C dX8_lit_18 (by decide) ?_
        refine j_icmp_ne (tgt := 27) C dX8_lit_20 (by decide) (fun c20 => ?_) (fun c20 => ?_)
        · refine j_iconst (v := nI 1) C dX8_lit_27 (by decide) ?_
          refine j_iload_n C 2 dX8_lit_28 rfl rfl ?_
          refine j_ishl (v := nI (2 ^ i)) C dX8_lit_29 (sh_l (by omega)) ?_
          refine j_ior (v := nI (bset (fun b => (lg N k p b).isSome) (i + 1))) C dX8_lit_30 (by first | exact bs_n (P := (fun b => (lg N k p b).isSome)) (n := i) (by show (lg N k p i).isSome = false; rw [(lI_none (lg_31 hN)).mp c20]; rfl) | exact bs_y (P := (fun b => (lg N k p b).isSome)) (n := i) (isSome_of c20)) ?_
          refine j_istore_n (lv' := [(1, .int (nI (bset (fun b => (lg N k p b).isSome) (i + 1)))), (0, .ref (mm 0)), (2, .int (nI i))]) C dX8_lit_31 rfl (by decide) rfl ?_
          refine j_iinc (v := nI (i + 1)) (lv' := [(2, .int (nI (i + 1))), (1, .int (nI (bset (fun b => (lg N k p b).isSome) (i + 1)))), (0, .ref (mm 0))]) C 2 dX8_lit_32 rfl (nI_inc i) (by decide) rfl ?_
          refine j_goto (tgt := 4) C dX8_lit_35 (by decide) ?_
          refine J.sub [2, 1, 0] rfl ?_
          have e := ih4 (i + 1) (by omega) (by omega)
          exact e
        · refine j_iconst (v := nI 0) C dX8_lit_23 (by decide) ?_
          refine j_goto (tgt := 30) C dX8_lit_24 (by decide) ?_
          refine j_ior (v := nI (bset (fun b => (lg N k p b).isSome) (i + 1))) C dX8_lit_30 (by first | exact bs_n (P := (fun b => (lg N k p b).isSome)) (n := i) (by show (lg N k p i).isSome = false; rw [(lI_none (lg_31 hN)).mp c20]; rfl) | exact bs_y (P := (fun b => (lg N k p b).isSome)) (n := i) (isSome_of c20)) ?_
          refine j_istore_n (lv' := [(1, .int (nI (bset (fun b => (lg N k p b).isSome) (i + 1)))), (0, .ref (mm 0)), (2, .int (nI i))]) C dX8_lit_31 rfl (by decide) rfl ?_
          refine j_iinc (v := nI (i + 1)) (lv' := [(2, .int (nI (i + 1))), (1, .int (nI (bset (fun b => (lg N k p b).isSome) (i + 1)))), (0, .ref (mm 0))]) C 2 dX8_lit_32 rfl (nI_inc i) (by decide) rfl ?_
          refine j_goto (tgt := 4) C dX8_lit_35 (by decide) ?_
          refine J.sub [2, 1, 0] rfl ?_
          have e := ih4 (i + 1) (by omega) (by omega)
          exact e
  have e := L4 (N + 1) 0 (by omega) (by omega)
  exact e
set_option maxHeartbeats 4000000 in
set_option maxRecDepth 20000 in
theorem c_X8_litNow {l : Launch} {D : va_G} {cy : Nat → ClassId} (mm : Nat → Nat) (fl tv : Int32) (so sg ce : Nat → Int32) (N B : Nat) (kf pf : Nat → Int32) (vat vrm vrb : Int32) (rk rp lf tf kp : Nat → Int32) (c : Nat) (df mf gf : Nat → Int32) (k : Nat → Nat) (p : Nat → Nat → Nat) (hT : Ag N k p kf (PF pf))  : Ct l yX8_litNow wsX8_litNow ({ frames := 3, cells := 0, slots := 0, locals := 67 }) D cy [.ref (mm 0)] (wM mm cy fl tv so sg ce (nI N) (nI B) kf pf vat vrm vrb rk rp lf tf kp (nI c) df mf gf) (fun _ : Unit => True) (fun _ => some (.int (nI (cntB (fun b => (lg N k p b).isSome) N)))) (fun _ => wM mm cy fl tv so sg ce (nI N) (nI B) kf pf vat vrm vrb rk rp lf tf kp (nI c) df mf gf) := by
  refine Ct.of (cc := cX8_litNow) (nL := 3) (ret := (some .int)) rfl (by decide) ⟨rfl, rfl⟩ (Nat.le_of_ble_eq_true rfl) ?_
  intro X C E
  have C : Cx X l D cy cX8_litNow 3 wsX8_litNow RX8 ({ frames := 3, cells := 0, slots := 0, locals := 67 }) := C
  have mh0 : ∀ w ∈ u_ws RX8 TX8 21, w ∈ wsX8_litNow := by decide +kernel
  have mh1 : Cond.fieldLink RX8 60 RX8 (TX8 5).2.1 (TX8 5).2.2.1 ∈ wsX8_litNow := by decide +kernel
  have hN := hT.n
  show J X (wM mm cy fl tv so sg ce (nI N) (nI B) kf pf vat vrm vrb rk rp lf tf kp (nI c) df mf gf) 0 [(0, .ref (mm 0))] []
  refine j_iconst (v := nI 0) C dX8_litNow_0 (by decide) ?_
  refine j_istore_n (lv' := [(1, .int (nI 0)), (0, .ref (mm 0))]) C dX8_litNow_1 rfl (by decide) rfl ?_
  refine j_iconst (v := nI 0) C dX8_litNow_2 (by decide) ?_
  refine j_istore_n (lv' := [(2, .int (nI 0)), (1, .int (nI 0)), (0, .ref (mm 0))]) C dX8_litNow_3 rfl (by decide) rfl ?_
  refine J.sub [2, 1, 0] rfl ?_
  have L4 : ∀ (n : Nat) (i : Nat), N - i < n → i ≤ N → J X (wM mm cy fl tv so sg ce (nI N) (nI B) kf pf vat vrm vrb rk rp lf tf kp (nI c) df mf gf) 4 [(0, .ref (mm 0)), (1, .int (nI (cntB (fun b => (lg N k p b).isSome) i))), (2, .int (nI i))] [] := by
    intro n
    induction n with
    | zero => intro i hm; exact absurd hm (Nat.not_lt_zero _)
    | succ n ih4 =>
      intro i h4_0 h4_1
      refine j_iload_n C 2 dX8_litNow_4 rfl rfl ?_
      refine j_aload_n C 0 dX8_litNow_5 rfl rfl ?_
      refine j_get C mh0 5 mh1 0 rfl rfl (by decide) rfl rfl dX8_litNow_6 ?_
      refine j_icmp_geN (tgt := 36) C dX8_litNow_9 (by decide) (by omega) (by omega) (fun c9 => ?_) (fun c9 => ?_)
      · refine j_iload_n C 1 dX8_litNow_36 rfl rfl ?_
        exact j_iret C E dX8_litNow_37 () trivial (by rw [show i = N by omega]) rfl
      · refine j_iload_n C 1 dX8_litNow_12 rfl rfl ?_
        refine j_aload_n C 0 dX8_litNow_13 rfl rfl ?_
        refine j_iload_n C 2 dX8_litNow_14 rfl rfl ?_
        refine j_callV0 (As := [.int (nI i)]) (rest := [.int (nI (cntB (fun b => (lg N k p b).isSome) i))]) C (c_X8_lighterOf mm fl tv so sg ce N B kf pf vat vrm vrb rk rp lf tf kp c df mf gf k p hT i (by omega)) gX8_litNow_X8_lighterOf rfl 1 rfl (by decide +kernel) (by decide) 0 rfl rfl (Nat.le_of_ble_eq_true rfl) dX8_litNow_15 rfl (fun _ _ => ?_)
        show J X (wM mm cy fl tv so sg ce (nI N) (nI B) kf pf vat vrm vrb rk rp lf tf kp (nI c) df mf gf) 18 [(0, .ref (mm 0)), (1, .int (nI (cntB (fun b => (lg N k p b).isSome) i))), (2, .int (nI i))] [.int (lI (lg N k p i)), .int (nI (cntB (fun b => (lg N k p b).isSome) i))]
        refine j_bipush (v := (-9)) C dX8_litNow_18 (by decide) ?_
        refine j_icmp_ne (tgt := 27) C dX8_litNow_20 (by decide) (fun c20 => ?_) (fun c20 => ?_)
        · refine j_iconst (v := nI 1) C dX8_litNow_27 (by decide) ?_
          refine j_iadd (v := nI (cntB (fun b => (lg N k p b).isSome) (i + 1))) C dX8_litNow_28 (by first | (rw [cntB_n (P := (fun b => (lg N k p b).isSome)) (n := i) (by show (lg N k p i).isSome = false; rw [(lI_none (lg_31 hN)).mp c20]; rfl)]; exact nI_add _ 0) | (rw [cntB_y (P := (fun b => (lg N k p b).isSome)) (n := i) (isSome_of c20)]; exact nI_add _ 1)) ?_
          refine j_istore_n (lv' := [(1, .int (nI (cntB (fun b => (lg N k p b).isSome) (i + 1)))), (0, .ref (mm 0)), (2, .int (nI i))]) C dX8_litNow_29 rfl (by decide) rfl ?_
          refine j_iinc (v := nI (i + 1)) (lv' := [(2, .int (nI (i + 1))), (1, .int (nI (cntB (fun b => (lg N k p b).isSome) (i + 1)))), (0, .ref (mm 0))]) C 2 dX8_litNow_30 rfl (nI_inc i) (by decide) rfl ?_
          refine j_goto (tgt := 4) C dX8_litNow_33 (by decide) ?_
          refine J.sub [2, 1, 0] rfl ?_
          have e := ih4 (i + 1) (by omega) (by omega)
          exact e
        · refine j_iconst (v := nI 0) C dX8_litNow_23 (by decide) ?_
          refine j_goto (tgt := 28) C dX8_litNow_24 (by decide) ?_
          refine j_iadd (v := nI (cntB (fun b => (lg N k p b).isSome) (i + 1))) C dX8_litNow_28 (by first | (rw [cntB_n (P := (fun b => (lg N k p b).isSome)) (n := i) (by show (lg N k p i).isSome = false; rw [(lI_none (lg_31 hN)).mp c20]; rfl)]; exact nI_add _ 0) | (rw [cntB_y (P := (fun b => (lg N k p b).isSome)) (n := i) (isSome_of c20)]; exact nI_add _ 1)) ?_
          refine j_istore_n (lv' := [(1, .int (nI (cntB (fun b => (lg N k p b).isSome) (i + 1)))), (0, .ref (mm 0)), (2, .int (nI i))]) C dX8_litNow_29 rfl (by decide) rfl ?_
          refine j_iinc (v := nI (i + 1)) (lv' := [(2, .int (nI (i + 1))), (1, .int (nI (cntB (fun b => (lg N k p b).isSome) (i + 1)))), (0, .ref (mm 0))]) C 2 dX8_litNow_30 rfl (nI_inc i) (by decide) rfl ?_
          refine j_goto (tgt := 4) C dX8_litNow_33 (by decide) ?_
          refine J.sub [2, 1, 0] rfl ?_
          have e := ih4 (i + 1) (by omega) (by omega)
          exact e
  have e := L4 (N + 1) 0 (by omega) (by omega)
  exact e
set_option maxHeartbeats 4000000 in
set_option maxRecDepth 20000 in
theorem c_X8_goDusk {l : Launch} {D : va_G} {cy : Nat → ClassId} (mm : Nat → Nat) (fl tv : Int32) (so sg ce : Nat → Int32) (N B : Nat) (kf pf : Nat → Int32) (vat vrm vrb : Int32) (rk rp lf tf kp : Nat → Int32) (c : Nat) (df mf gf : Nat → Int32) (k : Nat → Nat) (p : Nat → Nat → Nat) (hT : Ag N k p kf (PF pf)) (hB : B ≤ 9) : Ct l yX8_goDusk wsX8_goDusk ({ frames := 5, cells := 0, slots := 0, locals := 111 }) D cy [.ref (mm 0)] (wM mm cy fl tv so sg ce (nI N) (nI B) kf pf vat vrm vrb rk rp lf tf kp (nI c) df mf gf) (fun _ : Unit => True) (fun _ => none) (fun _ => wM mm cy fl tv so sg ce (nI N) (nI B) kf (pfM N B k p pf N) vat vrm vrb rk rp (fil (lgF N k p) lf N) (fil (tI N B k p) tf N) kp (nI c) df mf gf) := by
  refine Ct.of (cc := cX8_goDusk) (nL := 4) (ret := none) rfl (by decide) ⟨rfl, rfl⟩ (Nat.le_of_ble_eq_true rfl) ?_
  intro X C E
  have C : Cx X l D cy cX8_goDusk 4 wsX8_goDusk RX8 ({ frames := 5, cells := 0, slots := 0, locals := 111 }) := C
  have mh0 : ∀ w ∈ u_ws RX8 TX8 21, w ∈ wsX8_goDusk := by decide +kernel
  have mh1 : Cond.fieldLink RX8 60 RX8 (TX8 5).2.1 (TX8 5).2.2.1 ∈ wsX8_goDusk := by decide +kernel
  have mh2 : Cond.fieldLink RX8 31 RX8 (TX8 14).2.1 (TX8 14).2.2.1 ∈ wsX8_goDusk := by decide +kernel
  have mh3 : Cond.fieldLink RX8 34 RX8 (TX8 15).2.1 (TX8 15).2.2.1 ∈ wsX8_goDusk := by decide +kernel
  have mh4 : Cond.fieldLink RX8 22 RX8 (TX8 8).2.1 (TX8 8).2.2.1 ∈ wsX8_goDusk := by decide +kernel
  have hN := hT.n
  show J X (wM mm cy fl tv so sg ce (nI N) (nI B) kf pf vat vrm vrb rk rp lf tf kp (nI c) df mf gf) 0 [(0, .ref (mm 0))] []
  refine j_iconst (v := nI 0) C dX8_goDusk_0 (by decide) ?_
  refine j_istore_n (lv' := [(1, .int (nI 0)), (0, .ref (mm 0))]) C dX8_goDusk_1 rfl (by decide) rfl ?_
  refine J.sub [1, 0] rfl ?_
  have L2 : ∀ (n : Nat) (i : Nat), N - i < n → i ≤ N → J X (wM mm cy fl tv so sg ce (nI N) (nI B) kf pf vat vrm vrb rk rp (fil (lgF N k p) lf i) (fil (tI N B k p) tf i) kp (nI c) df mf gf) 2 [(0, .ref (mm 0)), (1, .int (nI i))] [] := by
    intro n
    induction n with
    | zero => intro i hm; exact absurd hm (Nat.not_lt_zero _)
    | succ n ih2 =>
      intro i h2_0 h2_1
      refine j_iload_n C 1 dX8_goDusk_2 rfl rfl ?_
      refine j_aload_n C 0 dX8_goDusk_3 rfl rfl ?_
      refine j_get C mh0 5 mh1 0 rfl rfl (by decide) rfl rfl dX8_goDusk_4 ?_
      refine j_icmp_geN (tgt := 38) C dX8_goDusk_7 (by decide) (by omega) (by omega) (fun c7 => ?_) (fun c7 => ?_)
      · refine j_iconst (v := nI 0) C dX8_goDusk_38 (by decide) ?_
        refine j_istore_n (lv' := [(1, .int (nI 0)), (0, .ref (mm 0))]) C dX8_goDusk_39 rfl (by decide) rfl ?_
        refine J.sub [1, 0] rfl ?_
        have L40 : ∀ (n : Nat) (x : Nat), N - x < n → x ≤ N → J X (wM mm cy fl tv so sg ce (nI N) (nI B) kf (pfM N B k p pf x) vat vrm vrb rk rp (fil (lgF N k p) lf i) (fil (tI N B k p) tf i) kp (nI c) df mf gf) 40 [(0, .ref (mm 0)), (1, .int (nI x))] [] := by
          intro n
          induction n with
          | zero => intro x hm; exact absurd hm (Nat.not_lt_zero _)
          | succ n ih40 =>
            intro x h40_0 h40_1
            refine j_iload_n C 1 dX8_goDusk_40 rfl rfl ?_
            refine j_aload_n C 0 dX8_goDusk_41 rfl rfl ?_
            refine j_get C mh0 5 mh1 0 rfl rfl (by decide) rfl rfl dX8_goDusk_42 ?_
            refine j_icmp_geN (tgt := 126) C dX8_goDusk_45 (by decide) (by omega) (by omega) (fun c45 => ?_) (fun c45 => ?_)
            · exact j_vret C E dX8_goDusk_126 () trivial rfl (by rw [show x = N by omega, show i = N by omega])
            · refine j_aload_n C 0 dX8_goDusk_48 rfl rfl ?_
              refine j_get C mh0 14 mh2 0 rfl rfl (by decide) rfl rfl dX8_goDusk_49 ?_
              refine j_iload_n C 1 dX8_goDusk_52 rfl rfl ?_
              refine j_iald (v := lI (lg N k p x)) C 8 rfl (by omega) (by decide) (fil_in (by omega)) dX8_goDusk_53 ?_
              refine j_istore_n (lv' := [(2, .int (lI (lg N k p x))), (0, .ref (mm 0)), (1, .int (nI x))]) C dX8_goDusk_54 rfl (by decide) rfl ?_
              refine j_iload_n C 0 dX8_goDusk_55 rfl rfl ?_
              refine j_bipush (v := (-9)) C dX8_goDusk_56 (by decide) ?_
              refine j_icmp_eq (tgt := 120) C dX8_goDusk_58 (by decide) (fun c58 => ?_) (fun c58 => ?_)
              · refine j_iinc (v := nI (x + 1)) (lv' := [(1, .int (nI (x + 1))), (2, .int (lI (lg N k p x))), (0, .ref (mm 0))]) C 2 dX8_goDusk_120 rfl (nI_inc x) (by decide) rfl ?_
                refine j_goto (tgt := 40) C dX8_goDusk_123 (by decide) ?_
                refine J.sub [2, 0] rfl ?_
                have e := ih40 (x + 1) (by omega) (by omega)
                first
                  | exact absurd c110 (by omega)
                  | (rw [pfM_n ((lI_none (lg_31 hN)).mp c58)] at e; exact e)
                  | (rw [← pfM_s (by omega) hq (by rw [dk_in hq hti, Nat.max_eq_right (Nat.zero_le _)])] at e; exact e)
                  | (rw [← pfM_s (v := 9) (by omega) hq (by rw [dk_out hq hti]; exact Nat.min_eq_left (by omega))] at e; exact e)
                  | (rw [← pfM_s (v := 2 * p q x) (by omega) hq (by rw [dk_out hq hti]; exact Nat.min_eq_right (by omega))] at e; exact e)
              · obtain ⟨q, hq⟩ := some_of c58
                have hqN := lg_lt hq
                rw [hq]
                show J X (wM mm cy fl tv so sg ce (nI N) (nI B) kf (pfM N B k p pf x) vat vrm vrb rk rp (fil (lgF N k p) lf i) (fil (tI N B k p) tf i) kp (nI c) df mf gf) 61 [(2, .int (nI q)), (0, .ref (mm 0)), (1, .int (nI x))] []
                refine j_aload_n C 1 dX8_goDusk_61 rfl rfl ?_
                refine j_get C mh0 15 mh3 0 rfl rfl (by decide) rfl rfl dX8_goDusk_62 ?_
                refine j_iload_n C 0 dX8_goDusk_65 rfl rfl ?_
                refine j_zald (v := tI N B k p q) C 9 rfl (by omega) (by decide) (fil_in (by omega)) dX8_goDusk_66 ?_
                refine j_if_eq (tgt := 85) C dX8_goDusk_67 (by decide) (fun c67 => ?_) (fun c67 => ?_)
                · have hti := tI_0 c67
                  refine j_iconst (v := nI 2) C dX8_goDusk_85 (by decide) ?_
                  refine j_aload_n C 1 dX8_goDusk_86 rfl rfl ?_
                  refine j_get C mh0 8 mh4 0 rfl rfl (by decide) rfl rfl dX8_goDusk_87 ?_
                  refine j_iload_n C 0 dX8_goDusk_90 rfl rfl ?_
                  refine j_iload_n C 2 dX8_goDusk_91 rfl rfl ?_
                  refine j_callP (As := [.int (nI q), .int (nI x)]) (rest := [.ref (mm 5), .int (nI 2)]) C (c_X8_spot q x) gX8_goDusk_X8_spot rfl 2 rfl (by decide +kernel) (by decide) (Nat.le_of_ble_eq_true rfl) dX8_goDusk_92 rfl (fun _ _ => ?_)
                  show J X (wM mm cy fl tv so sg ce (nI N) (nI B) kf (pfM N B k p pf x) vat vrm vrb rk rp (fil (lgF N k p) lf i) (fil (tI N B k p) tf i) kp (nI c) df mf gf) 95 [(2, .int (nI q)), (0, .ref (mm 0)), (1, .int (nI x))] [.int (nI (6 * q + x)), .ref (mm 5), .int (nI 2)]
                  have := hT.p9 (a := q) (b := x) (by omega) (by omega)
                  refine j_iald (v := nI (p q x)) C 5 rfl (by omega) (by decide) ((pfM_ab (by omega)).trans (pfD_at.trans (hT.pp (a := q) (b := x) (by omega) (by omega)))) dX8_goDusk_95 ?_
                  refine j_imul (v := nI (2 * (p q x))) C dX8_goDusk_96 (pk_mul _ _) ?_
                  refine j_istore_n (lv' := [(3, .int (nI (2 * (p q x)))), (2, .int (nI q)), (0, .ref (mm 0)), (1, .int (nI x))]) C dX8_goDusk_97 rfl (by decide) rfl ?_
                  refine j_aload_n C 2 dX8_goDusk_98 rfl rfl ?_
                  refine j_get C mh0 8 mh4 0 rfl rfl (by decide) rfl rfl dX8_goDusk_99 ?_
                  refine j_iload_n C 1 dX8_goDusk_102 rfl rfl ?_
                  refine j_iload_n C 3 dX8_goDusk_103 rfl rfl ?_
                  refine j_callP (As := [.int (nI q), .int (nI x)]) (rest := [.ref (mm 5)]) C (c_X8_spot q x) gX8_goDusk_X8_spot rfl 2 rfl (by decide +kernel) (by decide) (Nat.le_of_ble_eq_true rfl) dX8_goDusk_104 rfl (fun _ _ => ?_)
                  show J X (wM mm cy fl tv so sg ce (nI N) (nI B) kf (pfM N B k p pf x) vat vrm vrb rk rp (fil (lgF N k p) lf i) (fil (tI N B k p) tf i) kp (nI c) df mf gf) 107 [(3, .int (nI (2 * (p q x)))), (2, .int (nI q)), (0, .ref (mm 0)), (1, .int (nI x))] [.int (nI (6 * q + x)), .ref (mm 5)]
                  refine j_iload_n C 0 dX8_goDusk_107 rfl rfl ?_
                  refine j_bipush (v := nI 9) C dX8_goDusk_108 (by decide) ?_
                  refine j_icmp_leN (tgt := 118) C dX8_goDusk_110 (by decide) (by omega) (by omega) (fun c110 => ?_) (fun c110 => ?_)
                  · refine j_iload_n C 0 dX8_goDusk_118 rfl rfl ?_
                    refine j_iast (ws' := wM mm cy fl tv so sg ce (nI N) (nI B) kf (upd (pfM N B k p pf x) (6 * q + x) (nI (2 * (p q x)))) vat vrm vrb rk rp (fil (lgF N k p) lf i) (fil (tI N B k p) tf i) kp (nI c) df mf gf) C 5 rfl (by omega) (by decide) rfl dX8_goDusk_119 ?_
                    refine j_iinc (v := nI (x + 1)) (lv' := [(1, .int (nI (x + 1))), (3, .int (nI (2 * (p q x)))), (2, .int (nI q)), (0, .ref (mm 0))]) C 3 dX8_goDusk_120 rfl (nI_inc x) (by decide) rfl ?_
                    refine j_goto (tgt := 40) C dX8_goDusk_123 (by decide) ?_
                    refine J.sub [3, 0] rfl ?_
                    have e := ih40 (x + 1) (by omega) (by omega)
                    first
                      | exact absurd c110 (by omega)
                      | (rw [pfM_n ((lI_none (lg_31 hN)).mp c58)] at e; exact e)
                      | (rw [← pfM_s (by omega) hq (by rw [dk_in hq hti, Nat.max_eq_right (Nat.zero_le _)])] at e; exact e)
                      | (rw [← pfM_s (v := 9) (by omega) hq (by rw [dk_out hq hti]; exact Nat.min_eq_left (by omega))] at e; exact e)
                      | (rw [← pfM_s (v := 2 * p q x) (by omega) hq (by rw [dk_out hq hti]; exact Nat.min_eq_right (by omega))] at e; exact e)
                  · refine j_bipush (v := nI 9) C dX8_goDusk_113 (by decide) ?_
                    refine j_goto (tgt := 119) C dX8_goDusk_115 (by decide) ?_
                    refine j_iast (ws' := wM mm cy fl tv so sg ce (nI N) (nI B) kf (upd (pfM N B k p pf x) (6 * q + x) (nI 9)) vat vrm vrb rk rp (fil (lgF N k p) lf i) (fil (tI N B k p) tf i) kp (nI c) df mf gf) C 5 rfl (by omega) (by decide) rfl dX8_goDusk_119 ?_
                    refine j_iinc (v := nI (x + 1)) (lv' := [(1, .int (nI (x + 1))), (3, .int (nI (2 * (p q x)))), (2, .int (nI q)), (0, .ref (mm 0))]) C 3 dX8_goDusk_120 rfl (nI_inc x) (by decide) rfl ?_
                    refine j_goto (tgt := 40) C dX8_goDusk_123 (by decide) ?_
                    refine J.sub [3, 0] rfl ?_
                    have e := ih40 (x + 1) (by omega) (by omega)
                    first
                      | exact absurd c110 (by omega)
                      | (rw [pfM_n ((lI_none (lg_31 hN)).mp c58)] at e; exact e)
                      | (rw [← pfM_s (by omega) hq (by rw [dk_in hq hti, Nat.max_eq_right (Nat.zero_le _)])] at e; exact e)
                      | (rw [← pfM_s (v := 9) (by omega) hq (by rw [dk_out hq hti]; exact Nat.min_eq_left (by omega))] at e; exact e)
                      | (rw [← pfM_s (v := 2 * p q x) (by omega) hq (by rw [dk_out hq hti]; exact Nat.min_eq_right (by omega))] at e; exact e)
                · have hti := tI_1 c67
                  have hp0 := hT.pos hq
                  refine j_aload_n C 1 dX8_goDusk_70 rfl rfl ?_
                  refine j_get C mh0 8 mh4 0 rfl rfl (by decide) rfl rfl dX8_goDusk_71 ?_
                  refine j_iload_n C 0 dX8_goDusk_74 rfl rfl ?_
                  refine j_iload_n C 2 dX8_goDusk_75 rfl rfl ?_
                  refine j_callP (As := [.int (nI q), .int (nI x)]) (rest := [.ref (mm 5)]) C (c_X8_spot q x) gX8_goDusk_X8_spot rfl 2 rfl (by decide +kernel) (by decide) (Nat.le_of_ble_eq_true rfl) dX8_goDusk_76 rfl (fun _ _ => ?_)
                  show J X (wM mm cy fl tv so sg ce (nI N) (nI B) kf (pfM N B k p pf x) vat vrm vrb rk rp (fil (lgF N k p) lf i) (fil (tI N B k p) tf i) kp (nI c) df mf gf) 79 [(2, .int (nI q)), (0, .ref (mm 0)), (1, .int (nI x))] [.int (nI (6 * q + x)), .ref (mm 5)]
                  have := hT.p9 (a := q) (b := x) (by omega) (by omega)
                  refine j_iald (v := nI (p q x)) C 5 rfl (by omega) (by decide) ((pfM_ab (by omega)).trans (pfD_at.trans (hT.pp (a := q) (b := x) (by omega) (by omega)))) dX8_goDusk_79 ?_
                  refine j_iconst (v := nI 1) C dX8_goDusk_80 (by decide) ?_
                  refine j_isub (v := nI ((p q x) - 1)) C dX8_goDusk_81 (pk_sub (by omega)) ?_
                  refine j_goto (tgt := 97) C dX8_goDusk_82 (by decide) ?_
                  refine j_istore_n (lv' := [(3, .int (nI ((p q x) - 1))), (2, .int (nI q)), (0, .ref (mm 0)), (1, .int (nI x))]) C dX8_goDusk_97 rfl (by decide) rfl ?_
                  refine j_aload_n C 2 dX8_goDusk_98 rfl rfl ?_
                  refine j_get C mh0 8 mh4 0 rfl rfl (by decide) rfl rfl dX8_goDusk_99 ?_
                  refine j_iload_n C 1 dX8_goDusk_102 rfl rfl ?_
                  refine j_iload_n C 3 dX8_goDusk_103 rfl rfl ?_
                  refine j_callP (As := [.int (nI q), .int (nI x)]) (rest := [.ref (mm 5)]) C (c_X8_spot q x) gX8_goDusk_X8_spot rfl 2 rfl (by decide +kernel) (by decide) (Nat.le_of_ble_eq_true rfl) dX8_goDusk_104 rfl (fun _ _ => ?_)
                  show J X (wM mm cy fl tv so sg ce (nI N) (nI B) kf (pfM N B k p pf x) vat vrm vrb rk rp (fil (lgF N k p) lf i) (fil (tI N B k p) tf i) kp (nI c) df mf gf) 107 [(3, .int (nI ((p q x) - 1))), (2, .int (nI q)), (0, .ref (mm 0)), (1, .int (nI x))] [.int (nI (6 * q + x)), .ref (mm 5)]
                  refine j_iload_n C 0 dX8_goDusk_107 rfl rfl ?_
                  refine j_bipush (v := nI 9) C dX8_goDusk_108 (by decide) ?_
                  refine j_icmp_leN (tgt := 118) C dX8_goDusk_110 (by decide) (by omega) (by omega) (fun c110 => ?_) (fun c110 => ?_)
                  · refine j_iload_n C 0 dX8_goDusk_118 rfl rfl ?_
                    refine j_iast (ws' := wM mm cy fl tv so sg ce (nI N) (nI B) kf (upd (pfM N B k p pf x) (6 * q + x) (nI ((p q x) - 1))) vat vrm vrb rk rp (fil (lgF N k p) lf i) (fil (tI N B k p) tf i) kp (nI c) df mf gf) C 5 rfl (by omega) (by decide) rfl dX8_goDusk_119 ?_
                    refine j_iinc (v := nI (x + 1)) (lv' := [(1, .int (nI (x + 1))), (3, .int (nI ((p q x) - 1))), (2, .int (nI q)), (0, .ref (mm 0))]) C 3 dX8_goDusk_120 rfl (nI_inc x) (by decide) rfl ?_
                    refine j_goto (tgt := 40) C dX8_goDusk_123 (by decide) ?_
                    refine J.sub [3, 0] rfl ?_
                    have e := ih40 (x + 1) (by omega) (by omega)
                    first
                      | exact absurd c110 (by omega)
                      | (rw [pfM_n ((lI_none (lg_31 hN)).mp c58)] at e; exact e)
                      | (rw [← pfM_s (by omega) hq (by rw [dk_in hq hti, Nat.max_eq_right (Nat.zero_le _)])] at e; exact e)
                      | (rw [← pfM_s (v := 9) (by omega) hq (by rw [dk_out hq hti]; exact Nat.min_eq_left (by omega))] at e; exact e)
                      | (rw [← pfM_s (v := 2 * p q x) (by omega) hq (by rw [dk_out hq hti]; exact Nat.min_eq_right (by omega))] at e; exact e)
                  · refine j_bipush (v := nI 9) C dX8_goDusk_113 (by decide) ?_
                    refine j_goto (tgt := 119) C dX8_goDusk_115 (by decide) ?_
                    refine j_iast (ws' := wM mm cy fl tv so sg ce (nI N) (nI B) kf (upd (pfM N B k p pf x) (6 * q + x) (nI 9)) vat vrm vrb rk rp (fil (lgF N k p) lf i) (fil (tI N B k p) tf i) kp (nI c) df mf gf) C 5 rfl (by omega) (by decide) rfl dX8_goDusk_119 ?_
                    refine j_iinc (v := nI (x + 1)) (lv' := [(1, .int (nI (x + 1))), (3, .int (nI ((p q x) - 1))), (2, .int (nI q)), (0, .ref (mm 0))]) C 3 dX8_goDusk_120 rfl (nI_inc x) (by decide) rfl ?_
                    refine j_goto (tgt := 40) C dX8_goDusk_123 (by decide) ?_
                    refine J.sub [3, 0] rfl ?_
                    have e := ih40 (x + 1) (by omega) (by omega)
                    first
                      | exact absurd c110 (by omega)
                      | (rw [pfM_n ((lI_none (lg_31 hN)).mp c58)] at e; exact e)
                      | (rw [← pfM_s (by omega) hq (by rw [dk_in hq hti, Nat.max_eq_right (Nat.zero_le _)])] at e; exact e)
                      | (rw [← pfM_s (v := 9) (by omega) hq (by rw [dk_out hq hti]; exact Nat.min_eq_left (by omega))] at e; exact e)
                      | (rw [← pfM_s (v := 2 * p q x) (by omega) hq (by rw [dk_out hq hti]; exact Nat.min_eq_right (by omega))] at e; exact e)
        have e := L40 (N + 1) 0 (by omega) (by omega)
        rw [pfM_0] at e
        exact e
      · refine j_aload_n C 0 dX8_goDusk_10 rfl rfl ?_
        refine j_get C mh0 14 mh2 0 rfl rfl (by decide) rfl rfl dX8_goDusk_11 ?_
        refine j_iload_n C 1 dX8_goDusk_14 rfl rfl ?_
        refine j_aload_n C 0 dX8_goDusk_15 rfl rfl ?_
        refine j_iload_n C 1 dX8_goDusk_16 rfl rfl ?_
        refine j_callV0 (As := [.int (nI i)]) (rest := [.int (nI i), .ref (mm 8)]) C (c_X8_lighterOf mm fl tv so sg ce N B kf pf vat vrm vrb rk rp (fil (lgF N k p) lf i) (fil (tI N B k p) tf i) kp c df mf gf k p hT i (by omega)) gX8_goDusk_X8_lighterOf rfl 1 rfl (by decide +kernel) (by decide) 0 rfl rfl (Nat.le_of_ble_eq_true rfl) dX8_goDusk_17 rfl (fun _ _ => ?_)
        show J X (wM mm cy fl tv so sg ce (nI N) (nI B) kf pf vat vrm vrb rk rp (fil (lgF N k p) lf i) (fil (tI N B k p) tf i) kp (nI c) df mf gf) 20 [(0, .ref (mm 0)), (1, .int (nI i))] [.int (lI (lg N k p i)), .int (nI i), .ref (mm 8)]
        refine j_iast (ws' := wM mm cy fl tv so sg ce (nI N) (nI B) kf pf vat vrm vrb rk rp (upd (fil (lgF N k p) lf i) i (lI (lg N k p i))) (fil (tI N B k p) tf i) kp (nI c) df mf gf) C 8 rfl (by omega) (by decide) rfl dX8_goDusk_20 ?_
        refine j_aload_n C 0 dX8_goDusk_21 rfl rfl ?_
        refine j_get C mh0 15 mh3 0 rfl rfl (by decide) rfl rfl dX8_goDusk_22 ?_
        refine j_iload_n C 1 dX8_goDusk_25 rfl rfl ?_
        refine j_aload_n C 0 dX8_goDusk_26 rfl rfl ?_
        refine j_iload_n C 1 dX8_goDusk_27 rfl rfl ?_
        refine j_callV0 (As := [.int (nI i)]) (rest := [.int (nI i), .ref (mm 9)]) C (c_X8_isInTime mm fl tv so sg ce N B kf pf vat vrm vrb rk rp (upd (fil (lgF N k p) lf i) i (lI (lg N k p i))) (fil (tI N B k p) tf i) kp c df mf gf k p hT i hB (by omega)) gX8_goDusk_X8_isInTime rfl 1 rfl (by decide +kernel) (by decide) 0 rfl rfl (Nat.le_of_ble_eq_true rfl) dX8_goDusk_28 rfl (fun _ _ => ?_)
        show J X (wM mm cy fl tv so sg ce (nI N) (nI B) kf pf vat vrm vrb rk rp (upd (fil (lgF N k p) lf i) i (lI (lg N k p i))) (fil (tI N B k p) tf i) kp (nI c) df mf gf) 31 [(0, .ref (mm 0)), (1, .int (nI i))] [.int (nI (bN (sps N k p i ≤ B))), .int (nI i), .ref (mm 9)]
        refine j_zast (ws' := wM mm cy fl tv so sg ce (nI N) (nI B) kf pf vat vrm vrb rk rp (upd (fil (lgF N k p) lf i) i (lI (lg N k p i))) (upd (fil (tI N B k p) tf i) i (nI (bN (sps N k p i ≤ B)))) kp (nI c) df mf gf) C 9 rfl (by omega) (by decide) (by by_cases hz : sps N k p i ≤ B; rw [bN_y hz]; decide; rw [bN_n hz]; decide) rfl dX8_goDusk_31 ?_
        refine j_iinc (v := nI (i + 1)) (lv' := [(1, .int (nI (i + 1))), (0, .ref (mm 0))]) C 1 dX8_goDusk_32 rfl (nI_inc i) (by decide) rfl ?_
        refine j_goto (tgt := 2) C dX8_goDusk_35 (by decide) ?_
        refine J.sub [1, 0] rfl ?_
        have e := ih2 (i + 1) (by omega) (by omega)
        rw [← fil_s, ← fil_s, tI_e] at e
        exact e
  have e := L2 (N + 1) 0 (by omega) (by omega)
  rw [fil_0, fil_0] at e
  exact e
set_option maxHeartbeats 4000000 in
set_option maxRecDepth 20000 in
theorem c_X8_keep {l : Launch} {D : va_G} {cy : Nat → ClassId} (mm : Nat → Nat) (fl tv : Int32) (so sg ce : Nat → Int32) (N B : Nat) (kf pf : Nat → Int32) (vat vrm vrb : Int32) (rk rp lf tf kp : Nat → Int32) (c : Nat) (df mf gf : Nat → Int32)  : Ct l yX8_keep wsX8_keep ({ frames := 0, cells := 0, slots := 0, locals := 0 }) D cy [.ref (mm 0)] (wM mm cy fl tv so sg ce (nI N) (nI B) kf pf vat vrm vrb rk rp lf tf kp (nI c) df mf gf) (fun _ : Unit => True) (fun _ => none) (fun _ => wM mm cy fl tv so sg ce (nI N) (nI B) kf pf vat vrm vrb rk rp lf tf (fil pf kp 36) (nI c) df mf gf) := by
  refine Ct.of (cc := cX8_keep) (nL := 2) (ret := none) rfl (by decide) ⟨rfl, rfl⟩ (Nat.le_of_ble_eq_true rfl) ?_
  intro X C E
  have C : Cx X l D cy cX8_keep 2 wsX8_keep RX8 ({ frames := 0, cells := 0, slots := 0, locals := 0 }) := C
  have mh0 : ∀ w ∈ u_ws RX8 TX8 21, w ∈ wsX8_keep := by decide +kernel
  have mh1 : Cond.fieldLink RX8 38 RX8 (TX8 16).2.1 (TX8 16).2.2.1 ∈ wsX8_keep := by decide +kernel
  have mh2 : Cond.fieldLink RX8 22 RX8 (TX8 8).2.1 (TX8 8).2.2.1 ∈ wsX8_keep := by decide +kernel
  show J X (wM mm cy fl tv so sg ce (nI N) (nI B) kf pf vat vrm vrb rk rp lf tf kp (nI c) df mf gf) 0 [(0, .ref (mm 0))] []
  refine j_iconst (v := nI 0) C dX8_keep_0 (by decide) ?_
  refine j_istore_n (lv' := [(1, .int (nI 0)), (0, .ref (mm 0))]) C dX8_keep_1 rfl (by decide) rfl ?_
  refine J.sub [1, 0] rfl ?_
  have L2 : ∀ (n : Nat) (i : Nat), 36 - i < n → i ≤ 36 → J X (wM mm cy fl tv so sg ce (nI N) (nI B) kf pf vat vrm vrb rk rp lf tf (fil pf kp i) (nI c) df mf gf) 2 [(0, .ref (mm 0)), (1, .int (nI i))] [] := by
    intro n
    induction n with
    | zero => intro i hm; exact absurd hm (Nat.not_lt_zero _)
    | succ n ih2 =>
      intro i h2_0 h2_1
      refine j_iload_n C 1 dX8_keep_2 rfl rfl ?_
      refine j_bipush (v := nI 36) C dX8_keep_3 (by decide) ?_
      refine j_icmp_geN (tgt := 26) C dX8_keep_5 (by decide) (by omega) (by omega) (fun c5 => ?_) (fun c5 => ?_)
      · exact j_vret C E dX8_keep_26 () trivial rfl (by rw [show i = 36 by omega])
      · refine j_aload_n C 0 dX8_keep_8 rfl rfl ?_
        refine j_get C mh0 16 mh1 0 rfl rfl (by decide) rfl rfl dX8_keep_9 ?_
        refine j_iload_n C 1 dX8_keep_12 rfl rfl ?_
        refine j_aload_n C 0 dX8_keep_13 rfl rfl ?_
        refine j_get C mh0 8 mh2 0 rfl rfl (by decide) rfl rfl dX8_keep_14 ?_
        refine j_iload_n C 1 dX8_keep_17 rfl rfl ?_
        refine j_iald (v := pf i) C 5 rfl (by omega) (by decide) rfl dX8_keep_18 ?_
        refine j_iast (ws' := wM mm cy fl tv so sg ce (nI N) (nI B) kf pf vat vrm vrb rk rp lf tf (upd (fil pf kp i) i (pf i)) (nI c) df mf gf) C 10 rfl (by omega) (by decide) rfl dX8_keep_19 ?_
        refine j_iinc (v := nI (i + 1)) (lv' := [(1, .int (nI (i + 1))), (0, .ref (mm 0))]) C 1 dX8_keep_20 rfl (nI_inc i) (by decide) rfl ?_
        refine j_goto (tgt := 2) C dX8_keep_23 (by decide) ?_
        refine J.sub [1, 0] rfl ?_
        have e := ih2 (i + 1) (by omega) (by omega)
        rw [← fil_s] at e
        exact e
  have e := L2 37 0 (by omega) (by omega)
  rw [fil_0] at e
  exact e
set_option maxHeartbeats 4000000 in
set_option maxRecDepth 20000 in
theorem c_X8_restore {l : Launch} {D : va_G} {cy : Nat → ClassId} (mm : Nat → Nat) (fl tv : Int32) (so sg ce : Nat → Int32) (N B : Nat) (kf pf : Nat → Int32) (vat vrm vrb : Int32) (rk rp lf tf kp : Nat → Int32) (c : Nat) (df mf gf : Nat → Int32)  : Ct l yX8_restore wsX8_restore ({ frames := 0, cells := 0, slots := 0, locals := 0 }) D cy [.ref (mm 0)] (wM mm cy fl tv so sg ce (nI N) (nI B) kf pf vat vrm vrb rk rp lf tf kp (nI c) df mf gf) (fun _ : Unit => True) (fun _ => none) (fun _ => wM mm cy fl tv so sg ce (nI N) (nI B) kf (fil kp pf 36) vat vrm vrb rk rp lf tf kp (nI c) df mf gf) := by
  refine Ct.of (cc := cX8_restore) (nL := 2) (ret := none) rfl (by decide) ⟨rfl, rfl⟩ (Nat.le_of_ble_eq_true rfl) ?_
  intro X C E
  have C : Cx X l D cy cX8_restore 2 wsX8_restore RX8 ({ frames := 0, cells := 0, slots := 0, locals := 0 }) := C
  have mh0 : ∀ w ∈ u_ws RX8 TX8 21, w ∈ wsX8_restore := by decide +kernel
  have mh1 : Cond.fieldLink RX8 22 RX8 (TX8 8).2.1 (TX8 8).2.2.1 ∈ wsX8_restore := by decide +kernel
  have mh2 : Cond.fieldLink RX8 38 RX8 (TX8 16).2.1 (TX8 16).2.2.1 ∈ wsX8_restore := by decide +kernel
  show J X (wM mm cy fl tv so sg ce (nI N) (nI B) kf pf vat vrm vrb rk rp lf tf kp (nI c) df mf gf) 0 [(0, .ref (mm 0))] []
  refine j_iconst (v := nI 0) C dX8_restore_0 (by decide) ?_
  refine j_istore_n (lv' := [(1, .int (nI 0)), (0, .ref (mm 0))]) C dX8_restore_1 rfl (by decide) rfl ?_
  refine J.sub [1, 0] rfl ?_
  have L2 : ∀ (n : Nat) (i : Nat), 36 - i < n → i ≤ 36 → J X (wM mm cy fl tv so sg ce (nI N) (nI B) kf (fil kp pf i) vat vrm vrb rk rp lf tf kp (nI c) df mf gf) 2 [(0, .ref (mm 0)), (1, .int (nI i))] [] := by
    intro n
    induction n with
    | zero => intro i hm; exact absurd hm (Nat.not_lt_zero _)
    | succ n ih2 =>
      intro i h2_0 h2_1
      refine j_iload_n C 1 dX8_restore_2 rfl rfl ?_
      refine j_bipush (v := nI 36) C dX8_restore_3 (by decide) ?_
      refine j_icmp_geN (tgt := 26) C dX8_restore_5 (by decide) (by omega) (by omega) (fun c5 => ?_) (fun c5 => ?_)
      · exact j_vret C E dX8_restore_26 () trivial rfl (by rw [show i = 36 by omega])
      · refine j_aload_n C 0 dX8_restore_8 rfl rfl ?_
        refine j_get C mh0 8 mh1 0 rfl rfl (by decide) rfl rfl dX8_restore_9 ?_
        refine j_iload_n C 1 dX8_restore_12 rfl rfl ?_
        refine j_aload_n C 0 dX8_restore_13 rfl rfl ?_
        refine j_get C mh0 16 mh2 0 rfl rfl (by decide) rfl rfl dX8_restore_14 ?_
        refine j_iload_n C 1 dX8_restore_17 rfl rfl ?_
        refine j_iald (v := kp i) C 10 rfl (by omega) (by decide) rfl dX8_restore_18 ?_
        refine j_iast (ws' := wM mm cy fl tv so sg ce (nI N) (nI B) kf (upd (fil kp pf i) i (kp i)) vat vrm vrb rk rp lf tf kp (nI c) df mf gf) C 5 rfl (by omega) (by decide) rfl dX8_restore_19 ?_
        refine j_iinc (v := nI (i + 1)) (lv' := [(1, .int (nI (i + 1))), (0, .ref (mm 0))]) C 1 dX8_restore_20 rfl (nI_inc i) (by decide) rfl ?_
        refine j_goto (tgt := 2) C dX8_restore_23 (by decide) ?_
        refine J.sub [1, 0] rfl ?_
        have e := ih2 (i + 1) (by omega) (by omega)
        rw [← fil_s] at e
        exact e
  have e := L2 37 0 (by omega) (by omega)
  rw [fil_0] at e
  exact e
