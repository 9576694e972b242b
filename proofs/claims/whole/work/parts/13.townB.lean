set_option maxHeartbeats 4000000 in
set_option maxRecDepth 20000 in
theorem c_X5_lighterAmong {l : Launch} {D : va_G} {cy : Nat → ClassId} (a : Nat → Nat) (N B : Nat) (kf : Nat → Int32) (pf : Nat → Nat → Int32) (lf tf : Nat → Int32) (k : Nat → Nat) (p : Nat → Nat → Nat) (hT : Ag N k p kf pf) (b L : Nat) (hb : b < N) (hL : L < 64) : Ct l yX5_lighterAmong wsX5_lighterAmong ({ frames := 2, cells := 0, slots := 0, locals := 43 }) D cy [.ref (a 0), .int (nI b), .int (nI L)] (wT a cy (nI N) (nI B) kf pf lf tf) (fun _ : Unit => True) (fun _ => some (.int (lI (lgt (wL k p b L) N)))) (fun _ => wT a cy (nI N) (nI B) kf pf lf tf) := by
  refine Ct.of (cc := cX5_lighterAmong) (nL := 7) (ret := (some .int)) rfl (by decide) ⟨rfl, rfl⟩ (Nat.le_of_ble_eq_true rfl) ?_
  intro X C E
  have C : Cx X l D cy cX5_lighterAmong 7 wsX5_lighterAmong RX5 ({ frames := 2, cells := 0, slots := 0, locals := 43 }) := C
  have mh0 : ∀ w ∈ u_ws RX5 TX5 7, w ∈ wsX5_lighterAmong := by decide +kernel
  have mh1 : Cond.fieldLink RX5 40 RX5 (TX5 5).2.1 (TX5 5).2.2.1 ∈ wsX5_lighterAmong := by decide +kernel
  have hN := hT.n
  show J X (wT a cy (nI N) (nI B) kf pf lf tf) 0 [(0, .ref (a 0)), (1, .int (nI b)), (2, .int (nI L))] []
  refine j_bipush (v := (-9)) C dX5_lighterAmong_0 (by decide) ?_
  refine j_istore_n (lv' := [(3, .int ((-9))), (0, .ref (a 0)), (1, .int (nI b)), (2, .int (nI L))]) C dX5_lighterAmong_2 rfl (by decide) rfl ?_
  refine j_iconst (v := nI 0) C dX5_lighterAmong_3 (by decide) ?_
  refine j_istore (lv' := [(4, .int (nI 0)), (3, .int ((-9))), (0, .ref (a 0)), (1, .int (nI b)), (2, .int (nI L))]) C dX5_lighterAmong_4 (by decide) rfl ?_
  refine j_iconst (v := nI 0) C dX5_lighterAmong_6 (by decide) ?_
  refine j_istore (lv' := [(5, .int (nI 0)), (4, .int (nI 0)), (3, .int ((-9))), (0, .ref (a 0)), (1, .int (nI b)), (2, .int (nI L))]) C dX5_lighterAmong_7 (by decide) rfl ?_
  refine J.sub [3, 4, 5, 2, 1, 0] rfl ?_
  have L9 : ∀ (n : Nat) (i : Nat), N - i < n → i ≤ N → J X (wT a cy (nI N) (nI B) kf pf lf tf) 9 [(0, .ref (a 0)), (1, .int (nI b)), (2, .int (nI L)), (3, .int (lI (lgt (wL k p b L) i))), (4, .int (nI (mst (wL k p b L) i))), (5, .int (nI i))] [] := by
    intro n
    induction n with
    | zero => intro i hm; exact absurd hm (Nat.not_lt_zero _)
    | succ n ih9 =>
      intro i h9_0 h9_1
      have hm := hT.m (b := b) (L := L) (i := i) (by omega) (by omega)
      refine j_iload C 5 dX5_lighterAmong_9 rfl ?_
      refine j_aload_n C 0 dX5_lighterAmong_11 rfl rfl ?_
      refine j_get C mh0 5 mh1 0 rfl rfl (by decide) rfl rfl dX5_lighterAmong_12 ?_
      refine j_icmp_geN (tgt := 60) C dX5_lighterAmong_15 (by decide) (by omega) (by omega) (fun c15 => ?_) (fun c15 => ?_)
      · refine j_iload_n C 3 dX5_lighterAmong_60 rfl rfl ?_
        exact j_iret C E dX5_lighterAmong_61 () trivial (by rw [show i = N by omega]) rfl
      · refine j_iload_n C 2 dX5_lighterAmong_18 rfl rfl ?_
        refine j_iload C 5 dX5_lighterAmong_19 rfl ?_
        refine j_ishr (v := nI (L / 2 ^ i)) C dX5_lighterAmong_21 (sh_r (by omega) (by omega)) ?_
        refine j_iconst (v := nI 1) C dX5_lighterAmong_22 (by decide) ?_
        refine j_iand (v := nI ((L / 2 ^ i) % 2)) C dX5_lighterAmong_23 (an_1 _) ?_
        refine j_iconst (v := nI 1) C dX5_lighterAmong_24 (by decide) ?_
        refine j_icmp_neN (tgt := 31) C dX5_lighterAmong_25 (by decide) (by omega) (by omega) (fun c25 => ?_) (fun c25 => ?_)
        · refine j_aload_n C 0 dX5_lighterAmong_31 rfl rfl ?_
          refine j_iload C 5 dX5_lighterAmong_32 rfl ?_
          refine j_iload_n C 1 dX5_lighterAmong_34 rfl rfl ?_
          refine j_callV0 (As := [.int (nI i), .int (nI b)]) (rest := []) C (c_X5_weightOf a N B kf pf lf tf k p hT i b (by omega) (by omega)) gX5_lighterAmong_X5_weightOf rfl 2 rfl (by decide +kernel) (by decide) 0 rfl rfl (Nat.le_of_ble_eq_true rfl) dX5_lighterAmong_35 rfl (fun _ _ => ?_)
          have hw := hT.w (a := i) (b := b) (by omega) (by omega)
          show J X (wT a cy (nI N) (nI B) kf pf lf tf) 38 [(0, .ref (a 0)), (1, .int (nI b)), (2, .int (nI L)), (3, .int (lI (lgt (wL k p b L) i))), (4, .int (nI (mst (wL k p b L) i))), (5, .int (nI i))] [.int (nI (wt (k i) (p i b)))]
          refine j_istore (lv' := [(6, .int (nI (wt (k i) (p i b)))), (0, .ref (a 0)), (1, .int (nI b)), (2, .int (nI L)), (3, .int (lI (lgt (wL k p b L) i))), (4, .int (nI (mst (wL k p b L) i))), (5, .int (nI i))]) C dX5_lighterAmong_38 (by decide) rfl ?_
          refine j_iload C 0 dX5_lighterAmong_40 rfl ?_
          refine j_iload C 5 dX5_lighterAmong_42 rfl ?_
          refine j_icmp_leN (tgt := 54) C dX5_lighterAmong_44 (by decide) (by omega) (by omega) (fun c44 => ?_) (fun c44 => ?_)
          · refine j_iinc (v := nI (i + 1)) (lv' := [(5, .int (nI (i + 1))), (6, .int (nI (wt (k i) (p i b)))), (0, .ref (a 0)), (1, .int (nI b)), (2, .int (nI L)), (3, .int (lI (lgt (wL k p b L) i))), (4, .int (nI (mst (wL k p b L) i)))]) C 6 dX5_lighterAmong_54 rfl (nI_inc i) (by decide) rfl ?_
            refine j_goto (tgt := 9) C dX5_lighterAmong_57 (by decide) ?_
            refine J.sub [2, 3, 4, 5, 6, 0] rfl ?_
            have e := ih9 (i + 1) (by omega) (by omega)
            first
              | (rw [lgt_n (by rw [wL_1 c25]; exact Nat.zero_le _), mst_n (by rw [wL_1 c25]; exact Nat.zero_le _)] at e; exact e)
              | (rw [lgt_n (by rw [wL_2 c25]; exact c44), mst_n (by rw [wL_2 c25]; exact c44)] at e; exact e)
              | (rw [lgt_y (by rw [wL_2 c25]; exact c44), mst_y (by rw [wL_2 c25]; exact c44), wL_2 c25] at e; exact e)
          · refine j_iload C 0 dX5_lighterAmong_47 rfl ?_
            refine j_istore (lv' := [(4, .int (nI (wt (k i) (p i b)))), (6, .int (nI (wt (k i) (p i b)))), (0, .ref (a 0)), (1, .int (nI b)), (2, .int (nI L)), (3, .int (lI (lgt (wL k p b L) i))), (5, .int (nI i))]) C dX5_lighterAmong_49 (by decide) rfl ?_
            refine j_iload C 6 dX5_lighterAmong_51 rfl ?_
            refine j_istore_n (lv' := [(3, .int (nI i)), (4, .int (nI (wt (k i) (p i b)))), (6, .int (nI (wt (k i) (p i b)))), (0, .ref (a 0)), (1, .int (nI b)), (2, .int (nI L)), (5, .int (nI i))]) C dX5_lighterAmong_53 rfl (by decide) rfl ?_
            refine j_iinc (v := nI (i + 1)) (lv' := [(5, .int (nI (i + 1))), (3, .int (nI i)), (4, .int (nI (wt (k i) (p i b)))), (6, .int (nI (wt (k i) (p i b)))), (0, .ref (a 0)), (1, .int (nI b)), (2, .int (nI L))]) C 6 dX5_lighterAmong_54 rfl (nI_inc i) (by decide) rfl ?_
            refine j_goto (tgt := 9) C dX5_lighterAmong_57 (by decide) ?_
            refine J.sub [4, 5, 6, 1, 2, 0] rfl ?_
            have e := ih9 (i + 1) (by omega) (by omega)
            first
              | (rw [lgt_n (by rw [wL_1 c25]; exact Nat.zero_le _), mst_n (by rw [wL_1 c25]; exact Nat.zero_le _)] at e; exact e)
              | (rw [lgt_n (by rw [wL_2 c25]; exact c44), mst_n (by rw [wL_2 c25]; exact c44)] at e; exact e)
              | (rw [lgt_y (by rw [wL_2 c25]; exact c44), mst_y (by rw [wL_2 c25]; exact c44), wL_2 c25] at e; exact e)
        · refine j_goto (tgt := 54) C dX5_lighterAmong_28 (by decide) ?_
          refine j_iinc (v := nI (i + 1)) (lv' := [(5, .int (nI (i + 1))), (0, .ref (a 0)), (1, .int (nI b)), (2, .int (nI L)), (3, .int (lI (lgt (wL k p b L) i))), (4, .int (nI (mst (wL k p b L) i)))]) C 5 dX5_lighterAmong_54 rfl (nI_inc i) (by decide) rfl ?_
          refine j_goto (tgt := 9) C dX5_lighterAmong_57 (by decide) ?_
          refine J.sub [1, 2, 3, 4, 5, 0] rfl ?_
          have e := ih9 (i + 1) (by omega) (by omega)
          first
            | (rw [lgt_n (by rw [wL_1 c25]; exact Nat.zero_le _), mst_n (by rw [wL_1 c25]; exact Nat.zero_le _)] at e; exact e)
            | (rw [lgt_n (by rw [wL_2 c25]; exact c44), mst_n (by rw [wL_2 c25]; exact c44)] at e; exact e)
            | (rw [lgt_y (by rw [wL_2 c25]; exact c44), mst_y (by rw [wL_2 c25]; exact c44), wL_2 c25] at e; exact e)
  have e := L9 (N + 1) 0 (by omega) (by omega)
  exact e
theorem c_X5_lighter0 {l : Launch} {D : va_G} {cy : Nat → ClassId} (a : Nat → Nat) (N B : Nat) (kf : Nat → Int32) (pf : Nat → Nat → Int32) (lf tf : Nat → Int32) (k : Nat → Nat) (p : Nat → Nat → Nat) (hT : Ag N k p kf pf) (b : Nat) (hb : b < N) : Ct l yX5_lighterAmong wsX5_lighterAmong ({ frames := 2, cells := 0, slots := 0, locals := 43 }) D cy [.ref (a 0), .int (nI b), .int (nI 0)] (wT a cy (nI N) (nI B) kf pf lf tf) (fun _ : Unit => True) (fun _ => some (.int (lI (lg N k p b)))) (fun _ => wT a cy (nI N) (nI B) kf pf lf tf) := by
  have h := c_X5_lighterAmong (l := l) (D := D) (cy := cy) a N B kf pf lf tf k p hT b 0 hb (by decide)
  rw [wL_0] at h
  exact h
set_option maxHeartbeats 4000000 in
set_option maxRecDepth 20000 in
theorem c_X5_litLamps {l : Launch} {D : va_G} {cy : Nat → ClassId} (a : Nat → Nat) (N B : Nat) (kf : Nat → Int32) (pf : Nat → Nat → Int32) (lf tf : Nat → Int32) (k : Nat → Nat) (p : Nat → Nat → Nat) (hT : Ag N k p kf pf)  : Ct l yX5_litLamps wsX5_litLamps ({ frames := 3, cells := 0, slots := 0, locals := 69 }) D cy [.ref (a 0)] (wT a cy (nI N) (nI B) kf pf lf tf) (fun _ : Unit => True) (fun _ => some (.int (nI (litS N k p)))) (fun _ => wT a cy (nI N) (nI B) kf pf lf tf) := by
  refine Ct.of (cc := cX5_litLamps) (nL := 3) (ret := (some .int)) rfl (by decide) ⟨rfl, rfl⟩ (Nat.le_of_ble_eq_true rfl) ?_
  intro X C E
  have C : Cx X l D cy cX5_litLamps 3 wsX5_litLamps RX5 ({ frames := 3, cells := 0, slots := 0, locals := 69 }) := C
  have mh0 : ∀ w ∈ u_ws RX5 TX5 7, w ∈ wsX5_litLamps := by decide +kernel
  have mh1 : Cond.fieldLink RX5 40 RX5 (TX5 5).2.1 (TX5 5).2.2.1 ∈ wsX5_litLamps := by decide +kernel
  have hN := hT.n
  show J X (wT a cy (nI N) (nI B) kf pf lf tf) 0 [(0, .ref (a 0))] []
  refine j_iconst (v := nI 0) C dX5_litLamps_0 (by decide) ?_
  refine j_istore_n (lv' := [(1, .int (nI 0)), (0, .ref (a 0))]) C dX5_litLamps_1 rfl (by decide) rfl ?_
  refine j_iconst (v := nI 0) C dX5_litLamps_2 (by decide) ?_
  refine j_istore_n (lv' := [(2, .int (nI 0)), (1, .int (nI 0)), (0, .ref (a 0))]) C dX5_litLamps_3 rfl (by decide) rfl ?_
  refine J.sub [2, 1, 0] rfl ?_
  have L4 : ∀ (n : Nat) (i : Nat), N - i < n → i ≤ N → J X (wT a cy (nI N) (nI B) kf pf lf tf) 4 [(0, .ref (a 0)), (1, .int (nI (bset (fun b => (lg N k p b).isSome) i))), (2, .int (nI i))] [] := by
    intro n
    induction n with
    | zero => intro i hm; exact absurd hm (Nat.not_lt_zero _)
    | succ n ih4 =>
      intro i h4_0 h4_1
      refine j_iload_n C 2 dX5_litLamps_4 rfl rfl ?_
      refine j_aload_n C 0 dX5_litLamps_5 rfl rfl ?_
      refine j_get C mh0 5 mh1 0 rfl rfl (by decide) rfl rfl dX5_litLamps_6 ?_
      refine j_icmp_geN (tgt := 35) C dX5_litLamps_9 (by decide) (by omega) (by omega) (fun c9 => ?_) (fun c9 => ?_)
      · refine j_iload_n C 1 dX5_litLamps_35 rfl rfl ?_
        exact j_iret C E dX5_litLamps_36 () trivial (by rw [show i = N by omega]; rfl) rfl
      · refine j_aload_n C 0 dX5_litLamps_12 rfl rfl ?_
        refine j_iload_n C 2 dX5_litLamps_13 rfl rfl ?_
        refine j_iconst (v := nI 0) C dX5_litLamps_14 (by decide) ?_
        refine j_callV0 (As := [.int (nI i), .int (nI 0)]) (rest := []) C (c_X5_lighter0 a N B kf pf lf tf k p hT i (by omega)) gX5_litLamps_X5_lighterAmong rfl 2 rfl (by decide +kernel) (by decide) 0 rfl rfl (Nat.le_of_ble_eq_true rfl) dX5_litLamps_15 rfl (fun _ _ => ?_)
        show J X (wT a cy (nI N) (nI B) kf pf lf tf) 18 [(0, .ref (a 0)), (1, .int (nI (bset (fun b => (lg N k p b).isSome) i))), (2, .int (nI i))] [.int (lI (lg N k p i))]
        refine j_bipush (v := (-9)) C dX5_litLamps_18 (by decide) ?_
        refine j_icmp_eq (tgt := 29) C dX5_litLamps_20 (by decide) (fun c20 => ?_) (fun c20 => ?_)
        · refine j_iinc (v := nI (i + 1)) (lv' := [(2, .int (nI (i + 1))), (0, .ref (a 0)), (1, .int (nI (bset (fun b => (lg N k p b).isSome) i)))]) C 2 dX5_litLamps_29 rfl (nI_inc i) (by decide) rfl ?_
          refine j_goto (tgt := 4) C dX5_litLamps_32 (by decide) ?_
          refine J.sub [1, 2, 0] rfl ?_
          have e := ih4 (i + 1) (by omega) (by omega)
          first
            | (rw [bset_n (by show (lg N k p i).isSome = false; rw [(lI_none (lg_31 hN)).mp c20]; rfl)] at e; exact e)
            | (rw [bset_y (isSome_of c20)] at e; exact e)
        · refine j_iload_n C 1 dX5_litLamps_23 rfl rfl ?_
          refine j_iconst (v := nI 1) C dX5_litLamps_24 (by decide) ?_
          refine j_iload_n C 2 dX5_litLamps_25 rfl rfl ?_
          refine j_ishl (v := nI (2 ^ i)) C dX5_litLamps_26 (sh_l (by omega)) ?_
          refine j_ior (v := nI (bset (fun b => (lg N k p b).isSome) i + 2 ^ i)) C dX5_litLamps_27 (or_2 (bset_lt _ _)) ?_
          refine j_istore_n (lv' := [(1, .int (nI (bset (fun b => (lg N k p b).isSome) i + 2 ^ i))), (0, .ref (a 0)), (2, .int (nI i))]) C dX5_litLamps_28 rfl (by decide) rfl ?_
          refine j_iinc (v := nI (i + 1)) (lv' := [(2, .int (nI (i + 1))), (1, .int (nI (bset (fun b => (lg N k p b).isSome) i + 2 ^ i))), (0, .ref (a 0))]) C 2 dX5_litLamps_29 rfl (nI_inc i) (by decide) rfl ?_
          refine j_goto (tgt := 4) C dX5_litLamps_32 (by decide) ?_
          refine J.sub [2, 1, 0] rfl ?_
          have e := ih4 (i + 1) (by omega) (by omega)
          first
            | (rw [bset_n (by show (lg N k p i).isSome = false; rw [(lI_none (lg_31 hN)).mp c20]; rfl)] at e; exact e)
            | (rw [bset_y (isSome_of c20)] at e; exact e)
  have e := L4 (N + 1) 0 (by omega) (by omega)
  exact e
set_option maxHeartbeats 4000000 in
set_option maxRecDepth 20000 in
theorem c_X5_findLighters {l : Launch} {D : va_G} {cy : Nat → ClassId} (a : Nat → Nat) (N B : Nat) (kf : Nat → Int32) (pf : Nat → Nat → Int32) (lf tf : Nat → Int32) (k : Nat → Nat) (p : Nat → Nat → Nat) (hT : Ag N k p kf pf)  : Ct l yX5_findLighters wsX5_findLighters ({ frames := 3, cells := 0, slots := 0, locals := 69 }) D cy [.ref (a 0)] (wT a cy (nI N) (nI B) kf pf lf tf) (fun _ : Unit => True) (fun _ => none) (fun _ => wT a cy (nI N) (nI B) kf pf (fil (lgF N k p) lf N) tf) := by
  refine Ct.of (cc := cX5_findLighters) (nL := 2) (ret := none) rfl (by decide) ⟨rfl, rfl⟩ (Nat.le_of_ble_eq_true rfl) ?_
  intro X C E
  have C : Cx X l D cy cX5_findLighters 2 wsX5_findLighters RX5 ({ frames := 3, cells := 0, slots := 0, locals := 69 }) := C
  have mh0 : ∀ w ∈ u_ws RX5 TX5 7, w ∈ wsX5_findLighters := by decide +kernel
  have mh1 : Cond.fieldLink RX5 40 RX5 (TX5 5).2.1 (TX5 5).2.2.1 ∈ wsX5_findLighters := by decide +kernel
  have mh2 : Cond.fieldLink RX5 33 RX5 (TX5 3).2.1 (TX5 3).2.2.1 ∈ wsX5_findLighters := by decide +kernel
  have hN := hT.n
  show J X (wT a cy (nI N) (nI B) kf pf lf tf) 0 [(0, .ref (a 0))] []
  refine j_iconst (v := nI 0) C dX5_findLighters_0 (by decide) ?_
  refine j_istore_n (lv' := [(1, .int (nI 0)), (0, .ref (a 0))]) C dX5_findLighters_1 rfl (by decide) rfl ?_
  refine J.sub [1, 0] rfl ?_
  have L2 : ∀ (n : Nat) (i : Nat), N - i < n → i ≤ N → J X (wT a cy (nI N) (nI B) kf pf (fil (lgF N k p) lf i) tf) 2 [(0, .ref (a 0)), (1, .int (nI i))] [] := by
    intro n
    induction n with
    | zero => intro i hm; exact absurd hm (Nat.not_lt_zero _)
    | succ n ih2 =>
      intro i h2_0 h2_1
      refine j_iload_n C 1 dX5_findLighters_2 rfl rfl ?_
      refine j_aload_n C 0 dX5_findLighters_3 rfl rfl ?_
      refine j_get C mh0 5 mh1 0 rfl rfl (by decide) rfl rfl dX5_findLighters_4 ?_
      refine j_icmp_geN (tgt := 28) C dX5_findLighters_7 (by decide) (by omega) (by omega) (fun c7 => ?_) (fun c7 => ?_)
      · exact j_vret C E dX5_findLighters_28 () trivial rfl (by rw [show i = N by omega])
      · refine j_aload_n C 0 dX5_findLighters_10 rfl rfl ?_
        refine j_get C mh0 3 mh2 0 rfl rfl (by decide) rfl rfl dX5_findLighters_11 ?_
        refine j_iload_n C 1 dX5_findLighters_14 rfl rfl ?_
        refine j_aload_n C 0 dX5_findLighters_15 rfl rfl ?_
        refine j_iload_n C 1 dX5_findLighters_16 rfl rfl ?_
        refine j_iconst (v := nI 0) C dX5_findLighters_17 (by decide) ?_
        refine j_callV0 (As := [.int (nI i), .int (nI 0)]) (rest := [.int (nI i), .ref (a 4)]) C (c_X5_lighter0 a N B kf pf (fil (lgF N k p) lf i) tf k p hT i (by omega)) gX5_findLighters_X5_lighterAmong rfl 2 rfl (by decide +kernel) (by decide) 0 rfl rfl (Nat.le_of_ble_eq_true rfl) dX5_findLighters_18 rfl (fun _ _ => ?_)
        show J X (wT a cy (nI N) (nI B) kf pf (fil (lgF N k p) lf i) tf) 21 [(0, .ref (a 0)), (1, .int (nI i))] [.int (lI (lg N k p i)), .int (nI i), .ref (a 4)]
        refine j_iast (ws' := wT a cy (nI N) (nI B) kf pf (upd (fil (lgF N k p) lf i) i (lI (lg N k p i))) tf) C 4 rfl (by omega) (by decide) rfl dX5_findLighters_21 ?_
        refine j_iinc (v := nI (i + 1)) (lv' := [(1, .int (nI (i + 1))), (0, .ref (a 0))]) C 1 dX5_findLighters_22 rfl (nI_inc i) (by decide) rfl ?_
        refine j_goto (tgt := 2) C dX5_findLighters_25 (by decide) ?_
        refine J.sub [1, 0] rfl ?_
        have e := ih2 (i + 1) (by omega) (by omega)
        rw [← fil_s] at e
        exact e
  have e := L2 (N + 1) 0 (by omega) (by omega)
  rw [fil_0] at e
  exact e
set_option maxHeartbeats 4000000 in
set_option maxRecDepth 20000 in
theorem c_X5_roundByLighters {l : Launch} {D : va_G} {cy : Nat → ClassId} (a : Nat → Nat) (N B : Nat) (kf : Nat → Int32) (pf : Nat → Nat → Int32) (lf tf : Nat → Int32) (k : Nat → Nat) (p : Nat → Nat → Nat) (hT : Ag N k p kf pf) (hlf : ∀ j, j < N → lf j = lI (lg N k p j)) (q : Nat) (hq : q < 6) : Ct l yX5_roundByLighters wsX5_roundByLighters ({ frames := 0, cells := 0, slots := 0, locals := 0 }) D cy [.ref (a 0), .int (nI q)] (wT a cy (nI N) (nI B) kf pf lf tf) (fun _ : Unit => True) (fun _ => some (.int (nI (rnd N k p q)))) (fun _ => wT a cy (nI N) (nI B) kf pf lf tf) := by
  refine Ct.of (cc := cX5_roundByLighters) (nL := 4) (ret := (some .int)) rfl (by decide) ⟨rfl, rfl⟩ (Nat.le_of_ble_eq_true rfl) ?_
  intro X C E
  have C : Cx X l D cy cX5_roundByLighters 4 wsX5_roundByLighters RX5 ({ frames := 0, cells := 0, slots := 0, locals := 0 }) := C
  have mh0 : ∀ w ∈ u_ws RX5 TX5 7, w ∈ wsX5_roundByLighters := by decide +kernel
  have mh1 : Cond.fieldLink RX5 40 RX5 (TX5 5).2.1 (TX5 5).2.2.1 ∈ wsX5_roundByLighters := by decide +kernel
  have mh2 : Cond.fieldLink RX5 33 RX5 (TX5 3).2.1 (TX5 3).2.2.1 ∈ wsX5_roundByLighters := by decide +kernel
  have hN := hT.n
  show J X (wT a cy (nI N) (nI B) kf pf lf tf) 0 [(0, .ref (a 0)), (1, .int (nI q))] []
  refine j_iconst (v := nI 0) C dX5_roundByLighters_0 (by decide) ?_
  refine j_istore_n (lv' := [(2, .int (nI 0)), (0, .ref (a 0)), (1, .int (nI q))]) C dX5_roundByLighters_1 rfl (by decide) rfl ?_
  refine j_iconst (v := nI 0) C dX5_roundByLighters_2 (by decide) ?_
  refine j_istore_n (lv' := [(3, .int (nI 0)), (2, .int (nI 0)), (0, .ref (a 0)), (1, .int (nI q))]) C dX5_roundByLighters_3 rfl (by decide) rfl ?_
  refine J.sub [2, 3, 1, 0] rfl ?_
  have L4 : ∀ (n : Nat) (i : Nat), N - i < n → i ≤ N → J X (wT a cy (nI N) (nI B) kf pf lf tf) 4 [(0, .ref (a 0)), (1, .int (nI q)), (2, .int (nI (bset (fun b => lg N k p b == some q) i))), (3, .int (nI i))] [] := by
    intro n
    induction n with
    | zero => intro i hm; exact absurd hm (Nat.not_lt_zero _)
    | succ n ih4 =>
      intro i h4_0 h4_1
      refine j_iload_n C 3 dX5_roundByLighters_4 rfl rfl ?_
      refine j_aload_n C 0 dX5_roundByLighters_5 rfl rfl ?_
      refine j_get C mh0 5 mh1 0 rfl rfl (by decide) rfl rfl dX5_roundByLighters_6 ?_
      refine j_icmp_geN (tgt := 34) C dX5_roundByLighters_9 (by decide) (by omega) (by omega) (fun c9 => ?_) (fun c9 => ?_)
      · refine j_iload_n C 2 dX5_roundByLighters_34 rfl rfl ?_
        exact j_iret C E dX5_roundByLighters_35 () trivial (by rw [show i = N by omega]; rfl) rfl
      · refine j_aload_n C 0 dX5_roundByLighters_12 rfl rfl ?_
        refine j_get C mh0 3 mh2 0 rfl rfl (by decide) rfl rfl dX5_roundByLighters_13 ?_
        refine j_iload_n C 3 dX5_roundByLighters_16 rfl rfl ?_
        refine j_iald (v := lI (lg N k p i)) C 4 rfl (by omega) (by decide) (hlf _ (by omega)) dX5_roundByLighters_17 ?_
        refine j_iload_n C 1 dX5_roundByLighters_18 rfl rfl ?_
        refine j_icmp_ne (tgt := 28) C dX5_roundByLighters_19 (by decide) (fun c19 => ?_) (fun c19 => ?_)
        · refine j_iinc (v := nI (i + 1)) (lv' := [(3, .int (nI (i + 1))), (0, .ref (a 0)), (1, .int (nI q)), (2, .int (nI (bset (fun b => lg N k p b == some q) i)))]) C 3 dX5_roundByLighters_28 rfl (nI_inc i) (by decide) rfl ?_
          refine j_goto (tgt := 4) C dX5_roundByLighters_31 (by decide) ?_
          refine J.sub [1, 2, 3, 0] rfl ?_
          have e := ih4 (i + 1) (by omega) (by omega)
          first
            | (rw [bset_n (by show (lg N k p i == some q) = false; rw [beq_eq_false_iff_ne]; exact fun z => c19 (by rw [z]; rfl))] at e; exact e)
            | (rw [bset_y (by show (lg N k p i == some q) = true; rw [(lI_eq (lg_31 hN) (by omega)).mp c19]; exact beq_self_eq_true _)] at e; exact e)
        · refine j_iload_n C 2 dX5_roundByLighters_22 rfl rfl ?_
          refine j_iconst (v := nI 1) C dX5_roundByLighters_23 (by decide) ?_
          refine j_iload_n C 3 dX5_roundByLighters_24 rfl rfl ?_
          refine j_ishl (v := nI (2 ^ i)) C dX5_roundByLighters_25 (sh_l (by omega)) ?_
          refine j_ior (v := nI (bset (fun b => lg N k p b == some q) i + 2 ^ i)) C dX5_roundByLighters_26 (or_2 (bset_lt _ _)) ?_
          refine j_istore_n (lv' := [(2, .int (nI (bset (fun b => lg N k p b == some q) i + 2 ^ i))), (0, .ref (a 0)), (1, .int (nI q)), (3, .int (nI i))]) C dX5_roundByLighters_27 rfl (by decide) rfl ?_
          refine j_iinc (v := nI (i + 1)) (lv' := [(3, .int (nI (i + 1))), (2, .int (nI (bset (fun b => lg N k p b == some q) i + 2 ^ i))), (0, .ref (a 0)), (1, .int (nI q))]) C 3 dX5_roundByLighters_28 rfl (nI_inc i) (by decide) rfl ?_
          refine j_goto (tgt := 4) C dX5_roundByLighters_31 (by decide) ?_
          refine J.sub [2, 3, 1, 0] rfl ?_
          have e := ih4 (i + 1) (by omega) (by omega)
          first
            | (rw [bset_n (by show (lg N k p i == some q) = false; rw [beq_eq_false_iff_ne]; exact fun z => c19 (by rw [z]; rfl))] at e; exact e)
            | (rw [bset_y (by show (lg N k p i == some q) = true; rw [(lI_eq (lg_31 hN) (by omega)).mp c19]; exact beq_self_eq_true _)] at e; exact e)
  have e := L4 (N + 1) 0 (by omega) (by omega)
  exact e
set_option maxHeartbeats 4000000 in
set_option maxRecDepth 20000 in
theorem c_X5_roundOf {l : Launch} {D : va_G} {cy : Nat → ClassId} (a : Nat → Nat) (N B : Nat) (kf : Nat → Int32) (pf : Nat → Nat → Int32) (lf tf : Nat → Int32) (k : Nat → Nat) (p : Nat → Nat → Nat) (hT : Ag N k p kf pf) (q : Nat) (hq : q < 6) : Ct l yX5_roundOf wsX5_roundOf ({ frames := 4, cells := 0, slots := 0, locals := 90 }) D cy [.ref (a 0), .int (nI q)] (wT a cy (nI N) (nI B) kf pf lf tf) (fun _ : Unit => True) (fun _ => some (.int (nI (rnd N k p q)))) (fun _ => wT a cy (nI N) (nI B) kf pf (fil (lgF N k p) lf N) tf) := by
  refine Ct.of (cc := cX5_roundOf) (nL := 2) (ret := (some .int)) rfl (by decide) ⟨rfl, rfl⟩ (Nat.le_of_ble_eq_true rfl) ?_
  intro X C E
  have C : Cx X l D cy cX5_roundOf 2 wsX5_roundOf RX5 ({ frames := 4, cells := 0, slots := 0, locals := 90 }) := C
  have hN := hT.n
  show J X (wT a cy (nI N) (nI B) kf pf lf tf) 0 [(0, .ref (a 0)), (1, .int (nI q))] []
  refine j_aload_n C 0 dX5_roundOf_0 rfl rfl ?_
  refine j_callV0 (As := []) (rest := []) C (c_X5_findLighters a N B kf pf lf tf k p hT) gX5_roundOf_X5_findLighters rfl 0 rfl (by decide +kernel) (by decide) 0 rfl rfl (Nat.le_of_ble_eq_true rfl) dX5_roundOf_1 rfl (fun _ _ => ?_)
  show J X (wT a cy (nI N) (nI B) kf pf (fil (lgF N k p) lf N) tf) 4 [(0, .ref (a 0)), (1, .int (nI q))] []
  refine j_aload_n C 0 dX5_roundOf_4 rfl rfl ?_
  refine j_iload_n C 1 dX5_roundOf_5 rfl rfl ?_
  refine j_callV0 (As := [.int (nI q)]) (rest := []) C (c_X5_roundByLighters a N B kf pf (fil (lgF N k p) lf N) tf k p hT (fun j hj => fil_in hj) q (by omega)) gX5_roundOf_X5_roundByLighters rfl 1 rfl (by decide +kernel) (by decide) 0 rfl rfl (Nat.le_of_ble_eq_true rfl) dX5_roundOf_6 rfl (fun _ _ => ?_)
  show J X (wT a cy (nI N) (nI B) kf pf (fil (lgF N k p) lf N) tf) 9 [(0, .ref (a 0)), (1, .int (nI q))] [.int (nI (rnd N k p q))]
  exact j_iret C E dX5_roundOf_9 () trivial rfl rfl
set_option maxHeartbeats 4000000 in
set_option maxRecDepth 20000 in
theorem c_X5_fewestSteps {l : Launch} {D : va_G} {cy : Nat → ClassId} (q s : Nat) (hq : q < 6) (hs : s < 64) : Ct l yX5_fewestSteps wsX5_fewestSteps ({ frames := 1, cells := 0, slots := 0, locals := 14 }) D cy [.int (nI q), .int (nI s)] (([] : va_W) ) (fun _ : Unit => True) (fun _ => some (.int (nI (stp (bitP s) q 6)))) (fun _ => []) := by
  refine Ct.of (cc := cX5_fewestSteps) (nL := 5) (ret := (some .int)) rfl (by decide) ⟨rfl, rfl⟩ (Nat.le_of_ble_eq_true rfl) ?_
  intro X C E
  have C : Cx X l D cy cX5_fewestSteps 5 wsX5_fewestSteps RX5 ({ frames := 1, cells := 0, slots := 0, locals := 14 }) := C
  have mh0 : Cond.methodLink RX5 102 Lib.Math.min.name ∈ wsX5_fewestSteps := by decide +kernel
  have mh1 : Cond.static Lib.Math.min.name ∈ wsX5_fewestSteps := by decide +kernel
  have mh2 : Cond.initialized "java/lang/Math" ∈ wsX5_fewestSteps := by decide +kernel
  have mh3 : Cond.code Lib.Math.min.name Lib.Math.min.code 2 (some .int) ∈ wsX5_fewestSteps := by decide +kernel
  have mh4 : Cond.methodLink RX5 97 Lib.Math.max.name ∈ wsX5_fewestSteps := by decide +kernel
  have mh5 : Cond.static Lib.Math.max.name ∈ wsX5_fewestSteps := by decide +kernel
  have mh6 : Cond.code Lib.Math.max.name Lib.Math.max.code 2 (some .int) ∈ wsX5_fewestSteps := by decide +kernel
  show J X (([] : va_W) ) 0 [(0, .int (nI q)), (1, .int (nI s))] []
  refine j_iconst (v := nI 0) C dX5_fewestSteps_0 (by decide) ?_
  refine j_istore_n (lv' := [(2, .int (nI 0)), (0, .int (nI q)), (1, .int (nI s))]) C dX5_fewestSteps_1 rfl (by decide) rfl ?_
  refine j_iconst (v := nI 0) C dX5_fewestSteps_2 (by decide) ?_
  refine j_istore_n (lv' := [(3, .int (nI 0)), (2, .int (nI 0)), (0, .int (nI q)), (1, .int (nI s))]) C dX5_fewestSteps_3 rfl (by decide) rfl ?_
  refine j_iconst (v := nI 0) C dX5_fewestSteps_4 (by decide) ?_
  refine j_istore (lv' := [(4, .int (nI 0)), (3, .int (nI 0)), (2, .int (nI 0)), (0, .int (nI q)), (1, .int (nI s))]) C dX5_fewestSteps_5 (by decide) rfl ?_
  refine J.sub [3, 4, 2, 1, 0] rfl ?_
  have L7 : ∀ (n : Nat) (i : Nat), 6 - i < n → i ≤ 6 → J X (([] : va_W) ) 7 [(0, .int (nI q)), (1, .int (nI s)), (2, .int (nI (dn (bitP s) q i))), (3, .int (nI (upp (bitP s) q i))), (4, .int (nI i))] [] := by
    intro n
    induction n with
    | zero => intro i hm; exact absurd hm (Nat.not_lt_zero _)
    | succ n ih7 =>
      intro i h7_0 h7_1
      have hdn := dn_le (bitP s) q i
      have hup := upp_le (bitP s) q i
      refine j_iload C 4 dX5_fewestSteps_7 rfl ?_
      refine j_bipush (v := nI 6) C dX5_fewestSteps_9 (by decide) ?_
      refine j_icmp_geN (tgt := 50) C dX5_fewestSteps_11 (by decide) (by omega) (by omega) (fun c11 => ?_) (fun c11 => ?_)
      · refine j_iload_n C 2 dX5_fewestSteps_50 rfl rfl ?_
        refine j_iload_n C 3 dX5_fewestSteps_51 rfl rfl ?_
        refine j_iadd (v := nI ((dn (bitP s) q i) + (upp (bitP s) q i))) C dX5_fewestSteps_52 (nI_add _ _) ?_
        refine j_iload_n C 2 dX5_fewestSteps_53 rfl rfl ?_
        refine j_iload_n C 3 dX5_fewestSteps_54 rfl rfl ?_
        refine j_mmin (v := nI (min (dn (bitP s) q i) (upp (bitP s) q i))) (rest := [.int (nI ((dn (bitP s) q i) + (upp (bitP s) q i)))]) C mh0 mh1 mh2 mh3 ⟨by decide, Nat.le_of_ble_eq_true rfl⟩ (mn_n (by omega) (by omega)) dX5_fewestSteps_55 ?_
        refine j_iadd (v := nI (((dn (bitP s) q i) + (upp (bitP s) q i)) + (min (dn (bitP s) q i) (upp (bitP s) q i)))) C dX5_fewestSteps_58 (nI_add _ _) ?_
        exact j_iret C E dX5_fewestSteps_59 () trivial (by rw [show i = 6 by omega]; rfl) rfl
      · refine j_iload_n C 1 dX5_fewestSteps_14 rfl rfl ?_
        refine j_iload C 4 dX5_fewestSteps_15 rfl ?_
        refine j_ishr (v := nI (s / 2 ^ i)) C dX5_fewestSteps_17 (sh_r (by omega) (by omega)) ?_
        refine j_iconst (v := nI 1) C dX5_fewestSteps_18 (by decide) ?_
        refine j_iand (v := nI ((s / 2 ^ i) % 2)) C dX5_fewestSteps_19 (an_1 _) ?_
        refine j_if_neN (tgt := 26) C dX5_fewestSteps_20 (by decide) (by omega) (fun c20 => ?_) (fun c20 => ?_)
        · have hb : bitP s i = true := decide_eq_true (by omega)
          refine j_iload_n C 2 dX5_fewestSteps_26 rfl rfl ?_
          refine j_iload_n C 0 dX5_fewestSteps_27 rfl rfl ?_
          refine j_iload C 4 dX5_fewestSteps_28 rfl ?_
          refine j_isub (v := nI q - nI i) C dX5_fewestSteps_30 rfl ?_
          refine j_mmax (v := nI (max (dn (bitP s) q i) (q - i))) (rest := []) C mh4 mh5 mh2 mh6 ⟨by decide, Nat.le_of_ble_eq_true rfl⟩ (mx_s (by omega) (by omega) (by omega)) dX5_fewestSteps_31 ?_
          refine j_istore_n (lv' := [(2, .int (nI (max (dn (bitP s) q i) (q - i)))), (0, .int (nI q)), (1, .int (nI s)), (3, .int (nI (upp (bitP s) q i))), (4, .int (nI i))]) C dX5_fewestSteps_34 rfl (by decide) rfl ?_
          refine j_iload_n C 3 dX5_fewestSteps_35 rfl rfl ?_
          refine j_iload C 4 dX5_fewestSteps_36 rfl ?_
          refine j_iload_n C 1 dX5_fewestSteps_38 rfl rfl ?_
          refine j_isub (v := nI i - nI q) C dX5_fewestSteps_39 rfl ?_
          refine j_mmax (v := nI (max (upp (bitP s) q i) (i - q))) (rest := []) C mh4 mh5 mh2 mh6 ⟨by decide, Nat.le_of_ble_eq_true rfl⟩ (mx_s (by omega) (by omega) (by omega)) dX5_fewestSteps_40 ?_
          refine j_istore_n (lv' := [(3, .int (nI (max (upp (bitP s) q i) (i - q)))), (2, .int (nI (max (dn (bitP s) q i) (q - i)))), (0, .int (nI q)), (1, .int (nI s)), (4, .int (nI i))]) C dX5_fewestSteps_43 rfl (by decide) rfl ?_
          refine j_iinc (v := nI (i + 1)) (lv' := [(4, .int (nI (i + 1))), (3, .int (nI (max (upp (bitP s) q i) (i - q)))), (2, .int (nI (max (dn (bitP s) q i) (q - i)))), (0, .int (nI q)), (1, .int (nI s))]) C 4 dX5_fewestSteps_44 rfl (nI_inc i) (by decide) rfl ?_
          refine j_goto (tgt := 7) C dX5_fewestSteps_47 (by decide) ?_
          refine J.sub [3, 4, 2, 1, 0] rfl ?_
          have e := ih7 (i + 1) (by omega) (by omega)
          first
            | (rw [dn_y hb, upp_y hb] at e; exact e)
            | (rw [dn_n hb, upp_n hb] at e; exact e)
        · have hb : bitP s i = false := decide_eq_false (by omega)
          refine j_goto (tgt := 44) C dX5_fewestSteps_23 (by decide) ?_
          refine j_iinc (v := nI (i + 1)) (lv' := [(4, .int (nI (i + 1))), (0, .int (nI q)), (1, .int (nI s)), (2, .int (nI (dn (bitP s) q i))), (3, .int (nI (upp (bitP s) q i)))]) C 4 dX5_fewestSteps_44 rfl (nI_inc i) (by decide) rfl ?_
          refine j_goto (tgt := 7) C dX5_fewestSteps_47 (by decide) ?_
          refine J.sub [1, 2, 3, 4, 0] rfl ?_
          have e := ih7 (i + 1) (by omega) (by omega)
          first
            | (rw [dn_y hb, upp_y hb] at e; exact e)
            | (rw [dn_n hb, upp_n hb] at e; exact e)
  have e := L7 7 0 (by omega) (by omega)
  exact e
set_option maxHeartbeats 4000000 in
set_option maxRecDepth 20000 in
theorem c_X5_stepsOf {l : Launch} {D : va_G} {cy : Nat → ClassId} (a : Nat → Nat) (N B : Nat) (kf : Nat → Int32) (pf : Nat → Nat → Int32) (lf tf : Nat → Int32) (k : Nat → Nat) (p : Nat → Nat → Nat) (hT : Ag N k p kf pf) (q : Nat) (hq : q < 6) : Ct l yX5_stepsOf wsX5_stepsOf ({ frames := 5, cells := 0, slots := 0, locals := 111 }) D cy [.ref (a 0), .int (nI q)] (wT a cy (nI N) (nI B) kf pf lf tf) (fun _ : Unit => True) (fun _ => some (.int (nI (sps N k p q)))) (fun _ => wT a cy (nI N) (nI B) kf pf (fil (lgF N k p) lf N) tf) := by
  refine Ct.of (cc := cX5_stepsOf) (nL := 2) (ret := (some .int)) rfl (by decide) ⟨rfl, rfl⟩ (Nat.le_of_ble_eq_true rfl) ?_
  intro X C E
  have C : Cx X l D cy cX5_stepsOf 2 wsX5_stepsOf RX5 ({ frames := 5, cells := 0, slots := 0, locals := 111 }) := C
  have hN := hT.n
  show J X (wT a cy (nI N) (nI B) kf pf lf tf) 0 [(0, .ref (a 0)), (1, .int (nI q))] []
  refine j_iload_n C 1 dX5_stepsOf_0 rfl rfl ?_
  refine j_aload_n C 0 dX5_stepsOf_1 rfl rfl ?_
  refine j_iload_n C 1 dX5_stepsOf_2 rfl rfl ?_
  refine j_callV0 (As := [.int (nI q)]) (rest := [.int (nI q)]) C (c_X5_roundOf a N B kf pf lf tf k p hT q (by omega)) gX5_stepsOf_X5_roundOf rfl 1 rfl (by decide +kernel) (by decide) 0 rfl rfl (Nat.le_of_ble_eq_true rfl) dX5_stepsOf_3 rfl (fun _ _ => ?_)
  show J X (wT a cy (nI N) (nI B) kf pf (fil (lgF N k p) lf N) tf) 6 [(0, .ref (a 0)), (1, .int (nI q))] [.int (nI (rnd N k p q)), .int (nI q)]
  refine j_callP (As := [.int (nI q), .int (nI (rnd N k p q))]) (rest := []) C (c_X5_fewestSteps q (rnd N k p q) (by omega) (rnd_lt hN _)) gX5_stepsOf_X5_fewestSteps rfl 2 rfl (by decide +kernel) (by decide) (Nat.le_of_ble_eq_true rfl) dX5_stepsOf_6 rfl (fun _ _ => ?_)
  show J X (wT a cy (nI N) (nI B) kf pf (fil (lgF N k p) lf N) tf) 9 [(0, .ref (a 0)), (1, .int (nI q))] [.int (nI (stp (bitP (rnd N k p q)) q 6))]
  exact j_iret C E dX5_stepsOf_9 () trivial (by rw [sps_6 hN]) rfl
