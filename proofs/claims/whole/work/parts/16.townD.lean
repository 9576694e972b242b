set_option maxHeartbeats 4000000 in
set_option maxRecDepth 20000 in
theorem c_X5_payTillLighterOfNone {l : Launch} {D : va_G} {cy : Nat → ClassId} (a : Nat → Nat) (N B : Nat) (kf : Nat → Int32) (pf : Nat → Nat → Int32) (lf tf : Nat → Int32) (k : Nat → Nat) (p : Nat → Nat → Nat) (hT : Ag N k p kf pf) (q : Nat) (hq : q < N) : Ct l yX5_payTillLighterOfNone wsX5_payTillLighterOfNone ({ frames := 3, cells := 0, slots := 0, locals := 69 }) D cy [.ref (a 0), .int (nI q)] (wT a cy (nI N) (nI B) kf pf lf tf) (fun _ : (Nat → Nat → Int32) => True) (fun _ => some (.int (nI (fre N k p q N)))) (fun u => wT a cy (nI N) (nI B) kf u lf tf) := by
  refine Ct.of (cc := cX5_payTillLighterOfNone) (nL := 5) (ret := (some .int)) rfl (by decide) ⟨rfl, rfl⟩ (Nat.le_of_ble_eq_true rfl) ?_
  intro X C E
  have C : Cx X l D cy cX5_payTillLighterOfNone 5 wsX5_payTillLighterOfNone RX5 ({ frames := 3, cells := 0, slots := 0, locals := 69 }) := C
  have mh0 : ∀ w ∈ u_ws RX5 TX5 7, w ∈ wsX5_payTillLighterOfNone := by decide +kernel
  have mh1 : Cond.fieldLink RX5 40 RX5 (TX5 5).2.1 (TX5 5).2.2.1 ∈ wsX5_payTillLighterOfNone := by decide +kernel
  have mh2 : Cond.fieldLink RX5 30 RX5 (TX5 2).2.1 (TX5 2).2.2.1 ∈ wsX5_payTillLighterOfNone := by decide +kernel
  have hN := hT.n
  show J X (wT a cy (nI N) (nI B) kf pf lf tf) 0 [(0, .ref (a 0)), (1, .int (nI q))] []
  refine j_iconst (v := nI 0) C dX5_payTillLighterOfNone_0 (by decide) ?_
  refine j_istore_n (lv' := [(2, .int (nI 0)), (0, .ref (a 0)), (1, .int (nI q))]) C dX5_payTillLighterOfNone_1 rfl (by decide) rfl ?_
  refine j_iconst (v := nI 0) C dX5_payTillLighterOfNone_2 (by decide) ?_
  refine j_istore_n (lv' := [(3, .int (nI 0)), (2, .int (nI 0)), (0, .ref (a 0)), (1, .int (nI q))]) C dX5_payTillLighterOfNone_3 rfl (by decide) rfl ?_
  refine J.sub [2, 3, 1, 0] rfl ?_
  have L4 : ∀ (n : Nat) (b d : Nat) (pf1 : Nat → Nat → Int32) (p1 : Nat → Nat → Nat), N - b < n → b ≤ N → Ag N k p1 kf pf1 → (∀ a c, b ≤ c → p1 a c = p a c) → d = fre N k p q b → J X (wT a cy (nI N) (nI B) kf pf1 lf tf) 4 [(0, .ref (a 0)), (1, .int (nI q)), (2, .int (nI d)), (3, .int (nI b))] [] := by
    intro n
    induction n with
    | zero => intro b d pf1 p1 hm; exact absurd hm (Nat.not_lt_zero _)
    | succ n ih4 =>
      intro b d pf1 p1 h4_0 h4_1 h4_2 h4_3 h4_4
      refine j_iload_n C 3 dX5_payTillLighterOfNone_4 rfl rfl ?_
      refine j_aload_n C 0 dX5_payTillLighterOfNone_5 rfl rfl ?_
      refine j_get C mh0 5 mh1 0 rfl rfl (by decide) rfl rfl dX5_payTillLighterOfNone_6 ?_
      refine j_icmp_geN (tgt := 64) C dX5_payTillLighterOfNone_9 (by decide) (by omega) (by omega) (fun c9 => ?_) (fun c9 => ?_)
      · refine j_iload_n C 2 dX5_payTillLighterOfNone_64 rfl rfl ?_
        exact j_iret C E dX5_payTillLighterOfNone_65 pf1 trivial (by rw [h4_4, show b = N by omega]) rfl
      · refine j_aload_n C 0 dX5_payTillLighterOfNone_12 rfl rfl ?_
        refine j_get C mh0 2 mh2 0 rfl rfl (by decide) rfl rfl dX5_payTillLighterOfNone_13 ?_
        refine j_iload_n C 1 dX5_payTillLighterOfNone_16 rfl rfl ?_
        refine j_gald (b := a (9 + q)) C 3 rfl (by omega) (by decide) (wT_out (by omega)) dX5_payTillLighterOfNone_17 ?_
        refine j_iload_n C 3 dX5_payTillLighterOfNone_18 rfl rfl ?_
        have := h4_2.p9 (a := q) (b := b) (by omega) (by omega)
        refine j_iald (v := nI (p1 q b)) C (9 + q) (wT_row (by omega)) (by omega) (by decide) (h4_2.pp (by omega) (by omega)) dX5_payTillLighterOfNone_19 ?_
        refine j_istore (lv' := [(4, .int (nI (p1 q b))), (0, .ref (a 0)), (1, .int (nI q)), (2, .int (nI d)), (3, .int (nI b))]) C dX5_payTillLighterOfNone_20 (by decide) rfl ?_
        refine J.sub [1, 2, 3, 4, 0] rfl ?_
        have L22 : ∀ (n : Nat) (v w : Nat) (pf2 : Nat → Nat → Int32) (p2 : Nat → Nat → Nat), v < n → Ag N k p2 kf pf2 → p2 q b = v → (∀ a, a ≠ q → p2 a b = p a b) → (∀ a c, b < c → p2 a c = p a c) → w + payv N k p q b v = fre N k p q (b + 1) → J X (wT a cy (nI N) (nI B) kf pf2 lf tf) 22 [(0, .ref (a 0)), (1, .int (nI q)), (2, .int (nI w)), (3, .int (nI b)), (4, .int (nI v))] [] := by
          intro n
          induction n with
          | zero => intro v w pf2 p2 hm; exact absurd hm (Nat.not_lt_zero _)
          | succ n ih22 =>
            intro v w pf2 p2 h22_0 h22_1 h22_2 h22_3 h22_4 h22_5
            have hv9 := h22_1.p9 (a := q) (b := b) (by omega) (by omega)
            rw [h22_2] at hv9
            refine j_iload C 4 dX5_payTillLighterOfNone_22 rfl ?_
            refine j_if_leN (tgt := 58) C dX5_payTillLighterOfNone_24 (by decide) (by omega) (fun c24 => ?_) (fun c24 => ?_)
            · refine j_iinc (v := nI (b + 1)) (lv' := [(3, .int (nI (b + 1))), (0, .ref (a 0)), (1, .int (nI q)), (2, .int (nI w)), (4, .int (nI v))]) C 3 dX5_payTillLighterOfNone_58 rfl (nI_inc b) (by decide) rfl ?_
              refine j_goto (tgt := 4) C dX5_payTillLighterOfNone_61 (by decide) ?_
              refine J.sub [1, 2, 3, 0] rfl ?_
              have e := ih4 (b + 1) w pf2 p2 (by omega) (by omega) h22_1 (fun a c hc => h22_4 a c (by omega)) (by first | (rw [show v = 0 by omega] at h22_5; exact h22_5) | (rw [payv_n (fun z => c34 (by rw [colP h22_2 h22_3, z]; rfl))] at h22_5; exact h22_5))
              exact e
            · refine j_aload_n C 0 dX5_payTillLighterOfNone_27 rfl rfl ?_
              refine j_iload_n C 3 dX5_payTillLighterOfNone_28 rfl rfl ?_
              refine j_iconst (v := nI 0) C dX5_payTillLighterOfNone_29 (by decide) ?_
              refine j_callV0 (As := [.int (nI b), .int (nI 0)]) (rest := []) C (c_X5_lighter0 a N B kf pf2 lf tf k p2 h22_1 b (by omega)) gX5_payTillLighterOfNone_X5_lighterAmong rfl 2 rfl (by decide +kernel) (by decide) 0 rfl rfl (Nat.le_of_ble_eq_true rfl) dX5_payTillLighterOfNone_30 rfl (fun _ _ => ?_)
              show J X (wT a cy (nI N) (nI B) kf pf2 lf tf) 33 [(0, .ref (a 0)), (1, .int (nI q)), (2, .int (nI w)), (3, .int (nI b)), (4, .int (nI v))] [.int (lI (lg N k p2 b))]
              refine j_iload_n C 1 dX5_payTillLighterOfNone_33 rfl rfl ?_
              refine j_icmp_ne (tgt := 58) C dX5_payTillLighterOfNone_34 (by decide) (fun c34 => ?_) (fun c34 => ?_)
              · refine j_iinc (v := nI (b + 1)) (lv' := [(3, .int (nI (b + 1))), (0, .ref (a 0)), (1, .int (nI q)), (2, .int (nI w)), (4, .int (nI v))]) C 3 dX5_payTillLighterOfNone_58 rfl (nI_inc b) (by decide) rfl ?_
                refine j_goto (tgt := 4) C dX5_payTillLighterOfNone_61 (by decide) ?_
                refine J.sub [1, 2, 3, 0] rfl ?_
                have e := ih4 (b + 1) w pf2 p2 (by omega) (by omega) h22_1 (fun a c hc => h22_4 a c (by omega)) (by first | (rw [show v = 0 by omega] at h22_5; exact h22_5) | (rw [payv_n (fun z => c34 (by rw [colP h22_2 h22_3, z]; rfl))] at h22_5; exact h22_5))
                exact e
              · have hlq := (lI_eq (lg_31 hN) (by omega)).mp c34
                have hqb := h22_1.ne (by omega) hlq
                have hcol := colP (N := N) (k := k) h22_2 h22_3
                rw [hcol] at hlq
                refine j_aload_n C 0 dX5_payTillLighterOfNone_37 rfl rfl ?_
                refine j_get C mh0 2 mh2 0 rfl rfl (by decide) rfl rfl dX5_payTillLighterOfNone_38 ?_
                refine j_iload_n C 1 dX5_payTillLighterOfNone_41 rfl rfl ?_
                refine j_gald (b := a (9 + q)) C 3 rfl (by omega) (by decide) (wT_out (by omega)) dX5_payTillLighterOfNone_42 ?_
                refine j_iload_n C 3 dX5_payTillLighterOfNone_43 rfl rfl ?_
                refine j_iload C 4 dX5_payTillLighterOfNone_44 rfl ?_
                refine j_iconst (v := nI 1) C dX5_payTillLighterOfNone_46 (by decide) ?_
                refine j_isub (v := nI (v - 1)) C dX5_payTillLighterOfNone_47 (pk_sub (by omega)) ?_
                refine j_iast (ws' := wT a cy (nI N) (nI B) kf (updR pf2 q (upd (pf2 q) b (nI (v - 1)))) lf tf) C (9 + q) (wT_row (by omega)) (by omega) (by decide) (wT_set (by omega)) dX5_payTillLighterOfNone_48 ?_
                refine j_iinc (v := nI (w + 1)) (lv' := [(2, .int (nI (w + 1))), (0, .ref (a 0)), (1, .int (nI q)), (3, .int (nI b)), (4, .int (nI v))]) C 2 dX5_payTillLighterOfNone_49 rfl (nI_inc w) (by decide) rfl ?_
                refine j_iinc (v := nI (v - 1)) (lv' := [(4, .int (nI (v - 1))), (2, .int (nI (w + 1))), (0, .ref (a 0)), (1, .int (nI q)), (3, .int (nI b))]) C 4 dX5_payTillLighterOfNone_52 rfl (nI_dec (by omega)) (by decide) rfl ?_
                refine j_goto (tgt := 22) C dX5_payTillLighterOfNone_55 (by decide) ?_
                refine J.sub [2, 3, 1, 4, 0] rfl ?_
                have e := ih22 (v - 1) (w + 1) (updR pf2 q (upd (pf2 q) b (nI (v - 1)))) (setp p2 q b (v - 1)) (by omega) (h22_1.setp (by omega) hqb (by omega)) setp_s (fun a ha => (setp_n (fun z => ha z.1)).trans (h22_3 a ha)) (fun a c hc => (setp_n (fun z => by omega)).trans (h22_4 a c hc)) (by have z := payv_y c24 hlq; omega)
                exact e
        have e := L22 (p1 q b + 1) (p1 q b) d pf1 p1 (Nat.lt_succ_self _) h4_2 rfl (fun a _ => h4_3 a b (Nat.le_refl _)) (fun a c hc => h4_3 a c (by omega)) (by rw [h4_4, h4_3 q b (Nat.le_refl _)]; rfl)
        exact e
  have e := L4 (N + 1) 0 0 pf p (by omega) (by omega) hT (fun _ _ _ => rfl) rfl
  exact e
set_option maxHeartbeats 4000000 in
set_option maxRecDepth 20000 in
theorem c_X5_becomeLike {l : Launch} {D : va_G} {cy : Nat → ClassId} (a1 a2 : Nat → Nat) (n1 b1 n2 b2 : Int32) (k1 k2 : Nat → Int32) (p1 p2 : Nat → Nat → Int32) (l1 t1 l2 t2 : Nat → Int32)  : Ct l yX5_becomeLike wsX5_becomeLike ({ frames := 0, cells := 0, slots := 0, locals := 0 }) D cy [.ref (a2 0), .ref (a1 0)] (wT a1 cy n1 b1 k1 p1 l1 t1 ++ wT a2 cy n2 b2 k2 p2 l2 t2) (fun _ : Unit => True) (fun _ => none) (fun _ => wT a1 cy n1 b1 k1 p1 l1 t1 ++ wT a2 cy n1 b1 (fil k1 k2 6) (filR p1 p2 6) l2 t2) := by
  refine Ct.of (cc := cX5_becomeLike) (nL := 4) (ret := none) rfl (by decide) ⟨rfl, rfl⟩ (Nat.le_of_ble_eq_true rfl) ?_
  intro X C E
  have C : Cx X l D cy cX5_becomeLike 4 wsX5_becomeLike RX5 ({ frames := 0, cells := 0, slots := 0, locals := 0 }) := C
  have mh0 : ∀ w ∈ u_ws RX5 TX5 7, w ∈ wsX5_becomeLike := by decide +kernel
  have mh1 : Cond.fieldLink RX5 40 RX5 (TX5 5).2.1 (TX5 5).2.2.1 ∈ wsX5_becomeLike := by decide +kernel
  have mh2 : Cond.fieldLink RX5 44 RX5 (TX5 6).2.1 (TX5 6).2.2.1 ∈ wsX5_becomeLike := by decide +kernel
  have mh3 : Cond.fieldLink RX5 24 RX5 (TX5 1).2.1 (TX5 1).2.2.1 ∈ wsX5_becomeLike := by decide +kernel
  have mh4 : Cond.fieldLink RX5 30 RX5 (TX5 2).2.1 (TX5 2).2.2.1 ∈ wsX5_becomeLike := by decide +kernel
  show J X (wT a1 cy n1 b1 k1 p1 l1 t1 ++ wT a2 cy n2 b2 k2 p2 l2 t2) 0 [(0, .ref (a2 0)), (1, .ref (a1 0))] []
  refine j_aload_n C 0 dX5_becomeLike_0 rfl rfl ?_
  refine j_aload_n C 1 dX5_becomeLike_1 rfl rfl ?_
  refine j_get C mh0 5 mh1 0 rfl rfl (by decide) rfl rfl dX5_becomeLike_2 ?_
  refine j_put (ws' := wT a1 cy n1 b1 k1 p1 l1 t1 ++ wT a2 cy n1 b2 k2 p2 l2 t2) C mh0 5 mh1 tyX5 tyX5_ok nmX5 15 rfl rfl (by decide) rfl rfl (by decide +kernel) (Nat.le_of_ble_eq_true rfl) rfl dX5_becomeLike_5 ?_
  refine j_aload_n C 0 dX5_becomeLike_8 rfl rfl ?_
  refine j_aload_n C 1 dX5_becomeLike_9 rfl rfl ?_
  refine j_get C mh0 6 mh2 0 rfl rfl (by decide) rfl rfl dX5_becomeLike_10 ?_
  refine j_put (ws' := wT a1 cy n1 b1 k1 p1 l1 t1 ++ wT a2 cy n1 b1 k2 p2 l2 t2) C mh0 6 mh2 tyX5 tyX5_ok nmX5 15 rfl rfl (by decide) rfl rfl (by decide +kernel) (Nat.le_of_ble_eq_true rfl) rfl dX5_becomeLike_13 ?_
  refine j_iconst (v := nI 0) C dX5_becomeLike_16 (by decide) ?_
  refine j_istore_n (lv' := [(2, .int (nI 0)), (0, .ref (a2 0)), (1, .ref (a1 0))]) C dX5_becomeLike_17 rfl (by decide) rfl ?_
  refine J.sub [1, 2, 0] rfl ?_
  have L18 : ∀ (n : Nat) (i : Nat), 6 - i < n → i ≤ 6 → J X (wT a1 cy n1 b1 k1 p1 l1 t1 ++ wT a2 cy n1 b1 (fil k1 k2 i) (filR p1 p2 i) l2 t2) 18 [(0, .ref (a2 0)), (1, .ref (a1 0)), (2, .int (nI i))] [] := by
    intro n
    induction n with
    | zero => intro i hm; exact absurd hm (Nat.not_lt_zero _)
    | succ n ih18 =>
      intro i h18_0 h18_1
      refine j_iload_n C 2 dX5_becomeLike_18 rfl rfl ?_
      refine j_bipush (v := nI 6) C dX5_becomeLike_19 (by decide) ?_
      refine j_icmp_geN (tgt := 72) C dX5_becomeLike_21 (by decide) (by omega) (by omega) (fun c21 => ?_) (fun c21 => ?_)
      · exact j_vret C E dX5_becomeLike_72 () trivial rfl (by rw [show i = 6 by omega])
      · refine j_aload_n C 0 dX5_becomeLike_24 rfl rfl ?_
        refine j_get C mh0 1 mh3 15 rfl rfl (by decide) rfl rfl dX5_becomeLike_25 ?_
        refine j_iload_n C 2 dX5_becomeLike_28 rfl rfl ?_
        refine j_aload_n C 1 dX5_becomeLike_29 rfl rfl ?_
        refine j_get C mh0 1 mh3 0 rfl rfl (by decide) rfl rfl dX5_becomeLike_30 ?_
        refine j_iload_n C 2 dX5_becomeLike_33 rfl rfl ?_
        refine j_iald (v := k1 i) C 2 rfl (by omega) (by decide) rfl dX5_becomeLike_34 ?_
        refine j_iast (ws' := wT a1 cy n1 b1 k1 p1 l1 t1 ++ wT a2 cy n1 b1 (upd (fil k1 k2 i) i (k1 i)) (filR p1 p2 i) l2 t2) C 17 rfl (by omega) (by decide) rfl dX5_becomeLike_35 ?_
        refine j_iconst (v := nI 0) C dX5_becomeLike_36 (by decide) ?_
        refine j_istore_n (lv' := [(3, .int (nI 0)), (0, .ref (a2 0)), (1, .ref (a1 0)), (2, .int (nI i))]) C dX5_becomeLike_37 rfl (by decide) rfl ?_
        refine J.sub [1, 2, 3, 0] rfl ?_
        have L38 : ∀ (n : Nat) (j : Nat), 6 - j < n → j ≤ 6 → J X (wT a1 cy n1 b1 k1 p1 l1 t1 ++ wT a2 cy n1 b1 (fil k1 k2 (i + 1)) (updR (filR p1 p2 i) i (fil (p1 i) (p2 i) j)) l2 t2) 38 [(0, .ref (a2 0)), (1, .ref (a1 0)), (2, .int (nI i)), (3, .int (nI j))] [] := by
          intro n
          induction n with
          | zero => intro j hm; exact absurd hm (Nat.not_lt_zero _)
          | succ n ih38 =>
            intro j h38_0 h38_1
            refine j_iload_n C 3 dX5_becomeLike_38 rfl rfl ?_
            refine j_bipush (v := nI 6) C dX5_becomeLike_39 (by decide) ?_
            refine j_icmp_geN (tgt := 66) C dX5_becomeLike_41 (by decide) (by omega) (by omega) (fun c41 => ?_) (fun c41 => ?_)
            · refine j_iinc (v := nI (i + 1)) (lv' := [(2, .int (nI (i + 1))), (0, .ref (a2 0)), (1, .ref (a1 0)), (3, .int (nI j))]) C 2 dX5_becomeLike_66 rfl (nI_inc i) (by decide) rfl ?_
              refine j_goto (tgt := 18) C dX5_becomeLike_69 (by decide) ?_
              refine J.sub [1, 2, 0] rfl ?_
              have e := ih18 (i + 1) (by omega) (by omega)
              rw [show j = 6 by omega, filR_s]
              exact e
            · refine j_aload_n C 0 dX5_becomeLike_44 rfl rfl ?_
              refine j_get C mh0 2 mh4 15 rfl rfl (by decide) rfl rfl dX5_becomeLike_45 ?_
              refine j_iload_n C 2 dX5_becomeLike_48 rfl rfl ?_
              refine j_gald (b := a2 (9 + i)) C 18 rfl (by omega) (by decide) (wT_out (by omega)) dX5_becomeLike_49 ?_
              refine j_iload_n C 3 dX5_becomeLike_50 rfl rfl ?_
              refine j_aload_n C 1 dX5_becomeLike_51 rfl rfl ?_
              refine j_get C mh0 2 mh4 0 rfl rfl (by decide) rfl rfl dX5_becomeLike_52 ?_
              refine j_iload_n C 2 dX5_becomeLike_55 rfl rfl ?_
              refine j_gald (b := a1 (9 + i)) C 3 rfl (by omega) (by decide) (wT_out (by omega)) dX5_becomeLike_56 ?_
              refine j_iload_n C 3 dX5_becomeLike_57 rfl rfl ?_
              refine j_iald (v := p1 i j) C (9 + i) (wTT_1 (by omega)) (by omega) (by decide) rfl dX5_becomeLike_58 ?_
              refine j_iast (ws' := wT a1 cy n1 b1 k1 p1 l1 t1 ++ wT a2 cy n1 b1 (fil k1 k2 (i + 1)) (updR (updR (filR p1 p2 i) i (fil (p1 i) (p2 i) j)) i (upd ((updR (filR p1 p2 i) i (fil (p1 i) (p2 i) j)) i) j (p1 i j))) l2 t2) C (24 + i) (wTT_2 (by omega)) (by omega) (by decide) (wTT_s (by omega)) dX5_becomeLike_59 ?_
              refine j_iinc (v := nI (j + 1)) (lv' := [(3, .int (nI (j + 1))), (0, .ref (a2 0)), (1, .ref (a1 0)), (2, .int (nI i))]) C 3 dX5_becomeLike_60 rfl (nI_inc j) (by decide) rfl ?_
              refine j_goto (tgt := 38) C dX5_becomeLike_63 (by decide) ?_
              refine J.sub [1, 2, 3, 0] rfl ?_
              have e := ih38 (j + 1) (by omega) (by omega)
              rw [← fil_s (p1 i) (p2 i) j] at e
              rw [updR_u]
              exact e
        have e := L38 7 0 (by omega) (by omega)
        rw [← filR_e] at e
        rw [fil_s]
        exact e
  have e := L18 7 0 (by omega) (by omega)
  rw [fil_0, filR_0] at e
  exact e
