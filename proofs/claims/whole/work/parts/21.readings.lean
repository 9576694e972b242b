set_option maxHeartbeats 4000000 in
set_option maxRecDepth 20000 in
theorem c_X2_add {l : Launch} {D : va_G} {cy : Nat → ClassId} (h d e g : Nat) (c : Nat) (df mf gf : Nat → Int32) (x y z : Int32) (hc : c < 8) : Ct l yX2_add wsX2_add ({ frames := 0, cells := 0, slots := 0, locals := 0 }) D cy [.ref h, .int x, .int y, .int z] (wR h d e g cy (nI c) df mf gf) (fun _ : Unit => True) (fun _ => some (.int (nI c))) (fun _ => wR h d e g cy (nI (c + 1)) (upd df c x) (upd mf c y) (upd gf c z)) := by
  refine Ct.of (cc := cX2_add) (nL := 4) (ret := (some .int)) rfl (by decide) ⟨rfl, rfl⟩ (Nat.le_of_ble_eq_true rfl) ?_
  intro X C E
  have C : Cx X l D cy cX2_add 4 wsX2_add RX2 ({ frames := 0, cells := 0, slots := 0, locals := 0 }) := C
  have mh0 : ∀ w ∈ u_ws RX2 TX2 4, w ∈ wsX2_add := by decide +kernel
  have mh1 : Cond.fieldLink RX2 21 RX2 (TX2 3).2.1 (TX2 3).2.2.1 ∈ wsX2_add := by decide +kernel
  have mh2 : Cond.fieldLink RX2 9 RX2 (TX2 0).2.1 (TX2 0).2.2.1 ∈ wsX2_add := by decide +kernel
  have mh3 : Cond.fieldLink RX2 15 RX2 (TX2 1).2.1 (TX2 1).2.2.1 ∈ wsX2_add := by decide +kernel
  have mh4 : Cond.fieldLink RX2 18 RX2 (TX2 2).2.1 (TX2 2).2.2.1 ∈ wsX2_add := by decide +kernel
  show J X (wR h d e g cy (nI c) df mf gf) 0 [(0, .ref h), (1, .int x), (2, .int y), (3, .int z)] []
  refine j_aload_n C 0 dX2_add_0 rfl rfl ?_
  refine j_get C mh0 3 mh1 0 rfl rfl (by decide) rfl rfl dX2_add_1 ?_
  refine j_bipush (v := nI 8) C dX2_add_4 (by decide) ?_
  refine j_icmp_ltN (tgt := 12) C dX2_add_6 (by decide) (by omega) (by omega) (fun c6 => ?_) (fun c6 => ?_)
  · refine j_aload_n C 0 dX2_add_12 rfl rfl ?_
    refine j_get C mh0 0 mh2 0 rfl rfl (by decide) rfl rfl dX2_add_13 ?_
    refine j_aload_n C 0 dX2_add_16 rfl rfl ?_
    refine j_get C mh0 3 mh1 0 rfl rfl (by decide) rfl rfl dX2_add_17 ?_
    refine j_iload_n C 1 dX2_add_20 rfl rfl ?_
    refine j_iast (ws' := wR h d e g cy (nI c) (upd df c (x)) mf gf) C 1 rfl (by omega) (by decide) rfl dX2_add_21 ?_
    refine j_aload_n C 0 dX2_add_22 rfl rfl ?_
    refine j_get C mh0 1 mh3 0 rfl rfl (by decide) rfl rfl dX2_add_23 ?_
    refine j_aload_n C 0 dX2_add_26 rfl rfl ?_
    refine j_get C mh0 3 mh1 0 rfl rfl (by decide) rfl rfl dX2_add_27 ?_
    refine j_iload_n C 2 dX2_add_30 rfl rfl ?_
    refine j_iast (ws' := wR h d e g cy (nI c) (upd df c (x)) (upd mf c (y)) gf) C 2 rfl (by omega) (by decide) rfl dX2_add_31 ?_
    refine j_aload_n C 0 dX2_add_32 rfl rfl ?_
    refine j_get C mh0 2 mh4 0 rfl rfl (by decide) rfl rfl dX2_add_33 ?_
    refine j_aload_n C 0 dX2_add_36 rfl rfl ?_
    refine j_get C mh0 3 mh1 0 rfl rfl (by decide) rfl rfl dX2_add_37 ?_
    refine j_iload_n C 3 dX2_add_40 rfl rfl ?_
    refine j_iast (ws' := wR h d e g cy (nI c) (upd df c (x)) (upd mf c (y)) (upd gf c (z))) C 3 rfl (by omega) (by decide) rfl dX2_add_41 ?_
    refine j_aload_n C 0 dX2_add_42 rfl rfl ?_
    refine j_dup C dX2_add_43 rfl ?_
    refine j_get C mh0 3 mh1 0 rfl rfl (by decide) rfl rfl dX2_add_44 ?_
    refine j_iconst (v := nI 1) C dX2_add_47 (by decide) ?_
    refine j_iadd (v := nI (c + 1)) C dX2_add_48 (nI_add _ _) ?_
    refine j_put (ws' := wR h d e g cy (nI (c + 1)) (upd df c (x)) (upd mf c (y)) (upd gf c (z))) C mh0 3 mh1 tyX2 tyX2_ok nmX2 0 rfl rfl (by decide) rfl rfl (by decide +kernel) (Nat.le_of_ble_eq_true rfl) rfl dX2_add_49 ?_
    refine j_aload_n C 0 dX2_add_52 rfl rfl ?_
    refine j_get C mh0 3 mh1 0 rfl rfl (by decide) rfl rfl dX2_add_53 ?_
    refine j_iconst (v := nI 1) C dX2_add_56 (by decide) ?_
    refine j_isub (v := nI ((c + 1) - 1)) C dX2_add_57 (pk_sub (by omega)) ?_
    exact j_iret C E dX2_add_58 () trivial (by rw [Nat.add_sub_cancel]) rfl
  · exact absurd c6 (by omega)
set_option maxHeartbeats 4000000 in
set_option maxRecDepth 20000 in
theorem c_X2_addF {l : Launch} {D : va_G} {cy : Nat → ClassId} (h d e g : Nat) (c : Nat) (df mf gf : Nat → Int32) (x y z : Int32) (hc : 8 ≤ c) (hc8 : c ≤ 8) : Ct l yX2_add wsX2_add ({ frames := 0, cells := 0, slots := 0, locals := 0 }) D cy [.ref h, .int x, .int y, .int z] (wR h d e g cy (nI c) df mf gf) (fun _ : Unit => True) (fun _ => some (.int (-4))) (fun _ => wR h d e g cy (nI c) df mf gf) := by
  refine Ct.of (cc := cX2_add) (nL := 4) (ret := (some .int)) rfl (by decide) ⟨rfl, rfl⟩ (Nat.le_of_ble_eq_true rfl) ?_
  intro X C E
  have C : Cx X l D cy cX2_add 4 wsX2_add RX2 ({ frames := 0, cells := 0, slots := 0, locals := 0 }) := C
  have mh0 : ∀ w ∈ u_ws RX2 TX2 4, w ∈ wsX2_add := by decide +kernel
  have mh1 : Cond.fieldLink RX2 21 RX2 (TX2 3).2.1 (TX2 3).2.2.1 ∈ wsX2_add := by decide +kernel
  show J X (wR h d e g cy (nI c) df mf gf) 0 [(0, .ref h), (1, .int x), (2, .int y), (3, .int z)] []
  refine j_aload_n C 0 dX2_add_0 rfl rfl ?_
  refine j_get C mh0 3 mh1 0 rfl rfl (by decide) rfl rfl dX2_add_1 ?_
  refine j_bipush (v := nI 8) C dX2_add_4 (by decide) ?_
  refine j_icmp_ltN (tgt := 12) C dX2_add_6 (by decide) (by omega) (by omega) (fun c6 => ?_) (fun c6 => ?_)
  · exact absurd c6 (by omega)
  · refine j_bipush (v := (-4)) C dX2_add_9 (by decide) ?_
    exact j_iret C E dX2_add_11 () trivial rfl rfl
set_option maxHeartbeats 4000000 in
set_option maxRecDepth 20000 in
theorem c_X2_keepFirst {l : Launch} {D : va_G} {cy : Nat → ClassId} (h d e g : Nat) (c : Nat) (df mf gf : Nat → Int32) (m : Nat) (hc : c ≤ 8) (hm : m ≤ c) : Ct l yX2_keepFirst wsX2_keepFirst ({ frames := 0, cells := 0, slots := 0, locals := 0 }) D cy [.ref h, .int (nI m)] (wR h d e g cy (nI c) df mf gf) (fun _ : Unit => True) (fun _ => none) (fun _ => wR h d e g cy (nI m) df mf gf) := by
  refine Ct.of (cc := cX2_keepFirst) (nL := 2) (ret := none) rfl (by decide) ⟨rfl, rfl⟩ (Nat.le_of_ble_eq_true rfl) ?_
  intro X C E
  have C : Cx X l D cy cX2_keepFirst 2 wsX2_keepFirst RX2 ({ frames := 0, cells := 0, slots := 0, locals := 0 }) := C
  have mh0 : ∀ w ∈ u_ws RX2 TX2 4, w ∈ wsX2_keepFirst := by decide +kernel
  have mh1 : Cond.fieldLink RX2 21 RX2 (TX2 3).2.1 (TX2 3).2.2.1 ∈ wsX2_keepFirst := by decide +kernel
  show J X (wR h d e g cy (nI c) df mf gf) 0 [(0, .ref h), (1, .int (nI m))] []
  refine j_iload_n C 1 dX2_keepFirst_0 rfl rfl ?_
  refine j_if_ltN (tgt := 17) C dX2_keepFirst_1 (by decide) (by omega) (fun c1 => ?_) (fun c1 => ?_)
  · exact absurd c1 (by omega)
  · refine j_iload_n C 1 dX2_keepFirst_4 rfl rfl ?_
    refine j_aload_n C 0 dX2_keepFirst_5 rfl rfl ?_
    refine j_get C mh0 3 mh1 0 rfl rfl (by decide) rfl rfl dX2_keepFirst_6 ?_
    refine j_icmp_geN (tgt := 17) C dX2_keepFirst_9 (by decide) (by omega) (by omega) (fun c9 => ?_) (fun c9 => ?_)
    · exact j_vret C E dX2_keepFirst_17 () trivial rfl (by first | rfl | (rw [show m = c by omega]; done))
    · refine j_aload_n C 0 dX2_keepFirst_12 rfl rfl ?_
      refine j_iload_n C 1 dX2_keepFirst_13 rfl rfl ?_
      refine j_put (ws' := wR h d e g cy (nI m) df mf gf) C mh0 3 mh1 tyX2 tyX2_ok nmX2 0 rfl rfl (by decide) rfl rfl (by decide +kernel) (Nat.le_of_ble_eq_true rfl) rfl dX2_keepFirst_14 ?_
      exact j_vret C E dX2_keepFirst_17 () trivial rfl (by first | rfl | (rw [show m = c by omega]; done))
set_option maxHeartbeats 4000000 in
set_option maxRecDepth 20000 in
theorem c_X2_latestDusk {l : Launch} {D : va_G} {cy : Nat → ClassId} (h d e g : Nat) (c : Nat) (df mf gf : Nat → Int32) (N : Nat) (rd rl : Nat → Nat) (ra : Nat → Option Nat) (hR : Rg N c rd rl ra df mf gf)  : Ct l yX2_latestDusk wsX2_latestDusk ({ frames := 1, cells := 0, slots := 0, locals := 13 }) D cy [.ref h] (wR h d e g cy (nI c) df mf gf) (fun _ : Unit => True) (fun _ => some (.int (nI (lst rd c) - nI 1))) (fun _ => wR h d e g cy (nI c) df mf gf) := by
  refine Ct.of (cc := cX2_latestDusk) (nL := 3) (ret := (some .int)) rfl (by decide) ⟨rfl, rfl⟩ (Nat.le_of_ble_eq_true rfl) ?_
  intro X C E
  have C : Cx X l D cy cX2_latestDusk 3 wsX2_latestDusk RX2 ({ frames := 1, cells := 0, slots := 0, locals := 13 }) := C
  have mh0 : ∀ w ∈ u_ws RX2 TX2 4, w ∈ wsX2_latestDusk := by decide +kernel
  have mh1 : Cond.fieldLink RX2 21 RX2 (TX2 3).2.1 (TX2 3).2.2.1 ∈ wsX2_latestDusk := by decide +kernel
  have mh2 : Cond.fieldLink RX2 9 RX2 (TX2 0).2.1 (TX2 0).2.2.1 ∈ wsX2_latestDusk := by decide +kernel
  have mh3 : Cond.methodLink RX2 42 Lib.Math.max.name ∈ wsX2_latestDusk := by decide +kernel
  have mh4 : Cond.static Lib.Math.max.name ∈ wsX2_latestDusk := by decide +kernel
  have mh5 : Cond.initialized "java/lang/Math" ∈ wsX2_latestDusk := by decide +kernel
  have mh6 : Cond.code Lib.Math.max.name Lib.Math.max.code 2 (some .int) ∈ wsX2_latestDusk := by decide +kernel
  have hc8 := hR.1
  show J X (wR h d e g cy (nI c) df mf gf) 0 [(0, .ref h)] []
  refine j_iconst (v := (-1)) C dX2_latestDusk_0 (by decide) ?_
  refine j_istore_n (lv' := [(1, .int ((-1))), (0, .ref h)]) C dX2_latestDusk_1 rfl (by decide) rfl ?_
  refine j_iconst (v := nI 0) C dX2_latestDusk_2 (by decide) ?_
  refine j_istore_n (lv' := [(2, .int (nI 0)), (1, .int ((-1))), (0, .ref h)]) C dX2_latestDusk_3 rfl (by decide) rfl ?_
  refine J.sub [2, 1, 0] rfl ?_
  have L4 : ∀ (n : Nat) (i : Nat), c - i < n → i ≤ c → J X (wR h d e g cy (nI c) df mf gf) 4 [(0, .ref h), (1, .int (nI (lst rd i) - nI 1)), (2, .int (nI i))] [] := by
    intro n
    induction n with
    | zero => intro i hm; exact absurd hm (Nat.not_lt_zero _)
    | succ n ih4 =>
      intro i h4_0 h4_1
      have hl := lst_le (rd := rd) (c := i) (fun j hj => hR.d10 (by omega))
      refine j_iload_n C 2 dX2_latestDusk_4 rfl rfl ?_
      refine j_aload_n C 0 dX2_latestDusk_5 rfl rfl ?_
      refine j_get C mh0 3 mh1 0 rfl rfl (by decide) rfl rfl dX2_latestDusk_6 ?_
      refine j_icmp_geN (tgt := 29) C dX2_latestDusk_9 (by decide) (by omega) (by omega) (fun c9 => ?_) (fun c9 => ?_)
      · refine j_iload_n C 1 dX2_latestDusk_29 rfl rfl ?_
        exact j_iret C E dX2_latestDusk_30 () trivial (by rw [show i = c by omega]) rfl
      · refine j_iload_n C 1 dX2_latestDusk_12 rfl rfl ?_
        refine j_aload_n C 0 dX2_latestDusk_13 rfl rfl ?_
        refine j_get C mh0 0 mh2 0 rfl rfl (by decide) rfl rfl dX2_latestDusk_14 ?_
        refine j_iload_n C 2 dX2_latestDusk_17 rfl rfl ?_
        have := hR.d10 (j := i) (by omega)
        refine j_iald (v := nI (rd i)) C 1 rfl (by omega) (by decide) (hR.d (by omega)) dX2_latestDusk_18 ?_
        refine j_mmax (v := nI (lst rd (i + 1)) - nI 1) (rest := []) C mh3 mh4 mh5 mh6 ⟨by decide, Nat.le_of_ble_eq_true rfl⟩ (ml_s (by omega) (by omega)) dX2_latestDusk_19 ?_
        refine j_istore_n (lv' := [(1, .int (nI (lst rd (i + 1)) - nI 1)), (0, .ref h), (2, .int (nI i))]) C dX2_latestDusk_22 rfl (by decide) rfl ?_
        refine j_iinc (v := nI (i + 1)) (lv' := [(2, .int (nI (i + 1))), (1, .int (nI (lst rd (i + 1)) - nI 1)), (0, .ref h)]) C 2 dX2_latestDusk_23 rfl (nI_inc i) (by decide) rfl ?_
        refine j_goto (tgt := 4) C dX2_latestDusk_26 (by decide) ?_
        refine J.sub [2, 1, 0] rfl ?_
        have e := ih4 (i + 1) (by omega) (by omega)
        exact e
  have e := L4 (c + 1) 0 (by omega) (by omega)
  first
    | exact e
    | exact J.eq e rfl (by rw [ml_0]; rfl) rfl
set_option maxHeartbeats 4000000 in
set_option maxRecDepth 20000 in
theorem c_X2_areSoBehind {l : Launch} {D : va_G} {cy : Nat → ClassId} (a : Nat → Nat) (N B : Nat) (kf : Nat → Int32) (pf : Nat → Nat → Int32) (lf tf : Nat → Int32) (k : Nat → Nat) (p : Nat → Nat → Nat) (hT : Ag N k p kf pf) (h d e g : Nat) (c : Nat) (df mf gf : Nat → Int32) (rd rl : Nat → Nat) (ra : Nat → Option Nat) (hR : Rg N c rd rl ra df mf gf) (t : Nat) (ht : t ≤ 10) : Ct l yX2_areSoBehind wsX2_areSoBehind ({ frames := 3, cells := 0, slots := 0, locals := 69 }) D cy [.ref h, .int (nI t), .ref (a 0)] (wT a cy (nI N) (nI B) kf pf lf tf ++ wR h d e g cy (nI c) df mf gf) (fun _ : Unit => True) (fun _ => some (.int (nI (bN (so1 N t c k p rd rl ra = true))))) (fun _ => wT a cy (nI N) (nI B) kf pf lf tf ++ wR h d e g cy (nI c) df mf gf) := by
  refine Ct.of (cc := cX2_areSoBehind) (nL := 4) (ret := (some .boolean)) rfl (by decide) ⟨rfl, rfl⟩ (Nat.le_of_ble_eq_true rfl) ?_
  intro X C E
  have C : Cx X l D cy cX2_areSoBehind 4 wsX2_areSoBehind RX2 ({ frames := 3, cells := 0, slots := 0, locals := 69 }) := C
  have mh0 : ∀ w ∈ u_ws RX2 TX2 4, w ∈ wsX2_areSoBehind := by decide +kernel
  have mh1 : Cond.fieldLink RX2 21 RX2 (TX2 3).2.1 (TX2 3).2.2.1 ∈ wsX2_areSoBehind := by decide +kernel
  have mh2 : Cond.fieldLink RX2 9 RX2 (TX2 0).2.1 (TX2 0).2.2.1 ∈ wsX2_areSoBehind := by decide +kernel
  have mh3 : Cond.fieldLink RX2 15 RX2 (TX2 1).2.1 (TX2 1).2.2.1 ∈ wsX2_areSoBehind := by decide +kernel
  have mh4 : Cond.fieldLink RX2 18 RX2 (TX2 2).2.1 (TX2 2).2.2.1 ∈ wsX2_areSoBehind := by decide +kernel
  have hN := hT.n
  have hc8 := hR.1
  show J X (wT a cy (nI N) (nI B) kf pf lf tf ++ wR h d e g cy (nI c) df mf gf) 0 [(0, .ref h), (1, .int (nI t)), (2, .ref (a 0))] []
  refine j_iconst (v := nI 0) C dX2_areSoBehind_0 (by decide) ?_
  refine j_istore_n (lv' := [(3, .int (nI 0)), (0, .ref h), (1, .int (nI t)), (2, .ref (a 0))]) C dX2_areSoBehind_1 rfl (by decide) rfl ?_
  refine J.sub [1, 2, 3, 0] rfl ?_
  have L2 : ∀ (n : Nat) (i : Nat), c - i < n → i ≤ c → allB (soP N t k p rd rl ra) i = true → J X (wT a cy (nI N) (nI B) kf pf lf tf ++ wR h d e g cy (nI c) df mf gf) 2 [(0, .ref h), (1, .int (nI t)), (2, .ref (a 0)), (3, .int (nI i))] [] := by
    intro n
    induction n with
    | zero => intro i hm; exact absurd hm (Nat.not_lt_zero _)
    | succ n ih2 =>
      intro i h2_0 h2_1 h2_2
      refine j_iload_n C 3 dX2_areSoBehind_2 rfl rfl ?_
      refine j_aload_n C 0 dX2_areSoBehind_3 rfl rfl ?_
      refine j_get C mh0 3 mh1 15 rfl rfl (by decide) rfl rfl dX2_areSoBehind_4 ?_
      refine j_icmp_geN (tgt := 48) C dX2_areSoBehind_7 (by decide) (by omega) (by omega) (fun c7 => ?_) (fun c7 => ?_)
      · refine j_iconst (v := nI 1) C dX2_areSoBehind_48 (by decide) ?_
        exact j_zret C E dX2_areSoBehind_49 rfl () trivial (ret_y (by show allB _ c = true; rw [show c = i by omega]; exact h2_2)) rfl
      · refine j_aload_n C 0 dX2_areSoBehind_10 rfl rfl ?_
        refine j_get C mh0 0 mh2 15 rfl rfl (by decide) rfl rfl dX2_areSoBehind_11 ?_
        refine j_iload_n C 3 dX2_areSoBehind_14 rfl rfl ?_
        have := hR.d10 (j := i) (by omega)
        refine j_iald (v := nI (rd i)) C 16 rfl (by omega) (by decide) (hR.d (by omega)) dX2_areSoBehind_15 ?_
        refine j_iload_n C 1 dX2_areSoBehind_16 rfl rfl ?_
        refine j_icmp_neN (tgt := 42) C dX2_areSoBehind_17 (by decide) (by omega) (by omega) (fun c17 => ?_) (fun c17 => ?_)
        · refine j_iinc (v := nI (i + 1)) (lv' := [(3, .int (nI (i + 1))), (0, .ref h), (1, .int (nI t)), (2, .ref (a 0))]) C 3 dX2_areSoBehind_42 rfl (nI_inc i) (by decide) rfl ?_
          refine j_goto (tgt := 2) C dX2_areSoBehind_45 (by decide) ?_
          refine J.sub [1, 2, 3, 0] rfl ?_
          have e := ih2 (i + 1) (by omega) (by omega) (by show (allB _ i && soP N t k p rd rl ra i) = true; rw [h2_2]; first | exact decide_eq_true (fun z => absurd z c17) | exact decide_eq_true (fun _ => lI_inj (lg_31 hN) (fun a ha => by have := hR.gN (j := i) (by omega) ha; omega) c37))
          exact e
        · refine j_aload_n C 2 dX2_areSoBehind_20 rfl rfl ?_
          refine j_aload_n C 0 dX2_areSoBehind_21 rfl rfl ?_
          refine j_get C mh0 1 mh3 15 rfl rfl (by decide) rfl rfl dX2_areSoBehind_22 ?_
          refine j_iload_n C 3 dX2_areSoBehind_25 rfl rfl ?_
          have := hR.mN (j := i) (by omega)
          refine j_iald (v := nI (rl i)) C 17 rfl (by omega) (by decide) (hR.m (by omega)) dX2_areSoBehind_26 ?_
          refine j_iconst (v := nI 0) C dX2_areSoBehind_27 (by decide) ?_
          refine j_callV (As := [.int (nI (rl i)), .int (nI 0)]) (rest := []) C (c_X5_lighter0 a N B kf pf lf tf k p hT (rl i) (by omega)) gX2_areSoBehind_X5_lighterAmong rfl 2 rfl (by decide +kernel) (by decide) [] (wR h d e g cy (nI c) df mf gf) rfl 0 rfl rfl (Nat.le_of_ble_eq_true rfl) dX2_areSoBehind_28 rfl (fun _ _ => ?_)
          show J X (wT a cy (nI N) (nI B) kf pf lf tf ++ wR h d e g cy (nI c) df mf gf) 31 [(0, .ref h), (1, .int (nI t)), (2, .ref (a 0)), (3, .int (nI i))] [.int (lI (lg N k p (rl i)))]
          refine j_aload_n C 0 dX2_areSoBehind_31 rfl rfl ?_
          refine j_get C mh0 2 mh4 15 rfl rfl (by decide) rfl rfl dX2_areSoBehind_32 ?_
          refine j_iload_n C 3 dX2_areSoBehind_35 rfl rfl ?_
          refine j_iald (v := lI (ra i)) C 18 rfl (by omega) (by decide) (hR.g (by omega)) dX2_areSoBehind_36 ?_
          refine j_icmp_eq (tgt := 42) C dX2_areSoBehind_37 (by decide) (fun c37 => ?_) (fun c37 => ?_)
          · refine j_iinc (v := nI (i + 1)) (lv' := [(3, .int (nI (i + 1))), (0, .ref h), (1, .int (nI t)), (2, .ref (a 0))]) C 3 dX2_areSoBehind_42 rfl (nI_inc i) (by decide) rfl ?_
            refine j_goto (tgt := 2) C dX2_areSoBehind_45 (by decide) ?_
            refine J.sub [1, 2, 3, 0] rfl ?_
            have e := ih2 (i + 1) (by omega) (by omega) (by show (allB _ i && soP N t k p rd rl ra i) = true; rw [h2_2]; first | exact decide_eq_true (fun z => absurd z c17) | exact decide_eq_true (fun _ => lI_inj (lg_31 hN) (fun a ha => by have := hR.gN (j := i) (by omega) ha; omega) c37))
            exact e
          · refine j_iconst (v := nI 0) C dX2_areSoBehind_40 (by decide) ?_
            exact j_zret C E dX2_areSoBehind_41 rfl () trivial (ret_n (by rw [show so1 N t c k p rd rl ra = false from allB_f (i := i) (by omega) (decide_eq_false (fun z => c37 (by rw [z c17])))]; decide)) rfl
  have e := L2 (c + 1) 0 (by omega) (by omega) rfl
  exact e
set_option maxHeartbeats 4000000 in
set_option maxRecDepth 20000 in
theorem c_X2_areSo {l : Launch} {D : va_G} {cy : Nat → ClassId} (a : Nat → Nat) (N B : Nat) (kf : Nat → Int32) (pf : Nat → Nat → Int32) (lf tf : Nat → Int32) (k : Nat → Nat) (p : Nat → Nat → Nat) (hT : Ag N k p kf pf) (h d e g : Nat) (c : Nat) (df mf gf : Nat → Int32) (rd rl : Nat → Nat) (ra : Nat → Option Nat) (hR : Rg N c rd rl ra df mf gf) (hB : B ≤ 9) : Ct l yX2_areSo wsX2_areSo ({ frames := 5, cells := 0, slots := 0, locals := 113 }) D cy [.ref h, .ref (a 0)] (wT a cy (nI N) (nI B) kf pf lf tf ++ wR h d e g cy (nI c) df mf gf) (fun _ : (Nat → Nat → Int32) × (Nat → Int32) × (Nat → Int32) => True) (fun _ => some (.int (nI (bN (soT N B c k p rd rl ra 11 = true))))) (fun u => wT a cy (nI N) (nI B) kf u.1 u.2.1 u.2.2 ++ wR h d e g cy (nI c) df mf gf) := by
  refine Ct.of (cc := cX2_areSo) (nL := 4) (ret := (some .boolean)) rfl (by decide) ⟨rfl, rfl⟩ (Nat.le_of_ble_eq_true rfl) ?_
  intro X C E
  have C : Cx X l D cy cX2_areSo 4 wsX2_areSo RX2 ({ frames := 5, cells := 0, slots := 0, locals := 113 }) := C
  have hN := hT.n
  have hc8 := hR.1
  have hL := lst_le (rd := rd) (c := c) (fun j hj => hR.d10 hj)
  show J X (wT a cy (nI N) (nI B) kf pf lf tf ++ wR h d e g cy (nI c) df mf gf) 0 [(0, .ref h), (1, .ref (a 0))] []
  refine j_aload_n C 0 dX2_areSo_0 rfl rfl ?_
  refine j_callV (As := []) (rest := []) C (c_X2_latestDusk h d e g c df mf gf N rd rl ra hR) gX2_areSo_X2_latestDusk rfl 0 rfl (by decide +kernel) (by decide) (wT a cy (nI N) (nI B) kf pf lf tf) [] rfl 0 rfl rfl (Nat.le_of_ble_eq_true rfl) dX2_areSo_1 rfl (fun _ _ => ?_)
  show J X (wT a cy (nI N) (nI B) kf pf lf tf ++ wR h d e g cy (nI c) df mf gf) 4 [(0, .ref h), (1, .ref (a 0))] [.int (nI (lst rd c) - nI 1)]
  refine j_istore_n (lv' := [(2, .int (nI (lst rd c) - nI 1)), (0, .ref h), (1, .ref (a 0))]) C dX2_areSo_4 rfl (by decide) rfl ?_
  refine j_iconst (v := nI 0) C dX2_areSo_5 (by decide) ?_
  refine j_istore_n (lv' := [(3, .int (nI 0)), (2, .int (nI (lst rd c) - nI 1)), (0, .ref h), (1, .ref (a 0))]) C dX2_areSo_6 rfl (by decide) rfl ?_
  refine J.sub [2, 3, 1, 0] rfl ?_
  have L7 : ∀ (n : Nat) (t : Nat) (pf1 : Nat → Nat → Int32) (lf1 tf1 : Nat → Int32), lst rd c - t < n → t ≤ lst rd c → soT N B c k p rd rl ra t = true → Ag N k (dks N B k (t - 1) p) kf pf1 → J X (wT a cy (nI N) (nI B) kf pf1 lf1 tf1 ++ wR h d e g cy (nI c) df mf gf) 7 [(0, .ref h), (1, .ref (a 0)), (2, .int (nI (lst rd c) - nI 1)), (3, .int (nI t))] [] := by
    intro n
    induction n with
    | zero => intro t pf1 lf1 tf1 hm; exact absurd hm (Nat.not_lt_zero _)
    | succ n ih7 =>
      intro t pf1 lf1 tf1 h7_0 h7_1 h7_2 h7_3
      refine j_iload_n C 3 dX2_areSo_7 rfl rfl ?_
      refine j_iload_n C 2 dX2_areSo_8 rfl rfl ?_
      refine j_icmp_gt (tgt := 37) C dX2_areSo_9 (by decide) (fun c9 => ?_) (fun c9 => ?_)
      · have c9 := (gt_m (by omega) (by omega)).mp c9
        refine j_iconst (v := nI 1) C dX2_areSo_37 (by decide) ?_
        exact j_zret C E dX2_areSo_38 rfl (pf1, lf1, tf1) trivial (ret_y (by rw [← soT_11 (fun j hj => hR.d10 hj), show lst rd c = t by omega]; exact h7_2)) rfl
      · have c9 : t < lst rd c := Nat.not_le.mp (fun z => c9 ((gt_m (by omega) (by omega)).mpr z))
        refine j_iload_n C 3 dX2_areSo_12 rfl rfl ?_
        refine j_if_leN (tgt := 20) C dX2_areSo_13 (by decide) (by omega) (fun c13 => ?_) (fun c13 => ?_)
        · refine j_aload_n C 0 dX2_areSo_20 rfl rfl ?_
          refine j_iload_n C 3 dX2_areSo_21 rfl rfl ?_
          refine j_aload_n C 1 dX2_areSo_22 rfl rfl ?_
          have hA2 : Ag N k (dks N B k t p) kf pf1 := by rw [show t = t - 1 by omega]; exact h7_3
          refine j_callV0 (As := [.int (nI t), .ref (a 0)]) (rest := []) C (c_X2_areSoBehind a N B kf pf1 lf1 tf1 k (dks N B k t p) hA2 h d e g c df mf gf rd rl ra hR t (by omega)) gX2_areSo_X2_areSoBehind rfl 2 rfl (by decide +kernel) (by decide) 15 rfl rfl (Nat.le_of_ble_eq_true rfl) dX2_areSo_23 rfl (fun _ _ => ?_)
          show J X (wT a cy (nI N) (nI B) kf pf1 lf1 tf1 ++ wR h d e g cy (nI c) df mf gf) 26 [(0, .ref h), (1, .ref (a 0)), (2, .int (nI (lst rd c) - nI 1)), (3, .int (nI t))] [.int (nI (bN (so1 N t c k (dks N B k t p) rd rl ra = true)))]
          refine j_if_neN (tgt := 31) C dX2_areSo_26 (by decide) (bN_lt _) (fun c26 => ?_) (fun c26 => ?_)
          · have c26 := bN_1.mp c26
            refine j_iinc (v := nI (t + 1)) (lv' := [(3, .int (nI (t + 1))), (0, .ref h), (1, .ref (a 0)), (2, .int (nI (lst rd c) - nI 1))]) C 3 dX2_areSo_31 rfl (nI_inc t) (by decide) rfl ?_
            refine j_goto (tgt := 7) C dX2_areSo_34 (by decide) ?_
            refine J.sub [1, 2, 3, 0] rfl ?_
            have e := ih7 (t + 1) pf1 lf1 tf1 (by omega) (by omega) (by show (allB _ t && _) = true; rw [show allB _ t = true from h7_2]; exact c26) hA2
            exact e
          · have c26 := bN_0.mp c26
            refine j_iconst (v := nI 0) C dX2_areSo_29 (by decide) ?_
            exact j_zret C E dX2_areSo_30 rfl (pf1, lf1, tf1) trivial (ret_n (by rw [← soT_11 (fun j hj => hR.d10 hj), show soT N B c k p rd rl ra (lst rd c) = false from allB_f (i := t) (by omega) (Bool.eq_false_iff.mpr c26)]; decide)) rfl
        · refine j_aload_n C 1 dX2_areSo_16 rfl rfl ?_
          refine j_callV (As := []) (rest := []) C (c_X5_passDusk a N B kf pf1 lf1 tf1 k (dks N B k (t - 1) p) h7_3 hB) gX2_areSo_X5_passDusk rfl 0 rfl (by decide +kernel) (by decide) [] (wR h d e g cy (nI c) df mf gf) rfl 0 rfl rfl (Nat.le_of_ble_eq_true rfl) dX2_areSo_17 rfl (fun _ _ => ?_)
          have hA2 : Ag N k (dks N B k t p) kf (pfD N B k (dks N B k (t - 1) p) pf1 N) := by rw [← dks_p c13]; exact h7_3.dk
          show J X (wT a cy (nI N) (nI B) kf (pfD N B k (dks N B k (t - 1) p) pf1 N) (fil (lgF N k (dks N B k (t - 1) p)) lf1 N) (fil (tI N B k (dks N B k (t - 1) p)) tf1 N) ++ wR h d e g cy (nI c) df mf gf) 20 [(0, .ref h), (1, .ref (a 0)), (2, .int (nI (lst rd c) - nI 1)), (3, .int (nI t))] []
          refine j_aload_n C 0 dX2_areSo_20 rfl rfl ?_
          refine j_iload_n C 3 dX2_areSo_21 rfl rfl ?_
          refine j_aload_n C 1 dX2_areSo_22 rfl rfl ?_
          refine j_callV0 (As := [.int (nI t), .ref (a 0)]) (rest := []) C (c_X2_areSoBehind a N B kf (pfD N B k (dks N B k (t - 1) p) pf1 N) (fil (lgF N k (dks N B k (t - 1) p)) lf1 N) (fil (tI N B k (dks N B k (t - 1) p)) tf1 N) k (dks N B k t p) hA2 h d e g c df mf gf rd rl ra hR t (by omega)) gX2_areSo_X2_areSoBehind rfl 2 rfl (by decide +kernel) (by decide) 15 rfl rfl (Nat.le_of_ble_eq_true rfl) dX2_areSo_23 rfl (fun _ _ => ?_)
          show J X (wT a cy (nI N) (nI B) kf (pfD N B k (dks N B k (t - 1) p) pf1 N) (fil (lgF N k (dks N B k (t - 1) p)) lf1 N) (fil (tI N B k (dks N B k (t - 1) p)) tf1 N) ++ wR h d e g cy (nI c) df mf gf) 26 [(0, .ref h), (1, .ref (a 0)), (2, .int (nI (lst rd c) - nI 1)), (3, .int (nI t))] [.int (nI (bN (so1 N t c k (dks N B k t p) rd rl ra = true)))]
          refine j_if_neN (tgt := 31) C dX2_areSo_26 (by decide) (bN_lt _) (fun c26 => ?_) (fun c26 => ?_)
          · have c26 := bN_1.mp c26
            refine j_iinc (v := nI (t + 1)) (lv' := [(3, .int (nI (t + 1))), (0, .ref h), (1, .ref (a 0)), (2, .int (nI (lst rd c) - nI 1))]) C 3 dX2_areSo_31 rfl (nI_inc t) (by decide) rfl ?_
            refine j_goto (tgt := 7) C dX2_areSo_34 (by decide) ?_
            refine J.sub [1, 2, 3, 0] rfl ?_
            have e := ih7 (t + 1) (pfD N B k (dks N B k (t - 1) p) pf1 N) (fil (lgF N k (dks N B k (t - 1) p)) lf1 N) (fil (tI N B k (dks N B k (t - 1) p)) tf1 N) (by omega) (by omega) (by show (allB _ t && _) = true; rw [show allB _ t = true from h7_2]; exact c26) hA2
            exact e
          · have c26 := bN_0.mp c26
            refine j_iconst (v := nI 0) C dX2_areSo_29 (by decide) ?_
            exact j_zret C E dX2_areSo_30 rfl (pfD N B k (dks N B k (t - 1) p) pf1 N, fil (lgF N k (dks N B k (t - 1) p)) lf1 N, fil (tI N B k (dks N B k (t - 1) p)) tf1 N) trivial (ret_n (by rw [← soT_11 (fun j hj => hR.d10 hj), show soT N B c k p rd rl ra (lst rd c) = false from allB_f (i := t) (by omega) (Bool.eq_false_iff.mpr c26)]; decide)) rfl
  have e := L7 (lst rd c + 1) 0 pf lf tf (by omega) (by omega) rfl hT
  exact e
