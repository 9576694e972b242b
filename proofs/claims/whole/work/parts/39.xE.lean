section JXS
variable {X : Cxt} {l : Launch} {D : va_G} {cy : Nat → ClassId} {cc : ByteArray} {nL : Nat} {Ts : List Cond} {own : String} {rm : Room} {pc : Nat} {lv : List (Nat × Value)} {st : List Value}
variable {y : MethodName} {wl wl' : List Cond} {rmc : Room} {As : List Value} {S : Type} {post : S → Prop} {rv : S → Option Value} {bytes : ByteArray} {maxL index : Nat} {ret : Option FieldType} {rest : List Value}
variable {A : Nat → Nat → Nat} {fl : Int32} {dT nT tT : TwS} {ct : Int32} {df mf gf : Nat → Int32} {tv : Int32} {ln la : Nat → Int32} {cf : Nat → Nat → Int32}
theorem jx_SS {q : Nat} (hq : q < 4) (C : Cx X l D cy cc nL Ts own rm) (Mt : Ct l y wl rmc D cy As (wS (A 4 q) (A 5 q) cy (ln q) (la q) (cf q)) post rv (fun _ => wS (A 4 q) (A 5 q) cy (ln q) (la q) (cf q))) (g : GoodIn Ts (va_wsS own index y wl)) (hw : wl = .code y bytes maxL ret :: wl') (na : Nat) (hna : As.length = na) (hc : y.cls ≠ "java/lang/invoke/MethodHandle" ∧ y.cls ≠ "java/lang/invoke/VarHandle" ∧ (parseMethodDescriptor y.desc).map (fun d => d.parameters.length) = some na) (hR : rmc.cells = 0 ∧ rmc.slots = 0 ∧ rmc.frames + 1 ≤ rm.frames ∧ 8 + (maxL + 11) + rmc.locals ≤ rm.locals) (hst : (rest.map fun v => v.category).sum ≤ 8) (hd : decode cc pc = .ok (.invokestatic index, 3)) (hs : st = As.reverse ++ rest) (k : ∀ u, post u → J X (wX A cy fl dT nT tT ct df mf gf tv ln la cf) (pc + 3) lv ((rv u).toList ++ rest)) : J X (wX A cy fl dT nT tT ct df mf gf tv ln la cf) pc lv st := by
  match q, hq, Mt with
  | 0, _, Mt => exact j_callS C Mt g hw na hna hc hR ((xc A fl :: (wTu (A 0) cy dT ++ (wTu (A 1) cy nT ++ (wTu (A 2) cy tT ++ (wR (A 3 1) (A 3 2) (A 3 3) (A 3 4) cy ct df mf gf ++ (wTr (A 3 5) tv ++ [xs A cy]))))))) (wS (A 4 1) (A 5 1) cy (ln 1) (la 1) (cf 1) ++ wS (A 4 2) (A 5 2) cy (ln 2) (la 2) (cf 2) ++ wS (A 4 3) (A 5 3) cy (ln 3) (la 3) (cf 3)) rfl hst hd hs k
  | 1, _, Mt => exact j_callS C Mt g hw na hna hc hR ((xc A fl :: (wTu (A 0) cy dT ++ (wTu (A 1) cy nT ++ (wTu (A 2) cy tT ++ (wR (A 3 1) (A 3 2) (A 3 3) (A 3 4) cy ct df mf gf ++ (wTr (A 3 5) tv ++ [xs A cy])))))) ++ wS (A 4 0) (A 5 0) cy (ln 0) (la 0) (cf 0)) (wS (A 4 2) (A 5 2) cy (ln 2) (la 2) (cf 2) ++ wS (A 4 3) (A 5 3) cy (ln 3) (la 3) (cf 3)) rfl hst hd hs k
  | 2, _, Mt => exact j_callS C Mt g hw na hna hc hR ((xc A fl :: (wTu (A 0) cy dT ++ (wTu (A 1) cy nT ++ (wTu (A 2) cy tT ++ (wR (A 3 1) (A 3 2) (A 3 3) (A 3 4) cy ct df mf gf ++ (wTr (A 3 5) tv ++ [xs A cy])))))) ++ wS (A 4 0) (A 5 0) cy (ln 0) (la 0) (cf 0) ++ wS (A 4 1) (A 5 1) cy (ln 1) (la 1) (cf 1)) (wS (A 4 3) (A 5 3) cy (ln 3) (la 3) (cf 3)) rfl hst hd hs k
  | 3, _, Mt => exact j_callS C Mt g hw na hna hc hR ((xc A fl :: (wTu (A 0) cy dT ++ (wTu (A 1) cy nT ++ (wTu (A 2) cy tT ++ (wR (A 3 1) (A 3 2) (A 3 3) (A 3 4) cy ct df mf gf ++ (wTr (A 3 5) tv ++ [xs A cy])))))) ++ wS (A 4 0) (A 5 0) cy (ln 0) (la 0) (cf 0) ++ wS (A 4 1) (A 5 1) cy (ln 1) (la 1) (cf 1) ++ wS (A 4 2) (A 5 2) cy (ln 2) (la 2) (cf 2)) ([]) rfl hst hd hs k
  | n + 4, h, _ => omega
end JXS
set_option maxHeartbeats 4000000 in
set_option maxRecDepth 20000 in
theorem c_X7_stepsAlong {l : Launch} {D : va_G} {cy : Nat → ClassId} (h c L : Nat) (la : Int32) (cf : Nat → Int32) (q i1 m : Nat) (d : Nat → Nat) (hL : L ≤ 60) (him : i1 + m ≤ L) (hq : q < 6) (hd : ∀ j, j < m → cf (i1 + j) = nI (d j) ∧ d j < 6) : Ct l yX7_stepsAlong wsX7_stepsAlong ({ frames := 2, cells := 0, slots := 0, locals := 42 }) D cy [.int (nI q), .ref h, .int (nI i1), .int (nI m)] (wS h c cy (nI L) la cf) (fun _ : Unit => True) (fun _ => some (.int (nI (wkS d q m)))) (fun _ => wS h c cy (nI L) la cf) := by
  refine Ct.of (cc := cX7_stepsAlong) (nL := 8) (ret := (some .int)) rfl (by decide) ⟨rfl, rfl⟩ (Nat.le_of_ble_eq_true rfl) ?_
  intro X C E
  have C : Cx X l D cy cX7_stepsAlong 8 wsX7_stepsAlong RX7 ({ frames := 2, cells := 0, slots := 0, locals := 42 }) := C
  have mh0 : Cond.methodLink RX7 139 Lib.Math.abs.name ∈ wsX7_stepsAlong := by decide +kernel
  have mh1 : Cond.static Lib.Math.abs.name ∈ wsX7_stepsAlong := by decide +kernel
  have mh2 : Cond.initialized "java/lang/Math" ∈ wsX7_stepsAlong := by decide +kernel
  have mh3 : Cond.code Lib.Math.abs.name Lib.Math.abs.code 1 (some .int) ∈ wsX7_stepsAlong := by decide +kernel
  show J X (wS h c cy (nI L) la cf) 0 [(0, .int (nI q)), (1, .ref h), (2, .int (nI i1)), (3, .int (nI m))] []
  refine j_iconst (v := nI 0) C dX7_stepsAlong_0 (by decide) ?_
  refine j_istore (lv' := [(4, .int (nI 0)), (0, .int (nI q)), (1, .ref h), (2, .int (nI i1)), (3, .int (nI m))]) C dX7_stepsAlong_1 (by decide) rfl ?_
  refine j_iload_n C 1 dX7_stepsAlong_3 rfl rfl ?_
  refine j_istore (lv' := [(5, .int (nI q)), (4, .int (nI 0)), (0, .int (nI q)), (1, .ref h), (2, .int (nI i1)), (3, .int (nI m))]) C dX7_stepsAlong_4 (by decide) rfl ?_
  refine j_iconst (v := nI 0) C dX7_stepsAlong_6 (by decide) ?_
  refine j_istore (lv' := [(6, .int (nI 0)), (5, .int (nI q)), (4, .int (nI 0)), (0, .int (nI q)), (1, .ref h), (2, .int (nI i1)), (3, .int (nI m))]) C dX7_stepsAlong_7 (by decide) rfl ?_
  refine J.sub [3, 4, 5, 6, 2, 1, 0] rfl ?_
  have L9 : ∀ (n : Nat) (j : Nat), m - j < n → j ≤ m → J X (wS h c cy (nI L) la cf) 9 [(0, .int (nI q)), (1, .ref h), (2, .int (nI i1)), (3, .int (nI m)), (4, .int (nI (wkS d q j))), (5, .int (nI (pvD d q j))), (6, .int (nI j))] [] := by
    intro n
    induction n with
    | zero => intro j hm; exact absurd hm (Nat.not_lt_zero _)
    | succ n ih9 =>
      intro j h9_0 h9_1
      have hpv := pvD_lt (d := d) (j := j) hq (fun i hi => (hd i hi).2) h9_1
      refine j_iload C 6 dX7_stepsAlong_9 rfl ?_
      refine j_iload_n C 3 dX7_stepsAlong_11 rfl rfl ?_
      refine j_icmp_geN (tgt := 48) C dX7_stepsAlong_12 (by decide) (by omega) (by omega) (fun c12 => ?_) (fun c12 => ?_)
      · refine j_iload C 4 dX7_stepsAlong_48 rfl ?_
        exact j_iret C E dX7_stepsAlong_50 () trivial (by rw [show j = m by omega]) rfl
      · refine j_aload_n C 1 dX7_stepsAlong_15 rfl rfl ?_
        refine j_iload_n C 2 dX7_stepsAlong_16 rfl rfl ?_
        refine j_iload C 6 dX7_stepsAlong_17 rfl ?_
        refine j_iadd (v := nI (i1 + j)) C dX7_stepsAlong_19 (nI_add _ _) ?_
        refine j_callV0 (As := [.int (nI (i1 + j))]) (rest := []) C (c_X4_valueAt h c L la cf (i1 + j) hL (by omega)) gX7_stepsAlong_X4_valueAt rfl 1 rfl (by decide +kernel) (by decide) 0 rfl rfl (Nat.le_of_ble_eq_true rfl) dX7_stepsAlong_20 rfl (fun _ _ => ?_)
        rw [(hd j (by omega)).1]
        have hdj := (hd j (by omega)).2
        show J X (wS h c cy (nI L) la cf) 23 [(0, .int (nI q)), (1, .ref h), (2, .int (nI i1)), (3, .int (nI m)), (4, .int (nI (wkS d q j))), (5, .int (nI (pvD d q j))), (6, .int (nI j))] [.int (nI (d j))]
        refine j_istore (lv' := [(7, .int (nI (d j))), (0, .int (nI q)), (1, .ref h), (2, .int (nI i1)), (3, .int (nI m)), (4, .int (nI (wkS d q j))), (5, .int (nI (pvD d q j))), (6, .int (nI j))]) C dX7_stepsAlong_23 (by decide) rfl ?_
        refine j_iload C 5 dX7_stepsAlong_25 rfl ?_
        refine j_iload C 0 dX7_stepsAlong_27 rfl ?_
        refine j_iload C 6 dX7_stepsAlong_29 rfl ?_
        refine j_isub (v := nI (d j) - nI (pvD d q j)) C dX7_stepsAlong_31 rfl ?_
        refine j_mabs (v := nI (if d j < pvD d q j then pvD d q j - d j else d j - pvD d q j)) (rest := [.int (nI (wkS d q j))]) C mh0 mh1 mh2 mh3 ⟨by decide, Nat.le_of_ble_eq_true rfl⟩ (ab_n (by omega) (by omega)) dX7_stepsAlong_32 ?_
        refine j_iadd (v := nI ((wkS d q j) + (if d j < pvD d q j then pvD d q j - d j else d j - pvD d q j))) C dX7_stepsAlong_35 (nI_add _ _) ?_
        refine j_istore (lv' := [(4, .int (nI ((wkS d q j) + (if d j < pvD d q j then pvD d q j - d j else d j - pvD d q j)))), (7, .int (nI (d j))), (0, .int (nI q)), (1, .ref h), (2, .int (nI i1)), (3, .int (nI m)), (5, .int (nI (pvD d q j))), (6, .int (nI j))]) C dX7_stepsAlong_36 (by decide) rfl ?_
        refine j_iload C 1 dX7_stepsAlong_38 rfl ?_
        refine j_istore (lv' := [(5, .int (nI (d j))), (4, .int (nI ((wkS d q j) + (if d j < pvD d q j then pvD d q j - d j else d j - pvD d q j)))), (7, .int (nI (d j))), (0, .int (nI q)), (1, .ref h), (2, .int (nI i1)), (3, .int (nI m)), (6, .int (nI j))]) C dX7_stepsAlong_40 (by decide) rfl ?_
        refine j_iinc (v := nI (j + 1)) (lv' := [(6, .int (nI (j + 1))), (5, .int (nI (d j))), (4, .int (nI ((wkS d q j) + (if d j < pvD d q j then pvD d q j - d j else d j - pvD d q j)))), (7, .int (nI (d j))), (0, .int (nI q)), (1, .ref h), (2, .int (nI i1)), (3, .int (nI m))]) C 7 dX7_stepsAlong_42 rfl (nI_inc j) (by decide) rfl ?_
        refine j_goto (tgt := 9) C dX7_stepsAlong_45 (by decide) ?_
        refine J.sub [4, 5, 6, 7, 2, 1, 0] rfl ?_
        have e := ih9 (j + 1) (by omega) (by omega)
        exact e
  have e := L9 (m + 1) 0 (by omega) (by omega)
  exact e
set_option maxHeartbeats 4000000 in
set_option maxRecDepth 20000 in
theorem c_X7_lampsLeft {l : Launch} {D : va_G} {cy : Nat → ClassId} (A : Nat → Nat → Nat) (fl : Int32) (dT tT : TwS) (N B : Nat) (kf : Nat → Int32) (pf : Nat → Nat → Int32) (lf tf : Nat → Int32) (c : Nat) (df mf gf : Nat → Int32) (tv : Int32) (ln la : Nat → Int32) (cf : Nat → Nat → Int32) (k : Nat → Nat) (p : Nat → Nat → Nat) (hT : Ag N k p kf pf) (a1 q1 L i1 m : Nat) (d : Nat → Nat) (ha1 : a1 < N) (hq1 : q1 < 4) (qln : ln q1 = nI L) (q60 : L ≤ 60) (him : i1 + m ≤ L) (hd : ∀ j, j < m → cf q1 (i1 + j) = nI (d j) ∧ d j < 6) : Ct l yX7_lampsLeft wsX7_lampsLeft ({ frames := 5, cells := 0, slots := 0, locals := 111 }) D cy [.ref (A 3 0), .int (nI a1), .ref (A 4 q1), .int (nI i1), .int (nI m)] (wX A cy fl dT (nI N, nI B, kf, pf, lf, tf) tT (nI c) df mf gf tv ln la cf) (fun _ : Unit => True) (fun _ => some (.int (nI (wkL (rnd N k p a1) d m)))) (fun _ => wX A cy fl dT (nI N, nI B, kf, pf, fil (lgF N k p) lf N, tf) tT (nI c) df mf gf tv ln la cf) := by
  refine Ct.of (cc := cX7_lampsLeft) (nL := 7) (ret := (some .int)) rfl (by decide) ⟨rfl, rfl⟩ (Nat.le_of_ble_eq_true rfl) ?_
  intro X C E
  have C : Cx X l D cy cX7_lampsLeft 7 wsX7_lampsLeft RX7 ({ frames := 5, cells := 0, slots := 0, locals := 111 }) := C
  have mh0 : ∀ w ∈ u_ws RX7 TX7 7, w ∈ wsX7_lampsLeft := by decide +kernel
  have mh1 : Cond.fieldLink RX7 12 RX7 (TX7 0).2.1 (TX7 0).2.2.1 ∈ wsX7_lampsLeft := by decide +kernel
  have hN := hT.n
  have hs64 := rnd_lt (k := k) (p := p) hN a1
  show J X (wX A cy fl dT (nI N, nI B, kf, pf, lf, tf) tT (nI c) df mf gf tv ln la cf) 0 [(0, .ref (A 3 0)), (1, .int (nI a1)), (2, .ref (A 4 q1)), (3, .int (nI i1)), (4, .int (nI m))] []
  refine j_aload_n C 0 dX7_lampsLeft_0 rfl rfl ?_
  refine j_get C mh0 0 mh1 0 rfl rfl (by decide) rfl rfl dX7_lampsLeft_1 ?_
  refine j_iload_n C 1 dX7_lampsLeft_4 rfl rfl ?_
  refine jx_N (nT' := fun _ => (nI N, nI B, kf, pf, fil (lgF N k p) lf N, tf)) (As := [.int (nI a1)]) (rest := []) C (c_X5_roundOf (A 1) N B kf pf lf tf k p hT a1 (by omega)) gX7_lampsLeft_X5_roundOf rfl 1 rfl (by decide +kernel) (by decide) (Nat.le_of_ble_eq_true rfl) dX7_lampsLeft_5 rfl (fun _ _ => ?_)
  show J X (wX A cy fl dT (nI N, nI B, kf, pf, fil (lgF N k p) lf N, tf) tT (nI c) df mf gf tv ln la cf) 8 [(0, .ref (A 3 0)), (1, .int (nI a1)), (2, .ref (A 4 q1)), (3, .int (nI i1)), (4, .int (nI m))] [.int (nI (rnd N k p a1))]
  refine j_istore (lv' := [(5, .int (nI (rnd N k p a1))), (0, .ref (A 3 0)), (1, .int (nI a1)), (2, .ref (A 4 q1)), (3, .int (nI i1)), (4, .int (nI m))]) C dX7_lampsLeft_8 (by decide) rfl ?_
  refine j_iconst (v := nI 0) C dX7_lampsLeft_10 (by decide) ?_
  refine j_istore (lv' := [(6, .int (nI 0)), (5, .int (nI (rnd N k p a1))), (0, .ref (A 3 0)), (1, .int (nI a1)), (2, .ref (A 4 q1)), (3, .int (nI i1)), (4, .int (nI m))]) C dX7_lampsLeft_11 (by decide) rfl ?_
  refine J.sub [2, 3, 4, 5, 6, 1, 0] rfl ?_
  have L13 : ∀ (n : Nat) (j : Nat), m - j < n → j ≤ m → J X (wX A cy fl dT (nI N, nI B, kf, pf, fil (lgF N k p) lf N, tf) tT (nI c) df mf gf tv ln la cf) 13 [(0, .ref (A 3 0)), (1, .int (nI a1)), (2, .ref (A 4 q1)), (3, .int (nI i1)), (4, .int (nI m)), (5, .int (nI (wkL (rnd N k p a1) d j))), (6, .int (nI j))] [] := by
    intro n
    induction n with
    | zero => intro j hm; exact absurd hm (Nat.not_lt_zero _)
    | succ n ih13 =>
      intro j h13_0 h13_1
      refine j_iload C 6 dX7_lampsLeft_13 rfl ?_
      refine j_iload C 4 dX7_lampsLeft_15 rfl ?_
      refine j_icmp_geN (tgt := 43) C dX7_lampsLeft_17 (by decide) (by omega) (by omega) (fun c17 => ?_) (fun c17 => ?_)
      · refine j_iload C 5 dX7_lampsLeft_43 rfl ?_
        exact j_iret C E dX7_lampsLeft_45 () trivial (by rw [show j = m by omega]) rfl
      · refine j_iload C 5 dX7_lampsLeft_20 rfl ?_
        refine j_iconst (v := nI 1) C dX7_lampsLeft_22 (by decide) ?_
        refine j_aload_n C 2 dX7_lampsLeft_23 rfl rfl ?_
        refine j_iload_n C 3 dX7_lampsLeft_24 rfl rfl ?_
        refine j_iload C 6 dX7_lampsLeft_25 rfl ?_
        refine j_iadd (v := nI (i1 + j)) C dX7_lampsLeft_27 (nI_add _ _) ?_
        refine jx_S0 (S := Unit) (post := fun _ => True) (rv := fun _ => some (.int (cf q1 (i1 + j)))) (rmc := { frames := 1, cells := 0, slots := 0, locals := 21 }) (As := [.int (nI (i1 + j))]) (rest := [.int (nI 1), .int (nI (wkL (rnd N k p a1) d j))]) hq1 C (by rw [qln]; exact c_X4_valueAt (A 4 q1) (A 5 q1) L (la q1) (cf q1) (i1 + j) q60 (by omega)) gX7_lampsLeft_X4_valueAt rfl 1 rfl (by decide +kernel) (by decide) (Nat.le_of_ble_eq_true rfl) dX7_lampsLeft_28 rfl (fun _ _ => ?_)
        rw [(hd j (by omega)).1]
        have hdj := (hd j (by omega)).2
        show J X (wX A cy fl dT (nI N, nI B, kf, pf, fil (lgF N k p) lf N, tf) tT (nI c) df mf gf tv ln la cf) 31 [(0, .ref (A 3 0)), (1, .int (nI a1)), (2, .ref (A 4 q1)), (3, .int (nI i1)), (4, .int (nI m)), (5, .int (nI (wkL (rnd N k p a1) d j))), (6, .int (nI j))] [.int (nI (d j)), .int (nI 1), .int (nI (wkL (rnd N k p a1) d j))]
        refine j_ishl (v := nI (2 ^ (d j))) C dX7_lampsLeft_31 (sh_l (by omega)) ?_
        refine j_iconst (v := (-1)) C dX7_lampsLeft_32 (by decide) ?_
        refine j_ixor (v := nI (2 ^ d j) ^^^ (-1)) C dX7_lampsLeft_33 rfl ?_
        refine j_iand (v := nI (wkL (rnd N k p a1) d (j + 1))) C dX7_lampsLeft_34 (clr_i _ (wkL_lt hs64 j) _ hdj) ?_
        refine j_istore (lv' := [(5, .int (nI (wkL (rnd N k p a1) d (j + 1)))), (0, .ref (A 3 0)), (1, .int (nI a1)), (2, .ref (A 4 q1)), (3, .int (nI i1)), (4, .int (nI m)), (6, .int (nI j))]) C dX7_lampsLeft_35 (by decide) rfl ?_
        refine j_iinc (v := nI (j + 1)) (lv' := [(6, .int (nI (j + 1))), (5, .int (nI (wkL (rnd N k p a1) d (j + 1)))), (0, .ref (A 3 0)), (1, .int (nI a1)), (2, .ref (A 4 q1)), (3, .int (nI i1)), (4, .int (nI m))]) C 6 dX7_lampsLeft_37 rfl (nI_inc j) (by decide) rfl ?_
        refine j_goto (tgt := 13) C dX7_lampsLeft_40 (by decide) ?_
        refine J.sub [2, 3, 4, 5, 6, 1, 0] rfl ?_
        have e := ih13 (j + 1) (by omega) (by omega)
        exact e
  have e := L13 (m + 1) 0 (by omega) (by omega)
  exact e
set_option maxHeartbeats 4000000 in
set_option maxRecDepth 20000 in
theorem c_X7_doorsTillRoundIsDone {l : Launch} {D : va_G} {cy : Nat → ClassId} (A : Nat → Nat → Nat) (fl : Int32) (dT tT : TwS) (N B : Nat) (kf : Nat → Int32) (pf : Nat → Nat → Int32) (lf tf : Nat → Int32) (c : Nat) (df mf gf : Nat → Int32) (tv : Int32) (ln la : Nat → Int32) (cf : Nat → Nat → Int32) (k : Nat → Nat) (p : Nat → Nat → Nat) (hT : Ag N k p kf pf) (a1 q1 L i1 m : Nat) (d : Nat → Nat) (ha1 : a1 < N) (hq1 : q1 < 4) (qln : ln q1 = nI L) (q60 : L ≤ 60) (him : i1 + m ≤ L) (hd : ∀ j, j < m → cf q1 (i1 + j) = nI (d j) ∧ d j < 6) : Ct l yX7_doorsTillRoundIsDone wsX7_doorsTillRoundIsDone ({ frames := 5, cells := 0, slots := 0, locals := 111 }) D cy [.ref (A 3 0), .int (nI a1), .ref (A 4 q1), .int (nI i1), .int (nI m)] (wX A cy fl dT (nI N, nI B, kf, pf, lf, tf) tT (nI c) df mf gf tv ln la cf) (fun _ : Unit => True) (fun _ => some (.int (if wkL (rnd N k p a1) d m = 0 then nI (ffs (fun t => decide (wkL (rnd N k p a1) d t ≠ 0)) m) else -9))) (fun _ => wX A cy fl dT (nI N, nI B, kf, pf, fil (lgF N k p) lf N, tf) tT (nI c) df mf gf tv ln la cf) := by
  refine Ct.of (cc := cX7_doorsTillRoundIsDone) (nL := 7) (ret := (some .int)) rfl (by decide) ⟨rfl, rfl⟩ (Nat.le_of_ble_eq_true rfl) ?_
  intro X C E
  have C : Cx X l D cy cX7_doorsTillRoundIsDone 7 wsX7_doorsTillRoundIsDone RX7 ({ frames := 5, cells := 0, slots := 0, locals := 111 }) := C
  have mh0 : ∀ w ∈ u_ws RX7 TX7 7, w ∈ wsX7_doorsTillRoundIsDone := by decide +kernel
  have mh1 : Cond.fieldLink RX7 12 RX7 (TX7 0).2.1 (TX7 0).2.2.1 ∈ wsX7_doorsTillRoundIsDone := by decide +kernel
  have hN := hT.n
  have hs64 := rnd_lt (k := k) (p := p) hN a1
  show J X (wX A cy fl dT (nI N, nI B, kf, pf, lf, tf) tT (nI c) df mf gf tv ln la cf) 0 [(0, .ref (A 3 0)), (1, .int (nI a1)), (2, .ref (A 4 q1)), (3, .int (nI i1)), (4, .int (nI m))] []
  refine j_aload_n C 0 dX7_doorsTillRoundIsDone_0 rfl rfl ?_
  refine j_get C mh0 0 mh1 0 rfl rfl (by decide) rfl rfl dX7_doorsTillRoundIsDone_1 ?_
  refine j_iload_n C 1 dX7_doorsTillRoundIsDone_4 rfl rfl ?_
  refine jx_N (nT' := fun _ => (nI N, nI B, kf, pf, fil (lgF N k p) lf N, tf)) (As := [.int (nI a1)]) (rest := []) C (c_X5_roundOf (A 1) N B kf pf lf tf k p hT a1 (by omega)) gX7_doorsTillRoundIsDone_X5_roundOf rfl 1 rfl (by decide +kernel) (by decide) (Nat.le_of_ble_eq_true rfl) dX7_doorsTillRoundIsDone_5 rfl (fun _ _ => ?_)
  show J X (wX A cy fl dT (nI N, nI B, kf, pf, fil (lgF N k p) lf N, tf) tT (nI c) df mf gf tv ln la cf) 8 [(0, .ref (A 3 0)), (1, .int (nI a1)), (2, .ref (A 4 q1)), (3, .int (nI i1)), (4, .int (nI m))] [.int (nI (rnd N k p a1))]
  refine j_istore (lv' := [(5, .int (nI (rnd N k p a1))), (0, .ref (A 3 0)), (1, .int (nI a1)), (2, .ref (A 4 q1)), (3, .int (nI i1)), (4, .int (nI m))]) C dX7_doorsTillRoundIsDone_8 (by decide) rfl ?_
  refine j_iconst (v := nI 0) C dX7_doorsTillRoundIsDone_10 (by decide) ?_
  refine j_istore (lv' := [(6, .int (nI 0)), (5, .int (nI (rnd N k p a1))), (0, .ref (A 3 0)), (1, .int (nI a1)), (2, .ref (A 4 q1)), (3, .int (nI i1)), (4, .int (nI m))]) C dX7_doorsTillRoundIsDone_11 (by decide) rfl ?_
  refine J.sub [2, 3, 4, 5, 6, 1, 0] rfl ?_
  have L13 : ∀ (n : Nat) (j : Nat), m - j < n → j ≤ m → (∀ t, t < j → (fun t => decide (wkL (rnd N k p a1) d t ≠ 0)) t = true) → J X (wX A cy fl dT (nI N, nI B, kf, pf, fil (lgF N k p) lf N, tf) tT (nI c) df mf gf tv ln la cf) 13 [(0, .ref (A 3 0)), (1, .int (nI a1)), (2, .ref (A 4 q1)), (3, .int (nI i1)), (4, .int (nI m)), (5, .int (nI (wkL (rnd N k p a1) d j))), (6, .int (nI j))] [] := by
    intro n
    induction n with
    | zero => intro j hm; exact absurd hm (Nat.not_lt_zero _)
    | succ n ih13 =>
      intro j h13_0 h13_1 h13_2
      have hwl := wkL_lt (d := d) hs64 j
      refine j_iload C 6 dX7_doorsTillRoundIsDone_13 rfl ?_
      refine j_iload C 4 dX7_doorsTillRoundIsDone_15 rfl ?_
      refine j_icmp_geN (tgt := 51) C dX7_doorsTillRoundIsDone_17 (by decide) (by omega) (by omega) (fun c17 => ?_) (fun c17 => ?_)
      · refine j_iload C 5 dX7_doorsTillRoundIsDone_51 rfl ?_
        refine j_if_neN (tgt := 61) C dX7_doorsTillRoundIsDone_53 (by decide) (by omega) (fun c53 => ?_) (fun c53 => ?_)
        · refine j_bipush (v := (-9)) C dX7_doorsTillRoundIsDone_61 (by decide) ?_
          exact j_iret C E dX7_doorsTillRoundIsDone_63 () trivial (by have ej : j = m := (by omega); subst ej; first | (show some (Value.int (if _ then _ else _)) = _; rw [if_pos c53, ffs_all h13_2]; done) | (show some (Value.int (if _ then _ else _)) = _; rw [if_neg c53]; done)) rfl
        · refine j_iload C 4 dX7_doorsTillRoundIsDone_56 rfl ?_
          refine j_goto (tgt := 63) C dX7_doorsTillRoundIsDone_58 (by decide) ?_
          exact j_iret C E dX7_doorsTillRoundIsDone_63 () trivial (by have ej : j = m := (by omega); subst ej; first | (show some (Value.int (if _ then _ else _)) = _; rw [if_pos c53, ffs_all h13_2]; done) | (show some (Value.int (if _ then _ else _)) = _; rw [if_neg c53]; done)) rfl
      · refine j_iload C 5 dX7_doorsTillRoundIsDone_20 rfl ?_
        refine j_if_neN (tgt := 28) C dX7_doorsTillRoundIsDone_22 (by decide) (by omega) (fun c22 => ?_) (fun c22 => ?_)
        · refine j_iload C 5 dX7_doorsTillRoundIsDone_28 rfl ?_
          refine j_iconst (v := nI 1) C dX7_doorsTillRoundIsDone_30 (by decide) ?_
          refine j_aload_n C 2 dX7_doorsTillRoundIsDone_31 rfl rfl ?_
          refine j_iload_n C 3 dX7_doorsTillRoundIsDone_32 rfl rfl ?_
          refine j_iload C 6 dX7_doorsTillRoundIsDone_33 rfl ?_
          refine j_iadd (v := nI (i1 + j)) C dX7_doorsTillRoundIsDone_35 (nI_add _ _) ?_
          refine jx_S0 (S := Unit) (post := fun _ => True) (rv := fun _ => some (.int (cf q1 (i1 + j)))) (rmc := { frames := 1, cells := 0, slots := 0, locals := 21 }) (As := [.int (nI (i1 + j))]) (rest := [.int (nI 1), .int (nI (wkL (rnd N k p a1) d j))]) hq1 C (by rw [qln]; exact c_X4_valueAt (A 4 q1) (A 5 q1) L (la q1) (cf q1) (i1 + j) q60 (by omega)) gX7_doorsTillRoundIsDone_X4_valueAt rfl 1 rfl (by decide +kernel) (by decide) (Nat.le_of_ble_eq_true rfl) dX7_doorsTillRoundIsDone_36 rfl (fun _ _ => ?_)
          rw [(hd j (by omega)).1]
          have hdj := (hd j (by omega)).2
          show J X (wX A cy fl dT (nI N, nI B, kf, pf, fil (lgF N k p) lf N, tf) tT (nI c) df mf gf tv ln la cf) 39 [(0, .ref (A 3 0)), (1, .int (nI a1)), (2, .ref (A 4 q1)), (3, .int (nI i1)), (4, .int (nI m)), (5, .int (nI (wkL (rnd N k p a1) d j))), (6, .int (nI j))] [.int (nI (d j)), .int (nI 1), .int (nI (wkL (rnd N k p a1) d j))]
          refine j_ishl (v := nI (2 ^ (d j))) C dX7_doorsTillRoundIsDone_39 (sh_l (by omega)) ?_
          refine j_iconst (v := (-1)) C dX7_doorsTillRoundIsDone_40 (by decide) ?_
          refine j_ixor (v := nI (2 ^ d j) ^^^ (-1)) C dX7_doorsTillRoundIsDone_41 rfl ?_
          refine j_iand (v := nI (wkL (rnd N k p a1) d (j + 1))) C dX7_doorsTillRoundIsDone_42 (clr_i _ (wkL_lt hs64 j) _ hdj) ?_
          refine j_istore (lv' := [(5, .int (nI (wkL (rnd N k p a1) d (j + 1)))), (0, .ref (A 3 0)), (1, .int (nI a1)), (2, .ref (A 4 q1)), (3, .int (nI i1)), (4, .int (nI m)), (6, .int (nI j))]) C dX7_doorsTillRoundIsDone_43 (by decide) rfl ?_
          refine j_iinc (v := nI (j + 1)) (lv' := [(6, .int (nI (j + 1))), (5, .int (nI (wkL (rnd N k p a1) d (j + 1)))), (0, .ref (A 3 0)), (1, .int (nI a1)), (2, .ref (A 4 q1)), (3, .int (nI i1)), (4, .int (nI m))]) C 6 dX7_doorsTillRoundIsDone_45 rfl (nI_inc j) (by decide) rfl ?_
          refine j_goto (tgt := 13) C dX7_doorsTillRoundIsDone_48 (by decide) ?_
          refine J.sub [2, 3, 4, 5, 6, 1, 0] rfl ?_
          have e := ih13 (j + 1) (by omega) (by omega) (fun t ht => by rcases Nat.lt_or_ge t j with z | z; exact h13_2 t z; rw [show t = j by omega]; exact decide_eq_true c22)
          exact e
        · refine j_iload C 6 dX7_doorsTillRoundIsDone_25 rfl ?_
          exact j_iret C E dX7_doorsTillRoundIsDone_27 () trivial (by have e := ffs_stop (n := m) h13_2 (decide_eq_false (fun z => z c22)) (by omega); show some (Value.int (if _ then _ else _)) = _; rw [if_pos (wkL_0 c22 (by omega)), e]) rfl
  have e := L13 (m + 1) 0 (by omega) (by omega) (fun t ht => by omega)
  exact e
set_option maxHeartbeats 4000000 in
set_option maxRecDepth 20000 in
theorem c_X7_walk {l : Launch} {D : va_G} {cy : Nat → ClassId} (A : Nat → Nat → Nat) (fl : Int32) (dT tT : TwS) (N B : Nat) (kf : Nat → Int32) (pf : Nat → Nat → Int32) (lf tf : Nat → Int32) (c : Nat) (df mf gf : Nat → Int32) (tv : Int32) (ln la : Nat → Int32) (cf : Nat → Nat → Int32) (k : Nat → Nat) (p : Nat → Nat → Nat) (rd rl : Nat → Nat) (ra : Nat → Option Nat) (hs : Nat → Bool) (sl sa : Nat → Nat) (sc : Nat → Nat → Int32) (hX : XI ((N, B, k, p), (c, rd, rl, ra), (hs, sl, sa, sc), tv, fl) (fl, dT, (nI N, nI B, kf, pf, lf, tf), tT, nI c, df, mf, gf, tv, ln, la, cf)) (x s lx i m w : Int32)  : Ct l yX7_walk wsX7_walk ({ frames := 6, cells := 0, slots := 0, locals := 137 }) D cy [.ref (A 3 0), .int x, .int s, .int lx, .int i, .int m, .int w] (wX A cy fl dT (nI N, nI B, kf, pf, lf, tf) tT (nI c) df mf gf tv ln la cf) (fun u : XS => XI (m_walk ((N, B, k, p), (c, rd, rl, ra), (hs, sl, sa, sc), tv, fl) x s lx i m w).2 u) (fun _ => some (.int (m_walk ((N, B, k, p), (c, rd, rl, ra), (hs, sl, sa, sc), tv, fl) x s lx i m w).1)) (fun u => wXu A cy u) := by
  refine Ct.of (cc := cX7_walk) (nL := 9) (ret := (some .int)) rfl (by decide) ⟨rfl, rfl⟩ (Nat.le_of_ble_eq_true rfl) ?_
  intro X C E
  have C : Cx X l D cy cX7_walk 9 wsX7_walk RX7 ({ frames := 6, cells := 0, slots := 0, locals := 137 }) := C
  have mh0 : ∀ w ∈ u_ws RX7 TX7 7, w ∈ wsX7_walk := by decide +kernel
  have mh1 : Cond.fieldLink RX7 45 RX7 (TX7 6).2.1 (TX7 6).2.2.1 ∈ wsX7_walk := by decide +kernel
  have mh2 : Cond.fieldLink RX7 41 RX7 (TX7 5).2.1 (TX7 5).2.2.1 ∈ wsX7_walk := by decide +kernel
  obtain ⟨-, ⟨hB, hN2⟩, hT, hR, hS⟩ := hX
  have hN := hT.n
  have hc8 := hR.1
  have hN30 : N ≤ 2 ^ 30 := by omega
  show J X (wX A cy fl dT (nI N, nI B, kf, pf, lf, tf) tT (nI c) df mf gf tv ln la cf) 0 [(0, .ref (A 3 0)), (1, .int x), (2, .int s), (3, .int lx), (4, .int i), (5, .int m), (6, .int w)] []
  refine j_aload_n C 0 dX7_walk_0 rfl rfl ?_
  refine j_iconst (v := nI 0) C dX7_walk_1 (by decide) ?_
  refine j_put (ws' := wX A cy (nI 0) dT (nI N, nI B, kf, pf, lf, tf) tT (nI c) df mf gf tv ln la cf) C mh0 6 mh1 tyX7 tyX7_ok nmX7 0 rfl rfl (by decide) rfl rfl (by decide +kernel) (Nat.le_of_ble_eq_true rfl) rfl dX7_walk_2 ?_
  refine j_aload_n C 0 dX7_walk_5 rfl rfl ?_
  refine j_iload_n C 1 dX7_walk_6 rfl rfl ?_
  refine j_callV0 (As := [.int x]) (rest := []) C (c_X7_isPerson A (nI 0) dT tT N B kf pf lf tf c df mf gf tv ln la cf (x) hN) gX7_walk_X7_isPerson rfl 1 rfl (by decide +kernel) (by decide) 0 rfl rfl (Nat.le_of_ble_eq_true rfl) dX7_walk_7 rfl (fun _ _ => ?_)
  show J X (wX A cy (nI 0) dT (nI N, nI B, kf, pf, lf, tf) tT (nI c) df mf gf tv ln la cf) 10 [(0, .ref (A 3 0)), (1, .int x), (2, .int s), (3, .int lx), (4, .int i), (5, .int m), (6, .int w)] [.int (nI (bN ((pOf N (x)).isSome = true)))]
  refine j_if_eqN (tgt := 20) C dX7_walk_10 (by decide) (bN_lt _) (fun c10 => ?_) (fun c10 => ?_)
  · have c10 := bN_0.mp c10
    have qa1 := pOf_n c10
    refine j_iconst (v := (-1)) C dX7_walk_20 (by decide) ?_
    exact j_iret C E dX7_walk_21 (nI 0, dT, (nI N, nI B, kf, pf, lf, tf), tT, nI c, df, mf, gf, tv, ln, la, cf) (by rw [show m_walk ((N, B, k, p), (c, rd, rl, ra), (hs, sl, sa, sc), tv, fl) x s lx i m w = ((-1), ((N, B, k, p), (c, rd, rl, ra), (hs, sl, sa, sc), tv, nI 0)) from (by simp only [m_walk, qa1, reduceCtorEq, if_true, if_false, Bool.false_eq_true, ne_eq, not_true_eq_false, not_false_eq_true, and_true, true_and, and_false, false_and, or_true, true_or, or_false, false_or]; try rfl)]; exact XI.mk hB hN2 hT hR hS) (by rw [show m_walk ((N, B, k, p), (c, rd, rl, ra), (hs, sl, sa, sc), tv, fl) x s lx i m w = ((-1), ((N, B, k, p), (c, rd, rl, ra), (hs, sl, sa, sc), tv, nI 0)) from (by simp only [m_walk, qa1, reduceCtorEq, if_true, if_false, Bool.false_eq_true, ne_eq, not_true_eq_false, not_false_eq_true, and_true, true_and, and_false, false_and, or_true, true_or, or_false, false_or]; try rfl)]) rfl
  · have c10 := bN_1.mp c10
    obtain ⟨a1, ha1, rfl⟩ := pY hN30 c10
    have qa1 := pI ha1 hN30
    show J X (wX A cy (nI 0) dT (nI N, nI B, kf, pf, lf, tf) tT (nI c) df mf gf tv ln la cf) 13 [(0, .ref (A 3 0)), (1, .int (nI a1)), (2, .int s), (3, .int lx), (4, .int i), (5, .int m), (6, .int w)] []
    refine j_iload_n C 2 dX7_walk_13 rfl rfl ?_
    refine j_callP (As := [.int s]) (rest := []) C (c_X7_isSheet (s)) gX7_walk_X7_isSheet rfl 1 rfl (by decide +kernel) (by decide) (Nat.le_of_ble_eq_true rfl) dX7_walk_14 rfl (fun _ _ => ?_)
    show J X (wX A cy (nI 0) dT (nI N, nI B, kf, pf, lf, tf) tT (nI c) df mf gf tv ln la cf) 17 [(0, .ref (A 3 0)), (1, .int (nI a1)), (2, .int s), (3, .int lx), (4, .int i), (5, .int m), (6, .int w)] [.int (nI (bN ((pOf 4 (s)).isSome = true)))]
    refine j_if_neN (tgt := 22) C dX7_walk_17 (by decide) (bN_lt _) (fun c17 => ?_) (fun c17 => ?_)
    · have c17 := bN_1.mp c17
      obtain ⟨q1, hq1, rfl⟩ := pY (by decide) c17
      have qq1 := pI hq1 (by decide)
      show J X (wX A cy (nI 0) dT (nI N, nI B, kf, pf, lf, tf) tT (nI c) df mf gf tv ln la cf) 22 [(0, .ref (A 3 0)), (1, .int (nI a1)), (2, .int (nI q1)), (3, .int lx), (4, .int i), (5, .int m), (6, .int w)] []
      refine j_iload_n C 3 dX7_walk_22 rfl rfl ?_
      refine j_iconst (v := nI 2) C dX7_walk_23 (by decide) ?_
      refine j_callP (As := [.int lx, .int (nI 2)]) (rest := []) C (c_X7_isWithin (lx) 2 (by omega)) gX7_walk_X7_isWithin rfl 2 rfl (by decide +kernel) (by decide) (Nat.le_of_ble_eq_true rfl) dX7_walk_24 rfl (fun _ _ => ?_)
      show J X (wX A cy (nI 0) dT (nI N, nI B, kf, pf, lf, tf) tT (nI c) df mf gf tv ln la cf) 27 [(0, .ref (A 3 0)), (1, .int (nI a1)), (2, .int (nI q1)), (3, .int lx), (4, .int i), (5, .int m), (6, .int w)] [.int (nI (bN ((pOf 3 (lx)).isSome = true)))]
      refine j_if_eqN (tgt := 49) C dX7_walk_27 (by decide) (bN_lt _) (fun c27 => ?_) (fun c27 => ?_)
      · have c27 := bN_0.mp c27
        have qv1 := pOf_n c27
        refine j_bipush (v := (-2)) C dX7_walk_49 (by decide) ?_
        exact j_iret C E dX7_walk_51 (nI 0, dT, (nI N, nI B, kf, pf, lf, tf), tT, nI c, df, mf, gf, tv, ln, la, cf) (by rw [show m_walk ((N, B, k, p), (c, rd, rl, ra), (hs, sl, sa, sc), tv, fl) (nI a1) (nI q1) lx i m w = ((-2), ((N, B, k, p), (c, rd, rl, ra), (hs, sl, sa, sc), tv, nI 0)) from (by simp only [m_walk, qa1, qq1, qv1, reduceCtorEq, if_true, if_false, Bool.false_eq_true, ne_eq, not_true_eq_false, not_false_eq_true, and_true, true_and, and_false, false_and, or_true, true_or, or_false, false_or]; try rfl)]; exact XI.mk hB hN2 hT hR hS) (by rw [show m_walk ((N, B, k, p), (c, rd, rl, ra), (hs, sl, sa, sc), tv, fl) (nI a1) (nI q1) lx i m w = ((-2), ((N, B, k, p), (c, rd, rl, ra), (hs, sl, sa, sc), tv, nI 0)) from (by simp only [m_walk, qa1, qq1, qv1, reduceCtorEq, if_true, if_false, Bool.false_eq_true, ne_eq, not_true_eq_false, not_false_eq_true, and_true, true_and, and_false, false_and, or_true, true_or, or_false, false_or]; try rfl)]) rfl
      · have c27 := bN_1.mp c27
        obtain ⟨v1, hv1, rfl⟩ := pY (by decide) c27
        have qv1 := pI hv1 (by decide)
        show J X (wX A cy (nI 0) dT (nI N, nI B, kf, pf, lf, tf) tT (nI c) df mf gf tv ln la cf) 30 [(0, .ref (A 3 0)), (1, .int (nI a1)), (2, .int (nI q1)), (3, .int (nI v1)), (4, .int i), (5, .int m), (6, .int w)] []
        refine j_iload C 5 dX7_walk_30 rfl ?_
        refine j_bipush (v := nI 20) C dX7_walk_32 (by decide) ?_
        refine j_callP (As := [.int m, .int (nI 20)]) (rest := []) C (c_X7_isWithin (m) 20 (by omega)) gX7_walk_X7_isWithin rfl 2 rfl (by decide +kernel) (by decide) (Nat.le_of_ble_eq_true rfl) dX7_walk_34 rfl (fun _ _ => ?_)
        show J X (wX A cy (nI 0) dT (nI N, nI B, kf, pf, lf, tf) tT (nI c) df mf gf tv ln la cf) 37 [(0, .ref (A 3 0)), (1, .int (nI a1)), (2, .int (nI q1)), (3, .int (nI v1)), (4, .int i), (5, .int m), (6, .int w)] [.int (nI (bN ((pOf 21 (m)).isSome = true)))]
        refine j_if_eqN (tgt := 49) C dX7_walk_37 (by decide) (bN_lt _) (fun c37 => ?_) (fun c37 => ?_)
        · have c37 := bN_0.mp c37
          have qm1 := pOf_n c37
          refine j_bipush (v := (-2)) C dX7_walk_49 (by decide) ?_
          exact j_iret C E dX7_walk_51 (nI 0, dT, (nI N, nI B, kf, pf, lf, tf), tT, nI c, df, mf, gf, tv, ln, la, cf) (by rw [show m_walk ((N, B, k, p), (c, rd, rl, ra), (hs, sl, sa, sc), tv, fl) (nI a1) (nI q1) (nI v1) i m w = ((-2), ((N, B, k, p), (c, rd, rl, ra), (hs, sl, sa, sc), tv, nI 0)) from (by simp only [m_walk, qa1, qq1, qv1, qm1, reduceCtorEq, if_true, if_false, Bool.false_eq_true, ne_eq, not_true_eq_false, not_false_eq_true, and_true, true_and, and_false, false_and, or_true, true_or, or_false, false_or]; try rfl)]; exact XI.mk hB hN2 hT hR hS) (by rw [show m_walk ((N, B, k, p), (c, rd, rl, ra), (hs, sl, sa, sc), tv, fl) (nI a1) (nI q1) (nI v1) i m w = ((-2), ((N, B, k, p), (c, rd, rl, ra), (hs, sl, sa, sc), tv, nI 0)) from (by simp only [m_walk, qa1, qq1, qv1, qm1, reduceCtorEq, if_true, if_false, Bool.false_eq_true, ne_eq, not_true_eq_false, not_false_eq_true, and_true, true_and, and_false, false_and, or_true, true_or, or_false, false_or]; try rfl)]) rfl
        · have c37 := bN_1.mp c37
          obtain ⟨m1, hm1, rfl⟩ := pY (by decide) c37
          have qm1 := pI hm1 (by decide)
          show J X (wX A cy (nI 0) dT (nI N, nI B, kf, pf, lf, tf) tT (nI c) df mf gf tv ln la cf) 40 [(0, .ref (A 3 0)), (1, .int (nI a1)), (2, .int (nI q1)), (3, .int (nI v1)), (4, .int i), (5, .int (nI m1)), (6, .int w)] []
          refine j_iload C 6 dX7_walk_40 rfl ?_
          refine j_iconst (v := nI 2) C dX7_walk_42 (by decide) ?_
          refine j_callP (As := [.int w, .int (nI 2)]) (rest := []) C (c_X7_isWithin (w) 2 (by omega)) gX7_walk_X7_isWithin rfl 2 rfl (by decide +kernel) (by decide) (Nat.le_of_ble_eq_true rfl) dX7_walk_43 rfl (fun _ _ => ?_)
          show J X (wX A cy (nI 0) dT (nI N, nI B, kf, pf, lf, tf) tT (nI c) df mf gf tv ln la cf) 46 [(0, .ref (A 3 0)), (1, .int (nI a1)), (2, .int (nI q1)), (3, .int (nI v1)), (4, .int i), (5, .int (nI m1)), (6, .int w)] [.int (nI (bN ((pOf 3 (w)).isSome = true)))]
          refine j_if_neN (tgt := 52) C dX7_walk_46 (by decide) (bN_lt _) (fun c46 => ?_) (fun c46 => ?_)
          · have c46 := bN_1.mp c46
            obtain ⟨w1, hw1, rfl⟩ := pY (by decide) c46
            have qw1 := pI hw1 (by decide)
            show J X (wX A cy (nI 0) dT (nI N, nI B, kf, pf, lf, tf) tT (nI c) df mf gf tv ln la cf) 52 [(0, .ref (A 3 0)), (1, .int (nI a1)), (2, .int (nI q1)), (3, .int (nI v1)), (4, .int i), (5, .int (nI m1)), (6, .int (nI w1))] []
            refine j_aload_n C 0 dX7_walk_52 rfl rfl ?_
            refine j_get C mh0 5 mh2 0 rfl rfl (by decide) rfl rfl dX7_walk_53 ?_
            refine j_iload_n C 2 dX7_walk_56 rfl rfl ?_
            refine j_aald (t0 := 3) (Cn := "DebtLamps$Sheet") (b := A 4 q1) C 51 rfl rfl (by omega) (by decide) (wX_so (by omega)) dX7_walk_57 ?_
            refine j_astore (lv' := [(7, .ref (A 4 q1)), (0, .ref (A 3 0)), (1, .int (nI a1)), (2, .int (nI q1)), (3, .int (nI v1)), (4, .int i), (5, .int (nI m1)), (6, .int (nI w1))]) C dX7_walk_58 (by decide) rfl ?_
            refine j_aload C 0 dX7_walk_60 rfl ?_
            refine j_iload_n C 4 dX7_walk_62 rfl rfl ?_
            refine jx_S0  (As := [.int (nI v1)]) (rest := []) hq1 C (c_X4_isOfLane (A 4 q1) (A 5 q1) (ln q1) (la q1) (cf q1) (nI v1)) gX7_walk_X4_isOfLane rfl 1 rfl (by decide +kernel) (by decide) (Nat.le_of_ble_eq_true rfl) dX7_walk_63 rfl (fun _ _ => ?_)
            show J X (wX A cy (nI 0) dT (nI N, nI B, kf, pf, lf, tf) tT (nI c) df mf gf tv ln la cf) 66 [(7, .ref (A 4 q1)), (0, .ref (A 3 0)), (1, .int (nI a1)), (2, .int (nI q1)), (3, .int (nI v1)), (4, .int i), (5, .int (nI m1)), (6, .int (nI w1))] [.int (nI (bN (ln q1 = -1 ∨ la q1 = nI v1)))]
            refine j_if_neN (tgt := 75) C dX7_walk_66 (by decide) (bN_lt _) (fun c66 => ?_) (fun c66 => ?_)
            · have c66 := bN_1.mp c66
              refine j_aload C 0 dX7_walk_75 rfl ?_
              refine jx_S0  (As := []) (rest := []) hq1 C (c_X4_hasNothing (A 4 q1) (A 5 q1) (ln q1) (la q1) (cf q1) ) gX7_walk_X4_hasNothing rfl 0 rfl (by decide +kernel) (by decide) (Nat.le_of_ble_eq_true rfl) dX7_walk_77 rfl (fun _ _ => ?_)
              show J X (wX A cy (nI 0) dT (nI N, nI B, kf, pf, lf, tf) tT (nI c) df mf gf tv ln la cf) 80 [(7, .ref (A 4 q1)), (0, .ref (A 3 0)), (1, .int (nI a1)), (2, .int (nI q1)), (3, .int (nI v1)), (4, .int i), (5, .int (nI m1)), (6, .int (nI w1))] [.int (nI (bN (ln q1 = -1)))]
              refine j_if_eqN (tgt := 89) C dX7_walk_80 (by decide) (bN_lt _) (fun c80 => ?_) (fun c80 => ?_)
              · have c80 := bN_0.mp c80
                have qh := hS.t hq1 c80
                have qln := hS.hln hq1 qh
                have q60 := hS.l60 hq1 qh
                have qla := hS.hla hq1 qh
                have qa2 := hS.a2 hq1 qh
                have qsv : sa q1 = v1 := by rcases c66 with z | z; exact absurd z c80; rw [qla] at z; exact (nI_eq (by omega) (by omega)).mp z
                have tm : (nI m1).toInt = m1 := nI_toInt (by omega)
                refine j_aload C 0 dX7_walk_89 rfl ?_
                refine j_iload C 5 dX7_walk_91 rfl ?_
                refine j_iload C 6 dX7_walk_93 rfl ?_
                refine jx_S0  (As := [.int i, .int (nI m1)]) (rest := []) hq1 C (c_X4_hasCells (A 4 q1) (A 5 q1) (ln q1) (la q1) (cf q1) (i) (nI m1)) gX7_walk_X4_hasCells rfl 2 rfl (by decide +kernel) (by decide) (Nat.le_of_ble_eq_true rfl) dX7_walk_95 rfl (fun _ _ => ?_)
                show J X (wX A cy (nI 0) dT (nI N, nI B, kf, pf, lf, tf) tT (nI c) df mf gf tv ln la cf) 98 [(7, .ref (A 4 q1)), (0, .ref (A 3 0)), (1, .int (nI a1)), (2, .int (nI q1)), (3, .int (nI v1)), (4, .int i), (5, .int (nI m1)), (6, .int (nI w1))] [.int (nI (bN (¬ i < 0 ∧ ¬ ln q1 < i ∧ ¬ (nI m1) < 0 ∧ ¬ ln q1 - i < (nI m1))))]
                refine j_if_neN (tgt := 107) C dX7_walk_98 (by decide) (bN_lt _) (fun c98 => ?_) (fun c98 => ?_)
                · have c98 := bN_1.mp c98
                  rw [qln, cells_i q60] at c98
                  obtain ⟨i1, m2, him, rfl, em⟩ := cells_y q60 c98
                  have em2 : m2 = m1 := ((nI_eq (by omega) (by omega)).mp em).symm
                  rw [em2] at him
                  have qg : agn hs sl sa q1 v1 (nI i1) (nI m1) = 0 := agn_0 qh qsv c98
                  have t1 := tC60 (m := i1) (by omega)
                  show J X (wX A cy (nI 0) dT (nI N, nI B, kf, pf, lf, tf) tT (nI c) df mf gf tv ln la cf) 107 [(7, .ref (A 4 q1)), (0, .ref (A 3 0)), (1, .int (nI a1)), (2, .int (nI q1)), (3, .int (nI v1)), (4, .int (nI i1)), (5, .int (nI m1)), (6, .int (nI w1))] []
                  refine j_iconst (v := nI 0) C dX7_walk_107 (by decide) ?_
                  refine j_istore (lv' := [(8, .int (nI 0)), (7, .ref (A 4 q1)), (0, .ref (A 3 0)), (1, .int (nI a1)), (2, .int (nI q1)), (3, .int (nI v1)), (4, .int (nI i1)), (5, .int (nI m1)), (6, .int (nI w1))]) C dX7_walk_108 (by decide) rfl ?_
                  refine J.sub [2, 3, 6, 7, 8, 1, 0] rfl ?_
                  have L110 : ∀ (n : Nat) (j : Nat), m1 - j < n → j ≤ m1 → allB (fun j => (pOf N (sc q1 (i1 + j))).isSome) j = true → J X (wX A cy (nI 0) dT (nI N, nI B, kf, pf, lf, tf) tT (nI c) df mf gf tv ln la cf) 110 [(0, .ref (A 3 0)), (1, .int (nI a1)), (4, .int (nI i1)), (5, .int (nI m1)), (6, .int (nI w1)), (7, .ref (A 4 q1)), (8, .int (nI j))] [] := by
                    intro n
                    induction n with
                    | zero => intro j hm; exact absurd hm (Nat.not_lt_zero _)
                    | succ n ih110 =>
                      intro j h110_0 h110_1 h110_2
                      refine j_iload C 6 dX7_walk_110 rfl ?_
                      refine j_iload C 3 dX7_walk_112 rfl ?_
                      refine j_icmp_geN (tgt := 142) C dX7_walk_114 (by decide) (by omega) (by omega) (fun c114 => ?_) (fun c114 => ?_)
                      · have qal0 : allB (fun j => (pOf N (sc q1 (i1 + j))).isSome) m1 = true := by have z := h110_2; rw [show j = m1 by omega] at z; exact z
                        have qal : ¬ allB (fun j => (pOf N (sc q1 (i1 + j))).isSome) m1 = false := by rw [qal0]; decide
                        have hd : ∀ j, j < m1 → cf q1 (i1 + j) = nI (dOf N (sc q1 (i1 + j))) ∧ dOf N (sc q1 (i1 + j)) < 6 := fun j hj => by have z := dOf_s hN (allB_i.mp qal0 j hj); rw [hS.hcf hq1 qh (by omega)]; exact ⟨z.1, by omega⟩
                        refine j_iload C 4 dX7_walk_142 rfl ?_
                        refine j_if_neN (tgt := 158) C dX7_walk_144 (by decide) (by omega) (fun c144 => ?_) (fun c144 => ?_)
                        · refine j_iload C 4 dX7_walk_158 rfl ?_
                          refine j_iconst (v := nI 1) C dX7_walk_160 (by decide) ?_
                          refine j_icmp_neN (tgt := 176) C dX7_walk_161 (by decide) (by omega) (by omega) (fun c161 => ?_) (fun c161 => ?_)
                          · refine j_aload_n C 0 dX7_walk_176 rfl rfl ?_
                            refine j_iload_n C 1 dX7_walk_177 rfl rfl ?_
                            refine j_aload C 5 dX7_walk_178 rfl ?_
                            refine j_iload C 2 dX7_walk_180 rfl ?_
                            refine j_iload C 3 dX7_walk_182 rfl ?_
                            refine j_callV0 (As := [.int (nI a1), .ref (A 4 q1), .int (nI i1), .int (nI m1)]) (rest := []) C (c_X7_doorsTillRoundIsDone A (nI 0) dT tT N B kf pf lf tf c df mf gf tv ln la cf k p hT a1 q1 (sl q1) i1 m1 (fun j => dOf N (sc q1 (i1 + j))) ha1 hq1 qln q60 him hd) gX7_walk_X7_doorsTillRoundIsDone rfl 4 rfl (by decide +kernel) (by decide) 0 rfl rfl (Nat.le_of_ble_eq_true rfl) dX7_walk_184 rfl (fun _ _ => ?_)
                            show J X (wX A cy (nI 0) dT (nI N, nI B, kf, pf, fil (lgF N k p) lf N, tf) tT (nI c) df mf gf tv ln la cf) 187 [(0, .ref (A 3 0)), (1, .int (nI a1)), (4, .int (nI i1)), (5, .int (nI m1)), (6, .int (nI w1)), (7, .ref (A 4 q1)), (8, .int (nI j))] [.int (if wkL (rnd N k p a1) (fun j => dOf N (sc q1 (i1 + j))) m1 = 0 then nI (ffs (fun t => decide (wkL (rnd N k p a1) (fun j => dOf N (sc q1 (i1 + j))) t ≠ 0)) m1) else -9)]
                            exact j_iret C E dX7_walk_187 (nI 0, dT, (nI N, nI B, kf, pf, fil (lgF N k p) lf N, tf), tT, nI c, df, mf, gf, tv, ln, la, cf) (by rw [show m_walk ((N, B, k, p), (c, rd, rl, ra), (hs, sl, sa, sc), tv, fl) (nI a1) (nI q1) (nI v1) (nI i1) (nI m1) (nI w1) = (if wkL (rnd N k p a1) (fun j => dOf N (sc q1 (i1 + j))) m1 = 0 then nI (ffs (fun t => decide (wkL (rnd N k p a1) (fun j => dOf N (sc q1 (i1 + j))) t ≠ 0)) m1) else -9, ((N, B, k, p), (c, rd, rl, ra), (hs, sl, sa, sc), tv, nI 0)) from (by simp only [m_walk, qa1, qq1, qv1, qm1, qw1, qg, t1, qal, if_neg c144, if_neg c161, reduceIte, reduceCtorEq, if_true, if_false, Bool.false_eq_true, ne_eq, not_true_eq_false, not_false_eq_true, and_true, true_and, and_false, false_and, or_true, true_or, or_false, false_or]; try rfl)]; exact XI.mk hB hN2 hT hR hS) (by rw [show m_walk ((N, B, k, p), (c, rd, rl, ra), (hs, sl, sa, sc), tv, fl) (nI a1) (nI q1) (nI v1) (nI i1) (nI m1) (nI w1) = (if wkL (rnd N k p a1) (fun j => dOf N (sc q1 (i1 + j))) m1 = 0 then nI (ffs (fun t => decide (wkL (rnd N k p a1) (fun j => dOf N (sc q1 (i1 + j))) t ≠ 0)) m1) else -9, ((N, B, k, p), (c, rd, rl, ra), (hs, sl, sa, sc), tv, nI 0)) from (by simp only [m_walk, qa1, qq1, qv1, qm1, qw1, qg, t1, qal, if_neg c144, if_neg c161, reduceIte, reduceCtorEq, if_true, if_false, Bool.false_eq_true, ne_eq, not_true_eq_false, not_false_eq_true, and_true, true_and, and_false, false_and, or_true, true_or, or_false, false_or]; try rfl)]) rfl
                          · refine j_aload_n C 0 dX7_walk_164 rfl rfl ?_
                            refine j_iload_n C 1 dX7_walk_165 rfl rfl ?_
                            refine j_aload C 5 dX7_walk_166 rfl ?_
                            refine j_iload C 2 dX7_walk_168 rfl ?_
                            refine j_iload C 3 dX7_walk_170 rfl ?_
                            refine j_callV0 (As := [.int (nI a1), .ref (A 4 q1), .int (nI i1), .int (nI m1)]) (rest := []) C (c_X7_lampsLeft A (nI 0) dT tT N B kf pf lf tf c df mf gf tv ln la cf k p hT a1 q1 (sl q1) i1 m1 (fun j => dOf N (sc q1 (i1 + j))) ha1 hq1 qln q60 him hd) gX7_walk_X7_lampsLeft rfl 4 rfl (by decide +kernel) (by decide) 0 rfl rfl (Nat.le_of_ble_eq_true rfl) dX7_walk_172 rfl (fun _ _ => ?_)
                            show J X (wX A cy (nI 0) dT (nI N, nI B, kf, pf, fil (lgF N k p) lf N, tf) tT (nI c) df mf gf tv ln la cf) 175 [(0, .ref (A 3 0)), (1, .int (nI a1)), (4, .int (nI i1)), (5, .int (nI m1)), (6, .int (nI w1)), (7, .ref (A 4 q1)), (8, .int (nI j))] [.int (nI (wkL (rnd N k p a1) (fun j => dOf N (sc q1 (i1 + j))) m1))]
                            exact j_iret C E dX7_walk_175 (nI 0, dT, (nI N, nI B, kf, pf, fil (lgF N k p) lf N, tf), tT, nI c, df, mf, gf, tv, ln, la, cf) (by rw [show m_walk ((N, B, k, p), (c, rd, rl, ra), (hs, sl, sa, sc), tv, fl) (nI a1) (nI q1) (nI v1) (nI i1) (nI m1) (nI w1) = (nI (wkL (rnd N k p a1) (fun j => dOf N (sc q1 (i1 + j))) m1), ((N, B, k, p), (c, rd, rl, ra), (hs, sl, sa, sc), tv, nI 0)) from (by simp only [m_walk, qa1, qq1, qv1, qm1, qw1, qg, t1, qal, if_neg c144, if_pos c161, reduceIte, reduceCtorEq, if_true, if_false, Bool.false_eq_true, ne_eq, not_true_eq_false, not_false_eq_true, and_true, true_and, and_false, false_and, or_true, true_or, or_false, false_or]; try rfl)]; exact XI.mk hB hN2 hT hR hS) (by rw [show m_walk ((N, B, k, p), (c, rd, rl, ra), (hs, sl, sa, sc), tv, fl) (nI a1) (nI q1) (nI v1) (nI i1) (nI m1) (nI w1) = (nI (wkL (rnd N k p a1) (fun j => dOf N (sc q1 (i1 + j))) m1), ((N, B, k, p), (c, rd, rl, ra), (hs, sl, sa, sc), tv, nI 0)) from (by simp only [m_walk, qa1, qq1, qv1, qm1, qw1, qg, t1, qal, if_neg c144, if_pos c161, reduceIte, reduceCtorEq, if_true, if_false, Bool.false_eq_true, ne_eq, not_true_eq_false, not_false_eq_true, and_true, true_and, and_false, false_and, or_true, true_or, or_false, false_or]; try rfl)]) rfl
                        · refine j_iload_n C 1 dX7_walk_147 rfl rfl ?_
                          refine j_aload C 5 dX7_walk_148 rfl ?_
                          refine j_iload C 2 dX7_walk_150 rfl ?_
                          refine j_iload C 3 dX7_walk_152 rfl ?_
                          refine jx_SS (S := Unit) (post := fun _ => True) (rv := fun _ => some (.int (nI (wkS (fun j => dOf N (sc q1 (i1 + j))) a1 m1)))) (rmc := { frames := 2, cells := 0, slots := 0, locals := 42 }) (As := [.int (nI a1), .ref (A 4 q1), .int (nI i1), .int (nI m1)]) (rest := []) hq1 C (by rw [qln]; exact c_X7_stepsAlong (A 4 q1) (A 5 q1) (sl q1) (la q1) (cf q1) a1 i1 m1 (fun j => dOf N (sc q1 (i1 + j))) q60 him (by omega) hd) gX7_walk_X7_stepsAlong rfl 4 rfl (by decide +kernel) (by decide) (Nat.le_of_ble_eq_true rfl) dX7_walk_154 rfl (fun _ _ => ?_)
                          show J X (wX A cy (nI 0) dT (nI N, nI B, kf, pf, lf, tf) tT (nI c) df mf gf tv ln la cf) 157 [(0, .ref (A 3 0)), (1, .int (nI a1)), (4, .int (nI i1)), (5, .int (nI m1)), (6, .int (nI w1)), (7, .ref (A 4 q1)), (8, .int (nI j))] [.int (nI (wkS (fun j => dOf N (sc q1 (i1 + j))) a1 m1))]
                          exact j_iret C E dX7_walk_157 (nI 0, dT, (nI N, nI B, kf, pf, lf, tf), tT, nI c, df, mf, gf, tv, ln, la, cf) (by rw [show m_walk ((N, B, k, p), (c, rd, rl, ra), (hs, sl, sa, sc), tv, fl) (nI a1) (nI q1) (nI v1) (nI i1) (nI m1) (nI w1) = (nI (wkS (fun j => dOf N (sc q1 (i1 + j))) a1 m1), ((N, B, k, p), (c, rd, rl, ra), (hs, sl, sa, sc), tv, nI 0)) from (by simp only [m_walk, qa1, qq1, qv1, qm1, qw1, qg, t1, qal, if_pos c144, reduceIte, reduceCtorEq, if_true, if_false, Bool.false_eq_true, ne_eq, not_true_eq_false, not_false_eq_true, and_true, true_and, and_false, false_and, or_true, true_or, or_false, false_or]; try rfl)]; exact XI.mk hB hN2 hT hR hS) (by rw [show m_walk ((N, B, k, p), (c, rd, rl, ra), (hs, sl, sa, sc), tv, fl) (nI a1) (nI q1) (nI v1) (nI i1) (nI m1) (nI w1) = (nI (wkS (fun j => dOf N (sc q1 (i1 + j))) a1 m1), ((N, B, k, p), (c, rd, rl, ra), (hs, sl, sa, sc), tv, nI 0)) from (by simp only [m_walk, qa1, qq1, qv1, qm1, qw1, qg, t1, qal, if_pos c144, reduceIte, reduceCtorEq, if_true, if_false, Bool.false_eq_true, ne_eq, not_true_eq_false, not_false_eq_true, and_true, true_and, and_false, false_and, or_true, true_or, or_false, false_or]; try rfl)]) rfl
                      · refine j_aload_n C 0 dX7_walk_117 rfl rfl ?_
                        refine j_aload C 5 dX7_walk_118 rfl ?_
                        refine j_iload C 2 dX7_walk_120 rfl ?_
                        refine j_iload C 6 dX7_walk_122 rfl ?_
                        refine j_iadd (v := nI (i1 + j)) C dX7_walk_124 (nI_add _ _) ?_
                        refine jx_S0 (S := Unit) (post := fun _ => True) (rv := fun _ => some (.int (cf q1 (i1 + j)))) (rmc := { frames := 1, cells := 0, slots := 0, locals := 21 }) (As := [.int (nI (i1 + j))]) (rest := [.ref (A 3 0)]) hq1 C (by rw [qln]; exact c_X4_valueAt (A 4 q1) (A 5 q1) (sl q1) (la q1) (cf q1) (i1 + j) q60 (by omega)) gX7_walk_X4_valueAt rfl 1 rfl (by decide +kernel) (by decide) (Nat.le_of_ble_eq_true rfl) dX7_walk_125 rfl (fun _ _ => ?_)
                        show J X (wX A cy (nI 0) dT (nI N, nI B, kf, pf, lf, tf) tT (nI c) df mf gf tv ln la cf) 128 [(0, .ref (A 3 0)), (1, .int (nI a1)), (4, .int (nI i1)), (5, .int (nI m1)), (6, .int (nI w1)), (7, .ref (A 4 q1)), (8, .int (nI j))] [.int (cf q1 (i1 + j)), .ref (A 3 0)]
                        refine j_callV0 (As := [.int (cf q1 (i1 + j))]) (rest := []) C (c_X7_isPerson A (nI 0) dT tT N B kf pf lf tf c df mf gf tv ln la cf (cf q1 (i1 + j)) hN) gX7_walk_X7_isPerson rfl 1 rfl (by decide +kernel) (by decide) 0 rfl rfl (Nat.le_of_ble_eq_true rfl) dX7_walk_128 rfl (fun _ _ => ?_)
                        show J X (wX A cy (nI 0) dT (nI N, nI B, kf, pf, lf, tf) tT (nI c) df mf gf tv ln la cf) 131 [(0, .ref (A 3 0)), (1, .int (nI a1)), (4, .int (nI i1)), (5, .int (nI m1)), (6, .int (nI w1)), (7, .ref (A 4 q1)), (8, .int (nI j))] [.int (nI (bN ((pOf N (cf q1 (i1 + j))).isSome = true)))]
                        refine j_if_neN (tgt := 136) C dX7_walk_131 (by decide) (bN_lt _) (fun c131 => ?_) (fun c131 => ?_)
                        · have c131 := bN_1.mp c131
                          refine j_iinc (v := nI (j + 1)) (lv' := [(8, .int (nI (j + 1))), (0, .ref (A 3 0)), (1, .int (nI a1)), (4, .int (nI i1)), (5, .int (nI m1)), (6, .int (nI w1)), (7, .ref (A 4 q1))]) C 6 dX7_walk_136 rfl (nI_inc j) (by decide) rfl ?_
                          refine j_goto (tgt := 110) C dX7_walk_139 (by decide) ?_
                          refine J.sub [1, 2, 3, 4, 5, 6, 0] rfl ?_
                          have e := ih110 (j + 1) (by omega) (by omega) (by show (allB _ j && _) = true; rw [h110_2]; show (pOf N (sc q1 (i1 + j))).isSome = true; rw [← hS.hcf hq1 qh (by omega)]; exact c131)
                          exact e
                        · have c131 := bN_0.mp c131
                          have qal : allB (fun j => (pOf N (sc q1 (i1 + j))).isSome) m1 = false := allB_f (i := j) (by omega) (by show (pOf N (sc q1 (i1 + j))).isSome = false; rw [← hS.hcf hq1 qh (by omega)]; exact Bool.eq_false_iff.mpr c131)
                          refine j_iconst (v := (-1)) C dX7_walk_134 (by decide) ?_
                          exact j_iret C E dX7_walk_135 (nI 0, dT, (nI N, nI B, kf, pf, lf, tf), tT, nI c, df, mf, gf, tv, ln, la, cf) (by rw [show m_walk ((N, B, k, p), (c, rd, rl, ra), (hs, sl, sa, sc), tv, fl) (nI a1) (nI q1) (nI v1) (nI i1) (nI m1) (nI w1) = ((-1), ((N, B, k, p), (c, rd, rl, ra), (hs, sl, sa, sc), tv, nI 0)) from (by simp only [m_walk, qa1, qq1, qv1, qm1, qw1, qg, t1, qal, reduceCtorEq, if_true, if_false, Bool.false_eq_true, ne_eq, not_true_eq_false, not_false_eq_true, and_true, true_and, and_false, false_and, or_true, true_or, or_false, false_or])]; exact XI.mk hB hN2 hT hR hS) (by rw [show m_walk ((N, B, k, p), (c, rd, rl, ra), (hs, sl, sa, sc), tv, fl) (nI a1) (nI q1) (nI v1) (nI i1) (nI m1) (nI w1) = ((-1), ((N, B, k, p), (c, rd, rl, ra), (hs, sl, sa, sc), tv, nI 0)) from (by simp only [m_walk, qa1, qq1, qv1, qm1, qw1, qg, t1, qal, reduceCtorEq, if_true, if_false, Bool.false_eq_true, ne_eq, not_true_eq_false, not_false_eq_true, and_true, true_and, and_false, false_and, or_true, true_or, or_false, false_or])]) rfl
                  have e := L110 (m1 + 1) 0 (by omega) (by omega) rfl
                  exact e
                · have c98 := bN_0.mp c98
                  rw [qln, cells_i q60] at c98
                  have qg : agn hs sl sa q1 v1 i (nI m1) = 3 := agn_3 qh qsv (by omega) c98
                  refine j_aload_n C 1 dX7_walk_101 rfl rfl ?_
                  refine j_iconst (v := nI 3) C dX7_walk_102 (by decide) ?_
                  refine j_callV0 (As := [.int (nI 3)]) (rest := []) C (c_X7_faulted A (nI 0) dT tT N B kf pf lf tf c df mf gf tv ln la cf 3) gX7_walk_X7_faulted rfl 1 rfl (by decide +kernel) (by decide) 0 rfl rfl (Nat.le_of_ble_eq_true rfl) dX7_walk_103 rfl (fun _ _ => ?_)
                  show J X (wX A cy (nI 3) dT (nI N, nI B, kf, pf, lf, tf) tT (nI c) df mf gf tv ln la cf) 106 [(7, .ref (A 4 q1)), (0, .ref (A 3 0)), (1, .int (nI a1)), (2, .int (nI q1)), (3, .int (nI v1)), (4, .int i), (5, .int (nI m1)), (6, .int (nI w1))] [.int ((-10) - nI 3)]
                  exact j_iret C E dX7_walk_106 (nI 3, dT, (nI N, nI B, kf, pf, lf, tf), tT, nI c, df, mf, gf, tv, ln, la, cf) (by rw [show m_walk ((N, B, k, p), (c, rd, rl, ra), (hs, sl, sa, sc), tv, fl) (nI a1) (nI q1) (nI v1) i (nI m1) (nI w1) = ((-10) - nI 3, ((N, B, k, p), (c, rd, rl, ra), (hs, sl, sa, sc), tv, nI 3)) from (by simp only [m_walk, qa1, qq1, qv1, qm1, qw1, qg, reduceCtorEq, if_true, if_false, Bool.false_eq_true, ne_eq, not_true_eq_false, not_false_eq_true, and_true, true_and, and_false, false_and, or_true, true_or, or_false, false_or])]; exact XI.mk hB hN2 hT hR hS) (by rw [show m_walk ((N, B, k, p), (c, rd, rl, ra), (hs, sl, sa, sc), tv, fl) (nI a1) (nI q1) (nI v1) i (nI m1) (nI w1) = ((-10) - nI 3, ((N, B, k, p), (c, rd, rl, ra), (hs, sl, sa, sc), tv, nI 3)) from (by simp only [m_walk, qa1, qq1, qv1, qm1, qw1, qg, reduceCtorEq, if_true, if_false, Bool.false_eq_true, ne_eq, not_true_eq_false, not_false_eq_true, and_true, true_and, and_false, false_and, or_true, true_or, or_false, false_or])]) rfl
              · have c80 := bN_1.mp c80
                have qg : agn hs sl sa q1 v1 i (nI m1) = 1 := agn_1 (hS.f hq1 c80)
                refine j_aload_n C 1 dX7_walk_83 rfl rfl ?_
                refine j_iconst (v := nI 1) C dX7_walk_84 (by decide) ?_
                refine j_callV0 (As := [.int (nI 1)]) (rest := []) C (c_X7_faulted A (nI 0) dT tT N B kf pf lf tf c df mf gf tv ln la cf 1) gX7_walk_X7_faulted rfl 1 rfl (by decide +kernel) (by decide) 0 rfl rfl (Nat.le_of_ble_eq_true rfl) dX7_walk_85 rfl (fun _ _ => ?_)
                show J X (wX A cy (nI 1) dT (nI N, nI B, kf, pf, lf, tf) tT (nI c) df mf gf tv ln la cf) 88 [(7, .ref (A 4 q1)), (0, .ref (A 3 0)), (1, .int (nI a1)), (2, .int (nI q1)), (3, .int (nI v1)), (4, .int i), (5, .int (nI m1)), (6, .int (nI w1))] [.int ((-10) - nI 1)]
                exact j_iret C E dX7_walk_88 (nI 1, dT, (nI N, nI B, kf, pf, lf, tf), tT, nI c, df, mf, gf, tv, ln, la, cf) (by rw [show m_walk ((N, B, k, p), (c, rd, rl, ra), (hs, sl, sa, sc), tv, fl) (nI a1) (nI q1) (nI v1) i (nI m1) (nI w1) = ((-10) - nI 1, ((N, B, k, p), (c, rd, rl, ra), (hs, sl, sa, sc), tv, nI 1)) from (by simp only [m_walk, qa1, qq1, qv1, qm1, qw1, qg, reduceCtorEq, if_true, if_false, Bool.false_eq_true, ne_eq, not_true_eq_false, not_false_eq_true, and_true, true_and, and_false, false_and, or_true, true_or, or_false, false_or])]; exact XI.mk hB hN2 hT hR hS) (by rw [show m_walk ((N, B, k, p), (c, rd, rl, ra), (hs, sl, sa, sc), tv, fl) (nI a1) (nI q1) (nI v1) i (nI m1) (nI w1) = ((-10) - nI 1, ((N, B, k, p), (c, rd, rl, ra), (hs, sl, sa, sc), tv, nI 1)) from (by simp only [m_walk, qa1, qq1, qv1, qm1, qw1, qg, reduceCtorEq, if_true, if_false, Bool.false_eq_true, ne_eq, not_true_eq_false, not_false_eq_true, and_true, true_and, and_false, false_and, or_true, true_or, or_false, false_or])]) rfl
            · have c66 := bN_0.mp c66
              have qh := hS.t hq1 (fun z => c66 (Or.inl z))
              have qg : agn hs sl sa q1 v1 i (nI m1) = 2 := agn_2 qh (fun z => c66 (Or.inr (by rw [hS.hla hq1 qh, z])))
              refine j_aload_n C 1 dX7_walk_69 rfl rfl ?_
              refine j_iconst (v := nI 2) C dX7_walk_70 (by decide) ?_
              refine j_callV0 (As := [.int (nI 2)]) (rest := []) C (c_X7_faulted A (nI 0) dT tT N B kf pf lf tf c df mf gf tv ln la cf 2) gX7_walk_X7_faulted rfl 1 rfl (by decide +kernel) (by decide) 0 rfl rfl (Nat.le_of_ble_eq_true rfl) dX7_walk_71 rfl (fun _ _ => ?_)
              show J X (wX A cy (nI 2) dT (nI N, nI B, kf, pf, lf, tf) tT (nI c) df mf gf tv ln la cf) 74 [(7, .ref (A 4 q1)), (0, .ref (A 3 0)), (1, .int (nI a1)), (2, .int (nI q1)), (3, .int (nI v1)), (4, .int i), (5, .int (nI m1)), (6, .int (nI w1))] [.int ((-10) - nI 2)]
              exact j_iret C E dX7_walk_74 (nI 2, dT, (nI N, nI B, kf, pf, lf, tf), tT, nI c, df, mf, gf, tv, ln, la, cf) (by rw [show m_walk ((N, B, k, p), (c, rd, rl, ra), (hs, sl, sa, sc), tv, fl) (nI a1) (nI q1) (nI v1) i (nI m1) (nI w1) = ((-10) - nI 2, ((N, B, k, p), (c, rd, rl, ra), (hs, sl, sa, sc), tv, nI 2)) from (by simp only [m_walk, qa1, qq1, qv1, qm1, qw1, qg, reduceCtorEq, if_true, if_false, Bool.false_eq_true, ne_eq, not_true_eq_false, not_false_eq_true, and_true, true_and, and_false, false_and, or_true, true_or, or_false, false_or])]; exact XI.mk hB hN2 hT hR hS) (by rw [show m_walk ((N, B, k, p), (c, rd, rl, ra), (hs, sl, sa, sc), tv, fl) (nI a1) (nI q1) (nI v1) i (nI m1) (nI w1) = ((-10) - nI 2, ((N, B, k, p), (c, rd, rl, ra), (hs, sl, sa, sc), tv, nI 2)) from (by simp only [m_walk, qa1, qq1, qv1, qm1, qw1, qg, reduceCtorEq, if_true, if_false, Bool.false_eq_true, ne_eq, not_true_eq_false, not_false_eq_true, and_true, true_and, and_false, false_and, or_true, true_or, or_false, false_or])]) rfl
          · have c46 := bN_0.mp c46
            have qw1 := pOf_n c46
            refine j_bipush (v := (-2)) C dX7_walk_49 (by decide) ?_
            exact j_iret C E dX7_walk_51 (nI 0, dT, (nI N, nI B, kf, pf, lf, tf), tT, nI c, df, mf, gf, tv, ln, la, cf) (by rw [show m_walk ((N, B, k, p), (c, rd, rl, ra), (hs, sl, sa, sc), tv, fl) (nI a1) (nI q1) (nI v1) i (nI m1) w = ((-2), ((N, B, k, p), (c, rd, rl, ra), (hs, sl, sa, sc), tv, nI 0)) from (by simp only [m_walk, qa1, qq1, qv1, qm1, qw1, reduceCtorEq, if_true, if_false, Bool.false_eq_true, ne_eq, not_true_eq_false, not_false_eq_true, and_true, true_and, and_false, false_and, or_true, true_or, or_false, false_or]; try rfl)]; exact XI.mk hB hN2 hT hR hS) (by rw [show m_walk ((N, B, k, p), (c, rd, rl, ra), (hs, sl, sa, sc), tv, fl) (nI a1) (nI q1) (nI v1) i (nI m1) w = ((-2), ((N, B, k, p), (c, rd, rl, ra), (hs, sl, sa, sc), tv, nI 0)) from (by simp only [m_walk, qa1, qq1, qv1, qm1, qw1, reduceCtorEq, if_true, if_false, Bool.false_eq_true, ne_eq, not_true_eq_false, not_false_eq_true, and_true, true_and, and_false, false_and, or_true, true_or, or_false, false_or]; try rfl)]) rfl
    · have c17 := bN_0.mp c17
      have qq1 := pOf_n c17
      refine j_iconst (v := (-1)) C dX7_walk_20 (by decide) ?_
      exact j_iret C E dX7_walk_21 (nI 0, dT, (nI N, nI B, kf, pf, lf, tf), tT, nI c, df, mf, gf, tv, ln, la, cf) (by rw [show m_walk ((N, B, k, p), (c, rd, rl, ra), (hs, sl, sa, sc), tv, fl) (nI a1) s lx i m w = ((-1), ((N, B, k, p), (c, rd, rl, ra), (hs, sl, sa, sc), tv, nI 0)) from (by simp only [m_walk, qa1, qq1, reduceCtorEq, if_true, if_false, Bool.false_eq_true, ne_eq, not_true_eq_false, not_false_eq_true, and_true, true_and, and_false, false_and, or_true, true_or, or_false, false_or]; try rfl)]; exact XI.mk hB hN2 hT hR hS) (by rw [show m_walk ((N, B, k, p), (c, rd, rl, ra), (hs, sl, sa, sc), tv, fl) (nI a1) s lx i m w = ((-1), ((N, B, k, p), (c, rd, rl, ra), (hs, sl, sa, sc), tv, nI 0)) from (by simp only [m_walk, qa1, qq1, reduceCtorEq, if_true, if_false, Bool.false_eq_true, ne_eq, not_true_eq_false, not_false_eq_true, and_true, true_and, and_false, false_and, or_true, true_or, or_false, false_or]; try rfl)]) rfl
