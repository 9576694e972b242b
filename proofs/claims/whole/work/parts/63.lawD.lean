theorem XI0 : XI ((0, 0, fun _ => 0, fun _ _ => 0), (0, fun _ => 0, fun _ => 0, fun _ => none), (fun _ => false, fun _ => 0, fun _ => 0, fun _ _ => 0), 0, 0) (nI 0, (0, 0, (fun _ => 0), (fun _ _ => 0), (fun _ => 0), (fun _ => 0)), (0, 0, (fun _ => 0), (fun _ _ => 0), (fun _ => 0), (fun _ => 0)), (0, 0, (fun _ => 0), (fun _ _ => 0), (fun _ => 0), (fun _ => 0)), 0, (fun _ => 0), (fun _ => 0), (fun _ => 0), 0, (fun _ => -1), (fun _ => 0), (fun _ _ => 0)) := ⟨⟨rfl, rfl, rfl, rfl, rfl⟩, ⟨Nat.zero_le _, Or.inl rfl⟩, ⟨Nat.zero_le _, fun a h => absurd h (Nat.not_lt_zero a), fun a h => absurd h (Nat.not_lt_zero a)⟩, ⟨Nat.zero_le _, fun j h => absurd h (Nat.not_lt_zero j)⟩, fun q _ => ⟨fun h => (by cases h), fun _ => rfl⟩⟩
theorem MI0 : MI ((0, 0, fun _ => 0, fun _ _ => 0), (0, fun _ => 0, fun _ => 0, fun _ => none), (fun _ => false, fun _ => 0, fun _ => 0, fun _ _ => 0), 0, 0) (0, 0, (upd (upd (upd (upd (fun _ => 0) 0 ((-9))) 1 ((-9))) 2 ((-9))) 3 ((-9))), (fun _ => 0), (fun _ => 0), 0, 0, (fun _ => 0), (fun _ => 0), 0, 0, 0, (fun _ => 0), (fun _ => 0), (fun _ => 0), (fun _ => 0), (fun _ => 0), 0, (fun _ => 0), (fun _ => 0), (fun _ => 0)) := ⟨⟨rfl, rfl, rfl, rfl, rfl⟩, ⟨Nat.zero_le _, Or.inl rfl⟩, ⟨Nat.zero_le _, fun a h => absurd h (Nat.not_lt_zero a), fun a h => absurd h (Nat.not_lt_zero a)⟩, ⟨Nat.zero_le _, fun j h => absurd h (Nat.not_lt_zero j)⟩, fun q hq => ⟨fun h => (by cases h), fun _ => by
  match q, hq with
  | 0, _ => rfl
  | 1, _ => rfl
  | 2, _ => rfl
  | 3, _ => rfl
  | z + 4, h => omega⟩⟩
theorem ty_P {args : Array Value} {U : State} {ty : FieldType} (h : (Cond.arrayClass ty).before args U = true) : ∃ cA : ClassId, ArrOfT U cA ty ∧ U.vm.findClass ("[" ++ ty.toString) = some cA := by
  obtain ⟨cA, kA, comp, h1, h2, h3⟩ := Cond.arrayClass_spec h
  exact ⟨cA, fun n z => ⟨fun k h => (by cases h), kA, h2, comp, h3⟩, h1⟩
theorem ty_O {U : State} {C : String} (h : va_AO C U) : ∃ cA : ClassId, ArrOfT U cA (.object C) ∧ va_RA U cA (.object C) := by
  obtain ⟨comp, cA, kA, h1, -, h3, h4, h5⟩ := Cond.arrayOver_spec h
  exact ⟨cA, fun n z => ⟨fun k h => (by cases h), kA, h3, comp, h4⟩, kA, comp, h3, h4, h1, h5⟩
theorem ty_A {U : State} {ty : FieldType} (h : va_AOA ty U) : ∃ cA : ClassId, ArrOfT U cA (.array ty) ∧ U.vm.findClass ("[" ++ (FieldType.array ty).toString) = some cA := by
  obtain ⟨comp, cA, kA, -, -, h3, h4, h5⟩ := Jvm.Stand.arrayOver_specB h
  exact ⟨cA, fun n z => ⟨fun k h => (by cases h), kA, h3, comp, h4⟩, h5⟩
theorem nf_in : ∀ q ∈ nfL, Cond.fieldLinkNest q.1 q.2.1 q.2.2.1 q.2.2.2.1 q.2.2.2.2 "DebtLamps" ∈ lw_tbl := by decide +kernel
theorem nm_in : ∀ q ∈ nmL, Cond.methodLinkNest q.1 q.2.1 q.2.2 "DebtLamps" ∈ lw_tbl := by decide +kernel
theorem in_a1 : Cond.arrayOver (.object "DebtLamps$Person") ∈ lw_tbl := by decide +kernel
theorem in_a2 : Cond.arrayOver (.object "DebtLamps$Sheet") ∈ lw_tbl := by decide +kernel
theorem in_a3 : Cond.arrayOver (.array .int) ∈ lw_tbl := by decide +kernel
theorem in_a4 : Cond.castable "DebtLamps$Rich" "DebtLamps$Person" ∈ lw_tbl := by decide +kernel
theorem in_a5 : Cond.castable "DebtLamps$Bankrupt" "DebtLamps$Person" ∈ lw_tbl := by decide +kernel
theorem in_a6 : Cond.arrayClass .int ∈ lw_tbl := by decide +kernel
theorem in_a7 : Cond.arrayClass .boolean ∈ lw_tbl := by decide +kernel
theorem in_7 : ∀ w ∈ u_ws RX7 TX7 7, w ∈ wsL_law := by decide +kernel
theorem in_8 : ∀ w ∈ u_ws RX8 TX8 21, w ∈ wsL_law := by decide +kernel
set_option maxHeartbeats 4000000 in
set_option maxRecDepth 20000 in
theorem whole_start {p : Program} {e : Env} {s : State} {m : MethodId} {below : List Frame} {meth : Method} {c : Code} (l : Launch) {b L : Nat} {xs : Nat → Int32} (hL : L ≤ 448) (C0 : lw_At p s m meth c b L xs) : W p l e room_1 s m #[Value.ref b] below meth c s.heap [] 0 0 (lw_Z below #[Value.ref b] s) (entryFrame m ([Value.ref b] : List Value).toArray 4) := by
  obtain ⟨hx, hb, hr, hml, hown, hts, hX, hbl, hlocks, hgv⟩ := C0
  have hbA : ¬ (fun q : Nat => s.heap.size ≤ q) b := Nat.not_le.mpr hbl
  obtain ⟨c0, iS0, hKn0⟩ := u_known (C := RX0) (T := TX0) (N := 0) (n := 0) hts li_X0 (hts (.instantiable RX0 0) (by decide +kernel))
  obtain ⟨c1, iS1, hKn1⟩ := u_known (C := RX1) (T := TX1) (N := 0) (n := 0) hts li_X1 (hts (.instantiable RX1 0) (by decide +kernel))
  obtain ⟨c2, iS2, hKn2⟩ := u_known (C := RX2) (T := TX2) (N := 4) (n := 4) hts li_X2 (hts (.instantiable RX2 4) (by decide +kernel))
  obtain ⟨c3, iS3, hKn3⟩ := u_known (C := RX3) (T := TX3) (N := 0) (n := 0) hts li_X3 (hts (.instantiable RX3 0) (by decide +kernel))
  obtain ⟨c4, iS4, hKn4⟩ := u_known (C := RX4) (T := TX4) (N := 3) (n := 3) hts li_X4 (hts (.instantiable RX4 3) (by decide +kernel))
  obtain ⟨c5, iS5, hKn5⟩ := u_known (C := RX5) (T := TX5) (N := 7) (n := 7) hts li_X5 (hts (.instantiable RX5 7) (by decide +kernel))
  obtain ⟨c6, iS6, hKn6⟩ := u_known (C := RX6) (T := TX6) (N := 1) (n := 1) hts li_X6 (hts (.instantiable RX6 1) (by decide +kernel))
  obtain ⟨c7, iS7, hKn7⟩ := u_known (C := RX7) (T := TX7) (N := 7) (n := 7) hts li_X7 (hts (.instantiable RX7 7) (by decide +kernel))
  obtain ⟨c8, iS8, hKn8⟩ := u_known (C := RX8) (T := TX8) (N := 21) (n := 21) hts li_X8 (hts (.instantiable RX8 21) (by decide +kernel))
  obtain ⟨dC, dI, hKc⟩ : ∃ (dC : Nat → ClassId) (dI : Nat → Nat → Nat), ∀ (k : Nat) (q : vw_C), vwCl[k]? = some q → u_Kn s q.1 q.2.1 q.2.2 (dC k) (dI k) := by
    refine ⟨fun k => match k with | 0 => c0 | 1 => c1 | 2 => c2 | 3 => c3 | 4 => c4 | 5 => c5 | 6 => c6 | 7 => c7 | _ => c8, fun k => match k with | 0 => iS0 | 1 => iS1 | 2 => iS2 | 3 => iS3 | 4 => iS4 | 5 => iS5 | 6 => iS6 | 7 => iS7 | _ => iS8, ?_⟩
    intro k q hq
    match k, hq with
    | 0, hq => cases hq; exact hKn0
    | 1, hq => cases hq; exact hKn1
    | 2, hq => cases hq; exact hKn2
    | 3, hq => cases hq; exact hKn3
    | 4, hq => cases hq; exact hKn4
    | 5, hq => cases hq; exact hKn5
    | 6, hq => cases hq; exact hKn6
    | 7, hq => cases hq; exact hKn7
    | 8, hq => cases hq; exact hKn8
    | k + 9, hq => exact absurd hq (by simp [vwCl])
  have hO : Ko s := ⟨⟨va_AO.of (hts _ in_a1), va_AO.of (hts _ in_a2)⟩, hts _ in_a3, va_Nw.of rfl (hts _ in_a4), va_Nw.of rfl (hts _ in_a5)⟩
  obtain ⟨e0, f0, g0⟩ := ty_P (hts _ in_a6)
  obtain ⟨e1, f1, g1⟩ := ty_P (hts _ in_a7)
  obtain ⟨e2, f2, g2⟩ := ty_O hO.1.1
  obtain ⟨e3, f3, g3⟩ := ty_O hO.1.2
  obtain ⟨e4, f4, g4⟩ := ty_A hO.2.1
  obtain ⟨cy, hcy⟩ : ∃ cy : Nat → ClassId, ∀ (k : Nat) (q : ClassId × FieldType), (tyL cy)[k]? = some q → ArrOfT s q.1 q.2 ∧ va_RA s q.1 q.2 := by
    refine ⟨fun k => match k with | 0 => e0 | 1 => e1 | 2 => e2 | 3 => e3 | _ => e4, ?_⟩
    intro k q hq
    match k, hq with
    | 0, hq => cases hq; exact ⟨f0, g0⟩
    | 1, hq => cases hq; exact ⟨f1, g1⟩
    | 2, hq => cases hq; exact ⟨f2, g2⟩
    | 3, hq => cases hq; exact ⟨f3, g3⟩
    | 4, hq => cases hq; exact ⟨f4, g4⟩
    | k + 5, hq => exact absurd hq (by simp [tyL])
  have hKn : Kn (dC, dI) cy s := ⟨⟨hKc, hcy⟩, fun q hq => va_Nw.of rfl (hts _ (nf_in q hq)), fun q hq => va_Nw.of rfl (hts _ (nm_in q hq))⟩
  have hl := lv_entry ([.ref b]) (n := 4) (Nat.le_of_ble_eq_true rfl)
  rw [lg_entry_eq]
  have key : ∀ X : Cxt, X = (p, l, e, room_1, s, m, #[Value.ref b], below, meth, c, (dC, dI), (fun q : Nat => s.heap.size ≤ q), lw_Z below #[Value.ref b] s, 4, 0, 0) → J (xw X 0 0) [] 0 [(0, .ref b)] [] := by
    intro X eX
    have C : Cx X l (dC, dI) cy cL_law 4 wsL_law RL room_1 := by
      rw [eX]
      exact ⟨⟨hx, hb⟩, ⟨hml, hown, fun w hw => hts w (wsL_law_in w hw)⟩, ⟨rfl, rfl, rfl, rfl⟩, hKn, fun _ h => h, Nat.zero_le _, Nat.zero_le _⟩
    have hO2 : Ko (xS X) := by rw [eX]; exact hO
    have hX2 : va_X b L xs (xS X) (xS X).heap := by rw [eX]; exact hX
    have hbl2 : b < (xS X).heap.size := by rw [eX]; exact hbl
    have hbA2 : ¬ xA X b := by rw [eX]; exact hbA
    refine j_new (ci := 7) (fs := [.null, .null, .null, .null, .null, .null, .int 0]) (k' := 1) (n' := 7) C in_7 tyX7 tyX7_ok (by decide +kernel) (by decide +kernel) (by decide +kernel) rfl (fun j hj => by match j, hj with | 0, _ => rfl | 1, _ => rfl | 2, _ => rfl | 3, _ => rfl | 4, _ => rfl | 5, _ => rfl | 6, _ => rfl | z + 7, hz => exact absurd hz (by omega)) rfl rfl (by decide) (by decide) dL_law_0 (fun q1 => ?_)
    have Ck := Cx.w (k := 1) (n := 7) C (by decide) (by decide)
    refine j_dup Ck dL_law_3 rfl ?_
    refine j_callI (rest := [.ref q1]) (k' := 60) (n' := 502) C hO2 (c_X7_init q1) gL_law_X7_init rfl (by decide +kernel) (by decide +kernel) (by decide +kernel) rfl (by decide +kernel) rfl rfl ⟨⟨by decide, by decide⟩, by decide, by decide⟩ [] [] rfl (Nat.le_of_ble_eq_true rfl) dL_law_4 rfl (fun u1 hu1 => ?_)
    subst hu1
    have Ck := Cx.w (k := 60) (n := 502) C (by decide) (by decide)
    show J (xw X 60 502) (wXu u1 cy (nI 0, (0, 0, (fun _ => 0), (fun _ _ => 0), (fun _ => 0), (fun _ => 0)), (0, 0, (fun _ => 0), (fun _ _ => 0), (fun _ => 0), (fun _ => 0)), (0, 0, (fun _ => 0), (fun _ _ => 0), (fun _ => 0), (fun _ => 0)), 0, (fun _ => 0), (fun _ => 0), (fun _ => 0), 0, (fun _ => -1), (fun _ => 0), (fun _ _ => 0))) 7 [(0, .ref b)] [.ref (u1 3 0)]
    refine j_astore_n (lv' := [(1, .ref (u1 3 0)), (0, .ref b)]) Ck dL_law_7 rfl (by decide) rfl ?_
    refine j_new (ci := 8) (fs := [.int 0, .int 0, .null, .null, .null, .int 0, .int 0, .null, .null, .int 0, .int 0, .int 0, .null, .null, .null, .null, .null, .int 0, .null, .null, .null]) (k' := 61) (n' := 523) C in_8 tyX8 tyX8_ok (by decide +kernel) (by decide +kernel) (by decide +kernel) rfl (fun j hj => by match j, hj with | 0, _ => rfl | 1, _ => rfl | 2, _ => rfl | 3, _ => rfl | 4, _ => rfl | 5, _ => rfl | 6, _ => rfl | 7, _ => rfl | 8, _ => rfl | 9, _ => rfl | 10, _ => rfl | 11, _ => rfl | 12, _ => rfl | 13, _ => rfl | 14, _ => rfl | 15, _ => rfl | 16, _ => rfl | 17, _ => rfl | 18, _ => rfl | 19, _ => rfl | 20, _ => rfl | z + 21, hz => exact absurd hz (by omega)) rfl rfl (by decide) (by decide) dL_law_8 (fun q2 => ?_)
    have Ck := Cx.w (k := 61) (n := 523) C (by decide) (by decide)
    refine j_dup Ck dL_law_11 rfl ?_
    refine j_callI (rest := [.ref q2]) (k' := 74) (n' := 927) C hO2 (c_X8_init q2) gL_law_X8_init rfl (by decide +kernel) (by decide +kernel) (by decide +kernel) rfl (by decide +kernel) rfl rfl ⟨⟨by decide, by decide⟩, by decide, by decide⟩ (wXu u1 cy (nI 0, (0, 0, (fun _ => 0), (fun _ _ => 0), (fun _ => 0), (fun _ => 0)), (0, 0, (fun _ => 0), (fun _ _ => 0), (fun _ => 0), (fun _ => 0)), (0, 0, (fun _ => 0), (fun _ _ => 0), (fun _ => 0), (fun _ => 0)), 0, (fun _ => 0), (fun _ => 0), (fun _ => 0), 0, (fun _ => -1), (fun _ => 0), (fun _ _ => 0))) [] rfl (Nat.le_of_ble_eq_true rfl) dL_law_12 rfl (fun u2 hu2 => ?_)
    subst hu2
    have Ck := Cx.w (k := 74) (n := 927) C (by decide) (by decide)
    rw [List.append_nil]
    show J (xw X 74 927) (wXu u1 cy (nI 0, (0, 0, (fun _ => 0), (fun _ _ => 0), (fun _ => 0), (fun _ => 0)), (0, 0, (fun _ => 0), (fun _ _ => 0), (fun _ => 0), (fun _ => 0)), (0, 0, (fun _ => 0), (fun _ _ => 0), (fun _ => 0), (fun _ => 0)), 0, (fun _ => 0), (fun _ => 0), (fun _ => 0), 0, (fun _ => -1), (fun _ => 0), (fun _ _ => 0)) ++ wMu u2 cy (0, 0, (upd (upd (upd (upd (fun _ => 0) 0 ((-9))) 1 ((-9))) 2 ((-9))) 3 ((-9))), (fun _ => 0), (fun _ => 0), 0, 0, (fun _ => 0), (fun _ => 0), 0, 0, 0, (fun _ => 0), (fun _ => 0), (fun _ => 0), (fun _ => 0), (fun _ => 0), 0, (fun _ => 0), (fun _ => 0), (fun _ => 0))) 15 [(1, .ref (u1 3 0)), (0, .ref b)] [.ref (u2 0)]
    refine j_astore_n (lv' := [(2, .ref (u2 0)), (1, .ref (u1 3 0)), (0, .ref b)]) Ck dL_law_15 rfl (by decide) rfl ?_
    refine j_iconst (v := nI 0) Ck dL_law_16 (by decide) ?_
    refine j_istore_n (lv' := [(3, .int (nI 0)), (2, .ref (u2 0)), (1, .ref (u1 3 0)), (0, .ref b)]) Ck dL_law_17 rfl (by decide) rfl ?_
    refine J.sub [3, 2, 1, 0] rfl ?_
    refine law_loop (X := xw X 74 927) (A := u1) (mm := u2) Ck hX2 hbl2 hbA2 hL (fun u v i => ?_) (L + 8) 0 ((0, 0, fun _ => 0, fun _ _ => 0), (0, fun _ => 0, fun _ => 0, fun _ => none), (fun _ => false, fun _ => 0, fun _ => 0, fun _ _ => 0), 0, 0) (nI 0, (0, 0, (fun _ => 0), (fun _ _ => 0), (fun _ => 0), (fun _ => 0)), (0, 0, (fun _ => 0), (fun _ _ => 0), (fun _ => 0), (fun _ => 0)), (0, 0, (fun _ => 0), (fun _ _ => 0), (fun _ => 0), (fun _ => 0)), 0, (fun _ => 0), (fun _ => 0), (fun _ => 0), 0, (fun _ => -1), (fun _ => 0), (fun _ _ => 0)) (0, 0, (upd (upd (upd (upd (fun _ => 0) 0 ((-9))) 1 ((-9))) 2 ((-9))) 3 ((-9))), (fun _ => 0), (fun _ => 0), 0, 0, (fun _ => 0), (fun _ => 0), 0, 0, 0, (fun _ => 0), (fun _ => 0), (fun _ => 0), (fun _ => 0), (fun _ => 0), 0, (fun _ => 0), (fun _ => 0), (fun _ => 0)) (by omega) (Nat.zero_le _) XI0 MI0
    refine j_iconst (v := 1) Ck dL_law_1145 (by decide) ?_
    subst eX
    intro H locs ls hP hD hS hl
    refine va_forget (fun q hq => hS.2.2 q hq) ?_
    refine W.widen (k := 600000) (n := 7302250) (show 74 ≤ 600000 by decide) (show 927 ≤ 7302250 by decide) ?_
    exact lw_ret hx hb hr hlocks dL_law_1146
  exact key _ rfl s.heap [] _ (fun k q h => by simp at h) ⟨fun i j p q h => by simp at h, fun k q h => by simp at h⟩ va_S.rf hl

