section JD
variable {X : Cxt} {l : Launch} {D : va_G} {cy : Nat → ClassId} {cc : ByteArray} {nL : Nat} {Ts : List Cond} {own : String} {rm : Room} {ws : va_W} {pc : Nat} {lv : List (Nat × Value)} {st : List Value}
variable {y : MethodName} {wl wl' : List Cond} {rmc : Room} {As : List Value} {b : Nat} {M : va_W} {S : Type} {post : S → Prop} {rv : S → Option Value} {w1 : S → va_W} {bytes : ByteArray} {maxL index : Nat} {ret : Option FieldType} {Cn : String} {rest : List Value}
theorem j_callV0 {ci N : Nat} {fs : List Value} {T : u_T} (C : Cx X l D cy cc nL Ts own rm) (Mt : Ct l y wl rmc D cy (.ref b :: As) ws post rv w1) (g : GoodIn Ts (wsV own index Cn y wl)) (hw : wl = .code y bytes maxL ret :: wl') (na : Nat) (hna : As.length = na) (hc : y.cls = Cn ∧ y.cls ≠ "java/lang/invoke/MethodHandle" ∧ y.cls ≠ "java/lang/invoke/VarHandle" ∧ (parseMethodDescriptor y.desc).map (fun d => d.parameters.length) = some na) (hR : rmc.cells = 0 ∧ rmc.slots = 0 ∧ rmc.frames + 1 ≤ rm.frames ∧ 8 + (maxL + 11) + rmc.locals ≤ rm.locals) (q0 : Nat) (hq : ws[q0]? = some (b, .inr (ci, fs))) (hci : vwCl[ci]? = some (Cn, T, N)) (hst : (rest.map fun v => v.category).sum ≤ 8) (hd : decode cc pc = .ok (.invokevirtual index, 3)) (hs : st = As.reverse ++ .ref b :: rest)
    (k : ∀ u, post u → J X (w1 u) (pc + 3) lv ((rv u).toList ++ rest)) : J X ws pc lv st :=
  j_callV C Mt g hw na hna hc hR [] [] (by rw [List.append_nil]; rfl) q0 hq hci hst hd hs (fun u hp => by rw [List.append_nil]; exact k u hp)
theorem j_callS0 (C : Cx X l D cy cc nL Ts own rm) (Mt : Ct l y wl rmc D cy As ws post rv w1) (g : GoodIn Ts (va_wsS own index y wl)) (hw : wl = .code y bytes maxL ret :: wl') (na : Nat) (hna : As.length = na) (hc : y.cls ≠ "java/lang/invoke/MethodHandle" ∧ y.cls ≠ "java/lang/invoke/VarHandle" ∧ (parseMethodDescriptor y.desc).map (fun d => d.parameters.length) = some na) (hR : rmc.cells = 0 ∧ rmc.slots = 0 ∧ rmc.frames + 1 ≤ rm.frames ∧ 8 + (maxL + 11) + rmc.locals ≤ rm.locals) (hst : (rest.map fun v => v.category).sum ≤ 8) (hd : decode cc pc = .ok (.invokestatic index, 3)) (hs : st = As.reverse ++ rest)
    (k : ∀ u, post u → J X (w1 u) (pc + 3) lv ((rv u).toList ++ rest)) : J X ws pc lv st :=
  j_callS C Mt g hw na hna hc hR [] [] (by rw [List.append_nil]; rfl) hst hd hs (fun u hp => by rw [List.append_nil]; exact k u hp)
/-- a static method that looks at no cell -/
theorem j_callP (C : Cx X l D cy cc nL Ts own rm) (Mt : Ct l y wl rmc D cy As [] post rv (fun _ => [])) (g : GoodIn Ts (va_wsS own index y wl)) (hw : wl = .code y bytes maxL ret :: wl') (na : Nat) (hna : As.length = na) (hc : y.cls ≠ "java/lang/invoke/MethodHandle" ∧ y.cls ≠ "java/lang/invoke/VarHandle" ∧ (parseMethodDescriptor y.desc).map (fun d => d.parameters.length) = some na) (hR : rmc.cells = 0 ∧ rmc.slots = 0 ∧ rmc.frames + 1 ≤ rm.frames ∧ 8 + (maxL + 11) + rmc.locals ≤ rm.locals) (hst : (rest.map fun v => v.category).sum ≤ 8) (hd : decode cc pc = .ok (.invokestatic index, 3)) (hs : st = As.reverse ++ rest)
    (k : ∀ u, post u → J X ws (pc + 3) lv ((rv u).toList ++ rest)) : J X ws pc lv st :=
  j_callS C Mt g hw na hna hc hR [] ws rfl hst hd hs (fun u hp => k u hp)
/-- an overriding method, by the overridden one's name -/
theorem j_callO {ci N : Nat} {fs : List Value} {T : u_T} {owner : String} {x : MethodName} {b0 : ByteArray} {m0 : Nat} {r0 : Option FieldType} (C : Cx X l D cy cc nL Ts own rm) (Mt : Ct l y wl rmc D cy (.ref b :: As) M post rv w1) (g : GoodIn Ts (va_wsO own index Cn owner x y wl)) (hw : wl = .code y bytes maxL ret :: wl') (h0 : Cond.code ⟨owner, x.name, x.desc⟩ b0 m0 r0 ∈ Ts) (na : Nat) (hna : As.length = na) (hc : owner ≠ "java/lang/invoke/MethodHandle" ∧ owner ≠ "java/lang/invoke/VarHandle" ∧ (parseMethodDescriptor x.desc).map (fun d => d.parameters.length) = some na) (hR : rmc.cells = 0 ∧ rmc.slots = 0 ∧ rmc.frames + 1 ≤ rm.frames ∧ 8 + (maxL + 11) + rmc.locals ≤ rm.locals) (A' B : va_W) (hws : ws = A' ++ (M ++ B)) (q0 : Nat) (hq : M[q0]? = some (b, .inr (ci, fs))) (hci : vwCl[ci]? = some (Cn, T, N)) (hst : (rest.map fun v => v.category).sum ≤ 8) (hd : decode cc pc = .ok (.invokevirtual index, 3)) (hs : st = As.reverse ++ .ref b :: rest)
    (k : ∀ u, post u → J X (A' ++ (w1 u ++ B)) (pc + 3) lv ((rv u).toList ++ rest)) : J X ws pc lv st := by
  subst hws; subst hs
  intro H locs ls hP hD hS hl
  have hM := Mt H.size
  rw [hR.1, hR.2.1] at hM
  rw [C.2.2.1.2.2.1] at hP
  have hpm := pre_ok (X := X) C.2.2.2.1 rfl (dP_l (dP_r hP)) ((dD_l (dD_r hD)).weaken (fun _ _ _ _ => trivial)) (.ref b :: As)
  rw [← C.2.2.1.1] at hM
  have hnl := C.2.2.1.2.2.2
  refine j_go C (by rw [C.2.2.1.2.2.1]; exact hP) hD hS hl (av := .ref b :: As) ?_ k
  rw [C.2.2.1.2.2.1]
  exact va_runU (As := As) (rest := rest) ⟨C.1.1, C.1.2, C.2.1.1, C.2.1.2.1, C.2.1.2.2⟩ hM (va_cwO na C.2.1.2.2 g hw hR.1 hR.2.1 h0 hc (by rw [C.2.2.1.2.1]; exact hR.2.2)) ⟨hpm.1, va_recv C.2.2.2.1.1 (dP_l (dP_r hP)) hci hq, hpm.2⟩ rfl hna (by rw [← hnl]; exact hl.1) rfl (lv_room hst) hd (by rw [C.2.2.1.2.1]; exact C.2.2.2.2.2)
/-- an inherited method, by its own name -/
theorem j_callU {ci N : Nat} {fs : List Value} {T : u_T} {owner : String} {x : MethodName} (C : Cx X l D cy cc nL Ts own rm) (Mt : Ct l y wl rmc D cy (.ref b :: As) M post rv w1) (g : GoodIn Ts (va_wsU own index Cn owner x y wl)) (hw : wl = .code y bytes maxL ret :: wl') (hyx : y = ⟨owner, x.name, x.desc⟩) (na : Nat) (hna : As.length = na) (hc : owner ≠ "java/lang/invoke/MethodHandle" ∧ owner ≠ "java/lang/invoke/VarHandle" ∧ (parseMethodDescriptor x.desc).map (fun d => d.parameters.length) = some na) (hR : rmc.cells = 0 ∧ rmc.slots = 0 ∧ rmc.frames + 1 ≤ rm.frames ∧ 8 + (maxL + 11) + rmc.locals ≤ rm.locals) (A' B : va_W) (hws : ws = A' ++ (M ++ B)) (q0 : Nat) (hq : M[q0]? = some (b, .inr (ci, fs))) (hci : vwCl[ci]? = some (Cn, T, N)) (hst : (rest.map fun v => v.category).sum ≤ 8) (hd : decode cc pc = .ok (.invokevirtual index, 3)) (hs : st = As.reverse ++ .ref b :: rest)
    (k : ∀ u, post u → J X (A' ++ (w1 u ++ B)) (pc + 3) lv ((rv u).toList ++ rest)) : J X ws pc lv st := by
  subst hws; subst hs
  intro H locs ls hP hD hS hl
  have hM := Mt H.size
  rw [hR.1, hR.2.1] at hM
  rw [C.2.2.1.2.2.1] at hP
  have hpm := pre_ok (X := X) C.2.2.2.1 rfl (dP_l (dP_r hP)) ((dD_l (dD_r hD)).weaken (fun _ _ _ _ => trivial)) (.ref b :: As)
  rw [← C.2.2.1.1] at hM
  have hnl := C.2.2.1.2.2.2
  refine j_go C (by rw [C.2.2.1.2.2.1]; exact hP) hD hS hl (av := .ref b :: As) ?_ k
  rw [C.2.2.1.2.2.1]
  exact va_runU (As := As) (rest := rest) ⟨C.1.1, C.1.2, C.2.1.1, C.2.1.2.1, C.2.1.2.2⟩ hM (va_cwU na C.2.1.2.2 g hw hR.1 hR.2.1 hyx hc (by rw [C.2.2.1.2.1]; exact hR.2.2)) ⟨hpm.1, va_recv C.2.2.2.1.1 (dP_l (dP_r hP)) hci hq, hpm.2⟩ rfl hna (by rw [← hnl]; exact hl.1) rfl (lv_room hst) hd (by rw [C.2.2.1.2.1]; exact C.2.2.2.2.2)
/-- a method of the class above -/
theorem j_callSU {ci N : Nat} {fs : List Value} {T : u_T} (C : Cx X l D cy cc nL Ts own rm) (Mt : Ct l y wl rmc D cy (.ref b :: As) M post rv w1) (g : GoodIn Ts (va_wsSU own index y wl)) (hw : wl = .code y bytes maxL ret :: wl') (na : Nat) (hna : As.length = na) (hc : y.name ≠ "<init>" ∧ (parseMethodDescriptor y.desc).map (fun d => d.parameters.length) = some na) (hR : rmc.cells = 0 ∧ rmc.slots = 0 ∧ rmc.frames + 1 ≤ rm.frames ∧ 8 + (maxL + 11) + rmc.locals ≤ rm.locals) (A' B : va_W) (hws : ws = A' ++ (M ++ B)) (q0 : Nat) (hq : M[q0]? = some (b, .inr (ci, fs))) (hci : vwCl[ci]? = some (Cn, T, N)) (hst : (rest.map fun v => v.category).sum ≤ 8) (hd : decode cc pc = .ok (.invokespecial index, 3)) (hs : st = As.reverse ++ .ref b :: rest)
    (k : ∀ u, post u → J X (A' ++ (w1 u ++ B)) (pc + 3) lv ((rv u).toList ++ rest)) : J X ws pc lv st := by
  subst hws; subst hs
  intro H locs ls hP hD hS hl
  have hM := Mt H.size
  rw [hR.1, hR.2.1] at hM
  rw [C.2.2.1.2.2.1] at hP
  have hpm := pre_ok (X := X) C.2.2.2.1 rfl (dP_l (dP_r hP)) ((dD_l (dD_r hD)).weaken (fun _ _ _ _ => trivial)) (.ref b :: As)
  rw [← C.2.2.1.1] at hM
  have hnl := C.2.2.1.2.2.2
  refine j_go C (by rw [C.2.2.1.2.2.1]; exact hP) hD hS hl (av := .ref b :: As) ?_ k
  rw [C.2.2.1.2.2.1]
  exact va_runSU (As := As) (rest := rest) (C.2.2.2.1.1.1 ci _ hci).2 ⟨C.1.1, C.1.2, C.2.1.1, C.2.1.2.1, C.2.1.2.2⟩ hM (va_cwSU na C.2.1.2.2 g hw hR.1 hR.2.1 hc (by rw [C.2.2.1.2.1]; exact hR.2.2)) ⟨hpm.1, va_recv C.2.2.2.1.1 (dP_l (dP_r hP)) hci hq, hpm.2⟩ rfl hna (by rw [← hnl]; exact hl.1) rfl (lv_room hst) hd (by rw [C.2.2.1.2.1]; exact C.2.2.2.2.2)
theorem j_mmax {x y v : Int32} (C : Cx X l D cy cc nL Ts own rm) (h1 : Cond.methodLink own index Lib.Math.max.name ∈ Ts) (h2 : Cond.static Lib.Math.max.name ∈ Ts) (h3 : Cond.initialized "java/lang/Math" ∈ Ts) (h4 : Cond.code Lib.Math.max.name Lib.Math.max.code 2 (some .int) ∈ Ts) (hR : 1 ≤ rm.frames ∧ (rest.map fun v => v.category).sum + 13 ≤ rm.locals) (hv : (if x < y then y else x) = v) (hd : decode cc pc = .ok (.invokestatic index, 3)) (k : J X ws (pc + 3) lv (.int v :: rest)) : J X ws pc lv (.int y :: .int x :: rest) := by
  subst hv
  intro H locs ls hP hD hS hl
  exact va_mmax C.1.1 C.1.2 (by rw [C.2.1.1, ← C.2.2.1.2.2.2]; exact hl.1.symm) C.2.1.2.1 (C.2.1.2.2 _ h1) (C.2.1.2.2 _ h2) (C.2.1.2.2 _ h3) (C.2.1.2.2 _ h4) (by rw [C.2.2.1.2.1]; exact hR.1) (by rw [C.2.2.1.2.1]; exact hR.2) (by rw [C.2.2.1.2.1]; exact C.2.2.2.2.2.1) (by rw [C.2.2.1.2.1]; exact C.2.2.2.2.2.2) hd (k H locs ls hP hD hS hl)
theorem j_mmin {x y v : Int32} (C : Cx X l D cy cc nL Ts own rm) (h1 : Cond.methodLink own index Lib.Math.min.name ∈ Ts) (h2 : Cond.static Lib.Math.min.name ∈ Ts) (h3 : Cond.initialized "java/lang/Math" ∈ Ts) (h4 : Cond.code Lib.Math.min.name Lib.Math.min.code 2 (some .int) ∈ Ts) (hR : 1 ≤ rm.frames ∧ (rest.map fun v => v.category).sum + 13 ≤ rm.locals) (hv : (if y < x then y else x) = v) (hd : decode cc pc = .ok (.invokestatic index, 3)) (k : J X ws (pc + 3) lv (.int v :: rest)) : J X ws pc lv (.int y :: .int x :: rest) := by
  subst hv
  intro H locs ls hP hD hS hl
  exact va_mmin C.1.1 C.1.2 (by rw [C.2.1.1, ← C.2.2.1.2.2.2]; exact hl.1.symm) C.2.1.2.1 (C.2.1.2.2 _ h1) (C.2.1.2.2 _ h2) (C.2.1.2.2 _ h3) (C.2.1.2.2 _ h4) (by rw [C.2.2.1.2.1]; exact hR.1) (by rw [C.2.2.1.2.1]; exact hR.2) (by rw [C.2.2.1.2.1]; exact C.2.2.2.2.2.1) (by rw [C.2.2.1.2.1]; exact C.2.2.2.2.2.2) hd (k H locs ls hP hD hS hl)
theorem j_mabs {x v : Int32} (C : Cx X l D cy cc nL Ts own rm) (h1 : Cond.methodLink own index Lib.Math.abs.name ∈ Ts) (h2 : Cond.static Lib.Math.abs.name ∈ Ts) (h3 : Cond.initialized "java/lang/Math" ∈ Ts) (h4 : Cond.code Lib.Math.abs.name Lib.Math.abs.code 1 (some .int) ∈ Ts) (hR : 1 ≤ rm.frames ∧ (rest.map fun v => v.category).sum + 13 ≤ rm.locals) (hv : (if 0 ≤ x then x else 0 - x) = v) (hd : decode cc pc = .ok (.invokestatic index, 3)) (k : J X ws (pc + 3) lv (.int v :: rest)) : J X ws pc lv (.int x :: rest) := by
  subst hv
  intro H locs ls hP hD hS hl
  exact va_mabs C.1.1 C.1.2 (by rw [C.2.1.1, ← C.2.2.1.2.2.2]; exact hl.1.symm) C.2.1.2.1 (C.2.1.2.2 _ h1) (C.2.1.2.2 _ h2) (C.2.1.2.2 _ h3) (C.2.1.2.2 _ h4) (by rw [C.2.2.1.2.1]; exact hR.1) (by rw [C.2.2.1.2.1]; exact hR.2) (by rw [C.2.2.1.2.1]; exact C.2.2.2.2.2.1) (by rw [C.2.2.1.2.1]; exact C.2.2.2.2.2.2) hd (k H locs ls hP hD hS hl)
end JD
theorem mx_n {a b : Nat} (ha : a < 2 ^ 31) (hb : b < 2 ^ 31) : (if nI a < nI b then nI b else nI a) = nI (max a b) := by
  by_cases h : a < b
  · rw [if_pos ((nI_ltI ha hb).mpr h), Nat.max_eq_right (by omega)]
  · rw [if_neg (fun e => h ((nI_ltI ha hb).mp e)), Nat.max_eq_left (by omega)]
theorem mn_n {a b : Nat} (ha : a < 2 ^ 31) (hb : b < 2 ^ 31) : (if nI b < nI a then nI b else nI a) = nI (min a b) := by
  by_cases h : b < a
  · rw [if_pos ((nI_ltI hb ha).mpr h), Nat.min_eq_right (by omega)]
  · rw [if_neg (fun e => h ((nI_ltI hb ha).mp e)), Nat.min_eq_left (by omega)]
theorem mx_s {d q b : Nat} (hd : d < 2 ^ 30) (hq : q < 2 ^ 30) (hb : b < 2 ^ 30) : (if nI d < nI q - nI b then nI q - nI b else nI d) = nI (max d (q - b)) := by
  rcases Nat.lt_or_ge q b with h | h
  · have h1 := pk_sneg hb h
    have h2 : ¬ nI d < nI q - nI b := fun e => nI_pos (n := d) (by omega) (by
      rw [Int32.lt_iff_toInt_lt] at e h1 ⊢
      omega)
    rw [if_neg h2, show q - b = 0 by omega, Nat.max_eq_left (Nat.zero_le _)]
  · rw [pk_sub h]
    exact mx_n (by omega) (by omega)
