/-! the walk judgement: J X ws pc lv st: from any heap that holds the world ws, with locals lv and stack st, the machine comes to its end -/
abbrev Cxt : Type := Program × Launch × Env × Room × State × MethodId × Array Value × List Frame × Method × Code × va_G × (Nat → Prop) × (State → Prop) × Nat × Nat × Nat
abbrev xP (X : Cxt) : Program := X.1
abbrev xL (X : Cxt) : Launch := X.2.1
abbrev xE (X : Cxt) : Env := X.2.2.1
abbrev xR (X : Cxt) : Room := X.2.2.2.1
abbrev xS (X : Cxt) : State := X.2.2.2.2.1
abbrev xM (X : Cxt) : MethodId := X.2.2.2.2.2.1
abbrev xa (X : Cxt) : Array Value := X.2.2.2.2.2.2.1
abbrev xB (X : Cxt) : List Frame := X.2.2.2.2.2.2.2.1
abbrev xMe (X : Cxt) : Method := X.2.2.2.2.2.2.2.2.1
abbrev xC (X : Cxt) : Code := X.2.2.2.2.2.2.2.2.2.1
abbrev xD (X : Cxt) : va_G := X.2.2.2.2.2.2.2.2.2.2.1
abbrev xA (X : Cxt) : Nat → Prop := X.2.2.2.2.2.2.2.2.2.2.2.1
abbrev xQ (X : Cxt) : State → Prop := X.2.2.2.2.2.2.2.2.2.2.2.2.1
abbrev xN (X : Cxt) : Nat := X.2.2.2.2.2.2.2.2.2.2.2.2.2.1
abbrev xk (X : Cxt) : Nat := X.2.2.2.2.2.2.2.2.2.2.2.2.2.2.1
abbrev xn (X : Cxt) : Nat := X.2.2.2.2.2.2.2.2.2.2.2.2.2.2.2
/-- the classes of arrays: [I, [Z, [Person, [Sheet, [[I -/
abbrev tyL (cy : Nat → ClassId) : List (ClassId × FieldType) := [(cy 0, .int), (cy 1, .boolean), (cy 2, .object "DebtLamps$Person"), (cy 3, .object "DebtLamps$Sheet"), (cy 4, .array .int)]
/-- links between nest mates -/
def nfL : List (String × Nat × String × String × String) := [("DebtLamps", 89, "DebtLamps$Town", "kindOf", "[I"), ("DebtLamps", 105, "DebtLamps$Town", "pence", "[[I"), ("DebtLamps", 83, "DebtLamps$Town", "people", "I"), ("DebtLamps", 102, "DebtLamps$Town", "bellSteps", "I"), ("DebtLamps", 208, "DebtLamps$Trail", "value", "I"), ("DebtLamps", 154, "DebtLamps$Readings", "count", "I"), ("DebtLamps", 186, "DebtLamps$Sheet", "cells", "[I"), ("DebtLamps", 183, "DebtLamps$Sheet", "lane", "I")]
def nmL : List (String × Nat × MethodName) := [("DebtLamps", 11, yX5_init), ("DebtLamps$Town", 11, yX1_init), ("DebtLamps$Town", 14, yX3_init), ("DebtLamps$Rich", 1, yX1_init), ("DebtLamps$Town", 17, yX0_init), ("DebtLamps$Bankrupt", 1, yX3_init), ("DebtLamps", 26, yX6_init), ("DebtLamps", 33, yX2_init), ("DebtLamps", 40, yX4_init)]
def Nst (U : State) : Prop := (∀ q ∈ nfL, va_Nw (.fieldLinkNest q.1 q.2.1 q.2.2.1 q.2.2.2.1 q.2.2.2.2 "DebtLamps") U) ∧ ∀ q ∈ nmL, va_Nw (.methodLinkNest q.1 q.2.1 q.2.2 "DebtLamps") U
def Kn (D : va_G) (cy : Nat → ClassId) (U : State) : Prop := va_K D vwCl (tyL cy) U ∧ Nst U
theorem Kn.warm {D : va_G} {cy : Nat → ClassId} {s U : State} (hW : s.WarmedH U.vm) (h : Kn D cy s) : Kn D cy U := ⟨va_K.moved hW.alike h.1, fun q hq => va_Nw.warmF hW (h.2.1 q hq), fun q hq => va_Nw.warmM hW (h.2.2 q hq)⟩
theorem Kn.same {D : va_G} {cy : Nat → ClassId} {s U : State} (hv : s.vm = U.vm) (h : Kn D cy s) : Kn D cy U := ⟨va_K.moved (by rw [hv]; exact Vm.Alike.refl _) h.1, fun q hq => va_Nw.same rfl hv (h.2.1 q hq), fun q hq => va_Nw.same rfl hv (h.2.2 q hq)⟩
def J (X : Cxt) (ws : va_W) (pc : Nat) (lv : List (Nat × Value)) (st : List Value) : Prop :=
  ∀ (H : Heap) (locs : List Loc) (ls : Array Slot), va_P (xD X) vwCl ws H → va_D (xA X) ws → va_S (xA X) (xS X).heap H locs → lv_has ls (xN X) lv → W (xP X) (xL X) (xE X) (xR X) (xS X) (xM X) (xa X) (xB X) (xMe X) (xC X) H locs (xk X) (xn X) (xQ X) (F0 (xM X) pc ls st)
/-- what is known of the fixed things -/
def Cx (X : Cxt) (l : Launch) (D : va_G) (cy : Nat → ClassId) (cc : ByteArray) (nL : Nat) (Ts : List Cond) (own : String) (rm : Room) : Prop :=
  ((xP X).tables.exec = Jvm.exec ∧ (xC X).code = cc) ∧ ((xC X).maxLocals = nL ∧ (xS X).vm.findClass own = some (xM X).cls ∧ (∀ w ∈ Ts, w.before (xa X) (xS X) = true)) ∧ (xL X = l ∧ xR X = rm ∧ xD X = D ∧ xN X = nL) ∧ Kn D cy (xS X) ∧ (∀ q, (xS X).heap.size ≤ q → xA X q) ∧ xk X ≤ rm.cells ∧ xn X ≤ rm.slots
/-- a contract: from the world wc, the method y with the arguments av returns rv u, the world is w1 u, for some u with post u -/
def Ct (l : Launch) (y : MethodName) (wl : List Cond) (rm : Room) (D : va_G) (cy : Nat → ClassId) (av : List Value) (wc : va_W) {S : Type} (post : S → Prop) (rv : S → Option Value) (w1 : S → va_W) : Prop :=
  ∀ sz : Nat, Met l y wl rm (va_Pc av (fun U => U.heap.size = sz ∧ va_P D vwCl wc U.heap ∧ Kn D cy U ∧ va_D (fun _ => True) wc)) (fun _ st oc t => (∃ u : S, oc = .returned (rv u) ∧ post u ∧ va_P D vwCl (w1 u) t.heap ∧ va_D (va_A wc sz) (w1 u)) ∧ va_F (va_A wc sz) st t) rm.cells rm.slots (va_A wc sz)
/-- how a walk ends -/
def Rt (X : Cxt) (ret : Option FieldType) {S : Type} (post : S → Prop) (rv : S → Option Value) (w1 : S → va_W) : Prop :=
  xQ X = MQ (xB X) (fun _ st oc t => (∃ u : S, oc = .returned (rv u) ∧ post u ∧ va_P (xD X) vwCl (w1 u) t.heap ∧ va_D (xA X) (w1 u)) ∧ va_F (xA X) st t) (xa X) (xS X) (xk X) (xn X) (xA X) ∧ (xMe X).sig.returnType = ret ∧ (xMe X).locks = false
theorem Ct.of {l : Launch} {y : MethodName} {wl wl' : List Cond} {rm : Room} {D : va_G} {cy : Nat → ClassId} {av : List Value} {wc : va_W} {S : Type} {post : S → Prop} {rv : S → Option Value} {w1 : S → va_W} {cc : ByteArray} {nL : Nat} {ret : Option FieldType} (hw : wl = .code y cc nL ret :: wl') (hy : plainName y.cls = true) (hz : rm.cells = 0 ∧ rm.slots = 0) (hle : (lg_sl av).length ≤ nL)
    (body : ∀ X : Cxt, Cx X l D cy cc nL wl y.cls rm → Rt X ret post rv w1 → J X wc 0 (lv_args 0 av) []) : Ct l y wl rm D cy av wc post rv w1 := by
  intro sz
  rw [hz.1, hz.2]
  refine Met.ofW (cc := cc) (maxL := nL) (ret := ret) hy hw ?_
  intro p e s m args below meth c s₁ B hml hv
  obtain ⟨rfl, hsz, hP, hK, hD0⟩ := hv
  subst hsz
  rw [lg_entry_eq]
  have hts := atoms_spec (ws := wl) B.pre
  exact body (p, l, e, (headSpec wl rm).room, s, m, av.toArray, below, meth, c, D, va_A wc s.heap.size, _, nL, 0, 0)
    ⟨⟨B.exec, B.bytes⟩, ⟨hml, findClass_of_methodNamed B.named, hts⟩, ⟨rfl, rfl, rfl, rfl⟩, hK, fun q h => Or.inr h, Nat.zero_le _, Nat.zero_le _⟩ ⟨rfl, B.returns, B.notSynchronized⟩ s.heap [] _ hP hD0.self va_S.rf (lv_entry av hle)
section JR
variable {X : Cxt} {l : Launch} {D : va_G} {cy : Nat → ClassId} {cc : ByteArray} {nL : Nat} {Ts : List Cond} {own : String} {rm : Room} {ws : va_W} {pc : Nat} {lv : List (Nat × Value)} {st : List Value}
theorem j_iret {S : Type} {post : S → Prop} {rv : S → Option Value} {w1 : S → va_W} {v : Int32} (C : Cx X l D cy cc nL Ts own rm) (E : Rt X (some .int) post rv w1) (hd : decode cc pc = .ok (.ireturn, 1)) (u : S) (hp : post u) (hv : rv u = some (.int v)) (hw : w1 u = ws) : J X ws pc lv [.int v] := by
  subst hw
  intro H locs ls hP hD hS hl
  rw [E.1]
  exact W.iret C.1.1 C.1.2 E.2.1 (fun t ht hW => ⟨⟨u, by rw [hv], hp, by rw [ht]; exact hP, hD⟩, hS.F ht⟩) hS.2.2 hd E.2.2
theorem j_zret {S : Type} {post : S → Prop} {rv : S → Option Value} {w1 : S → va_W} {v : Int32} {ty : FieldType} (C : Cx X l D cy cc nL Ts own rm) (E : Rt X (some ty) post rv w1) (hd : decode cc pc = .ok (.ireturn, 1)) (hn : narrow ty (.int v) = .int v) (u : S) (hp : post u) (hv : rv u = some (.int v)) (hw : w1 u = ws) : J X ws pc lv [.int v] := by
  subst hw
  intro H locs ls hP hD hS hl
  rw [E.1]
  exact W.zret C.1.1 C.1.2 E.2.1 hn (fun t ht hW => ⟨⟨u, by rw [hv], hp, by rw [ht]; exact hP, hD⟩, hS.F ht⟩) hS.2.2 hd E.2.2
theorem j_lret {S : Type} {post : S → Prop} {rv : S → Option Value} {w1 : S → va_W} {v : Int64} (C : Cx X l D cy cc nL Ts own rm) (E : Rt X (some .long) post rv w1) (hd : decode cc pc = .ok (.lreturn, 1)) (u : S) (hp : post u) (hv : rv u = some (.long v)) (hw : w1 u = ws) : J X ws pc lv [.long v] := by
  subst hw
  intro H locs ls hP hD hS hl
  rw [E.1]
  exact W.lret C.1.1 C.1.2 E.2.1 (fun t ht hW => ⟨⟨u, by rw [hv], hp, by rw [ht]; exact hP, hD⟩, hS.F ht⟩) hS.2.2 hd E.2.2
theorem j_aret {S : Type} {post : S → Prop} {rv : S → Option Value} {w1 : S → va_W} {a : Nat} {n : String} (C : Cx X l D cy cc nL Ts own rm) (E : Rt X (some (.object n)) post rv w1) (hd : decode cc pc = .ok (.areturn, 1)) (u : S) (hp : post u) (hv : rv u = some (.ref a)) (hw : w1 u = ws) : J X ws pc lv [.ref a] := by
  subst hw
  intro H locs ls hP hD hS hl
  rw [E.1]
  exact W.aret C.1.1 C.1.2 E.2.1 (Or.inl ⟨n, rfl⟩) (Or.inr ⟨a, rfl⟩) (fun t ht hW => ⟨⟨u, by rw [hv], hp, by rw [ht]; exact hP, hD⟩, hS.F ht⟩) hS.2.2 hd E.2.2
theorem j_vret {S : Type} {post : S → Prop} {rv : S → Option Value} {w1 : S → va_W} (C : Cx X l D cy cc nL Ts own rm) (E : Rt X none post rv w1) (hd : decode cc pc = .ok (.return_, 1)) (u : S) (hp : post u) (hv : rv u = none) (hw : w1 u = ws) : J X ws pc lv [] := by
  subst hw
  intro H locs ls hP hD hS hl
  rw [E.1]
  exact W.vret C.1.1 C.1.2 E.2.1 (fun t ht hW => ⟨⟨u, by rw [hv], hp, by rw [ht]; exact hP, hD⟩, hS.F ht⟩) hS.2.2 hd E.2.2
theorem j_iconst (C : Cx X l D cy cc nL Ts own rm) {n : Int} {v : Int32} (hd : decode cc pc = .ok (.iconst n, 1)) (hv : Int32.ofInt n = v) (k : J X ws (pc + 1) lv (.int v :: st)) : J X ws pc lv st := fun H locs ls hP hD hS hl => lv_iconst C.1.1 C.1.2 hd hv (k H locs ls hP hD hS hl)
theorem j_bipush (C : Cx X l D cy cc nL Ts own rm) {n : Int} {v : Int32} (hd : decode cc pc = .ok (.bipush n, 2)) (hv : (Int8.ofInt n).toInt32 = v) (k : J X ws (pc + 2) lv (.int v :: st)) : J X ws pc lv st := fun H locs ls hP hD hS hl => lv_bipush C.1.1 C.1.2 hd hv (k H locs ls hP hD hS hl)
theorem j_sipush (C : Cx X l D cy cc nL Ts own rm) {n : Int} {v : Int32} (hd : decode cc pc = .ok (.sipush n, 3)) (hv : (Int16.ofInt n).toInt32 = v) (k : J X ws (pc + 3) lv (.int v :: st)) : J X ws pc lv st := fun H locs ls hP hD hS hl => lv_sipush C.1.1 C.1.2 hd hv (k H locs ls hP hD hS hl)
theorem j_lconst (C : Cx X l D cy cc nL Ts own rm) {n : Fin 2} {v : Int64} (hd : decode cc pc = .ok (.lconst n, 1)) (hv : Int64.ofNat (n : Nat) = v) (k : J X ws (pc + 1) lv (.long v :: st)) : J X ws pc lv st := fun H locs ls hP hD hS hl => lv_lconst C.1.1 C.1.2 hd hv (k H locs ls hP hD hS hl)
theorem j_iload_n (C : Cx X l D cy cc nL Ts own rm) {k0 : Fin 4} {i : Nat} {x : Int32} (q : Nat) (hd : decode cc pc = .ok (.iload_n k0, 1)) (hi : (k0 : Nat) = i) (hq : lv[q]? = some (i, .int x)) (k : J X ws (pc + 1) lv (.int x :: st)) : J X ws pc lv st := fun H locs ls hP hD hS hl => lv_iload_n C.1.1 C.1.2 hd hi (lv_at hl q hq) (k H locs ls hP hD hS hl)
theorem j_iload (C : Cx X l D cy cc nL Ts own rm) {i : Nat} {x : Int32} (q : Nat) (hd : decode cc pc = .ok (.iload i, 2)) (hq : lv[q]? = some (i, .int x)) (k : J X ws (pc + 2) lv (.int x :: st)) : J X ws pc lv st := fun H locs ls hP hD hS hl => lv_iload C.1.1 C.1.2 hd (lv_at hl q hq) (k H locs ls hP hD hS hl)
theorem j_istore_n (C : Cx X l D cy cc nL Ts own rm) {k0 : Fin 4} {i : Nat} {x : Int32} {lv' : List (Nat × Value)} (hd : decode cc pc = .ok (.istore_n k0, 1)) (hi : (k0 : Nat) = i) (hn : i < nL) (hv : (i, Value.int x) :: lv.filter (fun q => !(q.1 == i) && !(q.1 + 1 == i && q.2.category == 2)) = lv') (k : J X ws (pc + 1) lv' st) : J X ws pc lv (.int x :: st) := fun H locs ls hP hD hS hl => lv_istore_n C.1.1 C.1.2 hd hi hl (by rw [C.2.2.1.2.2.2]; exact hn) hv (fun ls' hl' => k H locs ls' hP hD hS hl')
theorem j_istore (C : Cx X l D cy cc nL Ts own rm) {i : Nat} {x : Int32} {lv' : List (Nat × Value)} (hd : decode cc pc = .ok (.istore i, 2)) (hn : i < nL) (hv : (i, Value.int x) :: lv.filter (fun q => !(q.1 == i) && !(q.1 + 1 == i && q.2.category == 2)) = lv') (k : J X ws (pc + 2) lv' st) : J X ws pc lv (.int x :: st) := fun H locs ls hP hD hS hl => lv_istore C.1.1 C.1.2 hd hl (by rw [C.2.2.1.2.2.2]; exact hn) hv (fun ls' hl' => k H locs ls' hP hD hS hl')
theorem j_lload_n (C : Cx X l D cy cc nL Ts own rm) {k0 : Fin 4} {i : Nat} {x : Int64} (q : Nat) (hd : decode cc pc = .ok (.lload_n k0, 1)) (hi : (k0 : Nat) = i) (hq : lv[q]? = some (i, .long x)) (k : J X ws (pc + 1) lv (.long x :: st)) : J X ws pc lv st := fun H locs ls hP hD hS hl => lv_lload_n C.1.1 C.1.2 hd hi (lv_at hl q hq) (k H locs ls hP hD hS hl)
theorem j_lload (C : Cx X l D cy cc nL Ts own rm) {i : Nat} {x : Int64} (q : Nat) (hd : decode cc pc = .ok (.lload i, 2)) (hq : lv[q]? = some (i, .long x)) (k : J X ws (pc + 2) lv (.long x :: st)) : J X ws pc lv st := fun H locs ls hP hD hS hl => lv_lload C.1.1 C.1.2 hd (lv_at hl q hq) (k H locs ls hP hD hS hl)
theorem j_lstore_n (C : Cx X l D cy cc nL Ts own rm) {k0 : Fin 4} {i : Nat} {x : Int64} {lv' : List (Nat × Value)} (hd : decode cc pc = .ok (.lstore_n k0, 1)) (hi : (k0 : Nat) = i) (hn : i + 1 < nL) (hv : (i, Value.long x) :: lv.filter (fun q => !(q.1 == i) && (!(q.1 == i + 1) && !(q.1 + 1 == i && q.2.category == 2))) = lv') (k : J X ws (pc + 1) lv' st) : J X ws pc lv (.long x :: st) := fun H locs ls hP hD hS hl => lv_lstore_n C.1.1 C.1.2 hd hi hl (by rw [C.2.2.1.2.2.2]; exact hn) hv (fun ls' hl' => k H locs ls' hP hD hS hl')
theorem j_lstore (C : Cx X l D cy cc nL Ts own rm) {i : Nat} {x : Int64} {lv' : List (Nat × Value)} (hd : decode cc pc = .ok (.lstore i, 2)) (hn : i + 1 < nL) (hv : (i, Value.long x) :: lv.filter (fun q => !(q.1 == i) && (!(q.1 == i + 1) && !(q.1 + 1 == i && q.2.category == 2))) = lv') (k : J X ws (pc + 2) lv' st) : J X ws pc lv (.long x :: st) := fun H locs ls hP hD hS hl => lv_lstore C.1.1 C.1.2 hd hl (by rw [C.2.2.1.2.2.2]; exact hn) hv (fun ls' hl' => k H locs ls' hP hD hS hl')
theorem j_aload_n (C : Cx X l D cy cc nL Ts own rm) {k0 : Fin 4} {i : Nat} {x : Nat} (q : Nat) (hd : decode cc pc = .ok (.aload_n k0, 1)) (hi : (k0 : Nat) = i) (hq : lv[q]? = some (i, .ref x)) (k : J X ws (pc + 1) lv (.ref x :: st)) : J X ws pc lv st := fun H locs ls hP hD hS hl => lv_aload_n C.1.1 C.1.2 hd hi (lv_at hl q hq) (k H locs ls hP hD hS hl)
theorem j_aload (C : Cx X l D cy cc nL Ts own rm) {i : Nat} {x : Nat} (q : Nat) (hd : decode cc pc = .ok (.aload i, 2)) (hq : lv[q]? = some (i, .ref x)) (k : J X ws (pc + 2) lv (.ref x :: st)) : J X ws pc lv st := fun H locs ls hP hD hS hl => lv_aload C.1.1 C.1.2 hd (lv_at hl q hq) (k H locs ls hP hD hS hl)
theorem j_astore_n (C : Cx X l D cy cc nL Ts own rm) {k0 : Fin 4} {i : Nat} {x : Nat} {lv' : List (Nat × Value)} (hd : decode cc pc = .ok (.astore_n k0, 1)) (hi : (k0 : Nat) = i) (hn : i < nL) (hv : (i, Value.ref x) :: lv.filter (fun q => !(q.1 == i) && !(q.1 + 1 == i && q.2.category == 2)) = lv') (k : J X ws (pc + 1) lv' st) : J X ws pc lv (.ref x :: st) := fun H locs ls hP hD hS hl => lv_astore_n C.1.1 C.1.2 hd hi hl (by rw [C.2.2.1.2.2.2]; exact hn) hv (fun ls' hl' => k H locs ls' hP hD hS hl')
theorem j_astore (C : Cx X l D cy cc nL Ts own rm) {i : Nat} {x : Nat} {lv' : List (Nat × Value)} (hd : decode cc pc = .ok (.astore i, 2)) (hn : i < nL) (hv : (i, Value.ref x) :: lv.filter (fun q => !(q.1 == i) && !(q.1 + 1 == i && q.2.category == 2)) = lv') (k : J X ws (pc + 2) lv' st) : J X ws pc lv (.ref x :: st) := fun H locs ls hP hD hS hl => lv_astore C.1.1 C.1.2 hd hl (by rw [C.2.2.1.2.2.2]; exact hn) hv (fun ls' hl' => k H locs ls' hP hD hS hl')
theorem j_iinc (C : Cx X l D cy cc nL Ts own rm) {i : Nat} {n : Int} {x v : Int32} {lv' : List (Nat × Value)} (q : Nat) (hd : decode cc pc = .ok (.iinc i n, 3)) (hq : lv[q]? = some (i, .int x)) (hv : x + Int32.ofInt n = v) (hn : i < nL) (hf : (i, Value.int v) :: lv.filter (fun q => !(q.1 == i) && !(q.1 + 1 == i && q.2.category == 2)) = lv') (k : J X ws (pc + 3) lv' st) : J X ws pc lv st := fun H locs ls hP hD hS hl => lv_iinc C.1.1 C.1.2 hd hl hq hv (by rw [C.2.2.1.2.2.2]; exact hn) hf (fun ls' hl' => k H locs ls' hP hD hS hl')
theorem j_iadd (C : Cx X l D cy cc nL Ts own rm) {x y v : Int32} (hd : decode cc pc = .ok (.iadd, 1)) (hv : x + y = v) (k : J X ws (pc + 1) lv (.int v :: st)) : J X ws pc lv (.int y :: .int x :: st) := fun H locs ls hP hD hS hl => lv_iadd C.1.1 C.1.2 hd (hv.symm ▸ k H locs ls hP hD hS hl)
theorem j_isub (C : Cx X l D cy cc nL Ts own rm) {x y v : Int32} (hd : decode cc pc = .ok (.isub, 1)) (hv : x - y = v) (k : J X ws (pc + 1) lv (.int v :: st)) : J X ws pc lv (.int y :: .int x :: st) := fun H locs ls hP hD hS hl => lv_isub C.1.1 C.1.2 hd (hv.symm ▸ k H locs ls hP hD hS hl)
theorem j_imul (C : Cx X l D cy cc nL Ts own rm) {x y v : Int32} (hd : decode cc pc = .ok (.imul, 1)) (hv : x * y = v) (k : J X ws (pc + 1) lv (.int v :: st)) : J X ws pc lv (.int y :: .int x :: st) := fun H locs ls hP hD hS hl => lv_imul C.1.1 C.1.2 hd (hv.symm ▸ k H locs ls hP hD hS hl)
theorem j_iand (C : Cx X l D cy cc nL Ts own rm) {x y v : Int32} (hd : decode cc pc = .ok (.iand, 1)) (hv : x &&& y = v) (k : J X ws (pc + 1) lv (.int v :: st)) : J X ws pc lv (.int y :: .int x :: st) := fun H locs ls hP hD hS hl => lv_iand C.1.1 C.1.2 hd (hv.symm ▸ k H locs ls hP hD hS hl)
theorem j_ior (C : Cx X l D cy cc nL Ts own rm) {x y v : Int32} (hd : decode cc pc = .ok (.ior, 1)) (hv : x ||| y = v) (k : J X ws (pc + 1) lv (.int v :: st)) : J X ws pc lv (.int y :: .int x :: st) := fun H locs ls hP hD hS hl => lv_ior C.1.1 C.1.2 hd (hv.symm ▸ k H locs ls hP hD hS hl)
theorem j_ixor (C : Cx X l D cy cc nL Ts own rm) {x y v : Int32} (hd : decode cc pc = .ok (.ixor, 1)) (hv : x ^^^ y = v) (k : J X ws (pc + 1) lv (.int v :: st)) : J X ws pc lv (.int y :: .int x :: st) := fun H locs ls hP hD hS hl => lv_ixor C.1.1 C.1.2 hd (hv.symm ▸ k H locs ls hP hD hS hl)
theorem j_ishl (C : Cx X l D cy cc nL Ts own rm) {x y v : Int32} (hd : decode cc pc = .ok (.ishl, 1)) (hv : x <<< (y &&& 31) = v) (k : J X ws (pc + 1) lv (.int v :: st)) : J X ws pc lv (.int y :: .int x :: st) := fun H locs ls hP hD hS hl => lv_ishl C.1.1 C.1.2 hd (hv.symm ▸ k H locs ls hP hD hS hl)
theorem j_ishr (C : Cx X l D cy cc nL Ts own rm) {x y v : Int32} (hd : decode cc pc = .ok (.ishr, 1)) (hv : x >>> (y &&& 31) = v) (k : J X ws (pc + 1) lv (.int v :: st)) : J X ws pc lv (.int y :: .int x :: st) := fun H locs ls hP hD hS hl => lv_ishr C.1.1 C.1.2 hd (hv.symm ▸ k H locs ls hP hD hS hl)
theorem j_iushr (C : Cx X l D cy cc nL Ts own rm) {x y v : Int32} (hd : decode cc pc = .ok (.iushr, 1)) (hv : (x.toUInt32 >>> (y.toUInt32 &&& Int32.toUInt32 31)).toInt32 = v) (k : J X ws (pc + 1) lv (.int v :: st)) : J X ws pc lv (.int y :: .int x :: st) := fun H locs ls hP hD hS hl => lv_iushr C.1.1 C.1.2 hd hv (k H locs ls hP hD hS hl)
theorem j_idiv (C : Cx X l D cy cc nL Ts own rm) {x y v : Int32} (hd : decode cc pc = .ok (.idiv, 1)) (hne : ¬ y = 0) (hv : x / y = v) (k : J X ws (pc + 1) lv (.int v :: st)) : J X ws pc lv (.int y :: .int x :: st) := fun H locs ls hP hD hS hl => lv_idiv C.1.1 C.1.2 hd hne (hv.symm ▸ k H locs ls hP hD hS hl)
theorem j_irem (C : Cx X l D cy cc nL Ts own rm) {x y v : Int32} (hd : decode cc pc = .ok (.irem, 1)) (hne : ¬ y = 0) (hv : x - x / y * y = v) (k : J X ws (pc + 1) lv (.int v :: st)) : J X ws pc lv (.int y :: .int x :: st) := fun H locs ls hP hD hS hl => lv_irem C.1.1 C.1.2 hd hne (hv.symm ▸ k H locs ls hP hD hS hl)
theorem j_ldiv (C : Cx X l D cy cc nL Ts own rm) {x y v : Int64} (hd : decode cc pc = .ok (.ldiv, 1)) (hne : ¬ y = 0) (hv : x / y = v) (k : J X ws (pc + 1) lv (.long v :: st)) : J X ws pc lv (.long y :: .long x :: st) := fun H locs ls hP hD hS hl => lv_ldiv C.1.1 C.1.2 hd hne (hv.symm ▸ k H locs ls hP hD hS hl)
theorem j_lrem (C : Cx X l D cy cc nL Ts own rm) {x y v : Int64} (hd : decode cc pc = .ok (.lrem, 1)) (hne : ¬ y = 0) (hv : x - x / y * y = v) (k : J X ws (pc + 1) lv (.long v :: st)) : J X ws pc lv (.long y :: .long x :: st) := fun H locs ls hP hD hS hl => lv_lrem C.1.1 C.1.2 hd hne (hv.symm ▸ k H locs ls hP hD hS hl)
theorem j_ineg (C : Cx X l D cy cc nL Ts own rm) {x v : Int32} (hd : decode cc pc = .ok (.ineg, 1)) (hv : -x = v) (k : J X ws (pc + 1) lv (.int v :: st)) : J X ws pc lv (.int x :: st) := fun H locs ls hP hD hS hl => lv_ineg C.1.1 C.1.2 hd (hv.symm ▸ k H locs ls hP hD hS hl)
theorem j_i2b (C : Cx X l D cy cc nL Ts own rm) {x v : Int32} (hd : decode cc pc = .ok (.i2b, 1)) (hv : x.toInt8.toInt32 = v) (k : J X ws (pc + 1) lv (.int v :: st)) : J X ws pc lv (.int x :: st) := fun H locs ls hP hD hS hl => lv_i2b C.1.1 C.1.2 hd hv (k H locs ls hP hD hS hl)
theorem j_i2s (C : Cx X l D cy cc nL Ts own rm) {x v : Int32} (hd : decode cc pc = .ok (.i2s, 1)) (hv : x.toInt16.toInt32 = v) (k : J X ws (pc + 1) lv (.int v :: st)) : J X ws pc lv (.int x :: st) := fun H locs ls hP hD hS hl => lv_i2s C.1.1 C.1.2 hd hv (k H locs ls hP hD hS hl)
theorem j_i2l (C : Cx X l D cy cc nL Ts own rm) {x : Int32} {v : Int64} (hd : decode cc pc = .ok (.i2l, 1)) (hv : x.toInt64 = v) (k : J X ws (pc + 1) lv (.long v :: st)) : J X ws pc lv (.int x :: st) := fun H locs ls hP hD hS hl => lv_i2l C.1.1 C.1.2 hd hv (k H locs ls hP hD hS hl)
theorem j_dup (C : Cx X l D cy cc nL Ts own rm) {x : Value} (hd : decode cc pc = .ok (.dup, 1)) (hv : x.category = 1) (k : J X ws (pc + 1) lv (x :: x :: st)) : J X ws pc lv (x :: st) := fun H locs ls hP hD hS hl => lv_dup C.1.1 C.1.2 hd hv (k H locs ls hP hD hS hl)
theorem j_dup2 (C : Cx X l D cy cc nL Ts own rm) {x y : Value} (hd : decode cc pc = .ok (.dup2, 1)) (hx : x.category = 1) (hy : y.category = 1) (k : J X ws (pc + 1) lv (x :: y :: x :: y :: st)) : J X ws pc lv (x :: y :: st) := fun H locs ls hP hD hS hl => lv_dup2_11 C.1.1 C.1.2 hd hx hy (k H locs ls hP hD hS hl)
theorem j_goto (C : Cx X l D cy cc nL Ts own rm) {off : Int} {tgt : Nat} (hd : decode cc pc = .ok (.goto off, 3)) (ht : (pc : Int) + off = (tgt : Int)) (k : J X ws tgt lv st) : J X ws pc lv st := fun H locs ls hP hD hS hl => lv_goto C.1.1 C.1.2 hd ht (k H locs ls hP hD hS hl)
theorem j_icmp_eq (C : Cx X l D cy cc nL Ts own rm) {x y : Int32} {off : Int} {tgt : Nat} (hd : decode cc pc = .ok (.if_icmp .eq off, 3)) (ht : (pc : Int) + off = (tgt : Int)) (kt : x = y → J X ws tgt lv st) (kf : ¬ x = y → J X ws (pc + 3) lv st) : J X ws pc lv (.int y :: .int x :: st) := fun H locs ls hP hD hS hl => lv_icmp_eq C.1.1 C.1.2 hd ht (fun h => kt h H locs ls hP hD hS hl) (fun h => kf h H locs ls hP hD hS hl)
theorem j_if_eq (C : Cx X l D cy cc nL Ts own rm) {x : Int32} {off : Int} {tgt : Nat} (hd : decode cc pc = .ok (.ifCond .eq off, 3)) (ht : (pc : Int) + off = (tgt : Int)) (kt : x = 0 → J X ws tgt lv st) (kf : ¬ x = 0 → J X ws (pc + 3) lv st) : J X ws pc lv (.int x :: st) := fun H locs ls hP hD hS hl => lv_if_eq C.1.1 C.1.2 hd ht (fun h => kt h H locs ls hP hD hS hl) (fun h => kf h H locs ls hP hD hS hl)
theorem j_icmp_eqN (C : Cx X l D cy cc nL Ts own rm) {a b : Nat} {off : Int} {tgt : Nat} (hd : decode cc pc = .ok (.if_icmp .eq off, 3)) (ht : (pc : Int) + off = (tgt : Int)) (ha : a < 2 ^ 31) (hb : b < 2 ^ 31) (kt : a = b → J X ws tgt lv st) (kf : a ≠ b → J X ws (pc + 3) lv st) : J X ws pc lv (.int (nI b) :: .int (nI a) :: st) := j_icmp_eq C hd ht (fun h => kt ((nI_eq ha hb).mp h)) (fun h => kf (fun e => h ((nI_eq ha hb).mpr e)))
theorem j_if_eqN (C : Cx X l D cy cc nL Ts own rm) {a : Nat} {off : Int} {tgt : Nat} (hd : decode cc pc = .ok (.ifCond .eq off, 3)) (ht : (pc : Int) + off = (tgt : Int)) (ha : a < 2 ^ 31) (kt : a = 0 → J X ws tgt lv st) (kf : a ≠ 0 → J X ws (pc + 3) lv st) : J X ws pc lv (.int (nI a) :: st) := by
  have hb : 0 < 2 ^ 31 := by decide
  exact j_if_eq C hd ht (fun h => kt (by rw [← nI_0] at h; exact (nI_eq ha hb).mp h)) (fun h => kf (by rw [← nI_0] at h; exact fun e => h ((nI_eq ha hb).mpr e)))
theorem j_icmp_ne (C : Cx X l D cy cc nL Ts own rm) {x y : Int32} {off : Int} {tgt : Nat} (hd : decode cc pc = .ok (.if_icmp .ne off, 3)) (ht : (pc : Int) + off = (tgt : Int)) (kt : ¬ x = y → J X ws tgt lv st) (kf : x = y → J X ws (pc + 3) lv st) : J X ws pc lv (.int y :: .int x :: st) := fun H locs ls hP hD hS hl => lv_icmp_ne C.1.1 C.1.2 hd ht (fun h => kt h H locs ls hP hD hS hl) (fun h => kf h H locs ls hP hD hS hl)
theorem j_if_ne (C : Cx X l D cy cc nL Ts own rm) {x : Int32} {off : Int} {tgt : Nat} (hd : decode cc pc = .ok (.ifCond .ne off, 3)) (ht : (pc : Int) + off = (tgt : Int)) (kt : ¬ x = 0 → J X ws tgt lv st) (kf : x = 0 → J X ws (pc + 3) lv st) : J X ws pc lv (.int x :: st) := fun H locs ls hP hD hS hl => lv_if_ne C.1.1 C.1.2 hd ht (fun h => kt h H locs ls hP hD hS hl) (fun h => kf h H locs ls hP hD hS hl)
theorem j_icmp_neN (C : Cx X l D cy cc nL Ts own rm) {a b : Nat} {off : Int} {tgt : Nat} (hd : decode cc pc = .ok (.if_icmp .ne off, 3)) (ht : (pc : Int) + off = (tgt : Int)) (ha : a < 2 ^ 31) (hb : b < 2 ^ 31) (kt : a ≠ b → J X ws tgt lv st) (kf : a = b → J X ws (pc + 3) lv st) : J X ws pc lv (.int (nI b) :: .int (nI a) :: st) := j_icmp_ne C hd ht (fun h => kt (fun e => h ((nI_eq ha hb).mpr e))) (fun h => kf ((nI_eq ha hb).mp h))
theorem j_if_neN (C : Cx X l D cy cc nL Ts own rm) {a : Nat} {off : Int} {tgt : Nat} (hd : decode cc pc = .ok (.ifCond .ne off, 3)) (ht : (pc : Int) + off = (tgt : Int)) (ha : a < 2 ^ 31) (kt : a ≠ 0 → J X ws tgt lv st) (kf : a = 0 → J X ws (pc + 3) lv st) : J X ws pc lv (.int (nI a) :: st) := by
  have hb : 0 < 2 ^ 31 := by decide
  exact j_if_ne C hd ht (fun h => kt (by rw [← nI_0] at h; exact fun e => h ((nI_eq ha hb).mpr e))) (fun h => kf (by rw [← nI_0] at h; exact (nI_eq ha hb).mp h))
theorem j_icmp_lt (C : Cx X l D cy cc nL Ts own rm) {x y : Int32} {off : Int} {tgt : Nat} (hd : decode cc pc = .ok (.if_icmp .lt off, 3)) (ht : (pc : Int) + off = (tgt : Int)) (kt : x < y → J X ws tgt lv st) (kf : ¬ x < y → J X ws (pc + 3) lv st) : J X ws pc lv (.int y :: .int x :: st) := fun H locs ls hP hD hS hl => lv_icmp_lt C.1.1 C.1.2 hd ht (fun h => kt h H locs ls hP hD hS hl) (fun h => kf h H locs ls hP hD hS hl)
theorem j_if_lt (C : Cx X l D cy cc nL Ts own rm) {x : Int32} {off : Int} {tgt : Nat} (hd : decode cc pc = .ok (.ifCond .lt off, 3)) (ht : (pc : Int) + off = (tgt : Int)) (kt : x < 0 → J X ws tgt lv st) (kf : ¬ x < 0 → J X ws (pc + 3) lv st) : J X ws pc lv (.int x :: st) := fun H locs ls hP hD hS hl => lv_if_lt C.1.1 C.1.2 hd ht (fun h => kt h H locs ls hP hD hS hl) (fun h => kf h H locs ls hP hD hS hl)
theorem j_icmp_ltN (C : Cx X l D cy cc nL Ts own rm) {a b : Nat} {off : Int} {tgt : Nat} (hd : decode cc pc = .ok (.if_icmp .lt off, 3)) (ht : (pc : Int) + off = (tgt : Int)) (ha : a < 2 ^ 31) (hb : b < 2 ^ 31) (kt : a < b → J X ws tgt lv st) (kf : b ≤ a → J X ws (pc + 3) lv st) : J X ws pc lv (.int (nI b) :: .int (nI a) :: st) := j_icmp_lt C hd ht (fun h => kt ((nI_ltI ha hb).mp h)) (fun h => kf (Nat.not_lt.mp (fun e => h ((nI_ltI ha hb).mpr e))))
theorem j_if_ltN (C : Cx X l D cy cc nL Ts own rm) {a : Nat} {off : Int} {tgt : Nat} (hd : decode cc pc = .ok (.ifCond .lt off, 3)) (ht : (pc : Int) + off = (tgt : Int)) (ha : a < 2 ^ 31) (kt : a < 0 → J X ws tgt lv st) (kf : 0 ≤ a → J X ws (pc + 3) lv st) : J X ws pc lv (.int (nI a) :: st) := by
  have hb : 0 < 2 ^ 31 := by decide
  exact j_if_lt C hd ht (fun h => kt (by rw [← nI_0] at h; exact (nI_ltI ha hb).mp h)) (fun h => kf (by rw [← nI_0] at h; exact Nat.not_lt.mp (fun e => h ((nI_ltI ha hb).mpr e))))
theorem j_icmp_ge (C : Cx X l D cy cc nL Ts own rm) {x y : Int32} {off : Int} {tgt : Nat} (hd : decode cc pc = .ok (.if_icmp .ge off, 3)) (ht : (pc : Int) + off = (tgt : Int)) (kt : y ≤ x → J X ws tgt lv st) (kf : ¬ y ≤ x → J X ws (pc + 3) lv st) : J X ws pc lv (.int y :: .int x :: st) := fun H locs ls hP hD hS hl => lv_icmp_ge C.1.1 C.1.2 hd ht (fun h => kt h H locs ls hP hD hS hl) (fun h => kf h H locs ls hP hD hS hl)
theorem j_if_ge (C : Cx X l D cy cc nL Ts own rm) {x : Int32} {off : Int} {tgt : Nat} (hd : decode cc pc = .ok (.ifCond .ge off, 3)) (ht : (pc : Int) + off = (tgt : Int)) (kt : 0 ≤ x → J X ws tgt lv st) (kf : ¬ 0 ≤ x → J X ws (pc + 3) lv st) : J X ws pc lv (.int x :: st) := fun H locs ls hP hD hS hl => lv_if_ge C.1.1 C.1.2 hd ht (fun h => kt h H locs ls hP hD hS hl) (fun h => kf h H locs ls hP hD hS hl)
theorem j_icmp_geN (C : Cx X l D cy cc nL Ts own rm) {a b : Nat} {off : Int} {tgt : Nat} (hd : decode cc pc = .ok (.if_icmp .ge off, 3)) (ht : (pc : Int) + off = (tgt : Int)) (ha : a < 2 ^ 31) (hb : b < 2 ^ 31) (kt : b ≤ a → J X ws tgt lv st) (kf : a < b → J X ws (pc + 3) lv st) : J X ws pc lv (.int (nI b) :: .int (nI a) :: st) := j_icmp_ge C hd ht (fun h => kt ((nI_leI hb ha).mp h)) (fun h => kf (Nat.not_le.mp (fun e => h ((nI_leI hb ha).mpr e))))
theorem j_if_geN (C : Cx X l D cy cc nL Ts own rm) {a : Nat} {off : Int} {tgt : Nat} (hd : decode cc pc = .ok (.ifCond .ge off, 3)) (ht : (pc : Int) + off = (tgt : Int)) (ha : a < 2 ^ 31) (kt : 0 ≤ a → J X ws tgt lv st) (kf : a < 0 → J X ws (pc + 3) lv st) : J X ws pc lv (.int (nI a) :: st) := by
  have hb : 0 < 2 ^ 31 := by decide
  exact j_if_ge C hd ht (fun h => kt (by rw [← nI_0] at h; exact (nI_leI hb ha).mp h)) (fun h => kf (by rw [← nI_0] at h; exact Nat.not_le.mp (fun e => h ((nI_leI hb ha).mpr e))))
theorem j_icmp_gt (C : Cx X l D cy cc nL Ts own rm) {x y : Int32} {off : Int} {tgt : Nat} (hd : decode cc pc = .ok (.if_icmp .gt off, 3)) (ht : (pc : Int) + off = (tgt : Int)) (kt : y < x → J X ws tgt lv st) (kf : ¬ y < x → J X ws (pc + 3) lv st) : J X ws pc lv (.int y :: .int x :: st) := fun H locs ls hP hD hS hl => lv_icmp_gt C.1.1 C.1.2 hd ht (fun h => kt h H locs ls hP hD hS hl) (fun h => kf h H locs ls hP hD hS hl)
theorem j_if_gt (C : Cx X l D cy cc nL Ts own rm) {x : Int32} {off : Int} {tgt : Nat} (hd : decode cc pc = .ok (.ifCond .gt off, 3)) (ht : (pc : Int) + off = (tgt : Int)) (kt : 0 < x → J X ws tgt lv st) (kf : ¬ 0 < x → J X ws (pc + 3) lv st) : J X ws pc lv (.int x :: st) := fun H locs ls hP hD hS hl => lv_if_gt C.1.1 C.1.2 hd ht (fun h => kt h H locs ls hP hD hS hl) (fun h => kf h H locs ls hP hD hS hl)
theorem j_icmp_gtN (C : Cx X l D cy cc nL Ts own rm) {a b : Nat} {off : Int} {tgt : Nat} (hd : decode cc pc = .ok (.if_icmp .gt off, 3)) (ht : (pc : Int) + off = (tgt : Int)) (ha : a < 2 ^ 31) (hb : b < 2 ^ 31) (kt : b < a → J X ws tgt lv st) (kf : a ≤ b → J X ws (pc + 3) lv st) : J X ws pc lv (.int (nI b) :: .int (nI a) :: st) := j_icmp_gt C hd ht (fun h => kt ((nI_ltI hb ha).mp h)) (fun h => kf (Nat.not_lt.mp (fun e => h ((nI_ltI hb ha).mpr e))))
theorem j_if_gtN (C : Cx X l D cy cc nL Ts own rm) {a : Nat} {off : Int} {tgt : Nat} (hd : decode cc pc = .ok (.ifCond .gt off, 3)) (ht : (pc : Int) + off = (tgt : Int)) (ha : a < 2 ^ 31) (kt : 0 < a → J X ws tgt lv st) (kf : a ≤ 0 → J X ws (pc + 3) lv st) : J X ws pc lv (.int (nI a) :: st) := by
  have hb : 0 < 2 ^ 31 := by decide
  exact j_if_gt C hd ht (fun h => kt (by rw [← nI_0] at h; exact (nI_ltI hb ha).mp h)) (fun h => kf (by rw [← nI_0] at h; exact Nat.not_lt.mp (fun e => h ((nI_ltI hb ha).mpr e))))
theorem j_icmp_le (C : Cx X l D cy cc nL Ts own rm) {x y : Int32} {off : Int} {tgt : Nat} (hd : decode cc pc = .ok (.if_icmp .le off, 3)) (ht : (pc : Int) + off = (tgt : Int)) (kt : x ≤ y → J X ws tgt lv st) (kf : ¬ x ≤ y → J X ws (pc + 3) lv st) : J X ws pc lv (.int y :: .int x :: st) := fun H locs ls hP hD hS hl => lv_icmp_le C.1.1 C.1.2 hd ht (fun h => kt h H locs ls hP hD hS hl) (fun h => kf h H locs ls hP hD hS hl)
theorem j_if_le (C : Cx X l D cy cc nL Ts own rm) {x : Int32} {off : Int} {tgt : Nat} (hd : decode cc pc = .ok (.ifCond .le off, 3)) (ht : (pc : Int) + off = (tgt : Int)) (kt : x ≤ 0 → J X ws tgt lv st) (kf : ¬ x ≤ 0 → J X ws (pc + 3) lv st) : J X ws pc lv (.int x :: st) := fun H locs ls hP hD hS hl => lv_if_le C.1.1 C.1.2 hd ht (fun h => kt h H locs ls hP hD hS hl) (fun h => kf h H locs ls hP hD hS hl)
theorem j_icmp_leN (C : Cx X l D cy cc nL Ts own rm) {a b : Nat} {off : Int} {tgt : Nat} (hd : decode cc pc = .ok (.if_icmp .le off, 3)) (ht : (pc : Int) + off = (tgt : Int)) (ha : a < 2 ^ 31) (hb : b < 2 ^ 31) (kt : a ≤ b → J X ws tgt lv st) (kf : b < a → J X ws (pc + 3) lv st) : J X ws pc lv (.int (nI b) :: .int (nI a) :: st) := j_icmp_le C hd ht (fun h => kt ((nI_leI ha hb).mp h)) (fun h => kf (Nat.not_le.mp (fun e => h ((nI_leI ha hb).mpr e))))
theorem j_if_leN (C : Cx X l D cy cc nL Ts own rm) {a : Nat} {off : Int} {tgt : Nat} (hd : decode cc pc = .ok (.ifCond .le off, 3)) (ht : (pc : Int) + off = (tgt : Int)) (ha : a < 2 ^ 31) (kt : a ≤ 0 → J X ws tgt lv st) (kf : 0 < a → J X ws (pc + 3) lv st) : J X ws pc lv (.int (nI a) :: st) := by
  have hb : 0 < 2 ^ 31 := by decide
  exact j_if_le C hd ht (fun h => kt (by rw [← nI_0] at h; exact (nI_leI ha hb).mp h)) (fun h => kf (by rw [← nI_0] at h; exact Nat.not_le.mp (fun e => h ((nI_leI ha hb).mpr e))))
theorem j_table {x : Int32} {dflt lo hi : Int} {offs : Array Int} {len : Nat} (C : Cx X l D cy cc nL Ts own rm) (hd : decode cc pc = .ok (.tableswitch dflt lo hi offs, len)) (td : Nat) (htd : (pc : Int) + dflt = (td : Int)) (kd : (x.toInt < lo ∨ hi < x.toInt) → J X ws td lv st) (kt : ¬ x.toInt < lo → ¬ hi < x.toInt → ∃ (off : Int) (tgt : Nat), offs[(x.toInt - lo).toNat]? = some off ∧ (pc : Int) + off = (tgt : Int) ∧ J X ws tgt lv st) : J X ws pc lv (.int x :: st) := by
  intro H locs ls hP hD hS hl
  by_cases h1 : x.toInt < lo
  · exact lv_tableOut C.1.1 C.1.2 hd (Or.inl h1) htd (kd (Or.inl h1) H locs ls hP hD hS hl)
  · by_cases h2 : hi < x.toInt
    · exact lv_tableOut C.1.1 C.1.2 hd (Or.inr h2) htd (kd (Or.inr h2) H locs ls hP hD hS hl)
    · obtain ⟨off, tgt, h3, h4, k⟩ := kt h1 h2
      exact lv_tableIn C.1.1 C.1.2 hd h1 h2 h3 h4 (k H locs ls hP hD hS hl)
theorem j_lookup {x : Int32} {dflt : Int} {ps : Array (Int × Int)} {len : Nat} {off : Int} {tgt : Nat} (C : Cx X l D cy cc nL Ts own rm) (hd : decode cc pc = .ok (.lookupswitch dflt ps, len)) (hp : (ps.toList.zip (ps.toList.drop 1)).all (fun (a, next) => a.1 < next.1) = true) (ho : Op.lookupswitch.offset ps.toList dflt x.toInt = off) (ht : (pc : Int) + off = (tgt : Int)) (k : J X ws tgt lv st) : J X ws pc lv (.int x :: st) := fun H locs ls hP hD hS hl => lv_lookup C.1.1 C.1.2 hd hp ho ht (k H locs ls hP hD hS hl)
theorem j_ldc2 {index : Nat} {v : Int64} (C : Cx X l D cy cc nL Ts own rm) (hc : Cond.constantLong own index v ∈ Ts) (hd : decode cc pc = .ok (.ldc2_w index, 3)) (k : J X ws (pc + 3) lv (.long v :: st)) : J X ws pc lv st := fun H locs ls hP hD hS hl => lv_ldc2 C.1.1 C.1.2 C.2.1.2.1 (C.2.1.2.2 _ hc) hd (k H locs ls hP hD hS hl)
theorem j_get {a ci N index : Nat} {fs : List Value} {Cn ref : String} {T : u_T} {v : Value} (C : Cx X l D cy cc nL Ts own rm) (hin : ∀ w ∈ u_ws Cn T N, w ∈ Ts) (k0 : Nat) (hlk : Cond.fieldLink own index ref (T k0).2.1 (T k0).2.2.1 ∈ Ts) (q0 : Nat) (he : ws[q0]? = some (a, .inr (ci, fs))) (hc : vwCl[ci]? = some (Cn, T, N)) (hk : k0 < N) (hrf : (T k0).1 = ref) (hv : fs[k0]? = some v) (hd : decode cc pc = .ok (.getfield index, 3)) (k : J X ws (pc + 3) lv (v :: st)) : J X ws pc lv (.ref a :: st) := by
  intro H locs ls hP hD hS hl
  have hK := C.2.2.2.1.1
  rw [C.2.2.1.2.2.1] at hP
  exact va_get C.1.1 C.1.2 C.2.1.2.2 hin C.2.1.2.1 hK hP q0 he hc k0 hk (C.2.1.2.2 _ hlk) (fun x h => by rw [← hrf]; exact h) hv hd (k H locs ls (by rw [C.2.2.1.2.2.1]; exact hP) hD hS hl)
theorem j_getN {a ci N index : Nat} {fs : List Value} {Cn ref : String} {T : u_T} {v : Value} (C : Cx X l D cy cc nL Ts own rm) (hin : ∀ w ∈ u_ws Cn T N, w ∈ Ts) (k0 : Nat) (hlk : (own, index, ref, (T k0).2.1, (T k0).2.2.1) ∈ nfL) (q0 : Nat) (he : ws[q0]? = some (a, .inr (ci, fs))) (hc : vwCl[ci]? = some (Cn, T, N)) (hk : k0 < N) (hrf : (T k0).1 = ref) (hv : fs[k0]? = some v) (hd : decode cc pc = .ok (.getfield index, 3)) (k : J X ws (pc + 3) lv (v :: st)) : J X ws pc lv (.ref a :: st) := by
  intro H locs ls hP hD hS hl
  have hK := C.2.2.2.1.1
  rw [C.2.2.1.2.2.1] at hP
  exact va_getN (host := "DebtLamps") C.1.1 C.1.2 C.2.1.2.2 hin C.2.1.2.1 hK hP q0 he hc k0 hk (va_Nw.use rfl (C.2.2.2.1.2.1 _ hlk)) (fun x h => by rw [← hrf]; exact h) hv hd (k H locs ls (by rw [C.2.2.1.2.2.1]; exact hP) hD hS hl)
theorem j_put {a ci N index : Nat} {fs : List Value} {Cn ref : String} {T : u_T} {x : Int32} {ws' : va_W} (C : Cx X l D cy cc nL Ts own rm) (hin : ∀ w ∈ u_ws Cn T N, w ∈ Ts) (k0 : Nat) (hlk : Cond.fieldLink own index ref (T k0).2.1 (T k0).2.2.1 ∈ Ts) (ty0 : Nat → FieldType) (hty : ∀ k, k < N → parseFieldDescriptor (T k).2.2.1 = some (ty0 k)) (hnm : ∀ a, a < N → ∀ b, b < N → a ≠ b → (T a).2.1 ≠ (T b).2.1) (q0 : Nat) (he : ws[q0]? = some (a, .inr (ci, fs))) (hc : vwCl[ci]? = some (Cn, T, N)) (hk : k0 < N) (hrf : (T k0).1 = ref) (hfin : (T k0).2.2.2 = false) (hds : parseFieldDescriptor (T k0).2.2.1 = some .int) (hln : k0 < fs.length) (hw : ws.set q0 (a, .inr (ci, fs.set k0 (.int x))) = ws') (hd : decode cc pc = .ok (.putfield index, 3)) (k : J X ws' (pc + 3) lv st) : J X ws pc lv (.int x :: .ref a :: st) := by
  intro H locs ls hP hD hS hl
  have hK := C.2.2.2.1.1
  rw [C.2.2.1.2.2.1] at hP
  subst hw
  exact va_put C.1.1 C.1.2 C.2.1.2.2 hin ty0 hty hnm C.2.1.2.1 hK hP hD hS q0 he hc k0 hk (C.2.1.2.2 _ hlk) (fun x h => by rw [← hrf]; exact h) hfin hds rfl rfl hln hd (fun H1 locs1 p1 d1 s1 => k H1 locs1 ls (by rw [C.2.2.1.2.2.1]; exact p1) d1 s1 hl)
theorem j_putN {a ci N index : Nat} {fs : List Value} {Cn ref : String} {T : u_T} {x : Int32} {ws' : va_W} (C : Cx X l D cy cc nL Ts own rm) (hin : ∀ w ∈ u_ws Cn T N, w ∈ Ts) (k0 : Nat) (hlk : (own, index, ref, (T k0).2.1, (T k0).2.2.1) ∈ nfL) (ty0 : Nat → FieldType) (hty : ∀ k, k < N → parseFieldDescriptor (T k).2.2.1 = some (ty0 k)) (hnm : ∀ a, a < N → ∀ b, b < N → a ≠ b → (T a).2.1 ≠ (T b).2.1) (q0 : Nat) (he : ws[q0]? = some (a, .inr (ci, fs))) (hc : vwCl[ci]? = some (Cn, T, N)) (hk : k0 < N) (hrf : (T k0).1 = ref) (hfin : (T k0).2.2.2 = false) (hds : parseFieldDescriptor (T k0).2.2.1 = some .int) (hln : k0 < fs.length) (hw : ws.set q0 (a, .inr (ci, fs.set k0 (.int x))) = ws') (hd : decode cc pc = .ok (.putfield index, 3)) (k : J X ws' (pc + 3) lv st) : J X ws pc lv (.int x :: .ref a :: st) := by
  intro H locs ls hP hD hS hl
  have hK := C.2.2.2.1.1
  rw [C.2.2.1.2.2.1] at hP
  subst hw
  exact va_putN (host := "DebtLamps") C.1.1 C.1.2 C.2.1.2.2 hin ty0 hty hnm C.2.1.2.1 hK hP hD hS q0 he hc k0 hk (va_Nw.use rfl (C.2.2.2.1.2.1 _ hlk)) (fun x h => by rw [← hrf]; exact h) hfin hds rfl rfl hln hd (fun H1 locs1 p1 d1 s1 => k H1 locs1 ls (by rw [C.2.2.1.2.2.1]; exact p1) d1 s1 hl)
theorem j_iald {a n j : Nat} {f : Nat → Int32} {v : Int32} (C : Cx X l D cy cc nL Ts own rm) (q0 : Nat) (ha : ws[q0]? = some (a, .inl (cy 0, n, .inl f))) (hj : j < n) (hn : n < 2 ^ 31) (hv : f j = v) (hd : decode cc pc = .ok (.iaload, 1)) (k : J X ws (pc + 1) lv (.int v :: st)) : J X ws pc lv (.int (nI j) :: .ref a :: st) := by
  intro H locs ls hP hD hS hl
  have hK := C.2.2.2.1.1
  rw [C.2.2.1.2.2.1] at hP
  refine va_iald C.1.1 C.1.2 hK hP q0 0 ha rfl (vp_in_nI hj hn) hd ?_
  rw [nI_clamp (Nat.lt_trans hj hn), hv]
  exact k H locs ls (by rw [C.2.2.1.2.2.1]; exact hP) hD hS hl
theorem j_zald {a n j : Nat} {f : Nat → Int32} {v : Int32} (C : Cx X l D cy cc nL Ts own rm) (q0 : Nat) (ha : ws[q0]? = some (a, .inl (cy 1, n, .inl f))) (hj : j < n) (hn : n < 2 ^ 31) (hv : f j = v) (hd : decode cc pc = .ok (.baload, 1)) (k : J X ws (pc + 1) lv (.int v :: st)) : J X ws pc lv (.int (nI j) :: .ref a :: st) := by
  intro H locs ls hP hD hS hl
  have hK := C.2.2.2.1.1
  rw [C.2.2.1.2.2.1] at hP
  refine va_zald C.1.1 C.1.2 hK hP q0 1 ha rfl (vp_in_nI hj hn) hd ?_
  rw [nI_clamp (Nat.lt_trans hj hn), hv]
  exact k H locs ls (by rw [C.2.2.1.2.2.1]; exact hP) hD hS hl
theorem j_iast {a n j : Nat} {f : Nat → Int32} {x : Int32} {ws' : va_W} (C : Cx X l D cy cc nL Ts own rm) (q0 : Nat) (ha : ws[q0]? = some (a, .inl (cy 0, n, .inl f))) (hj : j < n) (hn : n < 2 ^ 31) (hw : ws.set q0 (a, .inl (cy 0, n, .inl (upd f j x))) = ws') (hd : decode cc pc = .ok (.iastore, 1)) (k : J X ws' (pc + 1) lv st) : J X ws pc lv (.int x :: .int (nI j) :: .ref a :: st) := by
  intro H locs ls hP hD hS hl
  have hK := C.2.2.2.1.1
  rw [C.2.2.1.2.2.1] at hP
  subst hw
  refine va_iast C.1.1 C.1.2 hK hP hD hS q0 0 ha rfl (vp_in_nI hj hn) hd (fun H1 locs1 p1 d1 s1 => ?_)
  rw [nI_clamp (Nat.lt_trans hj hn)] at p1 d1
  exact k H1 locs1 ls (by rw [C.2.2.1.2.2.1]; exact p1) d1 s1 hl
theorem j_zast {a n j : Nat} {f : Nat → Int32} {x : Int32} {ws' : va_W} (C : Cx X l D cy cc nL Ts own rm) (q0 : Nat) (ha : ws[q0]? = some (a, .inl (cy 1, n, .inl f))) (hj : j < n) (hn : n < 2 ^ 31) (hz : vp_nar .boolean x = x) (hw : ws.set q0 (a, .inl (cy 1, n, .inl (upd f j x))) = ws') (hd : decode cc pc = .ok (.bastore, 1)) (k : J X ws' (pc + 1) lv st) : J X ws pc lv (.int x :: .int (nI j) :: .ref a :: st) := by
  intro H locs ls hP hD hS hl
  have hK := C.2.2.2.1.1
  rw [C.2.2.1.2.2.1] at hP
  subst hw
  refine va_zast C.1.1 C.1.2 hK hP hD hS q0 1 ha rfl (vp_in_nI hj hn) hd (fun H1 locs1 p1 d1 s1 => ?_)
  rw [nI_clamp (Nat.lt_trans hj hn), hz] at p1 d1
  exact k H1 locs1 ls (by rw [C.2.2.1.2.2.1]; exact p1) d1 s1 hl
theorem j_aald {a n j b t0 : Nat} {f : Nat → Option Nat} {Cn : String} (C : Cx X l D cy cc nL Ts own rm) (q0 : Nat) (ha : ws[q0]? = some (a, .inl (cy t0, n, .inr (.inr (.inr (.inr f)))))) (ht : (tyL cy)[t0]? = some (cy t0, .object Cn)) (hj : j < n) (hn : n < 2 ^ 31) (hv : f j = some b) (hd : decode cc pc = .ok (.aaload, 1)) (k : J X ws (pc + 1) lv (.ref b :: st)) : J X ws pc lv (.int (nI j) :: .ref a :: st) := by
  intro H locs ls hP hD hS hl
  have hK := C.2.2.2.1.1
  rw [C.2.2.1.2.2.1] at hP
  refine va_aldq C.1.1 C.1.2 hK hP q0 t0 ha ht (vp_in_nI hj hn) hd ?_
  rw [nI_clamp (Nat.lt_trans hj hn), hv]
  exact k H locs ls (by rw [C.2.2.1.2.2.1]; exact hP) hD hS hl
theorem j_gald {a n j b : Nat} {f : Nat → Option Nat} (C : Cx X l D cy cc nL Ts own rm) (q0 : Nat) (ha : ws[q0]? = some (a, .inl (cy 4, n, .inr (.inr (.inr (.inr f)))))) (hj : j < n) (hn : n < 2 ^ 31) (hv : f j = some b) (hd : decode cc pc = .ok (.aaload, 1)) (k : J X ws (pc + 1) lv (.ref b :: st)) : J X ws pc lv (.int (nI j) :: .ref a :: st) := by
  intro H locs ls hP hD hS hl
  have hK := C.2.2.2.1.1
  rw [C.2.2.1.2.2.1] at hP
  have hc := nI_clamp (Nat.lt_trans hj hn)
  have hin : ¬ (nI j < 0 ∨ n ≤ (nI j).toNatClampNeg) := vp_in_nI hj hn
  exact W.aald (v := .ref b) (ty := .array .int) C.1.1 C.1.2 (hP q0 _ ha) ((hK.2 4 _ rfl).1 n (fun j => va_rf (f j))) rfl (fun q => by cases q) (by show ¬ (nI j < 0 ∨ (arrV _ _ _).slots.size ≤ _); rw [arrV_size]; exact hin) (by show (arrV _ _ _).slots[_]? = _; rw [hc, arrV_read _ _ hj, hv]; rfl) rfl rfl hd (k H locs ls (by rw [C.2.2.1.2.2.1]; exact hP) hD hS hl)
theorem J.eq {ws' : va_W} {lv' : List (Nat × Value)} {st' : List Value} (k : J X ws' pc lv' st') (hw : ws = ws') (hl : lv = lv') (hs : st = st') : J X ws pc lv st := by subst hw; subst hl; subst hs; exact k
theorem J.sub {lv' : List (Nat × Value)} (ks : List Nat) (hl : lv_pick lv ks = lv') (k : J X ws pc lv' st) : J X ws pc lv st := fun H locs ls hP hD hS h => k H locs ls hP hD hS (lv_sub h ks hl)
end JR
theorem dD_l {A : Nat → Prop} {w1 w2 : va_W} (h : va_D A (w1 ++ w2)) : va_D A w1 := by
  have e : ∀ (i : Nat) (p : Nat × va_E), w1[i]? = some p → (w1 ++ w2)[i]? = some p := fun i p hi => by
    rw [List.getElem?_append_left (List.getElem?_eq_some_iff.mp hi).1]; exact hi
  exact ⟨fun i j p q hi hj he => h.1 i j p q (e i p hi) (e j q hj) he, fun k q hk => h.2 k q (e k q hk)⟩
theorem dD_r {A : Nat → Prop} {w1 w2 : va_W} (h : va_D A (w1 ++ w2)) : va_D A w2 := by
  have e : ∀ (i : Nat) (p : Nat × va_E), w2[i]? = some p → (w1 ++ w2)[w1.length + i]? = some p := fun i p hi => by
    rw [List.getElem?_append_right (Nat.le_add_right _ _), Nat.add_sub_cancel_left]; exact hi
  exact ⟨fun i j p q hi hj he => Nat.add_left_cancel (h.1 _ _ p q (e i p hi) (e j q hj) he), fun k q hk => h.2 _ q (e k q hk)⟩
theorem dD_x {A : Nat → Prop} {w1 w2 : va_W} (h : va_D A (w1 ++ w2)) (i j : Nat) (p q : Nat × va_E) (hi : w1[i]? = some p) (hj : w2[j]? = some q) : p.1 ≠ q.1 := by
  intro he
  have h1 : i < w1.length := (List.getElem?_eq_some_iff.mp hi).1
  have h2 := h.1 i (w1.length + j) p q (by rw [List.getElem?_append_left h1]; exact hi) (by rw [List.getElem?_append_right (Nat.le_add_right _ _), Nat.add_sub_cancel_left]; exact hj) he
  omega
theorem dP_l {D : va_G} {cl : List vw_C} {w1 w2 : va_W} {H : Heap} (h : va_P D cl (w1 ++ w2) H) : va_P D cl w1 H := fun k q hk => h k q (by rw [List.getElem?_append_left (List.getElem?_eq_some_iff.mp hk).1]; exact hk)
theorem dP_r {D : va_G} {cl : List vw_C} {w1 w2 : va_W} {H : Heap} (h : va_P D cl (w1 ++ w2) H) : va_P D cl w2 H := fun k q hk => h (w1.length + k) q (by rw [List.getElem?_append_right (Nat.le_add_right _ _), Nat.add_sub_cancel_left]; exact hk)
/-- behind a call whose world is the middle one -/
theorem mid_join {A0 : Nat → Prop} {D : va_G} {cl : List vw_C} {A M B M' : va_W} {H H1 : Heap} (hP : va_P D cl (A ++ (M ++ B)) H) (hD : va_D A0 (A ++ (M ++ B))) (hk : ∀ q : Nat, q < H.size → ¬ va_A M H.size q → H1[q]? = H[q]?) (hF : ∀ q, va_A M H.size q → A0 q) (hP1 : va_P D cl M' H1) (hD1 : va_D (va_A M H.size) M') : va_P D cl (A ++ (M' ++ B)) H1 ∧ va_D A0 (A ++ (M' ++ B)) := by
  have nA : ∀ (k : Nat) (q : Nat × va_E), A[k]? = some q → q.1 < H.size ∧ ¬ va_A M H.size q.1 := fun k q hq => by
    have hlt := (dP_l hP k q hq).lt
    refine ⟨hlt, fun h => ?_⟩
    rcases h with ⟨k2, e, h⟩ | h
    · have h3 : (M ++ B)[k2]? = some (q.1, e) := by rw [List.getElem?_append_left (List.getElem?_eq_some_iff.mp h).1]; exact h
      exact dD_x hD k k2 q (q.1, e) hq h3 rfl
    · omega
  have nB : ∀ (k : Nat) (q : Nat × va_E), B[k]? = some q → q.1 < H.size ∧ ¬ va_A M H.size q.1 := fun k q hq => by
    have hlt := (dP_r (dP_r hP) k q hq).lt
    refine ⟨hlt, fun h => ?_⟩
    rcases h with ⟨k2, e, h⟩ | h
    · exact dD_x (dD_r hD) k2 k (q.1, e) q h hq rfl
    · omega
  have hD1' : va_D A0 M' := hD1.weaken (fun k q _ h => hF q.1 h)
  refine ⟨va_P.app (fun k q hq => (dP_l hP k q hq).kept (hk q.1 (nA k q hq).1 (nA k q hq).2)) (va_P.app hP1 (fun k q hq => (dP_r (dP_r hP) k q hq).kept (hk q.1 (nB k q hq).1 (nB k q hq).2))), ?_⟩
  refine va_D.app (dD_l hD) (va_D.app hD1' (dD_r (dD_r hD)) (fun i j p q hi hj he => (nB j q hj).2 (he ▸ hD1.2 i p hi))) (fun i j p q hi hj he => ?_)
  rcases Nat.lt_or_ge j M'.length with hl | hl
  · rw [List.getElem?_append_left hl] at hj
    exact (nA i p hi).2 (he ▸ hD1.2 j q hj)
  · rw [List.getElem?_append_right hl] at hj
    refine dD_x hD i (M.length + (j - M'.length)) p q hi ?_ he
    rw [List.getElem?_append_right (Nat.le_add_right _ _), Nat.add_sub_cancel_left]; exact hj
theorem mid_free {A0 : Nat → Prop} {A M B : va_W} {H0 H : Heap} {locs : List Loc} (hD : va_D A0 (A ++ (M ++ B))) (hS : va_S A0 H0 H locs) (hA : ∀ q, H0.size ≤ q → A0 q) : ∀ q, va_A M H.size q → A0 q := by
  intro q h
  rcases h with ⟨k, e, h⟩ | h
  · exact (dD_l (dD_r hD)).2 k (q, e) h
  · exact hA q (Nat.le_trans hS.1 h)
section JC
variable {X : Cxt} {l : Launch} {D : va_G} {cy : Nat → ClassId} {cc : ByteArray} {nL : Nat} {Ts : List Cond} {own : String} {rm : Room} {ws : va_W} {pc : Nat} {lv : List (Nat × Value)} {st : List Value}
variable {y : MethodName} {wl wl' : List Cond} {rmc : Room} {As : List Value} {b : Nat} {M : va_W} {S : Type} {post : S → Prop} {rv : S → Option Value} {w1 : S → va_W} {bytes : ByteArray} {maxL index : Nat} {ret : Option FieldType} {Cn : String} {rest : List Value}
/-- a call that ran: the walk goes on behind it -/
theorem j_go {av : List Value} {A' B : va_W} {g : List Value} {ls : Array Slot} {H : Heap} {locs : List Loc} (C : Cx X l D cy cc nL Ts own rm) (hP : va_P (xD X) vwCl (A' ++ (M ++ B)) H) (hD : va_D (xA X) (A' ++ (M ++ B))) (hS : va_S (xA X) (xS X).heap H locs) (hl : lv_has ls (xN X) lv)
    (hr : va_Run (xP X) (xL X) (xE X) (xR X) (xS X) (xM X) (xa X) (xB X) (xMe X) (xC X) H locs (xk X) (xn X) 0 0 (F0 (xM X) pc ls g) rest ((fun _ st oc t => (∃ u : S, oc = .returned (rv u) ∧ post u ∧ va_P (xD X) vwCl (w1 u) t.heap ∧ va_D (va_A M H.size) (w1 u)) ∧ va_F (va_A M H.size) st t : Array Value → State → Outcome → State → Prop) av.toArray) (va_A M H.size))
    (k : ∀ u, post u → J X (A' ++ (w1 u ++ B)) (pc + 3) lv ((rv u).toList ++ rest)) : W (xP X) (xL X) (xE X) (xR X) (xS X) (xM X) (xa X) (xB X) (xMe X) (xC X) H locs (xk X) (xn X) (xQ X) (F0 (xM X) pc ls g) := by
  have hA := C.2.2.2.2.1
  intro T hT Xs
  obtain ⟨v, st₀, t, T', L, h0, X', hL, e1, e2, ⟨⟨u, hv, hp, hP1, hD1⟩, hz, hk⟩, stp⟩ := hr T hT Xs
  cases hv
  rw [h0] at hz hk
  have hF := mid_free hD hS hA
  rw [← e1] at hz hP1
  have hk' : ∀ q : Nat, q < H.size → ¬ va_A M H.size q → T'.heap[q]? = H[q]? := fun q h1 h2 => by rw [e1]; exact hk q h1 h2
  obtain ⟨hP2, hD2⟩ := mid_join hP hD hk' hF hP1 hD1
  obtain ⟨t2, a1, b1⟩ := k u hp T'.heap (locs ++ L) ls hP2 hD2 ⟨Nat.le_trans hS.1 hz, fun q h1 h2 => by rw [hk' q (Nat.lt_of_lt_of_le h1 hS.1) (fun z => h2 (hF q z))]; exact hS.2.1 q h1 h2, fun q hq => by
      rcases List.mem_append.mp hq with h | h
      · exact hS.2.2 q h
      · exact hF _ (hL q h)⟩ hl T' rfl X'
  exact ⟨t2, stp t2 a1, b1⟩
theorem pre_ok {M : va_W} {sz : Nat} {H : Heap} (hK : Kn D cy (xS X)) (hsz : H.size = sz) (hPm : va_P D vwCl M H) (hDm : va_D (fun _ => True) M) (av : List Value) : FrameBlind (va_Pc av (fun U => U.heap.size = sz ∧ va_P D vwCl M U.heap ∧ Kn D cy U ∧ va_D (fun _ => True) M)) ∧ ∀ U : State, U.heap = H → (xS X).WarmedH U.vm → va_Pc av (fun U => U.heap.size = sz ∧ va_P D vwCl M U.heap ∧ Kn D cy U ∧ va_D (fun _ => True) M) av.toArray U :=
  ⟨fun a U g mk q => by obtain ⟨q0, q1, qP, qK, qD⟩ := q; exact ⟨q0, q1, qP, Kn.same rfl qK, qD⟩, fun U hU hW => ⟨rfl, by rw [hU]; exact hsz, by rw [hU]; exact hPm, hK.warm hW, hDm⟩⟩
theorem j_callV {ci N : Nat} {fs : List Value} {T : u_T} (C : Cx X l D cy cc nL Ts own rm) (Mt : Ct l y wl rmc D cy (.ref b :: As) M post rv w1) (g : GoodIn Ts (wsV own index Cn y wl)) (hw : wl = .code y bytes maxL ret :: wl') (na : Nat) (hna : As.length = na) (hc : y.cls = Cn ∧ y.cls ≠ "java/lang/invoke/MethodHandle" ∧ y.cls ≠ "java/lang/invoke/VarHandle" ∧ (parseMethodDescriptor y.desc).map (fun d => d.parameters.length) = some na) (hR : rmc.cells = 0 ∧ rmc.slots = 0 ∧ rmc.frames + 1 ≤ rm.frames ∧ 8 + (maxL + 11) + rmc.locals ≤ rm.locals) (A' B : va_W) (hws : ws = A' ++ (M ++ B)) (q0 : Nat) (hq : M[q0]? = some (b, .inr (ci, fs))) (hci : vwCl[ci]? = some (Cn, T, N)) (hst : (rest.map fun v => v.category).sum ≤ 8) (hd : decode cc pc = .ok (.invokevirtual index, 3)) (hs : st = As.reverse ++ .ref b :: rest)
    (k : ∀ u, post u → J X (A' ++ (w1 u ++ B)) (pc + 3) lv ((rv u).toList ++ rest)) : J X ws pc lv st := by
  subst hws; subst hs
  intro H locs ls hP hD hS hl
  have hM := Mt H.size
  rw [hR.1, hR.2.1] at hM
  rw [C.2.2.1.2.2.1] at hP
  have hpm := pre_ok (X := X) C.2.2.2.1 rfl (dP_l (dP_r hP)) ((dD_l (dD_r hD)).weaken (fun _ _ _ _ => trivial)) (.ref b :: As)
  rw [← C.2.2.1.1] at hM
  have hnl := C.2.2.1.2.2.2
  refine j_go C (by rw [C.2.2.1.2.2.1]; exact hP) hD hS hl (av := .ref b :: As) ?_ k
  rw [C.2.2.1.2.2.1]
  exact va_runV (As := As) (rest := rest) ⟨C.1.1, C.1.2, C.2.1.1, C.2.1.2.1, C.2.1.2.2⟩ hM (cwV na C.2.1.2.2 g hw hR.1 hR.2.1 hc (by rw [C.2.2.1.2.1]; exact hR.2.2)) ⟨hpm.1, va_recv C.2.2.2.1.1 (dP_l (dP_r hP)) hci hq, hpm.2⟩ rfl hna (by rw [← hnl]; exact hl.1) rfl (lv_room hst) hd (by rw [C.2.2.1.2.1]; exact C.2.2.2.2.2)
theorem j_callS (C : Cx X l D cy cc nL Ts own rm) (Mt : Ct l y wl rmc D cy As M post rv w1) (g : GoodIn Ts (va_wsS own index y wl)) (hw : wl = .code y bytes maxL ret :: wl') (na : Nat) (hna : As.length = na) (hc : y.cls ≠ "java/lang/invoke/MethodHandle" ∧ y.cls ≠ "java/lang/invoke/VarHandle" ∧ (parseMethodDescriptor y.desc).map (fun d => d.parameters.length) = some na) (hR : rmc.cells = 0 ∧ rmc.slots = 0 ∧ rmc.frames + 1 ≤ rm.frames ∧ 8 + (maxL + 11) + rmc.locals ≤ rm.locals) (A' B : va_W) (hws : ws = A' ++ (M ++ B)) (hst : (rest.map fun v => v.category).sum ≤ 8) (hd : decode cc pc = .ok (.invokestatic index, 3)) (hs : st = As.reverse ++ rest)
    (k : ∀ u, post u → J X (A' ++ (w1 u ++ B)) (pc + 3) lv ((rv u).toList ++ rest)) : J X ws pc lv st := by
  subst hws; subst hs
  intro H locs ls hP hD hS hl
  have hM := Mt H.size
  rw [hR.1, hR.2.1] at hM
  rw [C.2.2.1.2.2.1] at hP
  have hpm := pre_ok (X := X) C.2.2.2.1 rfl (dP_l (dP_r hP)) ((dD_l (dD_r hD)).weaken (fun _ _ _ _ => trivial)) As
  rw [← C.2.2.1.1] at hM
  have hnl := C.2.2.1.2.2.2
  refine j_go C (by rw [C.2.2.1.2.2.1]; exact hP) hD hS hl (av := As) ?_ k
  rw [C.2.2.1.2.2.1]
  exact va_runS (As := As) (rest := rest) ⟨C.1.1, C.1.2, C.2.1.1, C.2.1.2.1, C.2.1.2.2⟩ hM (va_cwS na C.2.1.2.2 g hw hR.1 hR.2.1 hc (by rw [C.2.2.1.2.1]; exact hR.2.2)) hpm rfl hna (by rw [← hnl]; exact hl.1) rfl (lv_room hst) hd (by rw [C.2.2.1.2.1]; exact C.2.2.2.2.2)
end JC
