/-! what the tables say of an array of arrays -/
def va_AOA (ty : FieldType) (U : State) : Prop := (Cond.arrayOver (.array ty)).before #[] U = true
theorem va_AOA.use {ty : FieldType} {A : Array Value} {U : State} (h : va_AOA ty U) : (Cond.arrayOver (.array ty)).before A U = true := h
theorem va_AOA.moved {ty : FieldType} {u U : State} (hvm : u.vm.Alike U.vm) (h : va_AOA ty u) : va_AOA ty U := Jvm.Stand.arrayOver_alikeB hvm h
/-! ===== BEGIN new T[n][m]: the outer array a place, the inner ones among the pooled ===== -/
/-- f, but v at every address of l -/
def vr_up {α : Type} (f : Nat → α) (l : List Nat) (v : α) : Nat → α := fun a => if a ∈ l then v else f a
theorem vr_up_in {α : Type} {f : Nat → α} {l : List Nat} {v : α} {a : Nat} (h : a ∈ l) : vr_up f l v a = v := if_pos h
theorem vr_up_ne {α : Type} {f : Nat → α} {l : List Nat} {v : α} {a : Nat} (h : a ∉ l) : vr_up f l v a = f a := if_neg h
theorem vr_rows {L l : List Nat} {f : Nat → va_E} {e : va_E} (h : ∀ a, a ∈ l → a ∉ L) : va_pl L f ++ l.map (fun a => (a, e)) = va_pl (L ++ l) (vr_up f l e) := by
  unfold va_pl
  rw [List.map_append]
  congr 1
  · apply List.map_congr_left
    intro a ha
    rw [vr_up_ne (fun q => h a q ha)]
  · apply List.map_congr_left
    intro a ha
    rw [vr_up_in ha]
theorem vr_lay {X rows : va_W} {x : Nat × va_E} {pl : va_W} {D : va_G} {cl : List vw_C} {H : Heap} (hP : va_P D cl (((X ++ pl) ++ [x]) ++ rows) H) : va_P D cl ((X ++ [x]) ++ (pl ++ rows)) H := by
  rw [List.append_assoc (X ++ pl)] at hP
  have h := va_P.swap hP
  rw [← List.append_assoc X] at h
  have h2 := va_P.swap h
  rw [List.append_assoc (X ++ [x])] at h2
  exact h2
theorem vr_layD {X rows : va_W} {x : Nat × va_E} {pl : va_W} {A : Nat → Prop} (hD : va_D A (((X ++ pl) ++ [x]) ++ rows)) : va_D A ((X ++ [x]) ++ (pl ++ rows)) := by
  rw [List.append_assoc (X ++ pl)] at hD
  have h := va_D.swap hD
  rw [← List.append_assoc X] at h
  have h2 := va_D.swap h
  rw [List.append_assoc (X ++ [x])] at h2
  exact h2
theorem vr_outer (c : ClassId) (N h0 : Nat) : ∀ i : Nat, Jvm.Free.Multi.outerC c N h0 i = arrV c N (fun j => va_rf (if j < i then some (h0 + 1 + j) else none))
  | 0 => by
    show ({ cls := c, slots := Array.replicate N .null, vm := .none } : Cell) = _
    rw [arrV_new]
    refine congrArg (arrV c N) (funext fun j => ?_)
    simp [va_rf]
  | i + 1 => by
    show (Jvm.Free.Multi.outerC c N h0 i).setSlot i (.ref (h0 + 1 + i)) = _
    rw [vr_outer c N h0 i, arrV_store]
    refine congrArg (arrV c N) (funext fun j => ?_)
    by_cases e : j = i
    · subst e
      simp [updV, va_rf]
    · by_cases h : j < i
      · simp [updV, e, h, Nat.lt_succ_of_lt h]
      · simp [updV, e, h, show ¬ j < i + 1 by omega]
section VGM
variable {p : Program} {l : Launch} {e : Env} {R : Room} {s : State} {m : MethodId} {args : Array Value} {below : List Frame} {meth : Method} {c : Code} {H : Heap} {locs : List Loc} {cells slots : Nat} {Q : State → Prop}
variable {cc : ByteArray} {pc : Nat} {ls : Array Slot} {rest : List Value} {D : va_G} {cl : List vw_C} {A : Nat → Prop} {a : Nat} {tys : List (ClassId × FieldType)} {ws : va_W} {H0 : Heap}
theorem va_mna {X : va_W} {L : List Nat} {f : Nat → va_E} {cc : ByteArray} (hexec : p.tables.exec = Jvm.exec) (hb : c.code = cc) {own : String} {index : Nat} {ty : FieldType} {cy : ClassId} (hown : s.vm.findClass own = some m.cls) (hclink : (Cond.classLink own index ("[" ++ (FieldType.array ty).toString)).before args s = true) (hover : va_AOA ty s) (harr : (Cond.arrayClass ty).before args s = true) (hcy : s.vm.findClass (FieldType.array ty).toString = some cy)
    (hK : va_K D cl tys s) (hP : va_P D cl (X ++ va_pl L f) H) (hD : va_D A (X ++ va_pl L f)) (hS : va_S A H0 H locs) (hA : ∀ q, H0.size ≤ q → A q) {n k : Int32} {N' K' : Nat} {z : vp_A} (hn : ¬ n < 0) (hk : ¬ k < 0) (hN : n.toNatClampNeg = N') (hM : k.toNatClampNeg = K')
    (hb1 : N' * 4 ≤ 536870912) (hb2 : K' * componentBytes ty ≤ 536870912) (hb3 : K' ≤ 536870912) (hdf : fits ty (defaultValue ty) = true) (hdd : (defaultValue ty).isDefault = true) (hcells : cells + (1 + N') ≤ R.cells) (hslots : slots + (N' + N' * K') ≤ R.slots) (hz : ∀ c : ClassId, Jvm.Free.Multi.innerC c K' (defaultValue ty) = vp_cell c z) (hdg : decode cc pc = .ok (.multianewarray index 2, 4))
    (kk : ∀ (q : Nat) (r : Nat → Nat) (cA : ClassId) (H1 : Heap), (∀ i j : Nat, i < N' → j < N' → r i = r j → i = j) → (∀ i : Nat, i < N' → r i ∉ L) → va_K D cl (tys ++ [(cA, .array ty)]) s →
      va_P D cl ((X ++ [(q, .inl (cA, N', .inr (.inr (.inr (.inr (fun i => if i < N' then some (r i) else none))))))]) ++ va_pl (L ++ (List.range N').map r) (vr_up f ((List.range N').map r) (.inl (cy, z)))) H1 → va_D A ((X ++ [(q, .inl (cA, N', .inr (.inr (.inr (.inr (fun i => if i < N' then some (r i) else none))))))]) ++ va_pl (L ++ (List.range N').map r) (vr_up f ((List.range N').map r) (.inl (cy, z)))) → va_S A H0 H1 locs →
      W p l e R s m args below meth c H1 locs (cells + 1 + N') (slots + N' + N' * K') Q (F0 m (pc + 4) ls (.ref q :: rest))) : W p l e R s m args below meth c H locs cells slots Q (F0 m pc ls (.int k :: .int n :: rest)) := by
  subst hN
  subst hM
  intro T hT Xs
  obtain ⟨vm₁, cA, comp, -, fA, fC, hO, -, X', step⟩ := Xs.multianewarray2F hexec hown hclink (va_AOA.use hover) harr (g := F0 m pc ls (.int k :: .int n :: rest)) rfl (by rw [hb]; exact hdg) rfl hn hk hb1 hb2 hb3 hdf hdd hcells hslots
  have ec : some cy = some comp := hcy.symm.trans fC
  cases ec
  generalize hF : Jvm.Free.Multi.fill (T.setVm vm₁) cA cy n.toNatClampNeg k.toNatClampNeg (defaultValue ty) n.toNatClampNeg = F at X' step
  have hTh : (T.setVm vm₁).heap = H := hT
  obtain ⟨f1, f2, -, -⟩ := Jvm.Free.Multi.fill_facts (T.setVm vm₁) cA cy n.toNatClampNeg k.toNatClampNeg (defaultValue ty) n.toNatClampNeg
  rw [hF, hTh] at f1 f2
  have hold : ∀ x : Nat, x < H.size → F.heap[x]? = H[x]? := fun x hx => by
    have := Jvm.Free.Multi.fill_old (T.setVm vm₁) cA cy n.toNatClampNeg k.toNatClampNeg (defaultValue ty) (a := x) (by rw [hTh]; exact hx) n.toNatClampNeg
    rw [hF, hTh] at this
    exact this
  have hrow : ∀ j : Nat, j < n.toNatClampNeg → F.heap[H.size + 1 + j]? = some (vp_cell cy z) := fun j hj => by
    have := Jvm.Free.Multi.fill_inner (T.setVm vm₁) cA cy n.toNatClampNeg k.toNatClampNeg (defaultValue ty) n.toNatClampNeg j hj
    rw [hF, hTh, hz] at this
    exact this
  have hout : Jvm.Free.Multi.outerC cA n.toNatClampNeg H.size n.toNatClampNeg = vp_cell cA (n.toNatClampNeg, .inr (.inr (.inr (.inr (fun i => if i < n.toNatClampNeg then some (H.size + 1 + i) else none))))) := by
    rw [vp_cell_q]
    exact vr_outer cA n.toNatClampNeg H.size n.toNatClampNeg
  rw [hout] at f2
  have hlt : ∀ a, a ∈ L → a < H.size := fun a ha => by
    obtain ⟨k9, hk9⟩ := va_pl_get (X := X) (f := f) ha
    exact (hP k9 _ hk9).lt
  have hnl : ∀ i : Nat, i < n.toNatClampNeg → H.size + 1 + i ∉ L := fun i _ h => by
    have := hlt _ h
    omega
  have hnm : ∀ a, a ∈ (List.range n.toNatClampNeg).map (fun i => H.size + 1 + i) → a ∉ L := fun a ha h => by
    obtain ⟨i, -, rfl⟩ := List.mem_map.mp ha
    have := hlt _ h
    omega
  have hP0 : va_P D cl (X ++ va_pl L f) F.heap := hP.kept (fun k9 x hx => hold x.1 ((hP k9 x hx).lt))
  have hP1 : va_P D cl ((X ++ va_pl L f) ++ [(H.size, .inl (cA, n.toNatClampNeg, .inr (.inr (.inr (.inr (fun i => if i < n.toNatClampNeg then some (H.size + 1 + i) else none))))))]) F.heap := hP0.app (fun k9 x hx => by
    have h0 : k9 < 1 := (List.getElem?_eq_some_iff.mp hx).1
    rw [show k9 = 0 by omega] at hx
    cases hx
    exact f2)
  have hP2 : va_P D cl (((X ++ va_pl L f) ++ [(H.size, .inl (cA, n.toNatClampNeg, .inr (.inr (.inr (.inr (fun i => if i < n.toNatClampNeg then some (H.size + 1 + i) else none))))))]) ++ ((List.range n.toNatClampNeg).map (fun i => H.size + 1 + i)).map (fun a => (a, .inl (cy, z)))) F.heap := hP1.app (fun k9 x hx => by
    obtain ⟨a, ha, rfl⟩ := List.mem_map.mp (List.mem_of_getElem? hx)
    obtain ⟨i, hi, rfl⟩ := List.mem_map.mp ha
    exact hrow i (List.mem_range.mp hi))
  have hD2 : va_D A (((X ++ va_pl L f) ++ [(H.size, .inl (cA, n.toNatClampNeg, .inr (.inr (.inr (.inr (fun i => if i < n.toNatClampNeg then some (H.size + 1 + i) else none))))))]) ++ ((List.range n.toNatClampNeg).map (fun i => H.size + 1 + i)).map (fun a => (a, .inl (cy, z)))) := by
    have hD1 := hD.push (e := .inl (cA, n.toNatClampNeg, .inr (.inr (.inr (.inr (fun i => if i < n.toNatClampNeg then some (H.size + 1 + i) else none)))))) hP rfl (hA _ hS.1)
    generalize hW1 : (X ++ va_pl L f) ++ [(H.size, .inl (cA, n.toNatClampNeg, .inr (.inr (.inr (.inr (fun i => if i < n.toNatClampNeg then some (H.size + 1 + i) else none))))))] = W1 at hD1 hP1 ⊢
    have hle : ∀ (k9 : Nat) (x : Nat × va_E), W1[k9]? = some x → x.1 ≤ H.size := fun k9 x hx => by
      rw [← hW1] at hx
      by_cases hl : k9 < (X ++ va_pl L f).length
      · rw [List.getElem?_append_left hl] at hx
        exact Nat.le_of_lt ((hP k9 x hx).lt)
      · rw [List.getElem?_append_right (by omega)] at hx
        have h0 : k9 - (X ++ va_pl L f).length < 1 := (List.getElem?_eq_some_iff.mp hx).1
        rw [show k9 - (X ++ va_pl L f).length = 0 by omega] at hx
        cases hx
        exact Nat.le_refl _
    have hr : ∀ (k9 : Nat) (x : Nat × va_E), (((List.range n.toNatClampNeg).map (fun i => H.size + 1 + i)).map (fun a => ((a, .inl (cy, z)) : Nat × va_E)))[k9]? = some x → x.1 = H.size + 1 + k9 := fun k9 x hx => by
      rw [List.getElem?_map, List.getElem?_map] at hx
      by_cases h9 : k9 < n.toNatClampNeg
      · rw [List.getElem?_range h9] at hx
        cases hx
        rfl
      · have hn0 : (List.range n.toNatClampNeg)[k9]? = none := List.getElem?_eq_none (by rw [List.length_range]; omega)
        rw [hn0] at hx
        cases hx
    refine ⟨fun i j x y hi hj hxy => ?_, fun k9 x hx => ?_⟩
    · by_cases h1 : i < W1.length <;> by_cases h2 : j < W1.length
      · rw [List.getElem?_append_left h1] at hi
        rw [List.getElem?_append_left h2] at hj
        exact hD1.1 i j x y hi hj hxy
      · rw [List.getElem?_append_left h1] at hi
        rw [List.getElem?_append_right (by omega)] at hj
        have := hle _ _ hi
        have := hr _ _ hj
        omega
      · rw [List.getElem?_append_right (by omega)] at hi
        rw [List.getElem?_append_left h2] at hj
        have := hle _ _ hj
        have := hr _ _ hi
        omega
      · rw [List.getElem?_append_right (by omega)] at hi hj
        have := hr _ _ hi
        have := hr _ _ hj
        omega
    · by_cases h1 : k9 < W1.length
      · rw [List.getElem?_append_left h1] at hx
        exact hD1.2 k9 x hx
      · rw [List.getElem?_append_right (by omega)] at hx
        have := hr _ _ hx
        exact hA _ (by have := hS.1; omega)
  have hAr : ArrOfT s cA (.array ty) := fun N9 z9 => by
    obtain ⟨-, k9, hk9, cm9, hkk9⟩ := (hO 0 0 0).1
    exact ⟨(fun q hq => by cases hq), k9, hk9, cm9, hkk9⟩
  have hK2 : va_K D cl (tys ++ [(cA, .array ty)]) s := ⟨hK.1, fun k9 x hx => by
    by_cases hl : k9 < tys.length
    · rw [List.getElem?_append_left hl] at hx
      exact hK.2 k9 x hx
    · rw [List.getElem?_append_right (by omega)] at hx
      have h0 : k9 - tys.length < 1 := (List.getElem?_eq_some_iff.mp hx).1
      rw [show k9 - tys.length = 0 by omega] at hx
      cases hx
      exact ⟨hAr, fA⟩⟩
  obtain ⟨t, a1, b1⟩ := kk H.size (fun i => H.size + 1 + i) cA F.heap (fun i j _ _ h => by have h9 : H.size + 1 + i = H.size + 1 + j := h; omega) hnl hK2 (by rw [← vr_rows hnm]; exact vr_lay hP2) (by rw [← vr_rows hnm]; exact vr_layD hD2) ⟨by rw [f1]; have := hS.1; omega, fun x h1 h2 => (hold x (Nat.lt_of_lt_of_le h1 hS.1)).trans (hS.2.1 x h1 h2), hS.2.2⟩ F rfl X'
  refine ⟨t, step t ?_, b1⟩
  have e : T.heap.size = H.size := by rw [hT]
  rw [e]
  exact a1
end VGM
/-! ===== END ===== -/
/-! making: rows for constructors -/
/-- what the tables say of arrays over references -/
def Ko (U : State) : Prop := (va_AO "DebtLamps$Person" U ∧ va_AO "DebtLamps$Sheet" U) ∧ va_AOA .int U ∧ va_Nw (.castable "DebtLamps$Rich" "DebtLamps$Person") U ∧ va_Nw (.castable "DebtLamps$Bankrupt" "DebtLamps$Person") U
theorem Ko.al {s U : State} (h : s.WarmedH U.vm) (k : Ko s) : Ko U := ⟨⟨k.1.1.moved h.alike, k.1.2.moved h.alike⟩, k.2.1.moved h.alike, va_Nw.warmC h k.2.2.1, va_Nw.warmC h k.2.2.2⟩
theorem Ko.same {s U : State} (h : s.vm = U.vm) (k : Ko s) : Ko U := ⟨⟨k.1.1.moved (by rw [h]; exact Vm.Alike.refl _), k.1.2.moved (by rw [h]; exact Vm.Alike.refl _)⟩, k.2.1.moved (by rw [h]; exact Vm.Alike.refl _), va_Nw.same rfl h k.2.2.1, va_Nw.same rfl h k.2.2.2⟩
abbrev xw (X : Cxt) (k n : Nat) : Cxt := (xP X, xL X, xE X, xR X, xS X, xM X, xa X, xB X, xMe X, xC X, xD X, xA X, xQ X, xN X, k, n)
/-- a constructor's contract -/
def CtN (l : Launch) (y : MethodName) (wl : List Cond) (rm : Room) (D : va_G) (cy : Nat → ClassId) (av : List Value) (wc : va_W) {S : Type} (post : S → Prop) (w1 : S → va_W) : Prop :=
  ∀ sz : Nat, Met l y wl rm (va_Pc av (fun U => U.heap.size = sz ∧ va_P D vwCl wc U.heap ∧ (Kn D cy U ∧ Ko U) ∧ va_D (fun _ => True) wc)) (fun _ st oc t => (∃ u : S, oc = .returned none ∧ post u ∧ va_P D vwCl (w1 u) t.heap ∧ va_D (va_A wc sz) (w1 u)) ∧ va_F (va_A wc sz) st t) rm.cells rm.slots (va_A wc sz)
section JN
variable {X : Cxt} {l : Launch} {D : va_G} {cy : Nat → ClassId} {cc : ByteArray} {nL : Nat} {Ts : List Cond} {own : String} {rm : Room} {ws : va_W} {pc : Nat} {lv : List (Nat × Value)} {st : List Value} {k n : Nat}
theorem Cx.w (C : Cx X l D cy cc nL Ts own rm) (hk : k ≤ rm.cells) (hn : n ≤ rm.slots) : Cx (xw X k n) l D cy cc nL Ts own rm := ⟨C.1, C.2.1, C.2.2.1, C.2.2.2.1, C.2.2.2.2.1, hk, hn⟩
theorem CtN.of {y : MethodName} {wl wl' : List Cond} {av : List Value} {wc : va_W} {S : Type} {post : S → Prop} {w1 : S → va_W} (hw : wl = .code y cc nL none :: wl') (hy : plainName y.cls = true) (hle : (lg_sl av).length ≤ nL)
    (body : ∀ X : Cxt, Cx X l D cy cc nL wl y.cls rm → (xMe X).name = y.name → Ko (xS X) → Rt (xw X rm.cells rm.slots) none post (fun _ => none) w1 → J (xw X 0 0) wc 0 (lv_args 0 av) []) : CtN l y wl rm D cy av wc post w1 := by
  intro sz
  refine Met.ofW (cc := cc) (maxL := nL) (ret := none) hy hw ?_
  intro p e s m args below meth c s₁ B hml hv
  obtain ⟨rfl, hsz, hP, ⟨hK, hO⟩, hD0⟩ := hv
  subst hsz
  rw [lg_entry_eq]
  have hts := atoms_spec (ws := wl) B.pre
  exact body (p, l, e, (headSpec wl rm).room, s, m, av.toArray, below, meth, c, D, va_A wc s.heap.size, _, nL, 0, 0)
    ⟨⟨B.exec, B.bytes⟩, ⟨hml, findClass_of_methodNamed B.named, hts⟩, ⟨rfl, rfl, rfl, rfl⟩, hK, fun q h => Or.inr h, Nat.zero_le _, Nat.zero_le _⟩ (name_of_methodNamed B.named B.method).1 hO ⟨rfl, B.returns, B.notSynchronized⟩ s.heap [] _ hP hD0.self va_S.rf (lv_entry av hle)
theorem j_objInit {index a : Nat} (C : Cx X l D cy cc nL Ts own rm) (h1 : Cond.methodLink own index objectInit ∈ Ts) (h2 : Cond.instanceMethod objectInit ∈ Ts) (h3 : Cond.code objectInit ⟨#[0xb1]⟩ 1 none ∈ Ts) (hR : 1 ≤ rm.frames ∧ 12 ≤ rm.locals) (hd : decode cc pc = .ok (.invokespecial index, 3)) (kk : J (xw X k n) ws (pc + 3) lv []) : J (xw X k n) ws pc lv [.ref a] := by
  intro H locs ls hP hD hS hl
  refine W.objInit C.1.1 C.1.2 C.2.1.2.1 (C.2.1.2.2 _ h1) (C.2.1.2.2 _ h2) (C.2.1.2.2 _ h3) rfl ?_ rfl hd ?_ ?_ ?_
  · rw [C.2.1.1, ← C.2.2.1.2.2.2]; exact hl.1
  · show 1 ≤ (xR X).frames
    rw [C.2.2.1.2.1]; exact hR.1
  · show 12 ≤ (xR X).locals
    rw [C.2.2.1.2.1]; exact hR.2
  · exact W.eq (g2 := F0 (xM X) (pc + 3) ls []) rfl (kk H locs ls hP hD hS hl)
theorem j_new {N ci index : Nat} {Cn : String} {T : u_T} {fs : List Value} {k' n' : Nat} (C : Cx X l D cy cc nL Ts own rm) (hin : ∀ w ∈ u_ws Cn T N, w ∈ Ts) (ty : Nat → FieldType) (hty : ∀ k, k < N → parseFieldDescriptor (T k).2.2.1 = some (ty k)) (hcl : Cond.classLink own index Cn ∈ Ts) (hinst : Cond.instantiable Cn N ∈ Ts) (hini : Cond.initialized Cn ∈ Ts) (hc : vwCl[ci]? = some (Cn, T, N)) (hfs : ∀ j, j < N → defaultValue (ty j) = vp_V fs j) (hk' : k + 1 = k') (hn' : n + N = n') (hcells : k' ≤ rm.cells) (hslots : n' ≤ rm.slots) (hd : decode cc pc = .ok (.new index, 3)) (kk : ∀ q, J (xw X k' n') (ws ++ [(q, .inr (ci, fs))]) (pc + 3) lv (.ref q :: st)) : J (xw X k n) ws pc lv st := by
  subst hk'
  subst hn'
  intro H locs ls hP hD hS hl
  exact va_new C.1.1 C.1.2 C.2.1.2.2 hin ty hty C.2.1.2.1 (C.2.1.2.2 _ hcl) (C.2.1.2.2 _ hinst) (C.2.1.2.2 _ hini) (by rw [← C.2.2.1.2.2.1] at *; exact C.2.2.2.1.1) hP hD hS C.2.2.2.2.1 hc hfs (by rw [C.2.2.1.2.1]; exact hcells) (by rw [C.2.2.1.2.1]; exact hslots) hd (fun q H1 p1 d1 s1 => kk q H1 locs ls p1 d1 s1 hl)
theorem ra_eq {U : State} {a b : ClassId} {ty : FieldType} (h : va_RA U a ty) (h2 : va_RA U b ty) : a = b := by
  cases ty with
  | object C =>
    obtain ⟨_, _, _, _, _, h⟩ := h
    obtain ⟨_, _, _, _, _, h2⟩ := h2
    exact Option.some.inj (h.symm.trans h2)
  | _ => exact Option.some.inj (h.symm.trans h2)
theorem j_newA {atype : ArrayType} {ty : FieldType} {t m : Nat} {k' n' : Nat} (C : Cx X l D cy cc nL Ts own rm) (harr : Cond.arrayClass (newarray.typeOf atype) ∈ Ts) (hty : newarray.typeOf atype = ty) (ht : (tyL cy)[t]? = some (cy t, ty)) (ha : ∀ cA : ClassId, vp_cell cA (m, .inl (fun _ => 0)) = arrV cA m (fun _ => defaultValue ty)) (hm : m < 1000) (hb : m * componentBytes ty ≤ 536870912) (hk' : k + 1 = k') (hn' : n + m = n') (hcells : k' ≤ rm.cells) (hslots : n' ≤ rm.slots) (hd : decode cc pc = .ok (.newarray atype, 2)) (kk : ∀ q, J (xw X k' n') (ws ++ [(q, .inl (cy t, m, .inl (fun _ => 0)))]) (pc + 2) lv (.ref q :: st)) : J (xw X k n) ws pc lv (.int (nI m) :: st) := by
  subst hk'
  subst hn'
  intro H locs ls hP hD hS hl
  have hK : va_K (xD X) vwCl (tyL cy) (xS X) := by rw [C.2.2.1.2.2.1]; exact C.2.2.2.1.1
  refine va_newa (N' := m) (a0 := (m, .inl (fun _ => 0))) C.1.1 C.1.2 (C.2.1.2.2 _ harr) hty hK hP hD hS C.2.2.2.2.1 ha (nI_pos (by omega)) (nI_clamp (by omega)) hb (by rw [C.2.2.1.2.1]; exact hcells) (by rw [C.2.2.1.2.1]; exact hslots) hd (fun q cA H1 hK2 p1 d1 s1 => ?_)
  have e : cA = cy t := ra_eq (hK2.2 (tyL cy).length (cA, ty) (by rw [List.getElem?_append_right (Nat.le_refl _), Nat.sub_self]; rfl)).2 (hK.2 t _ ht).2
  rw [e] at p1 d1
  exact kk q H1 locs ls p1 d1 s1 hl
theorem j_newQ {index t m : Nat} {Cn : String} {k' n' : Nat} (C : Cx X l D cy cc nL Ts own rm) (hO : va_AO Cn (xS X)) (hcl : Cond.classLink own index Cn ∈ Ts) (ht : (tyL cy)[t]? = some (cy t, .object Cn)) (hm : m < 1000) (hk' : k + 1 = k') (hn' : n + m = n') (hcells : k' ≤ rm.cells) (hslots : n' ≤ rm.slots) (hd : decode cc pc = .ok (.anewarray index, 3)) (kk : ∀ q, J (xw X k' n') (ws ++ [(q, .inl (cy t, m, rr (fun _ => none)))]) (pc + 3) lv (.ref q :: st)) : J (xw X k n) ws pc lv (.int (nI m) :: st) := by
  subst hk'
  subst hn'
  intro H locs ls hP hD hS hl
  have hK : va_K (xD X) vwCl (tyL cy) (xS X) := by rw [C.2.2.1.2.2.1]; exact C.2.2.2.1.1
  refine va_newq (N' := m) C.1.1 C.1.2 C.2.1.2.1 (C.2.1.2.2 _ hcl) hO hK hP hD hS C.2.2.2.2.1 (nI_pos (by omega)) (nI_clamp (by omega)) (by omega) (by rw [C.2.2.1.2.1]; exact hcells) (by rw [C.2.2.1.2.1]; exact hslots) hd (fun q cA H1 hK2 p1 d1 s1 => ?_)
  have e : cA = cy t := ra_eq (hK2.2 (tyL cy).length (cA, .object Cn) (by rw [List.getElem?_append_right (Nat.le_refl _), Nat.sub_self]; rfl)).2 (hK.2 t _ ht).2
  rw [e] at p1 d1
  exact kk q H1 locs ls p1 d1 s1 hl
theorem j_mna {index m1 m2 : Nat} {k' n' : Nat} (C : Cx X l D cy cc nL Ts own rm) (hO : va_AOA .int (xS X)) (hcl : Cond.classLink own index "[[I" ∈ Ts) (harr : Cond.arrayClass .int ∈ Ts) (h1 : m1 < 1000) (h2 : m2 < 1000) (hk' : k + 1 + m1 = k') (hn' : n + m1 + m1 * m2 = n') (hcells : k' ≤ rm.cells) (hslots : n' ≤ rm.slots) (hd : decode cc pc = .ok (.multianewarray index 2, 4)) (kk : ∀ (q : Nat) (r : Nat → Nat), J (xw X k' n') ((ws ++ [(q, .inl (cy 4, m1, rr (fun i => if i < m1 then some (r i) else none)))]) ++ ((List.range m1).map r).map (fun a => (a, .inl (cy 0, m2, .inl (fun _ => 0))))) (pc + 4) lv (.ref q :: st)) : J (xw X k n) ws pc lv (.int (nI m2) :: .int (nI m1) :: st) := by
  subst hk'
  subst hn'
  intro H locs ls hP hD hS hl
  have hK : va_K (xD X) vwCl (tyL cy) (xS X) := by rw [C.2.2.1.2.2.1]; exact C.2.2.2.1.1
  refine va_mna (X := ws) (L := []) (f := fun _ => .inr (0, [])) (N' := m1) (K' := m2) (z := (m2, .inl (fun _ => 0))) (cy := cy 0) (ty := .int) C.1.1 C.1.2 C.2.1.2.1 (C.2.1.2.2 _ hcl) hO (C.2.1.2.2 _ harr) (hK.2 0 _ rfl).2 hK (by rw [show va_pl [] _ = [] from rfl, List.append_nil]; exact hP) (by rw [show va_pl [] _ = [] from rfl, List.append_nil]; exact hD) hS C.2.2.2.2.1 (nI_pos (by omega)) (nI_pos (by omega)) (nI_clamp (by omega)) (nI_clamp (by omega)) (by omega) (by show m2 * 4 ≤ _; omega) (by omega) rfl rfl (by rw [C.2.2.1.2.1]; show k + (1 + m1) ≤ _; rw [← Nat.add_assoc]; exact hcells) (by rw [C.2.2.1.2.1]; show n + (m1 + m1 * m2) ≤ _; rw [← Nat.add_assoc]; exact hslots) (fun c => arrV_new ..) hd (fun q r cA H1 hr hr2 hK2 p1 d1 s1 => ?_)
  have e : cA = cy 4 := ra_eq (hK2.2 (tyL cy).length (cA, .array .int) (by rw [List.getElem?_append_right (Nat.le_refl _), Nat.sub_self]; rfl)).2 (hK.2 4 _ rfl).2
  rw [e] at p1 d1
  rw [← vr_rows (fun a _ h => by cases h)] at p1 d1
  exact kk q r H1 locs ls p1 d1 s1 hl
end JN
