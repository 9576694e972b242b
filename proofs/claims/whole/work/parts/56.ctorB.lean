section JM
variable {X : Cxt} {l : Launch} {D : va_G} {cy : Nat → ClassId} {cc : ByteArray} {nL : Nat} {Ts : List Cond} {own : String} {rm : Room} {ws : va_W} {pc : Nat} {lv : List (Nat × Value)} {st : List Value} {k n : Nat}
variable {y : MethodName} {wl wl' : List Cond} {rmc : Room} {b : Nat} {M : va_W} {S : Type} {post : S → Prop} {w1 : S → va_W} {bytes : ByteArray} {maxL index : Nat} {rest : List Value}
theorem j_putF {a ci N : Nat} {Cn : String} {T : u_T} {fs : List Value} {ty : FieldType} {v : Value} {ws' : va_W} (C : Cx X l D cy cc nL Ts own rm) (hin2 : (xMe X).name = "<init>") (hin : ∀ w ∈ u_ws Cn T N, w ∈ Ts) (f : Nat) (hl : Cond.fieldLink own index Cn (T f).2.1 (T f).2.2.1 ∈ Ts) (ty0 : Nat → FieldType) (hty : ∀ k, k < N → parseFieldDescriptor (T k).2.2.1 = some (ty0 k)) (hnm : ∀ a, a < N → ∀ b, b < N → a ≠ b → (T a).2.1 ≠ (T b).2.1) (q0 : Nat) (he : ws[q0]? = some (a, .inr (ci, fs))) (hc : vwCl[ci]? = some (Cn, T, N)) (hk : f < N) (hown : (T f).1 = own ∧ (T f).1 = Cn) (hfin : (T f).2.2.2 = true) (hd : parseFieldDescriptor (T f).2.2.1 = some ty) (hn : narrow ty v = v) (hfit : fits ty v = true) (hlen : f < fs.length) (hw : ws.set q0 (a, .inr (ci, fs.set f v)) = ws') (hdg : decode cc pc = .ok (.putfield index, 3)) (kk : J (xw X k n) ws' (pc + 3) lv st) : J (xw X k n) ws pc lv (v :: .ref a :: st) := by
  subst hw
  intro H locs ls hP hD hS hls
  have hK : va_K (xD X) vwCl (tyL cy) (xS X) := by rw [C.2.2.1.2.2.1]; exact C.2.2.2.1.1
  exact va_putF C.1.1 C.1.2 C.2.1.2.2 hin ty0 hty hnm C.2.1.2.1 hK hP hD hS q0 he hc f hk (C.2.1.2.2 _ hl) (fun x h => by rw [hown.2] at h; exact h) hfin hin2 hown.1 hd hn hfit hlen hdg (fun H1 locs1 p1 d1 s1 => kk H1 locs1 ls p1 d1 s1 hls)
theorem j_astq {a v m i t ci : Nat} {r : vw_C} {vs : List Value} {f : Nat → Option Nat} {ws' : va_W} (C : Cx X l D cy cc nL Ts own rm) (q0 qk : Nat) (ha : ws[q0]? = some (a, .inl (cy t, m, rr f))) (ht : (tyL cy)[t]? = some (cy t, .object r.1)) (hv : ws[qk]? = some (v, .inr (ci, vs))) (hc : vwCl[ci]? = some r) (hi : i < m) (hm : m < 1000) (hw : ws.set q0 (a, .inl (cy t, m, rr (va_up f i (some v)))) = ws') (hdg : decode cc pc = .ok (.aastore, 1)) (kk : J (xw X k n) ws' (pc + 1) lv st) : J (xw X k n) ws pc lv (.ref v :: .int (nI i) :: .ref a :: st) := by
  subst hw
  intro H locs ls hP hD hS hls
  have hK : va_K (xD X) vwCl (tyL cy) (xS X) := by rw [C.2.2.1.2.2.1]; exact C.2.2.2.1.1
  have e : (nI i).toNatClampNeg = i := nI_clamp (by omega)
  refine va_astq C.1.1 C.1.2 hK hP hD hS q0 t qk ci ha ht hv hc (vp_in_nI hi (by omega)) hdg (fun H1 locs1 p1 d1 s1 => ?_)
  rw [e] at p1 d1
  exact kk H1 locs1 ls p1 d1 s1 hls
/-- the cell's class is below the array's -/
theorem j_astO {a v m i t ci : Nat} {r : vw_C} {E : String} {vs : List Value} {f : Nat → Option Nat} {ws' : va_W} (C : Cx X l D cy cc nL Ts own rm) (hca : va_Nw (.castable r.1 E) (xS X)) (q0 qk : Nat) (ha : ws[q0]? = some (a, .inl (cy t, m, rr f))) (ht : (tyL cy)[t]? = some (cy t, .object E)) (hv : ws[qk]? = some (v, .inr (ci, vs))) (hc : vwCl[ci]? = some r) (hi : i < m) (hm : m < 1000) (hw : ws.set q0 (a, .inl (cy t, m, rr (va_up f i (some v)))) = ws') (hdg : decode cc pc = .ok (.aastore, 1)) (kk : J (xw X k n) ws' (pc + 1) lv st) : J (xw X k n) ws pc lv (.ref v :: .int (nI i) :: .ref a :: st) := by
  subst hw
  intro H locs ls hP hD hS hls
  have hK : va_K (xD X) vwCl (tyL cy) (xS X) := by rw [C.2.2.1.2.2.1]; exact C.2.2.2.1.1
  have e : (nI i).toNatClampNeg = i := nI_clamp (by omega)
  refine va_astqO C.1.1 C.1.2 hK hP hD hS q0 t qk ci ha ht hca hv hc (vp_in_nI hi (by omega)) hdg (fun H1 locs1 p1 d1 s1 => ?_)
  rw [e] at p1 d1
  exact kk H1 locs1 ls p1 d1 s1 hls
theorem j_goN {av : List Value} {A' B : va_W} {g : List Value} {ls : Array Slot} {H : Heap} {locs : List Loc} {mc ms : Nat} (C : Cx X l D cy cc nL Ts own rm) (hP : va_P (xD X) vwCl (A' ++ (M ++ B)) H) (hD : va_D (xA X) (A' ++ (M ++ B))) (hS : va_S (xA X) (xS X).heap H locs) (hl : lv_has ls (xN X) lv)
    (hr : va_Run (xP X) (xL X) (xE X) (xR X) (xS X) (xM X) (xa X) (xB X) (xMe X) (xC X) H locs k n mc ms (F0 (xM X) pc ls g) rest ((fun _ st oc t => (∃ u : S, oc = .returned none ∧ post u ∧ va_P (xD X) vwCl (w1 u) t.heap ∧ va_D (va_A M H.size) (w1 u)) ∧ va_F (va_A M H.size) st t : Array Value → State → Outcome → State → Prop) av.toArray) (va_A M H.size))
    (kk : ∀ u, post u → J (xw X (k + mc) (n + ms)) (A' ++ (w1 u ++ B)) (pc + 3) lv rest) : W (xP X) (xL X) (xE X) (xR X) (xS X) (xM X) (xa X) (xB X) (xMe X) (xC X) H locs k n (xQ X) (F0 (xM X) pc ls g) := by
  have hA := C.2.2.2.2.1
  intro T hT Xs
  obtain ⟨v, st₀, t, T', L, h0, X', hL, e1, e2, ⟨⟨u, hv, hp, hP1, hD1⟩, hz, hk⟩, stp⟩ := hr T hT Xs
  cases hv
  rw [h0] at hz hk
  have hF := mid_free hD hS hA
  rw [← e1] at hz hP1
  have hk' : ∀ q : Nat, q < H.size → ¬ va_A M H.size q → T'.heap[q]? = H[q]? := fun q h1 h2 => by rw [e1]; exact hk q h1 h2
  obtain ⟨hP2, hD2⟩ := mid_join hP hD hk' hF hP1 hD1
  obtain ⟨t2, a1, b1⟩ := kk u hp T'.heap (locs ++ L) ls hP2 hD2 ⟨Nat.le_trans hS.1 hz, fun q h1 h2 => by rw [hk' q (Nat.lt_of_lt_of_le h1 hS.1) (fun z => h2 (hF q z))]; exact hS.2.1 q h1 h2, fun q hq => by
      rcases List.mem_append.mp hq with h | h
      · exact hS.2.2 q h
      · exact hF _ (hL q h)⟩ hl T' rfl X'
  exact ⟨t2, stp t2 a1, b1⟩
theorem pre_okN {M : va_W} {sz : Nat} {H : Heap} (hK : Kn D cy (xS X)) (hO : Ko (xS X)) (hsz : H.size = sz) (hPm : va_P D vwCl M H) (hDm : va_D (fun _ => True) M) (av : List Value) : FrameBlind (va_Pc av (fun U => U.heap.size = sz ∧ va_P D vwCl M U.heap ∧ (Kn D cy U ∧ Ko U) ∧ va_D (fun _ => True) M)) ∧ ∀ U : State, U.heap = H → (xS X).WarmedH U.vm → va_Pc av (fun U => U.heap.size = sz ∧ va_P D vwCl M U.heap ∧ (Kn D cy U ∧ Ko U) ∧ va_D (fun _ => True) M) av.toArray U :=
  ⟨fun a U g mk q => by obtain ⟨q0, q1, qP, qK, qD⟩ := q; exact ⟨q0, q1, qP, ⟨Kn.same rfl qK.1, Ko.same rfl qK.2⟩, qD⟩, fun U hU hW => ⟨rfl, by rw [hU]; exact hsz, by rw [hU]; exact hPm, ⟨hK.warm hW, hO.al hW⟩, hDm⟩⟩
/-- a nest mate's constructor -/
theorem j_callIN {k' n' : Nat} (C : Cx X l D cy cc nL Ts own rm) (hO : Ko (xS X)) (Mt : CtN l y wl rmc D cy [.ref b] M post w1) (g : GoodIn Ts wl) (hw : wl = .code y bytes maxL none :: wl') (hl : (own, index, y) ∈ nmL) (hini : Cond.initialized y.cls ∈ Ts) (him : Cond.instanceMethod y ∈ Ts) (hc : y.name = "<init>" ∧ y.cls ≠ "java/lang/invoke/MethodHandle" ∧ y.cls ≠ "java/lang/invoke/VarHandle" ∧ (parseMethodDescriptor y.desc).map (fun d => d.parameters.length) = some 0) (hk' : k + rmc.cells = k') (hn' : n + rmc.slots = n') (hR : (k' ≤ rm.cells ∧ n' ≤ rm.slots) ∧ rmc.frames + 1 ≤ rm.frames ∧ 8 + (maxL + 11) + rmc.locals ≤ rm.locals) (A' B : va_W) (hws : ws = A' ++ (M ++ B)) (hst : (rest.map fun v => v.category).sum ≤ 8) (hd : decode cc pc = .ok (.invokespecial index, 3)) (hs : st = .ref b :: rest)
    (kk : ∀ u, post u → J (xw X k' n') (A' ++ (w1 u ++ B)) (pc + 3) lv rest) : J (xw X k n) ws pc lv st := by
  subst hws; subst hs; subst hk'; subst hn'
  intro H locs ls hP hD hS hls
  have hM := Mt H.size
  have hP : va_P (xD X) vwCl (A' ++ (M ++ B)) H := hP
  have hD : va_D (xA X) (A' ++ (M ++ B)) := hD
  rw [C.2.2.1.2.2.1] at hP
  have hpm := pre_okN (X := X) C.2.2.2.1 hO rfl (dP_l (dP_r hP)) ((dD_l (dD_r hD)).weaken (fun _ _ _ _ => trivial)) [.ref b]
  rw [← C.2.2.1.1] at hM
  have hnl := C.2.2.1.2.2.2
  refine j_goN (X := X) (k := k) (n := n) C (by rw [C.2.2.1.2.2.1]; exact hP) hD hS hls (av := [.ref b]) ?_ kk
  rw [C.2.2.1.2.2.1]
  exact va_runIN (As := []) (rest := rest) (host := "DebtLamps") ⟨C.1.1, C.1.2, C.2.1.1, C.2.1.2.1, C.2.1.2.2⟩ hM ⟨va_cnB 0 C.2.1.2.2 g hw rfl rfl (C.2.2.2.1.2.2 _ hl) (C.2.1.2.2 _ hini) hc.2 (by rw [C.2.2.1.2.1]; exact hR.2), hc.1, C.2.1.2.2 _ him⟩ hpm rfl rfl (by rw [← hnl]; exact hls.1) rfl (lv_room hst) hd (by rw [C.2.2.1.2.1]; exact hR.1)
/-- a constructor, from outside -/
theorem j_callI {k' n' : Nat} (C : Cx X l D cy cc nL Ts own rm) (hO : Ko (xS X)) (Mt : CtN l y wl rmc D cy [.ref b] M post w1) (g : GoodIn Ts wl) (hw : wl = .code y bytes maxL none :: wl') (hl : Cond.methodLink own index y ∈ Ts) (hini : Cond.initialized y.cls ∈ Ts) (him : Cond.instanceMethod y ∈ Ts) (hc : y.name = "<init>") (hc2 : y.cls ≠ "java/lang/invoke/MethodHandle" ∧ y.cls ≠ "java/lang/invoke/VarHandle" ∧ (parseMethodDescriptor y.desc).map (fun d => d.parameters.length) = some 0) (hk' : k + rmc.cells = k') (hn' : n + rmc.slots = n') (hR : (k' ≤ rm.cells ∧ n' ≤ rm.slots) ∧ rmc.frames + 1 ≤ rm.frames ∧ 8 + (maxL + 11) + rmc.locals ≤ rm.locals) (A' B : va_W) (hws : ws = A' ++ (M ++ B)) (hst : (rest.map fun v => v.category).sum ≤ 8) (hd : decode cc pc = .ok (.invokespecial index, 3)) (hs : st = .ref b :: rest)
    (kk : ∀ u, post u → J (xw X k' n') (A' ++ (w1 u ++ B)) (pc + 3) lv rest) : J (xw X k n) ws pc lv st := by
  subst hws; subst hs; subst hk'; subst hn'
  intro H locs ls hP hD hS hls
  have hM := Mt H.size
  have hP : va_P (xD X) vwCl (A' ++ (M ++ B)) H := hP
  have hD : va_D (xA X) (A' ++ (M ++ B)) := hD
  rw [C.2.2.1.2.2.1] at hP
  have hpm := pre_okN (X := X) C.2.2.2.1 hO rfl (dP_l (dP_r hP)) ((dD_l (dD_r hD)).weaken (fun _ _ _ _ => trivial)) [.ref b]
  rw [← C.2.2.1.1] at hM
  have hnl := C.2.2.1.2.2.2
  refine j_goN (X := X) (k := k) (n := n) C (by rw [C.2.2.1.2.2.1]; exact hP) hD hS hls (av := [.ref b]) ?_ kk
  rw [C.2.2.1.2.2.1]
  exact va_runI (As := []) (rest := rest) ⟨C.1.1, C.1.2, C.2.1.1, C.2.1.2.1, C.2.1.2.2⟩ hM (cwI 0 C.2.1.2.2 g hw rfl rfl (C.2.1.2.2 _ hini) (C.2.1.2.2 _ hl) (C.2.1.2.2 _ him) hc hc2 (by rw [C.2.2.1.2.1]; exact hR.2)) hpm rfl rfl (by rw [← hnl]; exact hls.1) rfl (lv_room hst) hd (by rw [C.2.2.1.2.1]; exact hR.1)
end JM
