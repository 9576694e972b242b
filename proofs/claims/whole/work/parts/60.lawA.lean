/-! THE CLAIM OUT OF ONE WALK OF THE LAW'S BODY. Your part is whole_start (and what it stands on); all else here is the same for every law, but numbers. -/
def R_law : String := "DebtLampsLaw"
def lw_P (b : Addr) (xs : List Int32) (args : Array Value) (s : State) : Prop := args = #[.ref b] ∧ s.IntsAt b xs ∧ xs.length ≤ 448 ∧ (Jvm.Cond.and given_1 narrow_1).before args s = true
def lw_Q (_ : Array Value) (s : State) (o : Outcome) (t : State) : Prop := o = .returned (some (.int 1)) ∧ Framed s o t [] 600000 7302250
def lw_Z (below : List Frame) (a : Array Value) (s : State) : State → Prop := fun t => ∃ o, t.status = .running ∧ Ended t below o ∧ lw_Q a s o t
/-- the law's own end, with 1 on the stack, nothing written that was there before, its room as the claim has it -/
theorem lw_ret {p : Program} {l : Launch} {e : Env} {s : State} {m : MethodId} {below : List Frame} {meth : Method} {c : Code} {b : Nat} (hx : p.tables.exec = Jvm.exec) (hb : c.code = code) (hr : meth.sig.returnType = ret) (hlocks : meth.locks = false) {pc : Nat} {H : Heap} {ls : Array Slot} (hdg : decode code pc = .ok (.ireturn, 1)) : W p l e room_1 s m #[Value.ref b] below meth c H [] 600000 7302250 (lw_Z below #[Value.ref b] s) (F0 m pc ls [.int 1]) := by
  intro T hT X
  obtain ⟨fs, hret, hrun, hended, hW, hframe⟩ := X.leave (v := some (.int 1)) (hlocks := hlocks) (fun h => by rw [hr] at h; cases h)
  have hmeth' : T.vm.method? m = some meth := X.method'
  refine ⟨T.setFrames fs, ?_, .returned (some (.int 1)), hrun, hended, rfl, ⟨_, rfl⟩, hW, hframe⟩
  jvm_step X.here [X.here.top, hx, hb, hdg, hmeth', hr, ret, narrow_b1]
  (try refine ⟨rfl, ?_⟩); (try refine ⟨rfl, ?_⟩)
  first | (intro acts; rw [hret _ acts rfl rfl rfl]) | rw [hret _ _ rfl rfl rfl]
  exact Steps.refl _
/-- what holds at the law's entry: the machine, the code, the tables' words (any of lw_tbl by 'hts w (by decide +kernel)'), the script of L ints xs at the cell b, what the Statement gives of the start (any of its parts by flat_of_before) -/
def lw_At (p : Program) (s : State) (m : MethodId) (meth : Method) (c : Code) (b L : Nat) (xs : Nat → Int32) : Prop :=
  p.tables.exec = Jvm.exec ∧ c.code = code ∧ meth.sig.returnType = ret ∧ c.maxLocals = 4 ∧ s.vm.findClass R_law = some m.cls ∧ (∀ w ∈ lw_tbl, w.before #[Value.ref b] s = true) ∧ va_X b L xs s s.heap ∧ b < s.heap.size ∧ meth.locks = false ∧ (Jvm.Cond.and given_1 narrow_1).before #[Value.ref b] s = true
section JLW
variable {X : Cxt} {l : Launch} {D : va_G} {cy : Nat → ClassId} {cc : ByteArray} {nL : Nat} {Ts : List Cond} {own : String} {rm : Room} {ws : va_W} {pc : Nat} {lv : List (Nat × Value)} {st : List Value}
variable {y : MethodName} {wl wl' : List Cond} {rmc : Room} {As : List Value} {bytes : ByteArray} {maxL index : Nat} {ret : Option FieldType} {rest : List Value}
theorem j_sld {b L j : Nat} {xs : Nat → Int32} (C : Cx X l D cy cc nL Ts own rm) (hX : va_X b L xs (xS X) (xS X).heap) (hbl : b < (xS X).heap.size) (hbA : ¬ xA X b) (hj : j < L) (hL : L < 2 ^ 31) (hd : decode cc pc = .ok (.iaload, 1)) (k : J X ws (pc + 1) lv (.int (xs j) :: st)) : J X ws pc lv (.int (nI j) :: .ref b :: st) := by
  intro H locs ls hP hD hS hl
  have e : (nI j).toNatClampNeg = j := nI_clamp (by omega)
  refine va_sld C.1.1 C.1.2 hX hbl hbA hS (vp_in_nI hj hL) hd ?_
  rw [e]
  exact k H locs ls hP hD hS hl
theorem j_slen {b L : Nat} {xs : Nat → Int32} (C : Cx X l D cy cc nL Ts own rm) (hX : va_X b L xs (xS X) (xS X).heap) (hbl : b < (xS X).heap.size) (hbA : ¬ xA X b) (hd : decode cc pc = .ok (.arraylength, 1)) (k : J X ws (pc + 1) lv (.int (nI L) :: st)) : J X ws pc lv (.ref b :: st) := by
  intro H locs ls hP hD hS hl
  exact va_slen C.1.1 C.1.2 hX hbl hbA hS hd (k H locs ls hP hD hS hl)
theorem wXu_0 (A : Nat → Nat → Nat) (cy : Nat → ClassId) (u : XS) : ∃ fs, (wXu A cy u)[0]? = some (A 3 0, .inr (7, fs)) := ⟨_, rfl⟩
theorem wMu_0 (mm : Nat → Nat) (cy : Nat → ClassId) (v : MS) : ∃ fs, (wMu mm cy v)[0]? = some (mm 0, .inr (8, fs)) := ⟨_, rfl⟩
theorem law_X {A : Nat → Nat → Nat} {mm : Nat → Nat} {u : XS} {v : MS} {post : XS → Prop} {rv : XS → Option Value} (C : Cx X l D cy cc nL Ts own rm) (Mt : Ct l y wl rmc D cy (.ref (A 3 0) :: As) (wXu A cy u) post rv (fun u' => wXu A cy u')) (g : GoodIn Ts (wsV own index RX7 y wl)) (hw : wl = .code y bytes maxL ret :: wl') (na : Nat) (hna : As.length = na) (hc : y.cls = RX7 ∧ y.cls ≠ "java/lang/invoke/MethodHandle" ∧ y.cls ≠ "java/lang/invoke/VarHandle" ∧ (parseMethodDescriptor y.desc).map (fun d => d.parameters.length) = some na) (hR : rmc.cells = 0 ∧ rmc.slots = 0 ∧ rmc.frames + 1 ≤ rm.frames ∧ 8 + (maxL + 11) + rmc.locals ≤ rm.locals) (hst : (rest.map fun v => v.category).sum ≤ 8) (hd : decode cc pc = .ok (.invokevirtual index, 3)) (hs : st = As.reverse ++ .ref (A 3 0) :: rest)
    (k : ∀ u', post u' → J X (wXu A cy u' ++ wMu mm cy v) (pc + 3) lv ((rv u').toList ++ rest)) : J X (wXu A cy u ++ wMu mm cy v) pc lv st := by
  obtain ⟨fs, hq⟩ := wXu_0 A cy u
  exact j_callV C Mt g hw na hna hc hR [] (wMu mm cy v) rfl 0 hq rfl hst hd hs k
theorem law_M {A : Nat → Nat → Nat} {mm : Nat → Nat} {u : XS} {v : MS} {post : MS → Prop} {rv : MS → Option Value} (C : Cx X l D cy cc nL Ts own rm) (Mt : Ct l y wl rmc D cy (.ref (mm 0) :: As) (wMu mm cy v) post rv (fun v' => wMu mm cy v')) (g : GoodIn Ts (wsV own index RX8 y wl)) (hw : wl = .code y bytes maxL ret :: wl') (na : Nat) (hna : As.length = na) (hc : y.cls = RX8 ∧ y.cls ≠ "java/lang/invoke/MethodHandle" ∧ y.cls ≠ "java/lang/invoke/VarHandle" ∧ (parseMethodDescriptor y.desc).map (fun d => d.parameters.length) = some na) (hR : rmc.cells = 0 ∧ rmc.slots = 0 ∧ rmc.frames + 1 ≤ rm.frames ∧ 8 + (maxL + 11) + rmc.locals ≤ rm.locals) (hst : (rest.map fun v => v.category).sum ≤ 8) (hd : decode cc pc = .ok (.invokevirtual index, 3)) (hs : st = As.reverse ++ .ref (mm 0) :: rest)
    (k : ∀ v', post v' → J X (wXu A cy u ++ wMu mm cy v') (pc + 3) lv ((rv v').toList ++ rest)) : J X (wXu A cy u ++ wMu mm cy v) pc lv st := by
  obtain ⟨fs, hq⟩ := wMu_0 mm cy v
  exact j_callV C Mt g hw na hna hc hR (wXu A cy u) [] (by rw [List.append_nil]) 0 hq rfl hst hd hs (fun v' hp => by rw [List.append_nil]; exact k v' hp)
end JLW
theorem k_X7_town {l : Launch} {D : va_G} {cy : Nat → ClassId} (A : Nat → Nat → Nat) (σ : Sp) (u : XS) (hI : XI σ u) (x1 x2 x3 x4 : Int32) : Ct l yX7_town wsX7_town ({ frames := 3, cells := 0, slots := 0, locals := 73 }) D cy [.ref (A 3 0), .int x1, .int x2, .int x3, .int x4] (wXu A cy u) (fun u' : XS => XI (m_town σ x1 x2 x3 x4).2 u') (fun _ => some (.int (m_town σ x1 x2 x3 x4).1)) (fun u' => wXu A cy u') := by
  obtain ⟨⟨N, B, k, p⟩, ⟨c, rd, rl, ra⟩, ⟨hs, sl, sa, sc⟩, tv, fl⟩ := σ
  obtain ⟨fl', dT, ⟨vN, vB, kf, pf, lf, tf⟩, tT, ct, df, mf, gf, tv', ln, la, cf⟩ := u
  obtain ⟨⟨rfl, rfl, rfl, rfl, rfl⟩, h2⟩ := hI
  exact c_X7_town A fl' dT tT N B kf pf lf tf c df mf gf tv' ln la cf k p rd rl ra hs sl sa sc ⟨⟨rfl, rfl, rfl, rfl, rfl⟩, h2⟩ x1 x2 x3 x4
theorem k_X8_town {l : Launch} {D : va_G} {cy : Nat → ClassId} (mm : Nat → Nat) (σ : Sp) (u : MS) (hI : MI σ u) (x1 x2 x3 x4 : Int32) : Ct l yX8_town wsX8_town ({ frames := 4, cells := 0, slots := 0, locals := 91 }) D cy [.ref (mm 0), .int x1, .int x2, .int x3, .int x4] (wMu mm cy u) (fun u' : MS => MI (m_town σ x1 x2 x3 x4).2 u') (fun _ => some (.int (m_town σ x1 x2 x3 x4).1)) (fun u' => wMu mm cy u') := by
  obtain ⟨⟨N, B, k, p⟩, ⟨c, rd, rl, ra⟩, ⟨hs, sl, sa, sc⟩, tv, fl⟩ := σ
  obtain ⟨fl', tv', so, sg, ce, vN, vB, kf, pf, vat, vrm, vrb, rk, rp, lf, tf, kp, ct, df, mf, gf⟩ := u
  obtain ⟨⟨rfl, rfl, rfl, rfl, rfl⟩, h2⟩ := hI
  exact c_X8_town mm fl' tv' so sg ce N B kf pf vat vrm vrb rk rp lf tf kp c df mf gf k p rd rl ra hs sl sa sc ⟨⟨rfl, rfl, rfl, rfl, rfl⟩, h2⟩ x1 x2 x3 x4
theorem k_X7_ofPerson {l : Launch} {D : va_G} {cy : Nat → ClassId} (A : Nat → Nat → Nat) (σ : Sp) (u : XS) (hI : XI σ u) (x1 x2 : Int32) : Ct l yX7_ofPerson wsX7_ofPerson ({ frames := 6, cells := 0, slots := 0, locals := 132 }) D cy [.ref (A 3 0), .int x1, .int x2] (wXu A cy u) (fun u' : XS => XI (m_ofPerson σ x1 x2).2 u') (fun _ => some (.int (m_ofPerson σ x1 x2).1)) (fun u' => wXu A cy u') := by
  obtain ⟨⟨N, B, k, p⟩, ⟨c, rd, rl, ra⟩, ⟨hs, sl, sa, sc⟩, tv, fl⟩ := σ
  obtain ⟨fl', dT, ⟨vN, vB, kf, pf, lf, tf⟩, tT, ct, df, mf, gf, tv', ln, la, cf⟩ := u
  obtain ⟨⟨rfl, rfl, rfl, rfl, rfl⟩, h2⟩ := hI
  exact c_X7_ofPerson A fl' dT tT N B kf pf lf tf c df mf gf tv' ln la cf k p rd rl ra hs sl sa sc ⟨⟨rfl, rfl, rfl, rfl, rfl⟩, h2⟩ x1 x2
theorem k_X8_ofPerson {l : Launch} {D : va_G} {cy : Nat → ClassId} (mm : Nat → Nat) (σ : Sp) (u : MS) (hI : MI σ u) (x1 x2 : Int32) : Ct l yX8_ofPerson wsX8_ofPerson ({ frames := 5, cells := 0, slots := 0, locals := 111 }) D cy [.ref (mm 0), .int x1, .int x2] (wMu mm cy u) (fun u' : MS => MI (m_ofPerson σ x1 x2).2 u') (fun _ => some (.int (m_ofPerson σ x1 x2).1)) (fun u' => wMu mm cy u') := by
  obtain ⟨⟨N, B, k, p⟩, ⟨c, rd, rl, ra⟩, ⟨hs, sl, sa, sc⟩, tv, fl⟩ := σ
  obtain ⟨fl', tv', so, sg, ce, vN, vB, kf, pf, vat, vrm, vrb, rk, rp, lf, tf, kp, ct, df, mf, gf⟩ := u
  obtain ⟨⟨rfl, rfl, rfl, rfl, rfl⟩, h2⟩ := hI
  exact c_X8_ofPerson mm fl' tv' so sg ce N B kf pf vat vrm vrb rk rp lf tf kp c df mf gf k p rd rl ra hs sl sa sc ⟨⟨rfl, rfl, rfl, rfl, rfl⟩, h2⟩ x1 x2
theorem k_X7_owe {l : Launch} {D : va_G} {cy : Nat → ClassId} (A : Nat → Nat → Nat) (σ : Sp) (u : XS) (hI : XI σ u) (x1 x2 x3 : Int32) : Ct l yX7_owe wsX7_owe ({ frames := 1, cells := 0, slots := 0, locals := 21 }) D cy [.ref (A 3 0), .int x1, .int x2, .int x3] (wXu A cy u) (fun u' : XS => XI (m_owe σ x1 x2 x3).2 u') (fun _ => some (.int (m_owe σ x1 x2 x3).1)) (fun u' => wXu A cy u') := by
  obtain ⟨⟨N, B, k, p⟩, ⟨c, rd, rl, ra⟩, ⟨hs, sl, sa, sc⟩, tv, fl⟩ := σ
  obtain ⟨fl', dT, ⟨vN, vB, kf, pf, lf, tf⟩, tT, ct, df, mf, gf, tv', ln, la, cf⟩ := u
  obtain ⟨⟨rfl, rfl, rfl, rfl, rfl⟩, h2⟩ := hI
  exact c_X7_owe A fl' dT tT N B kf pf lf tf c df mf gf tv' ln la cf k p rd rl ra hs sl sa sc ⟨⟨rfl, rfl, rfl, rfl, rfl⟩, h2⟩ x1 x2 x3
theorem k_X8_owe {l : Launch} {D : va_G} {cy : Nat → ClassId} (mm : Nat → Nat) (σ : Sp) (u : MS) (hI : MI σ u) (x1 x2 x3 : Int32) : Ct l yX8_owe wsX8_owe ({ frames := 2, cells := 0, slots := 0, locals := 43 }) D cy [.ref (mm 0), .int x1, .int x2, .int x3] (wMu mm cy u) (fun u' : MS => MI (m_owe σ x1 x2 x3).2 u') (fun _ => some (.int (m_owe σ x1 x2 x3).1)) (fun u' => wMu mm cy u') := by
  obtain ⟨⟨N, B, k, p⟩, ⟨c, rd, rl, ra⟩, ⟨hs, sl, sa, sc⟩, tv, fl⟩ := σ
  obtain ⟨fl', tv', so, sg, ce, vN, vB, kf, pf, vat, vrm, vrb, rk, rp, lf, tf, kp, ct, df, mf, gf⟩ := u
  obtain ⟨⟨rfl, rfl, rfl, rfl, rfl⟩, h2⟩ := hI
  exact c_X8_owe mm fl' tv' so sg ce N B kf pf vat vrm vrb rk rp lf tf kp c df mf gf k p rd rl ra hs sl sa sc ⟨⟨rfl, rfl, rfl, rfl, rfl⟩, h2⟩ x1 x2 x3
theorem k_X7_owes {l : Launch} {D : va_G} {cy : Nat → ClassId} (A : Nat → Nat → Nat) (σ : Sp) (u : XS) (hI : XI σ u) (x1 x2 : Int32) : Ct l yX7_owes wsX7_owes ({ frames := 1, cells := 0, slots := 0, locals := 21 }) D cy [.ref (A 3 0), .int x1, .int x2] (wXu A cy u) (fun u' : XS => XI (m_owes σ x1 x2).2 u') (fun _ => some (.int (m_owes σ x1 x2).1)) (fun u' => wXu A cy u') := by
  obtain ⟨⟨N, B, k, p⟩, ⟨c, rd, rl, ra⟩, ⟨hs, sl, sa, sc⟩, tv, fl⟩ := σ
  obtain ⟨fl', dT, ⟨vN, vB, kf, pf, lf, tf⟩, tT, ct, df, mf, gf, tv', ln, la, cf⟩ := u
  obtain ⟨⟨rfl, rfl, rfl, rfl, rfl⟩, h2⟩ := hI
  exact c_X7_owes A fl' dT tT N B kf pf lf tf c df mf gf tv' ln la cf k p rd rl ra hs sl sa sc ⟨⟨rfl, rfl, rfl, rfl, rfl⟩, h2⟩ x1 x2
theorem k_X8_owes {l : Launch} {D : va_G} {cy : Nat → ClassId} (mm : Nat → Nat) (σ : Sp) (u : MS) (hI : MI σ u) (x1 x2 : Int32) : Ct l yX8_owes wsX8_owes ({ frames := 1, cells := 0, slots := 0, locals := 21 }) D cy [.ref (mm 0), .int x1, .int x2] (wMu mm cy u) (fun u' : MS => MI (m_owes σ x1 x2).2 u') (fun _ => some (.int (m_owes σ x1 x2).1)) (fun u' => wMu mm cy u') := by
  obtain ⟨⟨N, B, k, p⟩, ⟨c, rd, rl, ra⟩, ⟨hs, sl, sa, sc⟩, tv, fl⟩ := σ
  obtain ⟨fl', tv', so, sg, ce, vN, vB, kf, pf, vat, vrm, vrb, rk, rp, lf, tf, kp, ct, df, mf, gf⟩ := u
  obtain ⟨⟨rfl, rfl, rfl, rfl, rfl⟩, h2⟩ := hI
  exact c_X8_owes mm fl' tv' so sg ce N B kf pf vat vrm vrb rk rp lf tf kp c df mf gf k p rd rl ra hs sl sa sc ⟨⟨rfl, rfl, rfl, rfl, rfl⟩, h2⟩ x1 x2
theorem k_X7_weight {l : Launch} {D : va_G} {cy : Nat → ClassId} (A : Nat → Nat → Nat) (σ : Sp) (u : XS) (hI : XI σ u) (x1 x2 : Int32) : Ct l yX7_weight wsX7_weight ({ frames := 2, cells := 0, slots := 0, locals := 43 }) D cy [.ref (A 3 0), .int x1, .int x2] (wXu A cy u) (fun u' : XS => XI (m_weight σ x1 x2).2 u') (fun _ => some (.int (m_weight σ x1 x2).1)) (fun u' => wXu A cy u') := by
  obtain ⟨⟨N, B, k, p⟩, ⟨c, rd, rl, ra⟩, ⟨hs, sl, sa, sc⟩, tv, fl⟩ := σ
  obtain ⟨fl', dT, ⟨vN, vB, kf, pf, lf, tf⟩, tT, ct, df, mf, gf, tv', ln, la, cf⟩ := u
  obtain ⟨⟨rfl, rfl, rfl, rfl, rfl⟩, h2⟩ := hI
  exact c_X7_weight A fl' dT tT N B kf pf lf tf c df mf gf tv' ln la cf k p rd rl ra hs sl sa sc ⟨⟨rfl, rfl, rfl, rfl, rfl⟩, h2⟩ x1 x2
theorem k_X8_weight {l : Launch} {D : va_G} {cy : Nat → ClassId} (mm : Nat → Nat) (σ : Sp) (u : MS) (hI : MI σ u) (x1 x2 : Int32) : Ct l yX8_weight wsX8_weight ({ frames := 2, cells := 0, slots := 0, locals := 44 }) D cy [.ref (mm 0), .int x1, .int x2] (wMu mm cy u) (fun u' : MS => MI (m_weight σ x1 x2).2 u') (fun _ => some (.int (m_weight σ x1 x2).1)) (fun u' => wMu mm cy u') := by
  obtain ⟨⟨N, B, k, p⟩, ⟨c, rd, rl, ra⟩, ⟨hs, sl, sa, sc⟩, tv, fl⟩ := σ
  obtain ⟨fl', tv', so, sg, ce, vN, vB, kf, pf, vat, vrm, vrb, rk, rp, lf, tf, kp, ct, df, mf, gf⟩ := u
  obtain ⟨⟨rfl, rfl, rfl, rfl, rfl⟩, h2⟩ := hI
  exact c_X8_weight mm fl' tv' so sg ce N B kf pf vat vrm vrb rk rp lf tf kp c df mf gf k p rd rl ra hs sl sa sc ⟨⟨rfl, rfl, rfl, rfl, rfl⟩, h2⟩ x1 x2
theorem k_X7_bell {l : Launch} {D : va_G} {cy : Nat → ClassId} (A : Nat → Nat → Nat) (σ : Sp) (u : XS) (hI : XI σ u) (x1 : Int32) : Ct l yX7_bell wsX7_bell ({ frames := 1, cells := 0, slots := 0, locals := 21 }) D cy [.ref (A 3 0), .int x1] (wXu A cy u) (fun u' : XS => XI (m_bell σ x1).2 u') (fun _ => some (.int (m_bell σ x1).1)) (fun u' => wXu A cy u') := by
  obtain ⟨⟨N, B, k, p⟩, ⟨c, rd, rl, ra⟩, ⟨hs, sl, sa, sc⟩, tv, fl⟩ := σ
  obtain ⟨fl', dT, ⟨vN, vB, kf, pf, lf, tf⟩, tT, ct, df, mf, gf, tv', ln, la, cf⟩ := u
  obtain ⟨⟨rfl, rfl, rfl, rfl, rfl⟩, h2⟩ := hI
  exact c_X7_bell A fl' dT tT N B kf pf lf tf c df mf gf tv' ln la cf k p rd rl ra hs sl sa sc ⟨⟨rfl, rfl, rfl, rfl, rfl⟩, h2⟩ x1
theorem k_X8_bell {l : Launch} {D : va_G} {cy : Nat → ClassId} (mm : Nat → Nat) (σ : Sp) (u : MS) (hI : MI σ u) (x1 : Int32) : Ct l yX8_bell wsX8_bell ({ frames := 1, cells := 0, slots := 0, locals := 22 }) D cy [.ref (mm 0), .int x1] (wMu mm cy u) (fun u' : MS => MI (m_bell σ x1).2 u') (fun _ => some (.int (m_bell σ x1).1)) (fun u' => wMu mm cy u') := by
  obtain ⟨⟨N, B, k, p⟩, ⟨c, rd, rl, ra⟩, ⟨hs, sl, sa, sc⟩, tv, fl⟩ := σ
  obtain ⟨fl', tv', so, sg, ce, vN, vB, kf, pf, vat, vrm, vrb, rk, rp, lf, tf, kp, ct, df, mf, gf⟩ := u
  obtain ⟨⟨rfl, rfl, rfl, rfl, rfl⟩, h2⟩ := hI
  exact c_X8_bell mm fl' tv' so sg ce N B kf pf vat vrm vrb rk rp lf tf kp c df mf gf k p rd rl ra hs sl sa sc ⟨⟨rfl, rfl, rfl, rfl, rfl⟩, h2⟩ x1
theorem k_X7_lighter {l : Launch} {D : va_G} {cy : Nat → ClassId} (A : Nat → Nat → Nat) (σ : Sp) (u : XS) (hI : XI σ u) (x1 : Int32) : Ct l yX7_lighter wsX7_lighter ({ frames := 3, cells := 0, slots := 0, locals := 69 }) D cy [.ref (A 3 0), .int x1] (wXu A cy u) (fun u' : XS => XI (m_lighter σ x1).2 u') (fun _ => some (.int (m_lighter σ x1).1)) (fun u' => wXu A cy u') := by
  obtain ⟨⟨N, B, k, p⟩, ⟨c, rd, rl, ra⟩, ⟨hs, sl, sa, sc⟩, tv, fl⟩ := σ
  obtain ⟨fl', dT, ⟨vN, vB, kf, pf, lf, tf⟩, tT, ct, df, mf, gf, tv', ln, la, cf⟩ := u
  obtain ⟨⟨rfl, rfl, rfl, rfl, rfl⟩, h2⟩ := hI
  exact c_X7_lighter A fl' dT tT N B kf pf lf tf c df mf gf tv' ln la cf k p rd rl ra hs sl sa sc ⟨⟨rfl, rfl, rfl, rfl, rfl⟩, h2⟩ x1
theorem k_X8_lighter {l : Launch} {D : va_G} {cy : Nat → ClassId} (mm : Nat → Nat) (σ : Sp) (u : MS) (hI : MI σ u) (x1 : Int32) : Ct l yX8_lighter wsX8_lighter ({ frames := 3, cells := 0, slots := 0, locals := 67 }) D cy [.ref (mm 0), .int x1] (wMu mm cy u) (fun u' : MS => MI (m_lighter σ x1).2 u') (fun _ => some (.int (m_lighter σ x1).1)) (fun u' => wMu mm cy u') := by
  obtain ⟨⟨N, B, k, p⟩, ⟨c, rd, rl, ra⟩, ⟨hs, sl, sa, sc⟩, tv, fl⟩ := σ
  obtain ⟨fl', tv', so, sg, ce, vN, vB, kf, pf, vat, vrm, vrb, rk, rp, lf, tf, kp, ct, df, mf, gf⟩ := u
  obtain ⟨⟨rfl, rfl, rfl, rfl, rfl⟩, h2⟩ := hI
  exact c_X8_lighter mm fl' tv' so sg ce N B kf pf vat vrm vrb rk rp lf tf kp c df mf gf k p rd rl ra hs sl sa sc ⟨⟨rfl, rfl, rfl, rfl, rfl⟩, h2⟩ x1
theorem k_X7_dusks {l : Launch} {D : va_G} {cy : Nat → ClassId} (A : Nat → Nat → Nat) (σ : Sp) (u : XS) (hI : XI σ u) (x1 : Int32) : Ct l yX7_dusks wsX7_dusks ({ frames := 5, cells := 0, slots := 0, locals := 113 }) D cy [.ref (A 3 0), .int x1] (wXu A cy u) (fun u' : XS => XI (m_dusks σ x1).2 u') (fun _ => some (.int (m_dusks σ x1).1)) (fun u' => wXu A cy u') := by
  obtain ⟨⟨N, B, k, p⟩, ⟨c, rd, rl, ra⟩, ⟨hs, sl, sa, sc⟩, tv, fl⟩ := σ
  obtain ⟨fl', dT, ⟨vN, vB, kf, pf, lf, tf⟩, tT, ct, df, mf, gf, tv', ln, la, cf⟩ := u
  obtain ⟨⟨rfl, rfl, rfl, rfl, rfl⟩, h2⟩ := hI
  exact c_X7_dusks A fl' dT tT N B kf pf lf tf c df mf gf tv' ln la cf k p rd rl ra hs sl sa sc ⟨⟨rfl, rfl, rfl, rfl, rfl⟩, h2⟩ x1
theorem k_X8_dusks {l : Launch} {D : va_G} {cy : Nat → ClassId} (mm : Nat → Nat) (σ : Sp) (u : MS) (hI : MI σ u) (x1 : Int32) : Ct l yX8_dusks wsX8_dusks ({ frames := 6, cells := 0, slots := 0, locals := 134 }) D cy [.ref (mm 0), .int x1] (wMu mm cy u) (fun u' : MS => MI (m_dusks σ x1).2 u') (fun _ => some (.int (m_dusks σ x1).1)) (fun u' => wMu mm cy u') := by
  obtain ⟨⟨N, B, k, p⟩, ⟨c, rd, rl, ra⟩, ⟨hs, sl, sa, sc⟩, tv, fl⟩ := σ
  obtain ⟨fl', tv', so, sg, ce, vN, vB, kf, pf, vat, vrm, vrb, rk, rp, lf, tf, kp, ct, df, mf, gf⟩ := u
  obtain ⟨⟨rfl, rfl, rfl, rfl, rfl⟩, h2⟩ := hI
  exact c_X8_dusks mm fl' tv' so sg ce N B kf pf vat vrm vrb rk rp lf tf kp c df mf gf k p rd rl ra hs sl sa sc ⟨⟨rfl, rfl, rfl, rfl, rfl⟩, h2⟩ x1
theorem k_X7_later {l : Launch} {D : va_G} {cy : Nat → ClassId} (A : Nat → Nat → Nat) (σ : Sp) (u : XS) (hI : XI σ u) (x1 x2 : Int32) : Ct l yX7_later wsX7_later ({ frames := 5, cells := 0, slots := 0, locals := 113 }) D cy [.ref (A 3 0), .int x1, .int x2] (wXu A cy u) (fun u' : XS => XI (m_later σ x1 x2).2 u') (fun _ => some (.int (m_later σ x1 x2).1)) (fun u' => wXu A cy u') := by
  obtain ⟨⟨N, B, k, p⟩, ⟨c, rd, rl, ra⟩, ⟨hs, sl, sa, sc⟩, tv, fl⟩ := σ
  obtain ⟨fl', dT, ⟨vN, vB, kf, pf, lf, tf⟩, tT, ct, df, mf, gf, tv', ln, la, cf⟩ := u
  obtain ⟨⟨rfl, rfl, rfl, rfl, rfl⟩, h2⟩ := hI
  exact c_X7_later A fl' dT tT N B kf pf lf tf c df mf gf tv' ln la cf k p rd rl ra hs sl sa sc ⟨⟨rfl, rfl, rfl, rfl, rfl⟩, h2⟩ x1 x2
theorem k_X8_later {l : Launch} {D : va_G} {cy : Nat → ClassId} (mm : Nat → Nat) (σ : Sp) (u : MS) (hI : MI σ u) (x1 x2 : Int32) : Ct l yX8_later wsX8_later ({ frames := 6, cells := 0, slots := 0, locals := 134 }) D cy [.ref (mm 0), .int x1, .int x2] (wMu mm cy u) (fun u' : MS => MI (m_later σ x1 x2).2 u') (fun _ => some (.int (m_later σ x1 x2).1)) (fun u' => wMu mm cy u') := by
  obtain ⟨⟨N, B, k, p⟩, ⟨c, rd, rl, ra⟩, ⟨hs, sl, sa, sc⟩, tv, fl⟩ := σ
  obtain ⟨fl', tv', so, sg, ce, vN, vB, kf, pf, vat, vrm, vrb, rk, rp, lf, tf, kp, ct, df, mf, gf⟩ := u
  obtain ⟨⟨rfl, rfl, rfl, rfl, rfl⟩, h2⟩ := hI
  exact c_X8_later mm fl' tv' so sg ce N B kf pf vat vrm vrb rk rp lf tf kp c df mf gf k p rd rl ra hs sl sa sc ⟨⟨rfl, rfl, rfl, rfl, rfl⟩, h2⟩ x1 x2
theorem k_X7_dark {l : Launch} {D : va_G} {cy : Nat → ClassId} (A : Nat → Nat → Nat) (σ : Sp) (u : XS) (hI : XI σ u) : Ct l yX7_dark wsX7_dark ({ frames := 5, cells := 0, slots := 0, locals := 113 }) D cy [.ref (A 3 0)] (wXu A cy u) (fun u' : XS => XI (m_dark σ ).2 u') (fun _ => some (.int (m_dark σ ).1)) (fun u' => wXu A cy u') := by
  obtain ⟨⟨N, B, k, p⟩, ⟨c, rd, rl, ra⟩, ⟨hs, sl, sa, sc⟩, tv, fl⟩ := σ
  obtain ⟨fl', dT, ⟨vN, vB, kf, pf, lf, tf⟩, tT, ct, df, mf, gf, tv', ln, la, cf⟩ := u
  obtain ⟨⟨rfl, rfl, rfl, rfl, rfl⟩, h2⟩ := hI
  exact c_X7_dark A fl' dT tT N B kf pf lf tf c df mf gf tv' ln la cf k p rd rl ra hs sl sa sc ⟨⟨rfl, rfl, rfl, rfl, rfl⟩, h2⟩ 
theorem k_X8_dark {l : Launch} {D : va_G} {cy : Nat → ClassId} (mm : Nat → Nat) (σ : Sp) (u : MS) (hI : MI σ u) : Ct l yX8_dark wsX8_dark ({ frames := 6, cells := 0, slots := 0, locals := 134 }) D cy [.ref (mm 0)] (wMu mm cy u) (fun u' : MS => MI (m_dark σ ).2 u') (fun _ => some (.int (m_dark σ ).1)) (fun u' => wMu mm cy u') := by
  obtain ⟨⟨N, B, k, p⟩, ⟨c, rd, rl, ra⟩, ⟨hs, sl, sa, sc⟩, tv, fl⟩ := σ
  obtain ⟨fl', tv', so, sg, ce, vN, vB, kf, pf, vat, vrm, vrb, rk, rp, lf, tf, kp, ct, df, mf, gf⟩ := u
  obtain ⟨⟨rfl, rfl, rfl, rfl, rfl⟩, h2⟩ := hI
  exact c_X8_dark mm fl' tv' so sg ce N B kf pf vat vrm vrb rk rp lf tf kp c df mf gf k p rd rl ra hs sl sa sc ⟨⟨rfl, rfl, rfl, rfl, rfl⟩, h2⟩ 
theorem k_X7_ring {l : Launch} {D : va_G} {cy : Nat → ClassId} (A : Nat → Nat → Nat) (σ : Sp) (u : XS) (hI : XI σ u) (x1 : Int32) : Ct l yX7_ring wsX7_ring ({ frames := 3, cells := 0, slots := 0, locals := 69 }) D cy [.ref (A 3 0), .int x1] (wXu A cy u) (fun u' : XS => XI (m_ring σ x1).2 u') (fun _ => some (.int (m_ring σ x1).1)) (fun u' => wXu A cy u') := by
  obtain ⟨⟨N, B, k, p⟩, ⟨c, rd, rl, ra⟩, ⟨hs, sl, sa, sc⟩, tv, fl⟩ := σ
  obtain ⟨fl', dT, ⟨vN, vB, kf, pf, lf, tf⟩, tT, ct, df, mf, gf, tv', ln, la, cf⟩ := u
  obtain ⟨⟨rfl, rfl, rfl, rfl, rfl⟩, h2⟩ := hI
  exact c_X7_ring A fl' dT tT N B kf pf lf tf c df mf gf tv' ln la cf k p rd rl ra hs sl sa sc ⟨⟨rfl, rfl, rfl, rfl, rfl⟩, h2⟩ x1
theorem k_X8_ring {l : Launch} {D : va_G} {cy : Nat → ClassId} (mm : Nat → Nat) (σ : Sp) (u : MS) (hI : MI σ u) (x1 : Int32) : Ct l yX8_ring wsX8_ring ({ frames := 3, cells := 0, slots := 0, locals := 67 }) D cy [.ref (mm 0), .int x1] (wMu mm cy u) (fun u' : MS => MI (m_ring σ x1).2 u') (fun _ => some (.int (m_ring σ x1).1)) (fun u' => wMu mm cy u') := by
  obtain ⟨⟨N, B, k, p⟩, ⟨c, rd, rl, ra⟩, ⟨hs, sl, sa, sc⟩, tv, fl⟩ := σ
  obtain ⟨fl', tv', so, sg, ce, vN, vB, kf, pf, vat, vrm, vrb, rk, rp, lf, tf, kp, ct, df, mf, gf⟩ := u
  obtain ⟨⟨rfl, rfl, rfl, rfl, rfl⟩, h2⟩ := hI
  exact c_X8_ring mm fl' tv' so sg ce N B kf pf vat vrm vrb rk rp lf tf kp c df mf gf k p rd rl ra hs sl sa sc ⟨⟨rfl, rfl, rfl, rfl, rfl⟩, h2⟩ x1
theorem k_X7_walk {l : Launch} {D : va_G} {cy : Nat → ClassId} (A : Nat → Nat → Nat) (σ : Sp) (u : XS) (hI : XI σ u) (x1 x2 x3 x4 x5 x6 : Int32) : Ct l yX7_walk wsX7_walk ({ frames := 6, cells := 0, slots := 0, locals := 137 }) D cy [.ref (A 3 0), .int x1, .int x2, .int x3, .int x4, .int x5, .int x6] (wXu A cy u) (fun u' : XS => XI (m_walk σ x1 x2 x3 x4 x5 x6).2 u') (fun _ => some (.int (m_walk σ x1 x2 x3 x4 x5 x6).1)) (fun u' => wXu A cy u') := by
  obtain ⟨⟨N, B, k, p⟩, ⟨c, rd, rl, ra⟩, ⟨hs, sl, sa, sc⟩, tv, fl⟩ := σ
  obtain ⟨fl', dT, ⟨vN, vB, kf, pf, lf, tf⟩, tT, ct, df, mf, gf, tv', ln, la, cf⟩ := u
  obtain ⟨⟨rfl, rfl, rfl, rfl, rfl⟩, h2⟩ := hI
  exact c_X7_walk A fl' dT tT N B kf pf lf tf c df mf gf tv' ln la cf k p rd rl ra hs sl sa sc ⟨⟨rfl, rfl, rfl, rfl, rfl⟩, h2⟩ x1 x2 x3 x4 x5 x6
theorem k_X8_walk {l : Launch} {D : va_G} {cy : Nat → ClassId} (mm : Nat → Nat) (σ : Sp) (u : MS) (hI : MI σ u) (x1 x2 x3 x4 x5 x6 : Int32) : Ct l yX8_walk wsX8_walk ({ frames := 5, cells := 0, slots := 0, locals := 120 }) D cy [.ref (mm 0), .int x1, .int x2, .int x3, .int x4, .int x5, .int x6] (wMu mm cy u) (fun u' : MS => MI (m_walk σ x1 x2 x3 x4 x5 x6).2 u') (fun _ => some (.int (m_walk σ x1 x2 x3 x4 x5 x6).1)) (fun u' => wMu mm cy u') := by
  obtain ⟨⟨N, B, k, p⟩, ⟨c, rd, rl, ra⟩, ⟨hs, sl, sa, sc⟩, tv, fl⟩ := σ
  obtain ⟨fl', tv', so, sg, ce, vN, vB, kf, pf, vat, vrm, vrb, rk, rp, lf, tf, kp, ct, df, mf, gf⟩ := u
  obtain ⟨⟨rfl, rfl, rfl, rfl, rfl⟩, h2⟩ := hI
  exact c_X8_walk mm fl' tv' so sg ce N B kf pf vat vrm vrb rk rp lf tf kp c df mf gf k p rd rl ra hs sl sa sc ⟨⟨rfl, rfl, rfl, rfl, rfl⟩, h2⟩ x1 x2 x3 x4 x5 x6
theorem k_X7_free {l : Launch} {D : va_G} {cy : Nat → ClassId} (A : Nat → Nat → Nat) (σ : Sp) (u : XS) (hI : XI σ u) (x1 : Int32) : Ct l yX7_free wsX7_free ({ frames := 4, cells := 0, slots := 0, locals := 93 }) D cy [.ref (A 3 0), .int x1] (wXu A cy u) (fun u' : XS => XI (m_free σ x1).2 u') (fun _ => some (.int (m_free σ x1).1)) (fun u' => wXu A cy u') := by
  obtain ⟨⟨N, B, k, p⟩, ⟨c, rd, rl, ra⟩, ⟨hs, sl, sa, sc⟩, tv, fl⟩ := σ
  obtain ⟨fl', dT, ⟨vN, vB, kf, pf, lf, tf⟩, tT, ct, df, mf, gf, tv', ln, la, cf⟩ := u
  obtain ⟨⟨rfl, rfl, rfl, rfl, rfl⟩, h2⟩ := hI
  exact c_X7_free A fl' dT tT N B kf pf lf tf c df mf gf tv' ln la cf k p rd rl ra hs sl sa sc ⟨⟨rfl, rfl, rfl, rfl, rfl⟩, h2⟩ x1
theorem k_X8_free {l : Launch} {D : va_G} {cy : Nat → ClassId} (mm : Nat → Nat) (σ : Sp) (u : MS) (hI : MI σ u) (x1 : Int32) : Ct l yX8_free wsX8_free ({ frames := 3, cells := 0, slots := 0, locals := 67 }) D cy [.ref (mm 0), .int x1] (wMu mm cy u) (fun u' : MS => MI (m_free σ x1).2 u') (fun _ => some (.int (m_free σ x1).1)) (fun u' => wMu mm cy u') := by
  obtain ⟨⟨N, B, k, p⟩, ⟨c, rd, rl, ra⟩, ⟨hs, sl, sa, sc⟩, tv, fl⟩ := σ
  obtain ⟨fl', tv', so, sg, ce, vN, vB, kf, pf, vat, vrm, vrb, rk, rp, lf, tf, kp, ct, df, mf, gf⟩ := u
  obtain ⟨⟨rfl, rfl, rfl, rfl, rfl⟩, h2⟩ := hI
  exact c_X8_free mm fl' tv' so sg ce N B kf pf vat vrm vrb rk rp lf tf kp c df mf gf k p rd rl ra hs sl sa sc ⟨⟨rfl, rfl, rfl, rfl, rfl⟩, h2⟩ x1
theorem k_X7_haste {l : Launch} {D : va_G} {cy : Nat → ClassId} (A : Nat → Nat → Nat) (σ : Sp) (u : XS) (hI : XI σ u) : Ct l yX7_haste wsX7_haste ({ frames := 6, cells := 0, slots := 0, locals := 132 }) D cy [.ref (A 3 0)] (wXu A cy u) (fun u' : XS => XI (m_haste σ ).2 u') (fun _ => some (.int (m_haste σ ).1)) (fun u' => wXu A cy u') := by
  obtain ⟨⟨N, B, k, p⟩, ⟨c, rd, rl, ra⟩, ⟨hs, sl, sa, sc⟩, tv, fl⟩ := σ
  obtain ⟨fl', dT, ⟨vN, vB, kf, pf, lf, tf⟩, tT, ct, df, mf, gf, tv', ln, la, cf⟩ := u
  obtain ⟨⟨rfl, rfl, rfl, rfl, rfl⟩, h2⟩ := hI
  exact c_X7_haste A fl' dT tT N B kf pf lf tf c df mf gf tv' ln la cf k p rd rl ra hs sl sa sc ⟨⟨rfl, rfl, rfl, rfl, rfl⟩, h2⟩ 
theorem k_X8_haste {l : Launch} {D : va_G} {cy : Nat → ClassId} (mm : Nat → Nat) (σ : Sp) (u : MS) (hI : MI σ u) : Ct l yX8_haste wsX8_haste ({ frames := 4, cells := 0, slots := 0, locals := 90 }) D cy [.ref (mm 0)] (wMu mm cy u) (fun u' : MS => MI (m_haste σ ).2 u') (fun _ => some (.int (m_haste σ ).1)) (fun u' => wMu mm cy u') := by
  obtain ⟨⟨N, B, k, p⟩, ⟨c, rd, rl, ra⟩, ⟨hs, sl, sa, sc⟩, tv, fl⟩ := σ
  obtain ⟨fl', tv', so, sg, ce, vN, vB, kf, pf, vat, vrm, vrb, rk, rp, lf, tf, kp, ct, df, mf, gf⟩ := u
  obtain ⟨⟨rfl, rfl, rfl, rfl, rfl⟩, h2⟩ := hI
  exact c_X8_haste mm fl' tv' so sg ce N B kf pf vat vrm vrb rk rp lf tf kp c df mf gf k p rd rl ra hs sl sa sc ⟨⟨rfl, rfl, rfl, rfl, rfl⟩, h2⟩ 
theorem k_X7_reading {l : Launch} {D : va_G} {cy : Nat → ClassId} (A : Nat → Nat → Nat) (σ : Sp) (u : XS) (hI : XI σ u) (x1 x2 x3 : Int32) : Ct l yX7_reading wsX7_reading ({ frames := 1, cells := 0, slots := 0, locals := 23 }) D cy [.ref (A 3 0), .int x1, .int x2, .int x3] (wXu A cy u) (fun u' : XS => XI (m_reading σ x1 x2 x3).2 u') (fun _ => some (.int (m_reading σ x1 x2 x3).1)) (fun u' => wXu A cy u') := by
  obtain ⟨⟨N, B, k, p⟩, ⟨c, rd, rl, ra⟩, ⟨hs, sl, sa, sc⟩, tv, fl⟩ := σ
  obtain ⟨fl', dT, ⟨vN, vB, kf, pf, lf, tf⟩, tT, ct, df, mf, gf, tv', ln, la, cf⟩ := u
  obtain ⟨⟨rfl, rfl, rfl, rfl, rfl⟩, h2⟩ := hI
  exact c_X7_reading A fl' dT tT N B kf pf lf tf c df mf gf tv' ln la cf k p rd rl ra hs sl sa sc ⟨⟨rfl, rfl, rfl, rfl, rfl⟩, h2⟩ x1 x2 x3
theorem k_X8_reading {l : Launch} {D : va_G} {cy : Nat → ClassId} (mm : Nat → Nat) (σ : Sp) (u : MS) (hI : MI σ u) (x1 x2 x3 : Int32) : Ct l yX8_reading wsX8_reading ({ frames := 1, cells := 0, slots := 0, locals := 22 }) D cy [.ref (mm 0), .int x1, .int x2, .int x3] (wMu mm cy u) (fun u' : MS => MI (m_reading σ x1 x2 x3).2 u') (fun _ => some (.int (m_reading σ x1 x2 x3).1)) (fun u' => wMu mm cy u') := by
  obtain ⟨⟨N, B, k, p⟩, ⟨c, rd, rl, ra⟩, ⟨hs, sl, sa, sc⟩, tv, fl⟩ := σ
  obtain ⟨fl', tv', so, sg, ce, vN, vB, kf, pf, vat, vrm, vrb, rk, rp, lf, tf, kp, ct, df, mf, gf⟩ := u
  obtain ⟨⟨rfl, rfl, rfl, rfl, rfl⟩, h2⟩ := hI
  exact c_X8_reading mm fl' tv' so sg ce N B kf pf vat vrm vrb rk rp lf tf kp c df mf gf k p rd rl ra hs sl sa sc ⟨⟨rfl, rfl, rfl, rfl, rfl⟩, h2⟩ x1 x2 x3
theorem k_X7_back {l : Launch} {D : va_G} {cy : Nat → ClassId} (A : Nat → Nat → Nat) (σ : Sp) (u : XS) (hI : XI σ u) (x1 : Int32) : Ct l yX7_back wsX7_back ({ frames := 1, cells := 0, slots := 0, locals := 21 }) D cy [.ref (A 3 0), .int x1] (wXu A cy u) (fun u' : XS => XI (m_back σ x1).2 u') (fun _ => some (.int (m_back σ x1).1)) (fun u' => wXu A cy u') := by
  obtain ⟨⟨N, B, k, p⟩, ⟨c, rd, rl, ra⟩, ⟨hs, sl, sa, sc⟩, tv, fl⟩ := σ
  obtain ⟨fl', dT, ⟨vN, vB, kf, pf, lf, tf⟩, tT, ct, df, mf, gf, tv', ln, la, cf⟩ := u
  obtain ⟨⟨rfl, rfl, rfl, rfl, rfl⟩, h2⟩ := hI
  exact c_X7_back A fl' dT tT N B kf pf lf tf c df mf gf tv' ln la cf k p rd rl ra hs sl sa sc ⟨⟨rfl, rfl, rfl, rfl, rfl⟩, h2⟩ x1
theorem k_X8_back {l : Launch} {D : va_G} {cy : Nat → ClassId} (mm : Nat → Nat) (σ : Sp) (u : MS) (hI : MI σ u) (x1 : Int32) : Ct l yX8_back wsX8_back ({ frames := 1, cells := 0, slots := 0, locals := 22 }) D cy [.ref (mm 0), .int x1] (wMu mm cy u) (fun u' : MS => MI (m_back σ x1).2 u') (fun _ => some (.int (m_back σ x1).1)) (fun u' => wMu mm cy u') := by
  obtain ⟨⟨N, B, k, p⟩, ⟨c, rd, rl, ra⟩, ⟨hs, sl, sa, sc⟩, tv, fl⟩ := σ
  obtain ⟨fl', tv', so, sg, ce, vN, vB, kf, pf, vat, vrm, vrb, rk, rp, lf, tf, kp, ct, df, mf, gf⟩ := u
  obtain ⟨⟨rfl, rfl, rfl, rfl, rfl⟩, h2⟩ := hI
  exact c_X8_back mm fl' tv' so sg ce N B kf pf vat vrm vrb rk rp lf tf kp c df mf gf k p rd rl ra hs sl sa sc ⟨⟨rfl, rfl, rfl, rfl, rfl⟩, h2⟩ x1
theorem k_X7_debts {l : Launch} {D : va_G} {cy : Nat → ClassId} (A : Nat → Nat → Nat) (σ : Sp) (u : XS) (hI : XI σ u) (x1 x2 : Int32) : Ct l yX7_debts wsX7_debts ({ frames := 6, cells := 0, slots := 0, locals := 136 }) D cy [.ref (A 3 0), .int x1, .int x2] (wXu A cy u) (fun u' : XS => XI (m_debts σ x1 x2).2 u') (fun _ => some (.int (m_debts σ x1 x2).1)) (fun u' => wXu A cy u') := by
  obtain ⟨⟨N, B, k, p⟩, ⟨c, rd, rl, ra⟩, ⟨hs, sl, sa, sc⟩, tv, fl⟩ := σ
  obtain ⟨fl', dT, ⟨vN, vB, kf, pf, lf, tf⟩, tT, ct, df, mf, gf, tv', ln, la, cf⟩ := u
  obtain ⟨⟨rfl, rfl, rfl, rfl, rfl⟩, h2⟩ := hI
  exact c_X7_debts A fl' dT tT N B kf pf lf tf c df mf gf tv' ln la cf k p rd rl ra hs sl sa sc ⟨⟨rfl, rfl, rfl, rfl, rfl⟩, h2⟩ x1 x2
theorem k_X8_debts {l : Launch} {D : va_G} {cy : Nat → ClassId} (mm : Nat → Nat) (σ : Sp) (u : MS) (hI : MI σ u) (x1 x2 : Int32) : Ct l yX8_debts wsX8_debts ({ frames := 7, cells := 0, slots := 0, locals := 157 }) D cy [.ref (mm 0), .int x1, .int x2] (wMu mm cy u) (fun u' : MS => MI (m_debts σ x1 x2).2 u') (fun _ => some (.int (m_debts σ x1 x2).1)) (fun u' => wMu mm cy u') := by
  obtain ⟨⟨N, B, k, p⟩, ⟨c, rd, rl, ra⟩, ⟨hs, sl, sa, sc⟩, tv, fl⟩ := σ
  obtain ⟨fl', tv', so, sg, ce, vN, vB, kf, pf, vat, vrm, vrb, rk, rp, lf, tf, kp, ct, df, mf, gf⟩ := u
  obtain ⟨⟨rfl, rfl, rfl, rfl, rfl⟩, h2⟩ := hI
  exact c_X8_debts mm fl' tv' so sg ce N B kf pf vat vrm vrb rk rp lf tf kp c df mf gf k p rd rl ra hs sl sa sc ⟨⟨rfl, rfl, rfl, rfl, rfl⟩, h2⟩ x1 x2
theorem k_X7_kinds {l : Launch} {D : va_G} {cy : Nat → ClassId} (A : Nat → Nat → Nat) (σ : Sp) (u : XS) (hI : XI σ u) (x1 : Int32) : Ct l yX7_kinds wsX7_kinds ({ frames := 6, cells := 0, slots := 0, locals := 136 }) D cy [.ref (A 3 0), .int x1] (wXu A cy u) (fun u' : XS => XI (m_kinds σ x1).2 u') (fun _ => some (.int (m_kinds σ x1).1)) (fun u' => wXu A cy u') := by
  obtain ⟨⟨N, B, k, p⟩, ⟨c, rd, rl, ra⟩, ⟨hs, sl, sa, sc⟩, tv, fl⟩ := σ
  obtain ⟨fl', dT, ⟨vN, vB, kf, pf, lf, tf⟩, tT, ct, df, mf, gf, tv', ln, la, cf⟩ := u
  obtain ⟨⟨rfl, rfl, rfl, rfl, rfl⟩, h2⟩ := hI
  exact c_X7_kinds A fl' dT tT N B kf pf lf tf c df mf gf tv' ln la cf k p rd rl ra hs sl sa sc ⟨⟨rfl, rfl, rfl, rfl, rfl⟩, h2⟩ x1
theorem k_X8_kinds {l : Launch} {D : va_G} {cy : Nat → ClassId} (mm : Nat → Nat) (σ : Sp) (u : MS) (hI : MI σ u) (x1 : Int32) : Ct l yX8_kinds wsX8_kinds ({ frames := 7, cells := 0, slots := 0, locals := 157 }) D cy [.ref (mm 0), .int x1] (wMu mm cy u) (fun u' : MS => MI (m_kinds σ x1).2 u') (fun _ => some (.int (m_kinds σ x1).1)) (fun u' => wMu mm cy u') := by
  obtain ⟨⟨N, B, k, p⟩, ⟨c, rd, rl, ra⟩, ⟨hs, sl, sa, sc⟩, tv, fl⟩ := σ
  obtain ⟨fl', tv', so, sg, ce, vN, vB, kf, pf, vat, vrm, vrb, rk, rp, lf, tf, kp, ct, df, mf, gf⟩ := u
  obtain ⟨⟨rfl, rfl, rfl, rfl, rfl⟩, h2⟩ := hI
  exact c_X8_kinds mm fl' tv' so sg ce N B kf pf vat vrm vrb rk rp lf tf kp c df mf gf k p rd rl ra hs sl sa sc ⟨⟨rfl, rfl, rfl, rfl, rfl⟩, h2⟩ x1
theorem k_X7_bells {l : Launch} {D : va_G} {cy : Nat → ClassId} (A : Nat → Nat → Nat) (σ : Sp) (u : XS) (hI : XI σ u) : Ct l yX7_bells wsX7_bells ({ frames := 6, cells := 0, slots := 0, locals := 136 }) D cy [.ref (A 3 0)] (wXu A cy u) (fun u' : XS => XI (m_bells σ ).2 u') (fun _ => some (.int (m_bells σ ).1)) (fun u' => wXu A cy u') := by
  obtain ⟨⟨N, B, k, p⟩, ⟨c, rd, rl, ra⟩, ⟨hs, sl, sa, sc⟩, tv, fl⟩ := σ
  obtain ⟨fl', dT, ⟨vN, vB, kf, pf, lf, tf⟩, tT, ct, df, mf, gf, tv', ln, la, cf⟩ := u
  obtain ⟨⟨rfl, rfl, rfl, rfl, rfl⟩, h2⟩ := hI
  exact c_X7_bells A fl' dT tT N B kf pf lf tf c df mf gf tv' ln la cf k p rd rl ra hs sl sa sc ⟨⟨rfl, rfl, rfl, rfl, rfl⟩, h2⟩ 
theorem k_X8_bells {l : Launch} {D : va_G} {cy : Nat → ClassId} (mm : Nat → Nat) (σ : Sp) (u : MS) (hI : MI σ u) : Ct l yX8_bells wsX8_bells ({ frames := 7, cells := 0, slots := 0, locals := 157 }) D cy [.ref (mm 0)] (wMu mm cy u) (fun u' : MS => MI (m_bells σ ).2 u') (fun _ => some (.int (m_bells σ ).1)) (fun u' => wMu mm cy u') := by
  obtain ⟨⟨N, B, k, p⟩, ⟨c, rd, rl, ra⟩, ⟨hs, sl, sa, sc⟩, tv, fl⟩ := σ
  obtain ⟨fl', tv', so, sg, ce, vN, vB, kf, pf, vat, vrm, vrb, rk, rp, lf, tf, kp, ct, df, mf, gf⟩ := u
  obtain ⟨⟨rfl, rfl, rfl, rfl, rfl⟩, h2⟩ := hI
  exact c_X8_bells mm fl' tv' so sg ce N B kf pf vat vrm vrb rk rp lf tf kp c df mf gf k p rd rl ra hs sl sa sc ⟨⟨rfl, rfl, rfl, rfl, rfl⟩, h2⟩ 
theorem k_X7_odds {l : Launch} {D : va_G} {cy : Nat → ClassId} (A : Nat → Nat → Nat) (σ : Sp) (u : XS) (hI : XI σ u) (x1 x2 x3 : Int32) : Ct l yX7_odds wsX7_odds ({ frames := 3, cells := 0, slots := 0, locals := 69 }) D cy [.ref (A 3 0), .int x1, .int x2, .int x3] (wXu A cy u) (fun u' : XS => XI (m_odds σ x1 x2 x3).2 u') (fun _ => some (.long (m_odds σ x1 x2 x3).1)) (fun u' => wXu A cy u') := by
  obtain ⟨⟨N, B, k, p⟩, ⟨c, rd, rl, ra⟩, ⟨hs, sl, sa, sc⟩, tv, fl⟩ := σ
  obtain ⟨fl', dT, ⟨vN, vB, kf, pf, lf, tf⟩, tT, ct, df, mf, gf, tv', ln, la, cf⟩ := u
  obtain ⟨⟨rfl, rfl, rfl, rfl, rfl⟩, h2⟩ := hI
  exact c_X7_odds A fl' dT tT N B kf pf lf tf c df mf gf tv' ln la cf k p rd rl ra hs sl sa sc ⟨⟨rfl, rfl, rfl, rfl, rfl⟩, h2⟩ x1 x2 x3
theorem k_X8_odds {l : Launch} {D : va_G} {cy : Nat → ClassId} (mm : Nat → Nat) (σ : Sp) (u : MS) (hI : MI σ u) (x1 x2 x3 : Int32) : Ct l yX8_odds wsX8_odds ({ frames := 3, cells := 0, slots := 0, locals := 67 }) D cy [.ref (mm 0), .int x1, .int x2, .int x3] (wMu mm cy u) (fun u' : MS => MI (m_odds σ x1 x2 x3).2 u') (fun _ => some (.long (m_odds σ x1 x2 x3).1)) (fun u' => wMu mm cy u') := by
  obtain ⟨⟨N, B, k, p⟩, ⟨c, rd, rl, ra⟩, ⟨hs, sl, sa, sc⟩, tv, fl⟩ := σ
  obtain ⟨fl', tv', so, sg, ce, vN, vB, kf, pf, vat, vrm, vrb, rk, rp, lf, tf, kp, ct, df, mf, gf⟩ := u
  obtain ⟨⟨rfl, rfl, rfl, rfl, rfl⟩, h2⟩ := hI
  exact c_X8_odds mm fl' tv' so sg ce N B kf pf vat vrm vrb rk rp lf tf kp c df mf gf k p rd rl ra hs sl sa sc ⟨⟨rfl, rfl, rfl, rfl, rfl⟩, h2⟩ x1 x2 x3
theorem k_X7_sheet {l : Launch} {D : va_G} {cy : Nat → ClassId} (A : Nat → Nat → Nat) (σ : Sp) (u : XS) (hI : XI σ u) (x1 x2 x3 : Int32) : Ct l yX7_sheet wsX7_sheet ({ frames := 2, cells := 0, slots := 0, locals := 38 }) D cy [.ref (A 3 0), .int x1, .int x2, .int x3] (wXu A cy u) (fun u' : XS => XI (m_sheet σ x1 x2 x3).2 u') (fun _ => some (.int (m_sheet σ x1 x2 x3).1)) (fun u' => wXu A cy u') := by
  obtain ⟨⟨N, B, k, p⟩, ⟨c, rd, rl, ra⟩, ⟨hs, sl, sa, sc⟩, tv, fl⟩ := σ
  obtain ⟨fl', dT, ⟨vN, vB, kf, pf, lf, tf⟩, tT, ct, df, mf, gf, tv', ln, la, cf⟩ := u
  obtain ⟨⟨rfl, rfl, rfl, rfl, rfl⟩, h2⟩ := hI
  exact c_X7_sheet A fl' dT tT N B kf pf lf tf c df mf gf tv' ln la cf k p rd rl ra hs sl sa sc ⟨⟨rfl, rfl, rfl, rfl, rfl⟩, h2⟩ x1 x2 x3
theorem k_X8_sheet {l : Launch} {D : va_G} {cy : Nat → ClassId} (mm : Nat → Nat) (σ : Sp) (u : MS) (hI : MI σ u) (x1 x2 x3 : Int32) : Ct l yX8_sheet wsX8_sheet ({ frames := 2, cells := 0, slots := 0, locals := 42 }) D cy [.ref (mm 0), .int x1, .int x2, .int x3] (wMu mm cy u) (fun u' : MS => MI (m_sheet σ x1 x2 x3).2 u') (fun _ => some (.int (m_sheet σ x1 x2 x3).1)) (fun u' => wMu mm cy u') := by
  obtain ⟨⟨N, B, k, p⟩, ⟨c, rd, rl, ra⟩, ⟨hs, sl, sa, sc⟩, tv, fl⟩ := σ
  obtain ⟨fl', tv', so, sg, ce, vN, vB, kf, pf, vat, vrm, vrb, rk, rp, lf, tf, kp, ct, df, mf, gf⟩ := u
  obtain ⟨⟨rfl, rfl, rfl, rfl, rfl⟩, h2⟩ := hI
  exact c_X8_sheet mm fl' tv' so sg ce N B kf pf vat vrm vrb rk rp lf tf kp c df mf gf k p rd rl ra hs sl sa sc ⟨⟨rfl, rfl, rfl, rfl, rfl⟩, h2⟩ x1 x2 x3
theorem k_X7_lose {l : Launch} {D : va_G} {cy : Nat → ClassId} (A : Nat → Nat → Nat) (σ : Sp) (u : XS) (hI : XI σ u) (x1 : Int32) : Ct l yX7_lose wsX7_lose ({ frames := 1, cells := 0, slots := 0, locals := 20 }) D cy [.ref (A 3 0), .int x1] (wXu A cy u) (fun u' : XS => XI (m_lose σ x1).2 u') (fun _ => some (.int (m_lose σ x1).1)) (fun u' => wXu A cy u') := by
  obtain ⟨⟨N, B, k, p⟩, ⟨c, rd, rl, ra⟩, ⟨hs, sl, sa, sc⟩, tv, fl⟩ := σ
  obtain ⟨fl', dT, ⟨vN, vB, kf, pf, lf, tf⟩, tT, ct, df, mf, gf, tv', ln, la, cf⟩ := u
  obtain ⟨⟨rfl, rfl, rfl, rfl, rfl⟩, h2⟩ := hI
  exact c_X7_lose A fl' dT tT N B kf pf lf tf c df mf gf tv' ln la cf k p rd rl ra hs sl sa sc ⟨⟨rfl, rfl, rfl, rfl, rfl⟩, h2⟩ x1
theorem k_X8_lose {l : Launch} {D : va_G} {cy : Nat → ClassId} (mm : Nat → Nat) (σ : Sp) (u : MS) (hI : MI σ u) (x1 : Int32) : Ct l yX8_lose wsX8_lose ({ frames := 2, cells := 0, slots := 0, locals := 42 }) D cy [.ref (mm 0), .int x1] (wMu mm cy u) (fun u' : MS => MI (m_lose σ x1).2 u') (fun _ => some (.int (m_lose σ x1).1)) (fun u' => wMu mm cy u') := by
  obtain ⟨⟨N, B, k, p⟩, ⟨c, rd, rl, ra⟩, ⟨hs, sl, sa, sc⟩, tv, fl⟩ := σ
  obtain ⟨fl', tv', so, sg, ce, vN, vB, kf, pf, vat, vrm, vrb, rk, rp, lf, tf, kp, ct, df, mf, gf⟩ := u
  obtain ⟨⟨rfl, rfl, rfl, rfl, rfl⟩, h2⟩ := hI
  exact c_X8_lose mm fl' tv' so sg ce N B kf pf vat vrm vrb rk rp lf tf kp c df mf gf k p rd rl ra hs sl sa sc ⟨⟨rfl, rfl, rfl, rfl, rfl⟩, h2⟩ x1
theorem k_X7_put {l : Launch} {D : va_G} {cy : Nat → ClassId} (A : Nat → Nat → Nat) (σ : Sp) (u : XS) (hI : XI σ u) (x1 x2 x3 : Int32) : Ct l yX7_put wsX7_put ({ frames := 2, cells := 0, slots := 0, locals := 43 }) D cy [.ref (A 3 0), .int x1, .int x2, .int x3] (wXu A cy u) (fun u' : XS => XI (m_put σ x1 x2 x3).2 u') (fun _ => some (.int (m_put σ x1 x2 x3).1)) (fun u' => wXu A cy u') := by
  obtain ⟨⟨N, B, k, p⟩, ⟨c, rd, rl, ra⟩, ⟨hs, sl, sa, sc⟩, tv, fl⟩ := σ
  obtain ⟨fl', dT, ⟨vN, vB, kf, pf, lf, tf⟩, tT, ct, df, mf, gf, tv', ln, la, cf⟩ := u
  obtain ⟨⟨rfl, rfl, rfl, rfl, rfl⟩, h2⟩ := hI
  exact c_X7_put A fl' dT tT N B kf pf lf tf c df mf gf tv' ln la cf k p rd rl ra hs sl sa sc ⟨⟨rfl, rfl, rfl, rfl, rfl⟩, h2⟩ x1 x2 x3
theorem k_X8_put {l : Launch} {D : va_G} {cy : Nat → ClassId} (mm : Nat → Nat) (σ : Sp) (u : MS) (hI : MI σ u) (x1 x2 x3 : Int32) : Ct l yX8_put wsX8_put ({ frames := 2, cells := 0, slots := 0, locals := 42 }) D cy [.ref (mm 0), .int x1, .int x2, .int x3] (wMu mm cy u) (fun u' : MS => MI (m_put σ x1 x2 x3).2 u') (fun _ => some (.int (m_put σ x1 x2 x3).1)) (fun u' => wMu mm cy u') := by
  obtain ⟨⟨N, B, k, p⟩, ⟨c, rd, rl, ra⟩, ⟨hs, sl, sa, sc⟩, tv, fl⟩ := σ
  obtain ⟨fl', tv', so, sg, ce, vN, vB, kf, pf, vat, vrm, vrb, rk, rp, lf, tf, kp, ct, df, mf, gf⟩ := u
  obtain ⟨⟨rfl, rfl, rfl, rfl, rfl⟩, h2⟩ := hI
  exact c_X8_put mm fl' tv' so sg ce N B kf pf vat vrm vrb rk rp lf tf kp c df mf gf k p rd rl ra hs sl sa sc ⟨⟨rfl, rfl, rfl, rfl, rfl⟩, h2⟩ x1 x2 x3
theorem k_X7_cell {l : Launch} {D : va_G} {cy : Nat → ClassId} (A : Nat → Nat → Nat) (σ : Sp) (u : XS) (hI : XI σ u) (x1 x2 x3 : Int32) : Ct l yX7_cell wsX7_cell ({ frames := 2, cells := 0, slots := 0, locals := 42 }) D cy [.ref (A 3 0), .int x1, .int x2, .int x3] (wXu A cy u) (fun u' : XS => XI (m_cell σ x1 x2 x3).2 u') (fun _ => some (.long (m_cell σ x1 x2 x3).1)) (fun u' => wXu A cy u') := by
  obtain ⟨⟨N, B, k, p⟩, ⟨c, rd, rl, ra⟩, ⟨hs, sl, sa, sc⟩, tv, fl⟩ := σ
  obtain ⟨fl', dT, ⟨vN, vB, kf, pf, lf, tf⟩, tT, ct, df, mf, gf, tv', ln, la, cf⟩ := u
  obtain ⟨⟨rfl, rfl, rfl, rfl, rfl⟩, h2⟩ := hI
  exact c_X7_cell A fl' dT tT N B kf pf lf tf c df mf gf tv' ln la cf k p rd rl ra hs sl sa sc ⟨⟨rfl, rfl, rfl, rfl, rfl⟩, h2⟩ x1 x2 x3
theorem k_X8_cell {l : Launch} {D : va_G} {cy : Nat → ClassId} (mm : Nat → Nat) (σ : Sp) (u : MS) (hI : MI σ u) (x1 x2 x3 : Int32) : Ct l yX8_cell wsX8_cell ({ frames := 2, cells := 0, slots := 0, locals := 42 }) D cy [.ref (mm 0), .int x1, .int x2, .int x3] (wMu mm cy u) (fun u' : MS => MI (m_cell σ x1 x2 x3).2 u') (fun _ => some (.long (m_cell σ x1 x2 x3).1)) (fun u' => wMu mm cy u') := by
  obtain ⟨⟨N, B, k, p⟩, ⟨c, rd, rl, ra⟩, ⟨hs, sl, sa, sc⟩, tv, fl⟩ := σ
  obtain ⟨fl', tv', so, sg, ce, vN, vB, kf, pf, vat, vrm, vrb, rk, rp, lf, tf, kp, ct, df, mf, gf⟩ := u
  obtain ⟨⟨rfl, rfl, rfl, rfl, rfl⟩, h2⟩ := hI
  exact c_X8_cell mm fl' tv' so sg ce N B kf pf vat vrm vrb rk rp lf tf kp c df mf gf k p rd rl ra hs sl sa sc ⟨⟨rfl, rfl, rfl, rfl, rfl⟩, h2⟩ x1 x2 x3
theorem k_X7_copy {l : Launch} {D : va_G} {cy : Nat → ClassId} (A : Nat → Nat → Nat) (σ : Sp) (u : XS) (hI : XI σ u) (x1 x2 x3 x4 x5 : Int32) : Ct l yX7_copy wsX7_copy ({ frames := 2, cells := 0, slots := 0, locals := 60 }) D cy [.ref (A 3 0), .int x1, .int x2, .int x3, .int x4, .int x5] (wXu A cy u) (fun u' : XS => XI (m_copy σ x1 x2 x3 x4 x5).2 u') (fun _ => some (.int (m_copy σ x1 x2 x3 x4 x5).1)) (fun u' => wXu A cy u') := by
  obtain ⟨⟨N, B, k, p⟩, ⟨c, rd, rl, ra⟩, ⟨hs, sl, sa, sc⟩, tv, fl⟩ := σ
  obtain ⟨fl', dT, ⟨vN, vB, kf, pf, lf, tf⟩, tT, ct, df, mf, gf, tv', ln, la, cf⟩ := u
  obtain ⟨⟨rfl, rfl, rfl, rfl, rfl⟩, h2⟩ := hI
  exact c_X7_copy A fl' dT tT N B kf pf lf tf c df mf gf tv' ln la cf k p rd rl ra hs sl sa sc ⟨⟨rfl, rfl, rfl, rfl, rfl⟩, h2⟩ x1 x2 x3 x4 x5
theorem k_X8_copy {l : Launch} {D : va_G} {cy : Nat → ClassId} (mm : Nat → Nat) (σ : Sp) (u : MS) (hI : MI σ u) (x1 x2 x3 x4 x5 : Int32) : Ct l yX8_copy wsX8_copy ({ frames := 2, cells := 0, slots := 0, locals := 42 }) D cy [.ref (mm 0), .int x1, .int x2, .int x3, .int x4, .int x5] (wMu mm cy u) (fun u' : MS => MI (m_copy σ x1 x2 x3 x4 x5).2 u') (fun _ => some (.int (m_copy σ x1 x2 x3 x4 x5).1)) (fun u' => wMu mm cy u') := by
  obtain ⟨⟨N, B, k, p⟩, ⟨c, rd, rl, ra⟩, ⟨hs, sl, sa, sc⟩, tv, fl⟩ := σ
  obtain ⟨fl', tv', so, sg, ce, vN, vB, kf, pf, vat, vrm, vrb, rk, rp, lf, tf, kp, ct, df, mf, gf⟩ := u
  obtain ⟨⟨rfl, rfl, rfl, rfl, rfl⟩, h2⟩ := hI
  exact c_X8_copy mm fl' tv' so sg ce N B kf pf vat vrm vrb rk rp lf tf kp c df mf gf k p rd rl ra hs sl sa sc ⟨⟨rfl, rfl, rfl, rfl, rfl⟩, h2⟩ x1 x2 x3 x4 x5
theorem k_X7_tell {l : Launch} {D : va_G} {cy : Nat → ClassId} (A : Nat → Nat → Nat) (σ : Sp) (u : XS) (hI : XI σ u) (x1 : Int32) : Ct l yX7_tell wsX7_tell ({ frames := 4, cells := 0, slots := 0, locals := 88 }) D cy [.ref (A 3 0), .int x1] (wXu A cy u) (fun u' : XS => XI (m_tell σ x1).2 u') (fun _ => some (.int (m_tell σ x1).1)) (fun u' => wXu A cy u') := by
  obtain ⟨⟨N, B, k, p⟩, ⟨c, rd, rl, ra⟩, ⟨hs, sl, sa, sc⟩, tv, fl⟩ := σ
  obtain ⟨fl', dT, ⟨vN, vB, kf, pf, lf, tf⟩, tT, ct, df, mf, gf, tv', ln, la, cf⟩ := u
  obtain ⟨⟨rfl, rfl, rfl, rfl, rfl⟩, h2⟩ := hI
  exact c_X7_tell A fl' dT tT N B kf pf lf tf c df mf gf tv' ln la cf k p rd rl ra hs sl sa sc ⟨⟨rfl, rfl, rfl, rfl, rfl⟩, h2⟩ x1
theorem k_X8_tell {l : Launch} {D : va_G} {cy : Nat → ClassId} (mm : Nat → Nat) (σ : Sp) (u : MS) (hI : MI σ u) (x1 : Int32) : Ct l yX8_tell wsX8_tell ({ frames := 2, cells := 0, slots := 0, locals := 44 }) D cy [.ref (mm 0), .int x1] (wMu mm cy u) (fun u' : MS => MI (m_tell σ x1).2 u') (fun _ => some (.int (m_tell σ x1).1)) (fun u' => wMu mm cy u') := by
  obtain ⟨⟨N, B, k, p⟩, ⟨c, rd, rl, ra⟩, ⟨hs, sl, sa, sc⟩, tv, fl⟩ := σ
  obtain ⟨fl', tv', so, sg, ce, vN, vB, kf, pf, vat, vrm, vrb, rk, rp, lf, tf, kp, ct, df, mf, gf⟩ := u
  obtain ⟨⟨rfl, rfl, rfl, rfl, rfl⟩, h2⟩ := hI
  exact c_X8_tell mm fl' tv' so sg ce N B kf pf vat vrm vrb rk rp lf tf kp c df mf gf k p rd rl ra hs sl sa sc ⟨⟨rfl, rfl, rfl, rfl, rfl⟩, h2⟩ x1
theorem k_X7_hail {l : Launch} {D : va_G} {cy : Nat → ClassId} (A : Nat → Nat → Nat) (σ : Sp) (u : XS) (hI : XI σ u) (x1 : Int32) : Ct l yX7_hail wsX7_hail ({ frames := 2, cells := 0, slots := 0, locals := 43 }) D cy [.ref (A 3 0), .int x1] (wXu A cy u) (fun u' : XS => XI (m_hail σ x1).2 u') (fun _ => some (.int (m_hail σ x1).1)) (fun u' => wXu A cy u') := by
  obtain ⟨⟨N, B, k, p⟩, ⟨c, rd, rl, ra⟩, ⟨hs, sl, sa, sc⟩, tv, fl⟩ := σ
  obtain ⟨fl', dT, ⟨vN, vB, kf, pf, lf, tf⟩, tT, ct, df, mf, gf, tv', ln, la, cf⟩ := u
  obtain ⟨⟨rfl, rfl, rfl, rfl, rfl⟩, h2⟩ := hI
  exact c_X7_hail A fl' dT tT N B kf pf lf tf c df mf gf tv' ln la cf k p rd rl ra hs sl sa sc ⟨⟨rfl, rfl, rfl, rfl, rfl⟩, h2⟩ x1
theorem k_X8_hail {l : Launch} {D : va_G} {cy : Nat → ClassId} (mm : Nat → Nat) (σ : Sp) (u : MS) (hI : MI σ u) (x1 : Int32) : Ct l yX8_hail wsX8_hail ({ frames := 1, cells := 0, slots := 0, locals := 21 }) D cy [.ref (mm 0), .int x1] (wMu mm cy u) (fun u' : MS => MI (m_hail σ x1).2 u') (fun _ => some (.int (m_hail σ x1).1)) (fun u' => wMu mm cy u') := by
  obtain ⟨⟨N, B, k, p⟩, ⟨c, rd, rl, ra⟩, ⟨hs, sl, sa, sc⟩, tv, fl⟩ := σ
  obtain ⟨fl', tv', so, sg, ce, vN, vB, kf, pf, vat, vrm, vrb, rk, rp, lf, tf, kp, ct, df, mf, gf⟩ := u
  obtain ⟨⟨rfl, rfl, rfl, rfl, rfl⟩, h2⟩ := hI
  exact c_X8_hail mm fl' tv' so sg ce N B kf pf vat vrm vrb rk rp lf tf kp c df mf gf k p rd rl ra hs sl sa sc ⟨⟨rfl, rfl, rfl, rfl, rfl⟩, h2⟩ x1
theorem k_X7_as {l : Launch} {D : va_G} {cy : Nat → ClassId} (A : Nat → Nat → Nat) (σ : Sp) (u : XS) (hI : XI σ u) (x1 x2 : Int32) : Ct l yX7_as wsX7_as ({ frames := 1, cells := 0, slots := 0, locals := 21 }) D cy [.ref (A 3 0), .int x1, .int x2] (wXu A cy u) (fun u' : XS => XI (m_as σ x1 x2).2 u') (fun _ => some (.int (m_as σ x1 x2).1)) (fun u' => wXu A cy u') := by
  obtain ⟨⟨N, B, k, p⟩, ⟨c, rd, rl, ra⟩, ⟨hs, sl, sa, sc⟩, tv, fl⟩ := σ
  obtain ⟨fl', dT, ⟨vN, vB, kf, pf, lf, tf⟩, tT, ct, df, mf, gf, tv', ln, la, cf⟩ := u
  obtain ⟨⟨rfl, rfl, rfl, rfl, rfl⟩, h2⟩ := hI
  exact c_X7_as A fl' dT tT N B kf pf lf tf c df mf gf tv' ln la cf k p rd rl ra hs sl sa sc ⟨⟨rfl, rfl, rfl, rfl, rfl⟩, h2⟩ x1 x2
theorem k_X8_as {l : Launch} {D : va_G} {cy : Nat → ClassId} (mm : Nat → Nat) (σ : Sp) (u : MS) (hI : MI σ u) (x1 x2 : Int32) : Ct l yX8_as wsX8_as ({ frames := 1, cells := 0, slots := 0, locals := 22 }) D cy [.ref (mm 0), .int x1, .int x2] (wMu mm cy u) (fun u' : MS => MI (m_as σ x1 x2).2 u') (fun _ => some (.int (m_as σ x1 x2).1)) (fun u' => wMu mm cy u') := by
  obtain ⟨⟨N, B, k, p⟩, ⟨c, rd, rl, ra⟩, ⟨hs, sl, sa, sc⟩, tv, fl⟩ := σ
  obtain ⟨fl', tv', so, sg, ce, vN, vB, kf, pf, vat, vrm, vrb, rk, rp, lf, tf, kp, ct, df, mf, gf⟩ := u
  obtain ⟨⟨rfl, rfl, rfl, rfl, rfl⟩, h2⟩ := hI
  exact c_X8_as mm fl' tv' so sg ce N B kf pf vat vrm vrb rk rp lf tf kp c df mf gf k p rd rl ra hs sl sa sc ⟨⟨rfl, rfl, rfl, rfl, rfl⟩, h2⟩ x1 x2
theorem k_X7_trace {l : Launch} {D : va_G} {cy : Nat → ClassId} (A : Nat → Nat → Nat) (σ : Sp) (u : XS) (hI : XI σ u) : Ct l yX7_trace wsX7_trace ({ frames := 0, cells := 0, slots := 0, locals := 0 }) D cy [.ref (A 3 0)] (wXu A cy u) (fun u' : XS => XI (m_trace σ ).2 u') (fun _ => some (.int (m_trace σ ).1)) (fun u' => wXu A cy u') := by
  obtain ⟨⟨N, B, k, p⟩, ⟨c, rd, rl, ra⟩, ⟨hs, sl, sa, sc⟩, tv, fl⟩ := σ
  obtain ⟨fl', dT, ⟨vN, vB, kf, pf, lf, tf⟩, tT, ct, df, mf, gf, tv', ln, la, cf⟩ := u
  obtain ⟨⟨rfl, rfl, rfl, rfl, rfl⟩, h2⟩ := hI
  exact c_X7_trace A fl' dT tT N B kf pf lf tf c df mf gf tv' ln la cf k p rd rl ra hs sl sa sc ⟨⟨rfl, rfl, rfl, rfl, rfl⟩, h2⟩ 
theorem k_X8_trace {l : Launch} {D : va_G} {cy : Nat → ClassId} (mm : Nat → Nat) (σ : Sp) (u : MS) (hI : MI σ u) : Ct l yX8_trace wsX8_trace ({ frames := 0, cells := 0, slots := 0, locals := 0 }) D cy [.ref (mm 0)] (wMu mm cy u) (fun u' : MS => MI (m_trace σ ).2 u') (fun _ => some (.int (m_trace σ ).1)) (fun u' => wMu mm cy u') := by
  obtain ⟨⟨N, B, k, p⟩, ⟨c, rd, rl, ra⟩, ⟨hs, sl, sa, sc⟩, tv, fl⟩ := σ
  obtain ⟨fl', tv', so, sg, ce, vN, vB, kf, pf, vat, vrm, vrb, rk, rp, lf, tf, kp, ct, df, mf, gf⟩ := u
  obtain ⟨⟨rfl, rfl, rfl, rfl, rfl⟩, h2⟩ := hI
  exact c_X8_trace mm fl' tv' so sg ce N B kf pf vat vrm vrb rk rp lf tf kp c df mf gf k p rd rl ra hs sl sa sc ⟨⟨rfl, rfl, rfl, rfl, rfl⟩, h2⟩ 
theorem k_X7_fault {l : Launch} {D : va_G} {cy : Nat → ClassId} (A : Nat → Nat → Nat) (σ : Sp) (u : XS) (hI : XI σ u) : Ct l yX7_fault wsX7_fault ({ frames := 0, cells := 0, slots := 0, locals := 0 }) D cy [.ref (A 3 0)] (wXu A cy u) (fun u' : XS => XI (m_fault σ ).2 u') (fun _ => some (.int (m_fault σ ).1)) (fun u' => wXu A cy u') := by
  obtain ⟨⟨N, B, k, p⟩, ⟨c, rd, rl, ra⟩, ⟨hs, sl, sa, sc⟩, tv, fl⟩ := σ
  obtain ⟨fl', dT, ⟨vN, vB, kf, pf, lf, tf⟩, tT, ct, df, mf, gf, tv', ln, la, cf⟩ := u
  obtain ⟨⟨rfl, rfl, rfl, rfl, rfl⟩, h2⟩ := hI
  exact c_X7_fault A fl' dT tT N B kf pf lf tf c df mf gf tv' ln la cf k p rd rl ra hs sl sa sc ⟨⟨rfl, rfl, rfl, rfl, rfl⟩, h2⟩ 
theorem k_X8_fault {l : Launch} {D : va_G} {cy : Nat → ClassId} (mm : Nat → Nat) (σ : Sp) (u : MS) (hI : MI σ u) : Ct l yX8_fault wsX8_fault ({ frames := 0, cells := 0, slots := 0, locals := 0 }) D cy [.ref (mm 0)] (wMu mm cy u) (fun u' : MS => MI (m_fault σ ).2 u') (fun _ => some (.int (m_fault σ ).1)) (fun u' => wMu mm cy u') := by
  obtain ⟨⟨N, B, k, p⟩, ⟨c, rd, rl, ra⟩, ⟨hs, sl, sa, sc⟩, tv, fl⟩ := σ
  obtain ⟨fl', tv', so, sg, ce, vN, vB, kf, pf, vat, vrm, vrb, rk, rp, lf, tf, kp, ct, df, mf, gf⟩ := u
  obtain ⟨⟨rfl, rfl, rfl, rfl, rfl⟩, h2⟩ := hI
  exact c_X8_fault mm fl' tv' so sg ce N B kf pf vat vrm vrb rk rp lf tf kp c df mf gf k p rd rl ra hs sl sa sc ⟨⟨rfl, rfl, rfl, rfl, rfl⟩, h2⟩ 
theorem k_X7_many {l : Launch} {D : va_G} {cy : Nat → ClassId} (A : Nat → Nat → Nat) (σ : Sp) (u : XS) (hI : XI σ u) (x1 : Int32) : Ct l yX7_many wsX7_many ({ frames := 4, cells := 0, slots := 0, locals := 91 }) D cy [.ref (A 3 0), .int x1] (wXu A cy u) (fun u' : XS => XI (m_many σ x1).2 u') (fun _ => some (.int (m_many σ x1).1)) (fun u' => wXu A cy u') := by
  obtain ⟨⟨N, B, k, p⟩, ⟨c, rd, rl, ra⟩, ⟨hs, sl, sa, sc⟩, tv, fl⟩ := σ
  obtain ⟨fl', dT, ⟨vN, vB, kf, pf, lf, tf⟩, tT, ct, df, mf, gf, tv', ln, la, cf⟩ := u
  obtain ⟨⟨rfl, rfl, rfl, rfl, rfl⟩, h2⟩ := hI
  exact c_X7_many A fl' dT tT N B kf pf lf tf c df mf gf tv' ln la cf k p rd rl ra hs sl sa sc ⟨⟨rfl, rfl, rfl, rfl, rfl⟩, h2⟩ x1
theorem k_X8_many {l : Launch} {D : va_G} {cy : Nat → ClassId} (mm : Nat → Nat) (σ : Sp) (u : MS) (hI : MI σ u) (x1 : Int32) : Ct l yX8_many wsX8_many ({ frames := 4, cells := 0, slots := 0, locals := 89 }) D cy [.ref (mm 0), .int x1] (wMu mm cy u) (fun u' : MS => MI (m_many σ x1).2 u') (fun _ => some (.int (m_many σ x1).1)) (fun u' => wMu mm cy u') := by
  obtain ⟨⟨N, B, k, p⟩, ⟨c, rd, rl, ra⟩, ⟨hs, sl, sa, sc⟩, tv, fl⟩ := σ
  obtain ⟨fl', tv', so, sg, ce, vN, vB, kf, pf, vat, vrm, vrb, rk, rp, lf, tf, kp, ct, df, mf, gf⟩ := u
  obtain ⟨⟨rfl, rfl, rfl, rfl, rfl⟩, h2⟩ := hI
  exact c_X8_many mm fl' tv' so sg ce N B kf pf vat vrm vrb rk rp lf tf kp c df mf gf k p rd rl ra hs sl sa sc ⟨⟨rfl, rfl, rfl, rfl, rfl⟩, h2⟩ x1
