section JL
variable {X : Cxt} {l : Launch} {D : va_G} {cy : Nat → ClassId} {cc : ByteArray} {nL : Nat} {Ts : List Cond} {own : String} {rm : Room} {ws : va_W} {pc : Nat} {lv : List (Nat × Value)} {st : List Value}
theorem j_ldcw {index : Nat} {v : Int32} (C : Cx X l D cy cc nL Ts own rm) (hc : Cond.constant own index v ∈ Ts) (hd : decode cc pc = .ok (.ldc_w index, 3)) (k : J X ws (pc + 3) lv (.int v :: st)) : J X ws pc lv st := fun H locs ls hP hD hS hl => lv_ldcw C.1.1 C.1.2 C.2.1.2.1 (C.2.1.2.2 _ hc) hd (k H locs ls hP hD hS hl)
theorem j_copyi {index a0 a1 n0 n1 s0 d0 m0 : Nat} {f g : Nat → Int32} {ws' : va_W} (C : Cx X l D cy cc nL Ts own rm) (h1 : Cond.methodLink own index arraycopyName ∈ Ts) (h2 : Cond.native arraycopyName ∈ Ts) (h3 : Cond.static arraycopyName ∈ Ts) (h4 : Cond.initialized "java/lang/System" ∈ Ts) (q0 q1 : Nat) (ha0 : ws[q0]? = some (a0, .inl (cy 0, n0, .inl f))) (ha1 : ws[q1]? = some (a1, .inl (cy 0, n1, .inl g))) (hs : s0 + m0 ≤ n0) (hd0 : d0 + m0 ≤ n1) (hn0 : n0 < 2 ^ 31) (hn1 : n1 < 2 ^ 31) (hR : 1 ≤ rm.frames ∧ (st.map fun v => v.category).sum + (nativeFrameWords "java/lang/System" "arraycopy" 5 + 11) ≤ rm.locals) (hw : ws.set q1 (a1, .inl (cy 0, n1, .inl (va_cpy f g s0 d0 m0))) = ws') (hd : decode cc pc = .ok (.invokestatic index, 3)) (k : J X ws' (pc + 3) lv st) : J X ws pc lv (.int (nI m0) :: .int (nI d0) :: .ref a1 :: .int (nI s0) :: .ref a0 :: st) := by
  intro H locs ls hP hD hS hl
  have hK := C.2.2.2.1.1
  rw [C.2.2.1.2.2.1] at hP
  subst hw
  have e1 : (nI m0).toNatClampNeg = m0 := nI_clamp (by omega)
  have e2 : (nI s0).toNatClampNeg = s0 := nI_clamp (by omega)
  have e3 : (nI d0).toNatClampNeg = d0 := nI_clamp (by omega)
  refine va_copyi C.1.1 C.1.2 (by rw [C.2.1.1, ← C.2.2.1.2.2.2]; exact hl.1.symm) C.2.1.2.1 (C.2.1.2.2 _ h1) (C.2.1.2.2 _ h2) (C.2.1.2.2 _ h3) (C.2.1.2.2 _ h4) hK hP hD hS q0 q1 0 0 ha0 ha1 rfl rfl rfl (nI_pos (by omega)) (nI_pos (by omega)) (nI_pos (by omega)) (by rw [e1, e2]; exact hs) (by rw [e1, e3]; exact hd0) (fun _ _ => rfl) (by rw [C.2.2.1.2.1]; exact hR.1) (by rw [C.2.2.1.2.1]; exact hR.2) hd (fun H1 locs1 p1 d1 s1 => ?_)
  rw [e1, e2, e3] at p1 d1
  exact k H1 locs1 ls (by rw [C.2.2.1.2.2.1]; exact p1) d1 s1 hl
end JL
def us (x y : Int32) : Int32 := (x.toUInt32 >>> (y.toUInt32 &&& Int32.toUInt32 31)).toInt32
def bc1 (x : Int32) : Int32 := x - (us x (nI 1) &&& 1431655765)
def bc2 (x : Int32) : Int32 := (x &&& 858993459) + (us x (nI 2) &&& 858993459)
def bc3 (x : Int32) : Int32 := (x + us x (nI 4)) &&& 252645135
def bc4 (x : Int32) : Int32 := x + us x (nI 8)
def bc5 (x : Int32) : Int32 := x + us x (nI 16)
theorem bc_ok : ∀ s, s < 64 → bc5 (bc4 (bc3 (bc2 (bc1 (nI s))))) &&& nI 63 = nI (cntB (bitP s) 6) := by decide +kernel
theorem cntB_cong {P Q : Nat → Bool} : ∀ {n : Nat}, (∀ i, i < n → P i = Q i) → cntB P n = cntB Q n
  | 0, _ => rfl
  | n + 1, h => by
    show cntB P n + _ = cntB Q n + _
    rw [cntB_cong (fun i hi => h i (by omega)), h n (by omega)]
theorem cntB_hi {P : Nat → Bool} {n : Nat} : ∀ {m : Nat}, (∀ i, n ≤ i → P i = false) → cntB P (n + m) = cntB P n
  | 0, _ => rfl
  | m + 1, h => by
    show cntB P (n + m) + (if P (n + m) then 1 else 0) = _
    rw [cntB_hi h, h (n + m) (Nat.le_add_right _ _)]
    rfl
theorem cnt_lit {N : Nat} {k : Nat → Nat} {p : Nat → Nat → Nat} (hN : N ≤ 6) : cntB (bitP (litS N k p)) 6 = cntB (fun b => (lg N k p b).isSome) N := by
  have h := cntB_hi (P := bitP (litS N k p)) (n := N) (m := 6 - N) (fun i hi => bit_hi (bset_lt _ N) hi)
  rw [show N + (6 - N) = 6 by omega] at h
  rw [h]
  exact cntB_cong (fun i hi => bset_bit _ N i hi)
theorem Ag.setk {N : Nat} {k : Nat → Nat} {p : Nat → Nat → Nat} {kf : Nat → Int32} {pf : Nat → Nat → Int32} (h : Ag N k p kf pf) {q v : Nat} (hv : v ≤ 2) : Ag N (upN k q v) p (upd kf q (nI v)) pf := by
  refine ⟨h.1, fun a ha => ?_, h.2.2⟩
  unfold upN
  by_cases e : a = q
  · subst e
    rw [pk_us, if_pos rfl]
    exact ⟨rfl, hv⟩
  · rw [pk_un e, if_neg e]
    exact h.2.1 a ha
section SHI
variable {hs : Nat → Bool} {sl sa : Nat → Nat} {sc : Nat → Nat → Int32} {ln la : Nat → Int32} {cf : Nat → Nat → Int32} {q : Nat}
theorem ShI.hln (h : ShI hs sl sa sc ln la cf) (hq : q < 4) (hh : hs q = true) : ln q = nI (sl q) := ((h q hq).1 hh).1.1
theorem ShI.l60 (h : ShI hs sl sa sc ln la cf) (hq : q < 4) (hh : hs q = true) : sl q ≤ 60 := ((h q hq).1 hh).1.2
theorem ShI.hla (h : ShI hs sl sa sc ln la cf) (hq : q < 4) (hh : hs q = true) : la q = nI (sa q) := ((h q hq).1 hh).2.1.1
theorem ShI.a2 (h : ShI hs sl sa sc ln la cf) (hq : q < 4) (hh : hs q = true) : sa q ≤ 2 := ((h q hq).1 hh).2.1.2
theorem ShI.hcf (h : ShI hs sl sa sc ln la cf) (hq : q < 4) (hh : hs q = true) {j : Nat} (hj : j < 60) : cf q j = sc q j := ((h q hq).1 hh).2.2 j hj
theorem m1_ne {n : Nat} (hn : n < 2 ^ 31) : ¬ nI n = -1 := fun e => by
  have h : (nI n).toInt = -1 := by rw [e]; rfl
  rw [nI_toInt hn] at h
  omega
theorem ShI.t (h : ShI hs sl sa sc ln la cf) (hq : q < 4) (hl : ¬ ln q = -1) : hs q = true := by
  cases e : hs q with
  | true => rfl
  | false => exact absurd ((h q hq).2 e) hl
theorem ShI.f (h : ShI hs sl sa sc ln la cf) (hq : q < 4) (hl : ln q = -1) : hs q = false := by
  cases e : hs q with
  | false => rfl
  | true => exact absurd ((h.hln hq e).symm.trans hl) (m1_ne (by have := h.l60 hq e; omega))
theorem ShI.new (h : ShI hs sl sa sc ln la cf) {m v : Nat} (hm : m ≤ 60) (hv : v ≤ 2) : ShI (upB hs q true) (upN sl q m) (upN sa q v) (updR sc q (fun _ => nI 0)) (upd ln q (nI m)) (upd la q (nI v)) (updR cf q (fil (fun _ => nI 0) (cf q) 60)) := by
  intro j hj
  unfold upN
  by_cases e : j = q
  · subst e
    rw [pk_us, pk_us, updR_s, updR_s, if_pos rfl, if_pos rfl, upB_s]
    exact ⟨fun _ => ⟨⟨rfl, hm⟩, ⟨rfl, hv⟩, fun i hi => fil_in hi⟩, fun z => by cases z⟩
  · rw [pk_un e, pk_un e, updR_n e, updR_n e, if_neg e, if_neg e, upB_n e]
    exact h j hj
theorem ShI.lose (h : ShI hs sl sa sc ln la cf) : ShI (upB hs q false) sl sa sc (upd ln q (-1)) (upd la q (la q)) (updR cf q (cf q)) := by
  intro j hj
  by_cases e : j = q
  · subst e
    rw [pk_us, upB_s]
    exact ⟨fun z => (by cases z), fun _ => rfl⟩
  · rw [pk_un e, pk_un e, updR_n e, upB_n e]
    exact h j hj
theorem ShI.put (h : ShI hs sl sa sc ln la cf) (hh : hs q = true) (hq : q < 4) {i : Nat} {x : Int32} : ShI hs sl sa (updR sc q (upd (sc q) i x)) (upd ln q (nI (sl q))) (upd la q (la q)) (updR cf q (upd (cf q) i x)) := by
  intro j hj
  by_cases e : j = q
  · subst e
    rw [pk_us, pk_us, updR_s, updR_s]
    refine ⟨fun z => ⟨⟨rfl, h.l60 hj z⟩, ⟨h.hla hj z, h.a2 hj z⟩, fun i' hi => ?_⟩, fun z => by rw [hh] at z; cases z⟩
    by_cases w : i' = i
    · subst w; rw [pk_us, pk_us]
    · rw [pk_un w, pk_un w]; exact h.hcf hj z hi
  · rw [pk_un e, pk_un e, updR_n e, updR_n e]
    exact h j hj
theorem ShI.copy (h : ShI hs sl sa sc ln la cf) {a b s0 d0 m0 : Nat} (ha : a < 4) (hb : b < 4) (hha : hs a = true) (hhb : hs b = true) (h1 : s0 + m0 ≤ 60) : ShI hs sl sa (updR sc b (va_cpy (sc a) (sc b) s0 d0 m0)) ln la (updR cf b (va_cpy (cf a) (cf b) s0 d0 m0)) := by
  intro j hj
  by_cases e : j = b
  · subst e
    rw [updR_s, updR_s]
    refine ⟨fun z => ⟨⟨h.hln hj z, h.l60 hj z⟩, ⟨h.hla hj z, h.a2 hj z⟩, fun i' hi => ?_⟩, fun z => by rw [hhb] at z; cases z⟩
    by_cases w : d0 ≤ i' ∧ i' < d0 + m0
    · rw [pk_cpy_in w.1 w.2, pk_cpy_in w.1 w.2]; exact h.hcf ha hha (by omega)
    · rw [pk_cpy_out (by omega), pk_cpy_out (by omega)]; exact h.hcf hj z hi
  · rw [updR_n e, updR_n e]
    exact h j hj
end SHI
theorem cell_y {L : Nat} {i : Int32} (hL : L ≤ 60) (h : ¬ i < 0 ∧ ¬ nI L ≤ i) : ∃ j, j < L ∧ i = nI j := pOf_y (by omega) (isP_y (by omega) h.1 h.2)
theorem cell_n {L : Nat} {i : Int32} (hL : L ≤ 60) (h : ¬ (¬ i < 0 ∧ ¬ nI L ≤ i)) : pOf L i = none := pOf_n (fun z => by
  obtain ⟨j, hj, rfl⟩ := pOf_y (by omega) z
  exact h ⟨nI_pos (by omega), nI_ge hj (by omega)⟩)
theorem cells_i {L : Nat} {i n : Int32} (hL : L ≤ 60) : (¬ i < 0 ∧ ¬ nI L < i ∧ ¬ n < 0 ∧ ¬ nI L - i < n) ↔ (0 ≤ i.toInt ∧ i.toInt ≤ L ∧ 0 ≤ n.toInt ∧ n.toInt ≤ L - i.toInt) := by
  have z : (0 : Int32).toInt = 0 := rfl
  have hl : (nI L).toInt = L := nI_toInt (by omega)
  have h1 : ¬ i < 0 ↔ 0 ≤ i.toInt := by rw [Int32.lt_iff_toInt_lt, z]; omega
  have h2 : ¬ nI L < i ↔ i.toInt ≤ L := by rw [Int32.lt_iff_toInt_lt, hl]; omega
  have h3 : ¬ n < 0 ↔ 0 ≤ n.toInt := by rw [Int32.lt_iff_toInt_lt, z]; omega
  rw [h1, h2, h3]
  refine ⟨fun w => ⟨w.1, w.2.1, w.2.2.1, ?_⟩, fun w => ⟨w.1, w.2.1, w.2.2.1, ?_⟩⟩
  all_goals
    have hs : (nI L - i).toInt = L - i.toInt := by
      rw [Int32.toInt_sub, hl, Int.bmod_def]
      split <;> omega
    have q := w.2.2.2
    rw [Int32.lt_iff_toInt_lt, hs] at *
    omega
theorem cells_y {L : Nat} {i n : Int32} (hL : L ≤ 60) (h : 0 ≤ i.toInt ∧ i.toInt ≤ L ∧ 0 ≤ n.toInt ∧ n.toInt ≤ L - i.toInt) : ∃ i1 n1 : Nat, i1 + n1 ≤ L ∧ i = nI i1 ∧ n = nI n1 := by
  refine ⟨i.toInt.toNat, n.toInt.toNat, by omega, Int32.toInt_inj.mp ?_, Int32.toInt_inj.mp ?_⟩
  · rw [nI_toInt (by omega)]; omega
  · rw [nI_toInt (by omega)]; omega
theorem n60 {n : Int32} (h1 : n ≤ nI 60) (h2 : 0 ≤ n) : ∃ m, m ≤ 60 ∧ n = nI m := by
  rw [Int32.le_iff_toInt_le] at h1 h2
  have z : (0 : Int32).toInt = 0 := rfl
  have z2 : (nI 60).toInt = 60 := rfl
  refine ⟨n.toInt.toNat, by omega, Int32.toInt_inj.mp ?_⟩
  rw [nI_toInt (by omega)]; omega
theorem tI60 {m : Nat} (h : m ≤ 60) : (nI m).toInt = m := nI_toInt (by omega)
theorem tC60 {m : Nat} (h : m ≤ 60) : (nI m).toNatClampNeg = m := nI_clamp (by omega)
