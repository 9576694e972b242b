/-! the reference's cells -/
abbrev PF (pf : Nat → Int32) : Nat → Nat → Int32 := fun a b => pf (6 * a + b)
def wM (mm : Nat → Nat) (cy : Nat → ClassId) (fl tv : Int32) (so sg ce : Nat → Int32) (vN vB : Int32) (kf pf : Nat → Int32) (vat vrm vrb : Int32) (rk rp lf tf kp : Nat → Int32) (ct : Int32) (df mf gf : Nat → Int32) : va_W :=
  [(mm 0, .inr (8, [.int fl, .int tv, .ref (mm 1), .ref (mm 2), .ref (mm 3), .int vN, .int vB, .ref (mm 4), .ref (mm 5), .int vat, .int vrm, .int vrb, .ref (mm 6), .ref (mm 7), .ref (mm 8), .ref (mm 9), .ref (mm 10), .int ct, .ref (mm 11), .ref (mm 12), .ref (mm 13)])), (mm 1, .inl (cy 0, 4, .inl so)), (mm 2, .inl (cy 0, 4, .inl sg)), (mm 3, .inl (cy 0, 240, .inl ce)), (mm 4, .inl (cy 0, 6, .inl kf)), (mm 5, .inl (cy 0, 36, .inl pf)), (mm 6, .inl (cy 0, 6, .inl rk)), (mm 7, .inl (cy 0, 36, .inl rp)), (mm 8, .inl (cy 0, 6, .inl lf)), (mm 9, .inl (cy 1, 6, .inl tf)), (mm 10, .inl (cy 0, 36, .inl kp)), (mm 11, .inl (cy 0, 8, .inl df)), (mm 12, .inl (cy 0, 8, .inl mf)), (mm 13, .inl (cy 0, 8, .inl gf))]
abbrev MS : Type := Int32 × Int32 × (Nat → Int32) × (Nat → Int32) × (Nat → Int32) × Int32 × Int32 × (Nat → Int32) × (Nat → Int32) × Int32 × Int32 × Int32 × (Nat → Int32) × (Nat → Int32) × (Nat → Int32) × (Nat → Int32) × (Nat → Int32) × Int32 × (Nat → Int32) × (Nat → Int32) × (Nat → Int32)
abbrev wMu (mm : Nat → Nat) (cy : Nat → ClassId) (u : MS) : va_W := match u with
  | (fl, tv, so, sg, ce, vN, vB, kf, pf, vat, vrm, vrb, rk, rp, lf, tf, kp, ct, df, mf, gf) => wM mm cy fl tv so sg ce vN vB kf pf vat vrm vrb rk rp lf tf kp ct df mf gf
def MhI (hs : Nat → Bool) (sl sa : Nat → Nat) (sc : Nat → Nat → Int32) (so sg ce : Nat → Int32) : Prop := ∀ q, q < 4 → (hs q = true → (sg q = nI (sl q) ∧ sl q ≤ 60) ∧ (so q = nI (sa q) ∧ sa q ≤ 2) ∧ ∀ j, j < 60 → ce (60 * q + j) = sc q j) ∧ (hs q = false → so q = -9)
/-- the reference's cells hold the state -/
def MI (σ : Sp) (u : MS) : Prop := match σ, u with
  | ((N, B, k, p), (c, rd, rl, ra), (hs, sl, sa, sc), tv, fl), (fl', tv', so, sg, ce, vN, vB, kf, pf, _, _, _, _, _, _, _, _, ct, df, mf, gf) =>
    (fl' = fl ∧ tv' = tv ∧ vN = nI N ∧ vB = nI B ∧ ct = nI c) ∧ (B ≤ 9 ∧ (N = 0 ∨ 2 ≤ N)) ∧ Ag N k p kf (PF pf) ∧ Rg N c rd rl ra df mf gf ∧ MhI hs sl sa sc so sg ce
theorem MI.mk {N B : Nat} {k : Nat → Nat} {p : Nat → Nat → Nat} {c : Nat} {rd rl : Nat → Nat} {ra : Nat → Option Nat} {hs : Nat → Bool} {sl sa : Nat → Nat} {sc : Nat → Nat → Int32} {tv fl : Int32} {so sg ce kf pf : Nat → Int32} {vat vrm vrb : Int32} {rk rp lf tf kp df mf gf : Nat → Int32} (hB : B ≤ 9) (hN2 : N = 0 ∨ 2 ≤ N) (hT : Ag N k p kf (PF pf)) (hR : Rg N c rd rl ra df mf gf) (hS : MhI hs sl sa sc so sg ce) : MI ((N, B, k, p), (c, rd, rl, ra), (hs, sl, sa, sc), tv, fl) (fl, tv, so, sg, ce, nI N, nI B, kf, pf, vat, vrm, vrb, rk, rp, lf, tf, kp, nI c, df, mf, gf) := ⟨⟨rfl, rfl, rfl, rfl, rfl⟩, ⟨hB, hN2⟩, hT, hR, hS⟩
section AGM
variable {N B : Nat} {k : Nat → Nat} {p : Nat → Nat → Nat} {kf kf' : Nat → Int32} {pf pf' : Nat → Nat → Int32} {f f1 kp : Nat → Int32}
theorem Ag.cong (h : Ag N k p kf pf) (hk : ∀ a, a < N → kf' a = kf a) (hp : ∀ a b, a < N → b < N → pf' a b = pf a b) : Ag N k p kf' pf' := ⟨h.1, fun a ha => ⟨by rw [hk a ha]; exact h.kk ha, h.k2 ha⟩, fun a ha => ⟨h.p0 ha, fun b hb => ⟨by rw [hp a b ha hb]; exact h.pp ha hb, h.p9 ha hb⟩⟩⟩
theorem Ag.eq36 (h : Ag N k p kf (PF f)) (hj : ∀ j, j < 36 → f1 j = f j) : Ag N k p kf (PF f1) := h.cong (fun _ _ => rfl) (fun a b ha hb => hj _ (by have := h.1; omega))
theorem ag_alm (h : Ag N k p kf (PF f)) {q b v : Nat} (hq : q < N) (hb : b < N) (hne : q ≠ b) (hv : v ≤ 9) (hj : ∀ j, j < 36 → j ≠ 6 * q + b → f1 j = f j) : Ag N k (setp p q b v) kf (PF (upd f1 (6 * q + b) (nI v))) := by
  have hN := h.1
  refine (h.setp hb hne hv).cong (fun _ _ => rfl) (fun a c ha hc => ?_)
  show upd f1 (6 * q + b) (nI v) (6 * a + c) = updR (PF f) q (upd (PF f q) b (nI v)) a c
  by_cases e1 : a = q
  · subst e1
    rw [updR_s]
    by_cases e2 : c = b
    · subst e2; rw [pk_us, pk_us]
    · rw [pk_un (by omega), pk_un e2]; exact hj _ (by omega) (by omega)
  · rw [updR_n e1, pk_un (by omega)]
    exact hj _ (by omega) (by omega)
theorem ag_setM (h : Ag N k p kf (PF f)) {q b v : Nat} (hq : q < N) (hb : b < N) (hne : q ≠ b) (hv : v ≤ 9) : Ag N k (setp p q b v) kf (PF (upd f (6 * q + b) (nI v))) := ag_alm h hq hb hne hv (fun _ _ _ => rfl)
/-- the pence behind a dusk in a row -/
def pfM (N B : Nat) (k : Nat → Nat) (p : Nat → Nat → Nat) (f : Nat → Int32) (i : Nat) : Nat → Int32 := fun j => pfD N B k p (PF f) i (j / 6) (j % 6)
theorem pf_dm {j : Nat} : PF f (j / 6) (j % 6) = f j := by show f (6 * (j / 6) + j % 6) = f j; rw [Nat.div_add_mod]
theorem pfM_0 : pfM N B k p f 0 = f := by
  funext j
  unfold pfM
  rw [pfD_0]
  exact pf_dm
theorem pfM_ab {i a b : Nat} (hb : b < 6) : pfM N B k p f i (6 * a + b) = pfD N B k p (PF f) i a b := by
  unfold pfM
  rw [show (6 * a + b) / 6 = a by omega, show (6 * a + b) % 6 = b by omega]
theorem pfM_n {i : Nat} (h : lg N k p i = none) : pfM N B k p f (i + 1) = pfM N B k p f i := by
  unfold pfM
  rw [pfD_n h]
theorem pfM_s {i q v : Nat} (hi : i < 6) (h : lg N k p i = some q) (hv : dk N B k p q i = v) : upd (pfM N B k p f i) (6 * q + i) (nI v) = pfM N B k p f (i + 1) := by
  funext j
  have e := pfD_s (N := N) (B := B) (k := k) (p := p) (pf := PF f) h hv
  show _ = pfD N B k p (PF f) (i + 1) (j / 6) (j % 6)
  rw [← e]
  by_cases z : j = 6 * q + i
  · rw [z, pk_us, show (6 * q + i) / 6 = q by omega, show (6 * q + i) % 6 = i by omega, updR_s, pk_us]
  · rw [pk_un z]
    by_cases w : j / 6 = q
    · rw [w, updR_s, pk_un (by omega), ← w]; rfl
    · rw [updR_n w]; rfl
theorem ag_dkM (h : Ag N k p kf (PF f)) : Ag N k (dk N B k p) kf (PF (pfM N B k p f N)) := (h.dk (B := B)).cong (fun _ _ => rfl) (fun a b _ hb => pfM_ab (by have := h.1; omega))
theorem kept {j : Nat} (hj : j < 36) : fil (fil f kp 36) f1 36 j = f j := by rw [fil_in hj, fil_in hj]
theorem Ag.rs (h : Ag N k p kf (PF f)) : Ag N k p kf (PF (fil (fil f kp 36) f1 36)) := h.eq36 (fun _ hj => kept hj)
theorem setp_id {q b : Nat} : setp p q b (p q b) = p := by
  funext a c
  unfold setp
  split
  · next h => rw [h.1, h.2]
  · rfl
theorem upd_id {i : Nat} {x : Int32} (h : f i = x) : upd f i x = f := by
  funext j
  by_cases e : j = i
  · subst e; rw [pk_us, h]
  · rw [pk_un e]
theorem upd_2 {i : Nat} {x y : Int32} : upd (upd f i x) i y = upd f i y := by
  funext j
  by_cases e : j = i
  · subst e; rw [pk_us, pk_us]
  · rw [pk_un e, pk_un e, pk_un e]
end AGM
/-! the lighter, weight by weight -/
theorem lgs_0 {w : Nat → Nat} {n : Nat} (h : w n = 0) : lgt w (n + 1) = lgt w n := lgt_n (by omega)
theorem lgs_1 {w : Nat → Nat} {n : Nat} (h : lgt w n = none) (h0 : 0 < w n) : lgt w (n + 1) = some n := lgt_y (by unfold mst; rw [h]; exact h0)
theorem lgs_2 {w : Nat → Nat} {n q : Nat} (h : lgt w n = some q) (h0 : w q < w n) : lgt w (n + 1) = some n := lgt_y (by unfold mst; rw [h]; exact h0)
theorem lgs_3 {w : Nat → Nat} {n q : Nat} (h : lgt w n = some q) (h0 : w n ≤ w q) : lgt w (n + 1) = some q := by rw [lgt_n (by unfold mst; rw [h]; exact h0), h]
theorem lgt_31 {w : Nat → Nat} {n : Nat} (hn : n ≤ 6) : ∀ a, lgt w n = some a → a < 2 ^ 31 := fun a h => by have := lgt_lt h; omega
theorem or_0 (x : Nat) : nI x ||| nI 0 = nI x := by rw [nn_or, Nat.or_zero]
theorem bs_y {P : Nat → Bool} {n : Nat} (h : P n = true) : nI (bset P n) ||| nI (2 ^ n) = nI (bset P (n + 1)) := by rw [bset_y h]; exact or_2 (bset_lt _ _)
theorem bs_n {P : Nat → Bool} {n : Nat} (h : P n = false) : nI (bset P n) ||| nI 0 = nI (bset P (n + 1)) := by rw [bset_n h]; exact or_0 _
theorem sb_le {q b d : Nat} (hq : q < 2 ^ 30) (hb : b < 2 ^ 30) (hd : d < 2 ^ 30) : nI q - nI b ≤ nI d ↔ q - b ≤ d := by
  rw [Int32.le_iff_toInt_le, pk_sub_toInt hq hb, nI_toInt (by omega)]
  omega
theorem wi_p {m : Nat} {x : Int32} (hm : m < 2 ^ 30) : (¬ x < nI 0 ∧ x ≤ nI m) ↔ (pOf (m + 1) x).isSome = true := by
  have z : (nI 0).toInt = 0 := rfl
  rw [pOf_i, Int32.lt_iff_toInt_lt, Int32.le_iff_toInt_le, z, nI_toInt (by omega)]
  omega
theorem wi_l {L : Nat} {x : Int32} (hm : L ≤ 60) : (¬ x < nI 0 ∧ x ≤ nI L - nI 1) ↔ (pOf L x).isSome = true := by
  have z : (nI 0).toInt = 0 := rfl
  have h1 : (nI L - nI 1).toInt = (L : Int) - 1 := pk_sub_toInt (by omega) (by decide)
  rw [pOf_i, Int32.lt_iff_toInt_lt, Int32.le_iff_toInt_le, z, h1]
  omega
theorem m9_ne {n : Nat} (hn : n < 2 ^ 31) : ¬ nI n = -9 := fun e => by
  have h : (nI n).toInt = -9 := by rw [e]; rfl
  rw [nI_toInt hn] at h
  omega
section MHI
variable {hs : Nat → Bool} {sl sa : Nat → Nat} {sc : Nat → Nat → Int32} {so sg ce : Nat → Int32} {q : Nat}
theorem MhI.hln (h : MhI hs sl sa sc so sg ce) (hq : q < 4) (hh : hs q = true) : sg q = nI (sl q) := ((h q hq).1 hh).1.1
theorem MhI.l60 (h : MhI hs sl sa sc so sg ce) (hq : q < 4) (hh : hs q = true) : sl q ≤ 60 := ((h q hq).1 hh).1.2
theorem MhI.hla (h : MhI hs sl sa sc so sg ce) (hq : q < 4) (hh : hs q = true) : so q = nI (sa q) := ((h q hq).1 hh).2.1.1
theorem MhI.a2 (h : MhI hs sl sa sc so sg ce) (hq : q < 4) (hh : hs q = true) : sa q ≤ 2 := ((h q hq).1 hh).2.1.2
theorem MhI.hcf (h : MhI hs sl sa sc so sg ce) (hq : q < 4) (hh : hs q = true) {j : Nat} (hj : j < 60) : ce (60 * q + j) = sc q j := ((h q hq).1 hh).2.2 j hj
theorem MhI.t (h : MhI hs sl sa sc so sg ce) (hq : q < 4) (hl : ¬ so q = -9) : hs q = true := by
  cases e : hs q with
  | true => rfl
  | false => exact absurd ((h q hq).2 e) hl
theorem MhI.f (h : MhI hs sl sa sc so sg ce) (hq : q < 4) (hl : so q = -9) : hs q = false := by
  cases e : hs q with
  | false => rfl
  | true => exact absurd ((h.hla hq e).symm.trans hl) (m9_ne (by have := h.a2 hq e; omega))
theorem MhI.new (h : MhI hs sl sa sc so sg ce) {m v : Nat} (hm : m ≤ 60) (hv : v ≤ 2) (hq : q < 4) {ce1 : Nat → Int32} (h1 : ∀ j, j < 60 → ce1 (60 * q + j) = nI 0) (h2 : ∀ x, x < 60 * q ∨ 60 * q + 60 ≤ x → ce1 x = ce x) : MhI (upB hs q true) (upN sl q m) (upN sa q v) (updR sc q (fun _ => nI 0)) (upd so q (nI v)) (upd sg q (nI m)) ce1 := by
  intro j hj
  unfold upN
  by_cases e : j = q
  · subst e
    rw [pk_us, pk_us, updR_s, if_pos rfl, if_pos rfl, upB_s]
    exact ⟨fun _ => ⟨⟨rfl, hm⟩, ⟨rfl, hv⟩, fun i hi => h1 i hi⟩, fun z => by cases z⟩
  · rw [pk_un e, pk_un e, updR_n e, if_neg e, if_neg e, upB_n e]
    refine ⟨fun z => ⟨((h j hj).1 z).1, ((h j hj).1 z).2.1, fun i hi => ?_⟩, (h j hj).2⟩
    rw [h2 _ (by omega)]
    exact h.hcf hj z hi
theorem MhI.lose (h : MhI hs sl sa sc so sg ce) : MhI (upB hs q false) sl sa sc (upd so q (-9)) sg ce := by
  intro j hj
  by_cases e : j = q
  · subst e
    rw [pk_us, upB_s]
    exact ⟨fun z => (by cases z), fun _ => rfl⟩
  · rw [pk_un e, upB_n e]
    exact h j hj
theorem MhI.lose0 (h : MhI hs sl sa sc so sg ce) (hq : q < 4) (h0 : hs q = false) : MhI hs sl sa sc (upd so q (-9)) sg ce := by
  intro j hj
  by_cases e : j = q
  · subst e
    rw [pk_us]
    exact ⟨fun z => (by rw [h0] at z; cases z), fun _ => rfl⟩
  · rw [pk_un e]
    exact h j hj
theorem MhI.put (h : MhI hs sl sa sc so sg ce) (hq : q < 4) {i : Nat} {x : Int32} (hi : i < 60) : MhI hs sl sa (updR sc q (upd (sc q) i x)) so sg (upd ce (60 * q + i) x) := by
  intro j hj
  refine ⟨fun z => ⟨((h j hj).1 z).1, ((h j hj).1 z).2.1, fun i' hi' => ?_⟩, (h j hj).2⟩
  by_cases e : j = q
  · subst e
    rw [updR_s]
    by_cases w : i' = i
    · subst w; rw [pk_us, pk_us]
    · rw [pk_un (by omega), pk_un w]; exact h.hcf hj z hi'
  · rw [updR_n e, pk_un (by omega)]
    exact h.hcf hj z hi'
theorem MhI.copy (h : MhI hs sl sa sc so sg ce) {a b s0 d0 m0 : Nat} (ha : a < 4) (hb : b < 4) (hha : hs a = true) (hhb : hs b = true) (h1 : s0 + m0 ≤ 60) (h2 : d0 + m0 ≤ 60) : MhI hs sl sa (updR sc b (va_cpy (sc a) (sc b) s0 d0 m0)) so sg (va_cpy ce ce (60 * a + s0) (60 * b + d0) m0) := by
  intro j hj
  refine ⟨fun z => ⟨((h j hj).1 z).1, ((h j hj).1 z).2.1, fun i' hi => ?_⟩, (h j hj).2⟩
  by_cases e : j = b
  · subst e
    rw [updR_s]
    by_cases w : d0 ≤ i' ∧ i' < d0 + m0
    · rw [pk_cpy_in (by omega) (by omega), pk_cpy_in w.1 w.2, show 60 * a + s0 + (60 * j + i' - (60 * j + d0)) = 60 * a + (s0 + (i' - d0)) by omega]
      exact h.hcf ha hha (by omega)
    · rw [pk_cpy_out (by omega), pk_cpy_out (by omega)]; exact h.hcf hj z hi
  · rw [updR_n e, pk_cpy_out (by omega)]
    exact h.hcf hj z hi
end MHI
section CPY
variable {f g : Nat → Int32}
theorem cpy_0 {s d : Nat} : va_cpy f g s d 0 = g := by funext j; exact pk_cpy_out (by omega)
theorem cpy_s {s d t : Nat} {x : Int32} (hx : x = f (s + t)) : upd (va_cpy f g s d t) (d + t) x = va_cpy f g s d (t + 1) := by
  subst hx
  funext j
  by_cases e : j = d + t
  · subst e; rw [pk_us, pk_cpy_in (by omega) (by omega), show s + (d + t - d) = s + t by omega]
  · rw [pk_un e]
    by_cases z : d ≤ j ∧ j < d + t
    · rw [pk_cpy_in z.1 z.2, pk_cpy_in z.1 (by omega)]
    · rw [pk_cpy_out (by omega), pk_cpy_out (by omega)]
theorem cpy_b {s d t n : Nat} {x : Int32} (ht : t < n) (hx : x = f (s + (n - 1 - t))) : upd (va_cpy f g (s + (n - t)) (d + (n - t)) t) (d + (n - 1 - t)) x = va_cpy f g (s + (n - (t + 1))) (d + (n - (t + 1))) (t + 1) := by
  subst hx
  funext j
  by_cases e : j = d + (n - 1 - t)
  · subst e; rw [pk_us, pk_cpy_in (by omega) (by omega)]; congr 1; omega
  · rw [pk_un e]
    by_cases z : d + (n - t) ≤ j ∧ j < d + (n - t) + t
    · rw [pk_cpy_in z.1 z.2, pk_cpy_in (by omega) (by omega)]; congr 1; omega
    · rw [pk_cpy_out (by omega), pk_cpy_out (by omega)]
end CPY
section JLC
variable {X : Cxt} {l : Launch} {D : va_G} {cy : Nat → ClassId} {cc : ByteArray} {nL : Nat} {Ts : List Cond} {own : String} {rm : Room} {ws : va_W} {pc : Nat} {lv : List (Nat × Value)} {st : List Value}
theorem j_lcmp {x y : Int64} {v : Int32} (C : Cx X l D cy cc nL Ts own rm) (hd : decode cc pc = .ok (.lcmp, 1)) (hv : (if x > y then (1 : Int32) else if x == y then 0 else -1) = v) (k : J X ws (pc + 1) lv (.int v :: st)) : J X ws pc lv (.long y :: .long x :: st) := by
  subst hv
  intro H locs ls hP hD hS hl
  have k := k H locs ls hP hD hS hl
  have hexec := C.1.1
  have hb := C.1.2
  intro T hT Xs
  obtain ⟨t, a, b⟩ := k T hT Xs
  refine ⟨t, ?_, b⟩
  jvm_step Xs.here [Xs.here.top, hexec, hb, hd]
  by_cases h1 : x > y
  · simp only [h1, if_true] at a ⊢; exact a
  · by_cases h2 : x = y
    · simp [h2] at a ⊢; exact a
    · simp [h1, h2] at a ⊢; exact a
end JLC
theorem lc_0 {y : Nat} (hy : y < 2 ^ 31) : (if lN y > lN 0 then (1 : Int32) else if lN y == lN 0 then 0 else -1) = nI (bN (¬ y = 0)) := by
  rcases Nat.eq_zero_or_pos y with e | e
  · subst e; rfl
  · rw [if_pos ((lN_lt (by decide) hy).mpr e), bN_y (by omega)]; rfl
theorem tI_e {N B : Nat} {k : Nat → Nat} {p : Nat → Nat → Nat} {j : Nat} : tI N B k p j = nI (bN (sps N k p j ≤ B)) := by
  by_cases h : sps N k p j ≤ B
  · rw [tI_y h, bN_y h]
  · rw [tI_n (by omega), bN_n h]
