theorem soT_t {N B c t : Nat} {k : Nat → Nat} {p : Nat → Nat → Nat} {rd rl : Nat → Nat} {ra : Nat → Option Nat} (ht : t ≤ 11) (h : ¬ soT N B c k p rd rl ra t = true) : ¬ soT N B c k p rd rl ra 11 = true := fun z => h (allB_i.mpr (fun i hi => allB_i.mp z i (by omega)))
theorem allB_s {P : Nat → Bool} {n : Nat} : allB P (n + 1) = (allB P n && P n) := rfl
theorem two_n {N : Nat} {x y : Int32} (hN : N ≤ 6) (h : ¬ ((pOf N x).isSome = true ∧ (pOf N y).isSome = true ∧ ¬ x = y)) : pOf N x = none ∨ (∃ a, pOf N x = some a ∧ pOf N y = none) ∨ ∃ a, pOf N x = some a ∧ pOf N y = some a := by
  cases e : pOf N x with
  | none => exact Or.inl rfl
  | some a =>
    cases e2 : pOf N y with
    | none => exact Or.inr (Or.inl ⟨a, rfl, rfl⟩)
    | some b =>
      refine Or.inr (Or.inr ⟨a, rfl, ?_⟩)
      have z1 := (pOf_s (by omega)).mp e
      have z2 := (pOf_s (by omega)).mp e2
      by_cases z : x = y
      · have z3 : nI a = nI b := by rw [← z1.2, ← z2.2, z]
        rw [(nI_eq (by omega) (by omega)).mp z3]
      · exact absurd ⟨by rw [e]; rfl, by rw [e2]; rfl, z⟩ h
/-! rings, bit by bit -/
section RINGM
variable {N : Nat} {k : Nat → Nat} {p : Nat → Nat → Nat}
theorem orb_bit {a : Nat} (c : Nat) : ∀ n, Nat.testBit (orb N k p a n) c = true ↔ ∃ i, i < n ∧ goL N k p a i = some c
  | 0 => by
    show Nat.testBit 0 c = true ↔ _
    rw [Nat.zero_testBit]
    exact ⟨fun z => (by cases z), fun ⟨i, h, _⟩ => absurd h (Nat.not_lt_zero i)⟩
  | n + 1 => by
    have ih := orb_bit (a := a) c n
    have step : Nat.testBit (orb N k p a (n + 1)) c = true ↔ (Nat.testBit (orb N k p a n) c = true ∨ goL N k p a n = some c) := by
      cases e : goL N k p a n with
      | none =>
        have e2 : orb N k p a (n + 1) = orb N k p a n := by show orb N k p a n ||| _ = _; rw [e]; exact Nat.or_zero _
        rw [e2]
        exact ⟨Or.inl, fun z => z.elim id (fun z => by cases z)⟩
      | some x =>
        rw [orb_s e, Nat.testBit_or, Bool.or_eq_true]
        refine or_congr Iff.rfl ?_
        rw [Nat.testBit_two_pow, decide_eq_true_eq]
        exact ⟨fun z => by rw [z], fun z => Option.some.inj z⟩
    rw [step, ih]
    refine ⟨fun z => ?_, fun ⟨i, h1, h2⟩ => ?_⟩
    · rcases z with ⟨i, h1, h2⟩ | z
      · exact ⟨i, by omega, h2⟩
      · exact ⟨n, by omega, z⟩
    · rcases Nat.lt_or_ge i n with w | w
      · exact Or.inl ⟨i, w, h2⟩
      · rw [show i = n by omega] at h2
        exact Or.inr h2
theorem bit_tb {s b : Nat} : s / 2 ^ b % 2 = 1 ↔ Nat.testBit s b = true := by
  rw [Nat.testBit_eq_decide_div_mod_eq, decide_eq_true_eq]
/-- once one comes again, nobody is new -/
theorem orb_end {a c n : Nat} (h : goL N k p a n = some c) (hb : Nat.testBit (orb N k p a n) c = true) : ∀ m, n ≤ m → orb N k p a m = orb N k p a n := by
  obtain ⟨i, hi, he⟩ := (orb_bit c n).mp hb
  have per : ∀ d, goL N k p a (n + d) = goL N k p a (i + d) := fun d => by rw [goL_add, goL_add, h, he]
  have all : ∀ m, ∃ j, j < n ∧ goL N k p a j = goL N k p a m := by
    intro m
    induction m using Nat.strongRecOn with
    | _ m ih =>
      rcases Nat.lt_or_ge m n with w | w
      · exact ⟨m, w, rfl⟩
      · obtain ⟨j, hj, e⟩ := ih (i + (m - n)) (by omega)
        refine ⟨j, hj, e.trans ?_⟩
        rw [← per (m - n), show n + (m - n) = m by omega]
  intro m hm
  apply Nat.eq_of_testBit_eq
  intro x
  rw [Bool.eq_iff_iff, orb_bit, orb_bit]
  refine ⟨fun ⟨j, _, e⟩ => ?_, fun ⟨j, h1, e⟩ => ⟨j, by omega, e⟩⟩
  obtain ⟨j2, h2, e2⟩ := all j
  exact ⟨j2, h2, e2.trans e⟩
/-- whoever isn't yet there is one of few -/
theorem orb_few {a c n : Nat} (ha : a < N) (hs : ∀ i, ∃ x, goL N k p a i = some x) (hd : ∀ i j, i < j → j < n → goL N k p a i ≠ goL N k p a j) (h : goL N k p a n = some c) (hb : ¬ Nat.testBit (orb N k p a n) c = true) : n < N ∧ ∀ i j, i < j → j < n + 1 → goL N k p a i ≠ goL N k p a j := by
  have hd2 : ∀ i j, i < j → j < n + 1 → goL N k p a i ≠ goL N k p a j := fun i j hij hj e => by
    rcases Nat.lt_or_ge j n with w | w
    · exact hd i j hij w e
    · rw [show j = n by omega, h] at e
      exact hb ((orb_bit c n).mpr ⟨i, by omega, e⟩)
  refine ⟨?_, hd2⟩
  rcases Nat.lt_or_ge n N with w | w
  · exact w
  · have := fb_holes N (n + 1) (fun i => (goL N k p a i).getD 0) (fun i _ => by
      obtain ⟨x, hx⟩ := hs i
      show (goL N k p a i).getD 0 < N
      rw [hx]
      exact goL_lt ha hx) (fun i j hij hj e => hd2 i j hij hj (by
        obtain ⟨x, hx⟩ := hs i
        obtain ⟨y, hy⟩ := hs j
        have e : (goL N k p a i).getD 0 = (goL N k p a j).getD 0 := e
        rw [hx, hy] at e
        rw [hx, hy]
        exact congrArg some e))
    omega
end RINGM
theorem ag_id {N : Nat} {k : Nat → Nat} {p : Nat → Nat → Nat} {kf f f1 : Nat → Int32} {q b : Nat} (h : Ag N k p kf (PF f)) (hq : q < N) (hb : b < N) (hj : ∀ j, j < 36 → f1 j = f j) : Ag N k (setp p q b (p q b)) kf (PF (upd f1 (6 * q + b) (nI (p q b)))) := by
  rw [setp_id]
  have hN := h.1
  refine h.eq36 (fun j hj2 => ?_)
  by_cases e : j = 6 * q + b
  · subst e; rw [pk_us]; exact (h.pp hq hb).symm
  · rw [pk_un e]; exact hj j hj2
theorem payv_le {N q b : Nat} {k : Nat → Nat} {p : Nat → Nat → Nat} : ∀ {v : Nat}, payv N k p q b v ≤ v
  | 0 => Nat.le_refl _
  | v + 1 => by
    have h := payv_le (N := N) (q := q) (b := b) (k := k) (p := p) (v := v)
    show (if lg N k (setp p q b (v + 1)) b = some q then payv N k p q b v + 1 else 0) ≤ v + 1
    split
    · exact Nat.succ_le_succ h
    · exact Nat.zero_le _
theorem fre_le {N q : Nat} {k : Nat → Nat} {p : Nat → Nat → Nat} {kf : Nat → Int32} {pf : Nat → Nat → Int32} (h : Ag N k p kf pf) (hq : q < N) : ∀ {i : Nat}, i ≤ N → fre N k p q i ≤ 9 * i
  | 0, _ => Nat.le_refl _
  | i + 1, hi => by
    have ih := fre_le h hq (i := i) (by omega)
    have h1 := payv_le (N := N) (q := q) (b := i) (k := k) (p := p) (v := p q i)
    have h2 := h.p9 hq (b := i) (by omega)
    show fre N k p q i + payv N k p q i (p q i) ≤ _
    omega
section BACKM
variable {N : Nat} {k : Nat → Nat} {p : Nat → Nat → Nat} {kf : Nat → Int32} {f f1 : Nat → Int32} {q b : Nat}
theorem back36 (h : Ag N k p kf (PF f)) (hq : q < N) (hb : b < N) (hj : ∀ j, j < 36 → j ≠ 6 * q + b → f1 j = f j) : ∀ j, j < 36 → upd f1 (6 * q + b) (nI (p q b)) j = f j := fun j hj2 => by
  have hN := h.1
  by_cases e : j = 6 * q + b
  · subst e; rw [pk_us]; exact (h.pp hq hb).symm
  · rw [pk_un e]; exact hj j hj2 e
theorem ag_kid {kf1 : Nat → Int32} {pf : Nat → Nat → Int32} {a : Nat} (h : Ag N k p kf pf) (ha : a < N) (hj : ∀ j, j < N → j ≠ a → kf1 j = kf j) : Ag N k p (upd kf1 a (nI (k a))) pf := h.cong (fun j hj2 => by
  by_cases e : j = a
  · subst e; rw [pk_us]; exact (h.kk ha).symm
  · rw [pk_un e]; exact hj j hj2 e) (fun _ _ _ _ => rfl)
theorem ag_kset {kf1 : Nat → Int32} {pf : Nat → Nat → Int32} {a v : Nat} (h : Ag N k p kf pf) (hv : v ≤ 2) (hj : ∀ j, j < N → j ≠ a → kf1 j = kf j) : Ag N (upN k a v) p (upd kf1 a (nI v)) pf := (h.setk (q := a) hv).cong (fun j hj2 => by
  by_cases e : j = a
  · subst e; rw [pk_us, pk_us]
  · rw [pk_un e, pk_un e]; exact hj j hj2 e) (fun _ _ _ _ => rfl)
end BACKM
theorem cls_0 {P : Nat → Bool} {n : Nat} {b : Bool} (h : P n = b) (e : b = true) : P n = true := h.trans e
theorem many_n {w : Int32} (h0 : ¬ w = 0) (h1 : ¬ w = nI 1) (h2 : ¬ w = nI 2) (h3 : ¬ w = nI 3) : pOf 4 w = none := by
  cases e : pOf 4 w with
  | none => rfl
  | some j =>
    have z := (pOf_s (by decide)).mp e
    obtain ⟨z1, z2⟩ := z
    match j, z1, z2 with
    | 0, _, z2 => exact absurd z2 h0
    | 1, _, z2 => exact absurd z2 h1
    | 2, _, z2 => exact absurd z2 h2
    | 3, _, z2 => exact absurd z2 h3
    | n + 4, z1, _ => omega
