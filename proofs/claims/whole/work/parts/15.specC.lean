/-- one debt changed -/
def setp (p : Nat → Nat → Nat) (q b v : Nat) : Nat → Nat → Nat := fun a c => if a = q ∧ c = b then v else p a c
theorem setp_s {p : Nat → Nat → Nat} {q b v : Nat} : setp p q b v q b = v := if_pos ⟨rfl, rfl⟩
theorem setp_n {p : Nat → Nat → Nat} {q b v a c : Nat} (h : ¬ (a = q ∧ c = b)) : setp p q b v a c = p a c := if_neg h
theorem lg_col {N b : Nat} {k : Nat → Nat} {p p' : Nat → Nat → Nat} (h : ∀ a, a < N → p a b = p' a b) : lg N k p b = lg N k p' b := lgt_cong (fun a ha => by unfold wF; rw [h a ha])
theorem colP {N b q v : Nat} {k : Nat → Nat} {p p2 : Nat → Nat → Nat} (h1 : p2 q b = v) (h2 : ∀ a, a ≠ q → p2 a b = p a b) : lg N k p2 b = lg N k (setp p q b v) b := lg_col (fun a _ => by
  by_cases h : a = q
  · subst h; rw [h1, setp_s]
  · rw [h2 a h, setp_n (fun z => h z.1)])
/-- what one pays at one lamp, of v pence -/
def payv (N : Nat) (k : Nat → Nat) (p : Nat → Nat → Nat) (q b : Nat) : Nat → Nat
  | 0 => 0
  | v + 1 => if lg N k (setp p q b (v + 1)) b = some q then payv N k p q b v + 1 else 0
def fre (N : Nat) (k : Nat → Nat) (p : Nat → Nat → Nat) (q : Nat) : Nat → Nat
  | 0 => 0
  | b + 1 => fre N k p q b + payv N k p q b (p q b)
theorem payv_n {N q b : Nat} {k : Nat → Nat} {p : Nat → Nat → Nat} : ∀ {v : Nat}, ¬ lg N k (setp p q b v) b = some q → payv N k p q b v = 0
  | 0, _ => rfl
  | v + 1, h => if_neg h
theorem payv_y {N q b : Nat} {k : Nat → Nat} {p : Nat → Nat → Nat} : ∀ {v : Nat}, 0 < v → lg N k (setp p q b v) b = some q → payv N k p q b v = payv N k p q b (v - 1) + 1
  | 0, h, _ => absurd h (Nat.lt_irrefl 0)
  | v + 1, _, h => if_pos h
section AGC
variable {N : Nat} {k : Nat → Nat} {p : Nat → Nat → Nat} {kf : Nat → Int32} {pf : Nat → Nat → Int32}
theorem Ag.ne (h : Ag N k p kf pf) {b q : Nat} (hb : b < N) (hl : lg N k p b = some q) : q ≠ b := by
  intro e
  subst e
  have h1 := lgt_pos hl
  have h2 := h.p0 hb
  unfold wF at h1
  rw [h2] at h1
  have h3 : wt (k q) 0 = 0 := wt_0.mpr rfl
  omega
theorem Ag.pos (h : Ag N k p kf pf) {b q : Nat} (hl : lg N k p b = some q) : 0 < p q b := by
  have h1 := lgt_pos hl
  unfold wF at h1
  rcases Nat.eq_zero_or_pos (p q b) with e | e
  · have h3 : wt (k q) (p q b) = 0 := wt_0.mpr e
    omega
  · exact e
theorem Ag.setp (h : Ag N k p kf pf) {q b v : Nat} (hb : b < N) (hne : q ≠ b) (hv : v ≤ 9) : Ag N k (setp p q b v) kf (updR pf q (upd (pf q) b (nI v))) := by
  refine ⟨h.1, h.2.1, fun a ha => ⟨?_, fun c hc => ?_⟩⟩
  · rw [setp_n (fun z => hne (z.1.symm.trans z.2))]
    exact h.p0 ha
  · by_cases e1 : a = q
    · subst e1
      rw [updR_s]
      by_cases e2 : c = b
      · subst e2
        rw [pk_us, setp_s]
        exact ⟨rfl, hv⟩
      · rw [pk_un e2, setp_n (fun z => e2 z.2)]
        exact ⟨h.pp ha hc, h.p9 ha hc⟩
    · rw [updR_n e1, setp_n (fun z => e1 z.1)]
      exact ⟨h.pp ha hc, h.p9 ha hc⟩
end AGC
/-- rows below i copied -/
def filR (p1 p2 : Nat → Nat → Int32) (i : Nat) : Nat → Nat → Int32 := fun r => if r < i then fil (p1 r) (p2 r) 6 else p2 r
theorem filR_0 {p1 p2 : Nat → Nat → Int32} : filR p1 p2 0 = p2 := by funext r; exact if_neg (Nat.not_lt_zero r)
theorem filR_i {p1 p2 : Nat → Nat → Int32} {i : Nat} : filR p1 p2 i i = p2 i := if_neg (Nat.lt_irrefl i)
theorem updR_id {F : Nat → Nat → Int32} {i : Nat} {g : Nat → Int32} (h : F i = g) : updR F i g = F := by
  funext r
  by_cases e : r = i
  · subst e; rw [updR_s, h]
  · rw [updR_n e]
theorem updR_u {F : Nat → Nat → Int32} {i j : Nat} {g : Nat → Int32} {x : Int32} : updR (updR F i g) i (upd (updR F i g i) j x) = updR F i (upd g j x) := by
  rw [updR_s]
  funext r
  by_cases e : r = i
  · subst e; rw [updR_s, updR_s]
  · rw [updR_n e, updR_n e, updR_n e]
theorem filR_e {p1 p2 : Nat → Nat → Int32} {i : Nat} : filR p1 p2 i = updR (filR p1 p2 i) i (fil (p1 i) (p2 i) 0) := (updR_id (by rw [fil_0, filR_i])).symm
theorem filR_s {p1 p2 : Nat → Nat → Int32} {i : Nat} : updR (filR p1 p2 i) i (fil (p1 i) (p2 i) 6) = filR p1 p2 (i + 1) := by
  funext r
  by_cases e : r = i
  · subst e; rw [updR_s]; exact (if_pos (Nat.lt_succ_self r)).symm
  · rw [updR_n e]
    unfold filR
    by_cases h : r < i
    · rw [if_pos h, if_pos (by omega)]
    · rw [if_neg h, if_neg (by omega)]
theorem Ag.cp {N : Nat} {k : Nat → Nat} {p : Nat → Nat → Nat} {kf kf2 : Nat → Int32} {pf pf2 : Nat → Nat → Int32} (h : Ag N k p kf pf) : Ag N k p (fil kf kf2 6) (filR pf pf2 6) := by
  have hN := h.1
  refine ⟨h.1, fun a ha => ⟨by rw [fil_in (by omega)]; exact h.kk ha, h.k2 ha⟩, fun a ha => ⟨h.p0 ha, fun b hb => ⟨?_, h.p9 ha hb⟩⟩⟩
  show (if a < 6 then fil (pf a) (pf2 a) 6 else pf2 a) b = _
  rw [if_pos (by omega), fil_in (by omega)]
  exact h.pp ha hb
section WTT
variable {a1 a2 : Nat → Nat} {cy : Nat → ClassId} {n1 b1 n2 b2 : Int32} {k1 k2 : Nat → Int32} {p1 p2 : Nat → Nat → Int32} {l1 t1 l2 t2 : Nat → Int32} {i : Nat} {g : Nat → Int32}
theorem wTT_1 (hi : i < 6) : (wT a1 cy n1 b1 k1 p1 l1 t1 ++ wT a2 cy n2 b2 k2 p2 l2 t2)[9 + i]? = some (a1 (9 + i), .inl (cy 0, 6, .inl (p1 i))) := lt6 (P := fun i => (wT a1 cy n1 b1 k1 p1 l1 t1 ++ wT a2 cy n2 b2 k2 p2 l2 t2)[9 + i]? = some (a1 (9 + i), .inl (cy 0, 6, .inl (p1 i)))) rfl rfl rfl rfl rfl rfl hi
theorem wTT_2 (hi : i < 6) : (wT a1 cy n1 b1 k1 p1 l1 t1 ++ wT a2 cy n2 b2 k2 p2 l2 t2)[24 + i]? = some (a2 (9 + i), .inl (cy 0, 6, .inl (p2 i))) := lt6 (P := fun i => (wT a1 cy n1 b1 k1 p1 l1 t1 ++ wT a2 cy n2 b2 k2 p2 l2 t2)[24 + i]? = some (a2 (9 + i), .inl (cy 0, 6, .inl (p2 i)))) rfl rfl rfl rfl rfl rfl hi
theorem wTT_s (hi : i < 6) : (wT a1 cy n1 b1 k1 p1 l1 t1 ++ wT a2 cy n2 b2 k2 p2 l2 t2).set (24 + i) (a2 (9 + i), .inl (cy 0, 6, .inl g)) = wT a1 cy n1 b1 k1 p1 l1 t1 ++ wT a2 cy n2 b2 k2 (updR p2 i g) l2 t2 := lt6 (P := fun i => (wT a1 cy n1 b1 k1 p1 l1 t1 ++ wT a2 cy n2 b2 k2 p2 l2 t2).set (24 + i) (a2 (9 + i), .inl (cy 0, 6, .inl g)) = wT a1 cy n1 b1 k1 p1 l1 t1 ++ wT a2 cy n2 b2 k2 (updR p2 i g) l2 t2) rfl rfl rfl rfl rfl rfl hi
end WTT
