theorem updR_s {pf : Nat → Nat → Int32} {i : Nat} {g : Nat → Int32} : updR pf i g i = g := if_pos rfl
theorem updR_n {pf : Nat → Nat → Int32} {i j : Nat} {g : Nat → Int32} (h : j ≠ i) : updR pf i g j = pf j := if_neg h
theorem wL_1 {k : Nat → Nat} {p : Nat → Nat → Nat} {b L i : Nat} (h : L / 2 ^ i % 2 = 1) : wL k p b L i = 0 := if_pos h
theorem wL_2 {k : Nat → Nat} {p : Nat → Nat → Nat} {b L i : Nat} (h : L / 2 ^ i % 2 ≠ 1) : wL k p b L i = wt (k i) (p i b) := if_neg h
theorem isSome_of {o : Option Nat} (h : ¬ lI o = -9) : o.isSome = true := by
  cases o with
  | none => exact absurd rfl h
  | some a => rfl
theorem some_of {o : Option Nat} (h : ¬ lI o = -9) : ∃ a, o = some a := by
  cases o with
  | none => exact absurd rfl h
  | some a => exact ⟨a, rfl⟩
/-- f below i, g from i on -/
def fil (f g : Nat → Int32) (i : Nat) : Nat → Int32 := fun j => if j < i then f j else g j
theorem fil_0 (f g : Nat → Int32) : fil f g 0 = g := by funext j; exact if_neg (Nat.not_lt_zero j)
theorem fil_in {f g : Nat → Int32} {i j : Nat} (h : j < i) : fil f g i j = f j := if_pos h
theorem fil_out {f g : Nat → Int32} {i j : Nat} (h : i ≤ j) : fil f g i j = g j := if_neg (Nat.not_lt.mpr h)
theorem fil_s (f g : Nat → Int32) (i : Nat) : upd (fil f g i) i (f i) = fil f g (i + 1) := by
  funext j
  by_cases h : j = i
  · subst h
    rw [pk_us, fil_in (Nat.lt_succ_self _)]
  · rw [pk_un h]
    rcases Nat.lt_or_ge j i with q | q
    · rw [fil_in q, fil_in (by omega)]
    · rw [fil_out q, fil_out (by omega)]
def lgF (N : Nat) (k : Nat → Nat) (p : Nat → Nat → Nat) : Nat → Int32 := fun j => lI (lg N k p j)
/-- whether one is in time, as the machine holds it -/
def tI (N B : Nat) (k : Nat → Nat) (p : Nat → Nat → Nat) (j : Nat) : Int32 := if sps N k p j ≤ B then nI 1 else nI 0
theorem tI_y {N B : Nat} {k : Nat → Nat} {p : Nat → Nat → Nat} {j : Nat} (h : sps N k p j ≤ B) : tI N B k p j = nI 1 := if_pos h
theorem tI_n {N B : Nat} {k : Nat → Nat} {p : Nat → Nat → Nat} {j : Nat} (h : B < sps N k p j) : tI N B k p j = nI 0 := if_neg (Nat.not_le.mpr h)
theorem tI_0 {N B : Nat} {k : Nat → Nat} {p : Nat → Nat → Nat} {j : Nat} (h : tI N B k p j = 0) : B < sps N k p j := by
  rcases Nat.lt_or_ge B (sps N k p j) with q | q
  · exact q
  · rw [tI_y q] at h
    exact absurd h (by decide)
theorem tI_1 {N B : Nat} {k : Nat → Nat} {p : Nat → Nat → Nat} {j : Nat} (h : ¬ tI N B k p j = 0) : sps N k p j ≤ B := by
  rcases Nat.lt_or_ge B (sps N k p j) with q | q
  · exact absurd (tI_n q) (fun e => h (by rw [e]; decide))
  · exact q
/-- the pence behind a dusk, as the machine holds them: the columns below i are done -/
def pfD (N B : Nat) (k : Nat → Nat) (p : Nat → Nat → Nat) (pf : Nat → Nat → Int32) (i : Nat) : Nat → Nat → Int32 := fun a b => if b < i ∧ lg N k p b = some a then nI (dk N B k p a b) else pf a b
section PFD
variable {N B : Nat} {k : Nat → Nat} {p : Nat → Nat → Nat} {kf : Nat → Int32} {pf : Nat → Nat → Int32}
theorem pfD_0 : pfD N B k p pf 0 = pf := by funext a b; exact if_neg (fun h => Nat.not_lt_zero _ h.1)
theorem pfD_at {i q : Nat} : pfD N B k p pf i q i = pf q i := if_neg (fun h => Nat.lt_irrefl _ h.1)
theorem pfD_n {i : Nat} (h : lg N k p i = none) : pfD N B k p pf (i + 1) = pfD N B k p pf i := by
  funext a b
  unfold pfD
  by_cases hb : b = i
  · subst hb
    rw [if_neg (fun e => by rw [h] at e; cases e.2), if_neg (fun e => by rw [h] at e; cases e.2)]
  · have e : (b < i + 1 ∧ lg N k p b = some a) ↔ (b < i ∧ lg N k p b = some a) := ⟨fun z => ⟨by omega, z.2⟩, fun z => ⟨by omega, z.2⟩⟩
    by_cases z : b < i ∧ lg N k p b = some a
    · rw [if_pos z, if_pos (e.mpr z)]
    · rw [if_neg z, if_neg (fun w => z (e.mp w))]
theorem pfD_s {i q v : Nat} (h : lg N k p i = some q) (hv : dk N B k p q i = v) : updR (pfD N B k p pf i) q (upd (pfD N B k p pf i q) i (nI v)) = pfD N B k p pf (i + 1) := by
  funext a b
  by_cases ha : a = q
  · subst ha
    rw [updR_s]
    by_cases hb : b = i
    · subst hb
      rw [pk_us]
      unfold pfD
      rw [if_pos ⟨Nat.lt_succ_self _, h⟩, hv]
    · rw [pk_un hb]
      unfold pfD
      by_cases z : b < i ∧ lg N k p b = some a
      · rw [if_pos z, if_pos ⟨by omega, z.2⟩]
      · rw [if_neg z, if_neg (fun w => z ⟨by omega, w.2⟩)]
  · rw [updR_n ha]
    unfold pfD
    by_cases z : b < i ∧ lg N k p b = some a
    · rw [if_pos z, if_pos ⟨by omega, z.2⟩]
    · refine (if_neg z).trans (if_neg (fun w => ?_)).symm
      by_cases hb : b = i
      · subst hb
        rw [h] at w
        exact ha (Option.some.inj w.2).symm
      · exact z ⟨by omega, w.2⟩
theorem Ag.dk (h : Ag N k p kf pf) : Ag N k (dk N B k p) kf (pfD N B k p pf N) := by
  refine ⟨h.1, h.2.1, fun a ha => ⟨dk0 h ha, fun b hb => ⟨?_, dk9 h ha hb⟩⟩⟩
  show (if _ then _ else _) = _
  by_cases z : lg N k p b = some a
  · rw [if_pos ⟨hb, z⟩]
  · rw [if_neg (fun w => z w.2), h.pp ha hb]
    show nI (p a b) = nI (if _ then _ else _)
    rw [if_neg z]
theorem dk_in {q i : Nat} (h : lg N k p i = some q) (ht : sps N k p q ≤ B) : dk N B k p q i = max 0 (p q i - 1) := by
  show (if _ then _ else _) = _
  rw [if_pos h, if_pos ht, Nat.max_eq_right (Nat.zero_le _)]
theorem dk_out {q i : Nat} (h : lg N k p i = some q) (ht : B < sps N k p q) : dk N B k p q i = min 9 (2 * p q i) := by
  show (if _ then _ else _) = _
  rw [if_pos h, if_neg (Nat.not_le.mpr ht)]
end PFD
