/-! what every call answers, and what becomes of the state -/
def pOf (n : Nat) (x : Int32) : Option Nat := if 0 ≤ x.toInt ∧ x.toInt < (n : Int) then some x.toInt.toNat else none
theorem pOf_nI {n j : Nat} (hj : j < n) (hn : n < 2 ^ 31) : pOf n (nI j) = some j := by
  unfold pOf
  rw [nI_toInt (by omega), if_pos (by omega)]
  rfl
theorem pOf_s {n j : Nat} {x : Int32} (hn : n < 2 ^ 31) : pOf n x = some j ↔ j < n ∧ x = nI j := by
  refine ⟨fun h => ?_, fun h => by rw [h.2]; exact pOf_nI h.1 hn⟩
  unfold pOf at h
  split at h
  · next c =>
    cases h
    refine ⟨by omega, Int32.toInt_inj.mp ?_⟩
    rw [nI_toInt (by omega)]
    omega
  · cases h
theorem pOf_y {n : Nat} {x : Int32} (hn : n < 2 ^ 31) (h : (pOf n x).isSome = true) : ∃ j, j < n ∧ x = nI j := by
  cases e : pOf n x with
  | none => rw [e] at h; cases h
  | some j => exact ⟨j, (pOf_s hn).mp e⟩
theorem pOf_n {n : Nat} {x : Int32} (h : ¬ (pOf n x).isSome = true) : pOf n x = none := by
  cases e : pOf n x with
  | none => rfl
  | some j => rw [e] at h; exact absurd rfl h
theorem pOf_i {n : Nat} {x : Int32} : (pOf n x).isSome = true ↔ 0 ≤ x.toInt ∧ x.toInt < (n : Int) := by
  unfold pOf
  split
  · next h => exact ⟨fun _ => h, fun _ => rfl⟩
  · next h => exact ⟨fun e => by (cases e), fun e => absurd e h⟩
abbrev SpT : Type := Nat × Nat × (Nat → Nat) × (Nat → Nat → Nat)
abbrev SpR : Type := Nat × (Nat → Nat) × (Nat → Nat) × (Nat → Option Nat)
abbrev SpS : Type := (Nat → Bool) × (Nat → Nat) × (Nat → Nat) × (Nat → Nat → Int32)
abbrev Sp : Type := SpT × SpR × SpS × Int32 × Int32
/-- which fault comes of a row of cells -/
def agn (hs : Nat → Bool) (sl sa : Nat → Nat) (q v : Nat) (i n : Int32) : Nat :=
  if hs q = true ∧ sa q ≠ v then 2 else if hs q = false then 1 else if n.toInt < 0 then 4 else if i.toInt < 0 ∨ (sl q : Int) < i.toInt ∨ (sl q : Int) - i.toInt < n.toInt then 3 else 0
def xK (tx : Nat → Int32) : Nat → Nat := fun a => kd (tx (3 + a * (Nx tx + 2) + 1))
def xPn (tx : Nat → Int32) : Nat → Nat → Nat := fun a b => dv (tx (3 + a * (Nx tx + 2) + 2 + b))
def m_town (σ : Sp) (s la i n : Int32) : Int32 × Sp := match σ with
  | (T, (c, Rr), (hs, sl, sa, sc), tv, _) => match pOf 4 s with
    | none => (-1, (T, (c, Rr), (hs, sl, sa, sc), tv, nI 0))
    | some q => match pOf 3 la with
      | none => (-2, (T, (c, Rr), (hs, sl, sa, sc), tv, nI 0))
      | some v =>
        if agn hs sl sa q v i n ≠ 0 then ((-10) - nI (agn hs sl sa q v i n), (T, (c, Rr), (hs, sl, sa, sc), tv, nI (agn hs sl sa q v i n)))
        else if ffs (vcd (fun j => sc q (i.toNatClampNeg + j))) n.toNatClampNeg = n.toNatClampNeg ∧ tl (Nx (fun j => sc q (i.toNatClampNeg + j))) ≤ n.toNatClampNeg
          then (nI (Nx (fun j => sc q (i.toNatClampNeg + j))), ((Nx (fun j => sc q (i.toNatClampNeg + j)), dv (sc q (i.toNatClampNeg + 2)), xK (fun j => sc q (i.toNatClampNeg + j)), xPn (fun j => sc q (i.toNatClampNeg + j))), (0, Rr), (hs, sl, sa, sc), tv, nI 0))
          else ((-100) - nI (ffs (vcd (fun j => sc q (i.toNatClampNeg + j))) n.toNatClampNeg), (T, (c, Rr), (hs, sl, sa, sc), tv, nI 0))
def m_ofPerson (σ : Sp) (x w : Int32) : Int32 × Sp := match σ with
  | ((N, B, k, p), R) => (match pOf N x with
    | none => -1
    | some a => match pOf 5 w with
      | none => -2
      | some 0 => nI (k a)
      | some 1 => nI (psum p a N)
      | some 2 => nI (rnd N k p a)
      | some 3 => nI (sps N k p a)
      | some _ => nI (bN (sps N k p a ≤ B)), ((N, B, k, p), R))
def m_owe (σ : Sp) (x y v : Int32) : Int32 × Sp := match σ with
  | ((N, B, k, p), R) => match pOf N x, pOf N y with
    | some a, some b => if a = b then (-1, ((N, B, k, p), R)) else match pOf 10 v with
      | none => (-2, ((N, B, k, p), R))
      | some w => (nI (p a b), ((N, B, k, setp p a b w), R))
    | _, _ => (-1, ((N, B, k, p), R))
def m_owes (σ : Sp) (x y : Int32) : Int32 × Sp := match σ with
  | ((N, B, k, p), R) => (match pOf N x, pOf N y with
    | some a, some b => nI (p a b)
    | _, _ => -1, ((N, B, k, p), R))
def m_weight (σ : Sp) (x y : Int32) : Int32 × Sp := match σ with
  | ((N, B, k, p), R) => (match pOf N x, pOf N y with
    | some a, some b => nI (wt (k a) (p a b))
    | _, _ => -1, ((N, B, k, p), R))
def m_bell (σ : Sp) (v : Int32) : Int32 × Sp := match σ with
  | ((N, B, k, p), R) => match pOf 10 v with
    | none => (-2, ((N, B, k, p), R))
    | some w => if N = 0 then (-3, ((N, B, k, p), R)) else (nI B, ((N, w, k, p), R))
def m_lighter (σ : Sp) (x : Int32) : Int32 × Sp := match σ with
  | ((N, B, k, p), R) => (match pOf N x with
    | none => -1
    | some b => lI (lg N k p b), ((N, B, k, p), R))
def m_dusks (σ : Sp) (n : Int32) : Int32 × Sp := match σ with
  | ((N, B, k, p), R) => match pOf 61 n with
    | none => (-2, ((N, B, k, p), R))
    | some m => if N = 0 then (-3, ((N, B, k, p), R)) else (nI (litS N k (dks N B k m p)), ((N, B, k, dks N B k m p), R))
def m_later (σ : Sp) (x n : Int32) : Int32 × Sp := match σ with
  | ((N, B, k, p), R) => (match pOf N x with
    | none => -1
    | some b => match pOf 61 n with
      | none => -2
      | some m => lI (lg N k (dks N B k m p) b), ((N, B, k, p), R))
def litB (N B : Nat) (k : Nat → Nat) (p : Nat → Nat → Nat) : Nat → Bool := fun t => decide (litS N k (dks N B k t p) ≠ 0)
def m_dark (σ : Sp) : Int32 × Sp := match σ with
  | ((N, B, k, p), R) => (if N = 0 then -3 else if ffs (litB N B k p) 61 ≤ 60 then nI (ffs (litB N B k p) 61) else -9, ((N, B, k, p), R))
/-- going on from lighter to lighter -/
def goL (N : Nat) (k : Nat → Nat) (p : Nat → Nat → Nat) (b : Nat) : Nat → Option Nat
  | 0 => some b
  | n + 1 => (goL N k p b n).bind (lg N k p)
def orb (N : Nat) (k : Nat → Nat) (p : Nat → Nat → Nat) (b : Nat) : Nat → Nat
  | 0 => 0
  | n + 1 => orb N k p b n ||| (match goL N k p b n with
    | none => 0
    | some a => 2 ^ a)
def m_ring (σ : Sp) (x : Int32) : Int32 × Sp := match σ with
  | ((N, B, k, p), R) => (match pOf N x with
    | none => -1
    | some b => match goL N k p b N with
      | none => -9
      | some a => nI (orb N k p a N), ((N, B, k, p), R))
def m_free (σ : Sp) (x : Int32) : Int32 × Sp := match σ with
  | ((N, B, k, p), R) => (match pOf N x with
    | none => -1
    | some q => nI (fre N k p q N), ((N, B, k, p), R))
def hst (N : Nat) (k : Nat → Nat) (p : Nat → Nat → Nat) : Nat → Nat
  | 0 => 0
  | n + 1 => max (hst N k p n) (sps N k p n)
def m_haste (σ : Sp) : Int32 × Sp := match σ with
  | ((N, B, k, p), R) => (if N = 0 then -3 else nI (hst N k p N), ((N, B, k, p), R))
/-- a lighter that is named: someone, or nobody -/
def aOf (N : Nat) (a : Int32) : Option (Option Nat) := if a = -9 then some none else match pOf N a with
  | none => none
  | some q => some (some q)
def upN (f : Nat → Nat) (i v : Nat) : Nat → Nat := fun j => if j = i then v else f j
def upO (f : Nat → Option Nat) (i : Nat) (v : Option Nat) : Nat → Option Nat := fun j => if j = i then v else f j
def m_reading (σ : Sp) (t b a : Int32) : Int32 × Sp := match σ with
  | ((N, Tt), (c, rd, rl, ra), R) => match pOf N b, aOf N a with
    | some y, some z => match pOf 11 t with
      | none => (-2, ((N, Tt), (c, rd, rl, ra), R))
      | some w => if 8 ≤ c then (-4, ((N, Tt), (c, rd, rl, ra), R)) else (nI c, ((N, Tt), (c + 1, upN rd c w, upN rl c y, upO ra c z), R))
    | _, _ => (-1, ((N, Tt), (c, rd, rl, ra), R))
def m_back (σ : Sp) (v : Int32) : Int32 × Sp := match σ with
  | (T, (c, Rr), R) => match pOf (c + 1) v with
    | none => (-2, (T, (c, Rr), R))
    | some m => (nI (c - m), (T, (c - m, Rr), R))
def m_debts (σ : Sp) (x y : Int32) : Int32 × Sp := match σ with
  | ((N, B, k, p), (c, rd, rl, ra), R) => (match pOf N x, pOf N y with
    | some a, some b => if a = b then -1 else nI (bset (fun v => soT N B c k (setp p a b v) rd rl ra 11) 10)
    | _, _ => -1, ((N, B, k, p), (c, rd, rl, ra), R))
def m_kinds (σ : Sp) (x : Int32) : Int32 × Sp := match σ with
  | ((N, B, k, p), (c, rd, rl, ra), R) => (match pOf N x with
    | none => -1
    | some a => nI (bset (fun v => soT N B c (upN k a v) p rd rl ra 11) 3), ((N, B, k, p), (c, rd, rl, ra), R))
def m_bells (σ : Sp) : Int32 × Sp := match σ with
  | ((N, B, k, p), (c, rd, rl, ra), R) => (if N = 0 then -3 else nI (bset (fun v => soT N v c k p rd rl ra 11) 10), ((N, B, k, p), (c, rd, rl, ra), R))
def upB (f : Nat → Bool) (i : Nat) (v : Bool) : Nat → Bool := fun j => if j = i then v else f j
theorem upB_s {f : Nat → Bool} {i : Nat} {v : Bool} : upB f i v i = v := if_pos rfl
theorem upB_n {f : Nat → Bool} {i j : Nat} {v : Bool} (h : j ≠ i) : upB f i v j = f j := if_neg h
def m_sheet (σ : Sp) (q la n : Int32) : Int32 × Sp := match σ with
  | (T, R, (hs, sl, sa, sc), tv, _) => match pOf 4 q with
    | none => (-1, (T, R, (hs, sl, sa, sc), tv, nI 0))
    | some a => match pOf 3 la with
      | none => (-2, (T, R, (hs, sl, sa, sc), tv, nI 0))
      | some v => if 60 < n.toInt then (-2, (T, R, (hs, sl, sa, sc), tv, nI 0)) else if n.toInt < 0 then ((-10) - nI 4, (T, R, (hs, sl, sa, sc), tv, nI 4))
        else (nI 1, (T, R, (upB hs a true, upN sl a n.toNatClampNeg, upN sa a v, updR sc a (fun _ => nI 0)), tv, nI 0))
def m_lose (σ : Sp) (q : Int32) : Int32 × Sp := match σ with
  | (T, R, (hs, sl, sa, sc), tv, fl) => match pOf 4 q with
    | none => (-1, (T, R, (hs, sl, sa, sc), tv, fl))
    | some a => if hs a = true then (nI 1, (T, R, (upB hs a false, sl, sa, sc), tv, fl)) else (nI 0, (T, R, (hs, sl, sa, sc), tv, fl))
def m_put (σ : Sp) (q i v : Int32) : Int32 × Sp := match σ with
  | (T, R, (hs, sl, sa, sc), tv, _) => match pOf 4 q with
    | none => (-1, (T, R, (hs, sl, sa, sc), tv, nI 0))
    | some a => if hs a = false then ((-10) - nI 1, (T, R, (hs, sl, sa, sc), tv, nI 1)) else match pOf (sl a) i with
      | none => ((-10) - nI 3, (T, R, (hs, sl, sa, sc), tv, nI 3))
      | some j => (nI 1, (T, R, (hs, sl, sa, updR sc a (upd (sc a) j (cut (nI (sa a)) v))), tv, nI 0))
def lostV : Int64 := -9223372036854775808
def m_cell (σ : Sp) (q i la : Int32) : Int64 × Sp := match σ with
  | (T, R, (hs, sl, sa, sc), tv, _) => match pOf 4 q, pOf 3 la with
    | some a, some v => if hs a = true ∧ sa a ≠ v then (lostV, (T, R, (hs, sl, sa, sc), tv, nI 2)) else if hs a = false then (lostV, (T, R, (hs, sl, sa, sc), tv, nI 1)) else match pOf (sl a) i with
      | none => (lostV, (T, R, (hs, sl, sa, sc), tv, nI 3))
      | some j => ((sc a j).toInt64, (T, R, (hs, sl, sa, sc), tv, nI 0))
    | _, _ => (lostV, (T, R, (hs, sl, sa, sc), tv, nI 0))
/-- whether n cells from i on are there, of m -/
def inC (m : Nat) (i n : Int32) : Prop := 0 ≤ i.toInt ∧ i.toInt ≤ m ∧ 0 ≤ n.toInt ∧ n.toInt ≤ m - i.toInt
def m_copy (σ : Sp) (q i o j n : Int32) : Int32 × Sp := match σ with
  | (T, R, (hs, sl, sa, sc), tv, _) => match pOf 4 q, pOf 4 o with
    | some a, some b => if hs a = false ∨ hs b = false then ((-10) - nI 1, (T, R, (hs, sl, sa, sc), tv, nI 1)) else if sa a ≠ sa b then ((-10) - nI 2, (T, R, (hs, sl, sa, sc), tv, nI 2))
      else if (0 ≤ i.toInt ∧ i.toInt ≤ sl a ∧ 0 ≤ n.toInt ∧ n.toInt ≤ sl a - i.toInt) ∧ (0 ≤ j.toInt ∧ j.toInt ≤ sl b ∧ 0 ≤ n.toInt ∧ n.toInt ≤ sl b - j.toInt)
        then (n, (T, R, (hs, sl, sa, updR sc b (va_cpy (sc a) (sc b) i.toNatClampNeg j.toNatClampNeg n.toNatClampNeg)), tv, nI 0)) else ((-10) - nI 3, (T, R, (hs, sl, sa, sc), tv, nI 3))
    | _, _ => (-1, (T, R, (hs, sl, sa, sc), tv, nI 0))
def m_tell (σ : Sp) (x : Int32) : Int32 × Sp := match σ with
  | ((N, B, k, p), R, S, tv, fl) => match pOf N x with
    | none => (-1, ((N, B, k, p), R, S, tv, fl))
    | some a => if k a = 0 then (nI (psum p a N), ((N, B, k, p), R, S, tr tv 1, fl)) else if k a = 1 then (nI (psum p a N + 100), ((N, B, k, p), R, S, tr (tr tv 2) 1, fl)) else (nI (psum p a N + 100 + psum p a N), ((N, B, k, p), R, S, tr (tr (tr (tr tv 3) 2) 1) 1, fl))
def m_hail (σ : Sp) (x : Int32) : Int32 × Sp := match σ with
  | ((N, B, k, p), R, S, tv, fl) => match pOf N x with
    | none => (-1, ((N, B, k, p), R, S, tv, fl))
    | some a => if k a = 2 then (nI 50, ((N, B, k, p), R, S, tr tv 5, fl)) else (nI a, ((N, B, k, p), R, S, tr tv 4, fl))
def m_as (σ : Sp) (x v : Int32) : Int32 × Sp := match σ with
  | ((N, B, k, p), R, S, tv, _) => match pOf N x with
    | none => (-1, ((N, B, k, p), R, S, tv, nI 0))
    | some a => match pOf 3 v with
      | none => (-2, ((N, B, k, p), R, S, tv, nI 0))
      | some w => if w ≤ k a then (nI 1, ((N, B, k, p), R, S, tv, nI 0)) else ((-10) - nI 2, ((N, B, k, p), R, S, tv, nI 2))
def m_trace (σ : Sp) : Int32 × Sp := match σ with
  | (T, R, S, tv, fl) => (tv, (T, R, S, tv, fl))
def m_fault (σ : Sp) : Int32 × Sp := match σ with
  | (T, R, S, tv, fl) => (fl, (T, R, S, tv, fl))
def cntB (P : Nat → Bool) : Nat → Nat
  | 0 => 0
  | n + 1 => cntB P n + (if P n then 1 else 0)
def m_many (σ : Sp) (w : Int32) : Int32 × Sp := match σ with
  | ((N, B, k, p), (c, Rr), R) => (match pOf 4 w with
    | none => -2
    | some 0 => nI N
    | some 1 => nI B
    | some 2 => nI (cntB (fun b => (lg N k p b).isSome) N)
    | some _ => nI c, ((N, B, k, p), (c, Rr), R))
/-- a walk -/
def dOf (N : Nat) (x : Int32) : Nat := (pOf N x).getD 0
def wkS (d : Nat → Nat) (q : Nat) : Nat → Nat
  | 0 => 0
  | n + 1 => wkS d q n + (if d n < (if n = 0 then q else d (n - 1)) then (if n = 0 then q else d (n - 1)) - d n else d n - (if n = 0 then q else d (n - 1)))
def clr (s x : Nat) : Nat := if s / 2 ^ x % 2 = 1 then s - 2 ^ x else s
/-- lamps of a set that are left behind n doors -/
def wkL (s : Nat) (d : Nat → Nat) : Nat → Nat
  | 0 => s
  | n + 1 => clr (wkL s d n) (d n)
def m_walk (σ : Sp) (x s la i n w : Int32) : Int32 × Sp := match σ with
  | ((N, B, k, p), Rr, (hs, sl, sa, sc), tv, _) => match pOf N x, pOf 4 s with
    | some a, some q => match pOf 3 la, pOf 21 n, pOf 3 w with
      | some v, some m, some h => if agn hs sl sa q v i n ≠ 0 then ((-10) - nI (agn hs sl sa q v i n), ((N, B, k, p), Rr, (hs, sl, sa, sc), tv, nI (agn hs sl sa q v i n)))
        else if allB (fun j => (pOf N (sc q (i.toNatClampNeg + j))).isSome) m = false then (-1, ((N, B, k, p), Rr, (hs, sl, sa, sc), tv, nI 0))
        else (if h = 0 then nI (wkS (fun j => dOf N (sc q (i.toNatClampNeg + j))) a m)
          else if h = 1 then nI (wkL (rnd N k p a) (fun j => dOf N (sc q (i.toNatClampNeg + j))) m)
          else if wkL (rnd N k p a) (fun j => dOf N (sc q (i.toNatClampNeg + j))) m = 0 then nI (ffs (fun t => decide (wkL (rnd N k p a) (fun j => dOf N (sc q (i.toNatClampNeg + j))) t ≠ 0)) m) else -9, ((N, B, k, p), Rr, (hs, sl, sa, sc), tv, nI 0))
      | _, _, _ => (-2, ((N, B, k, p), Rr, (hs, sl, sa, sc), tv, nI 0))
    | _, _ => (-1, ((N, B, k, p), Rr, (hs, sl, sa, sc), tv, nI 0))
/-- odds: sets of those who have paid, of the set O -/
def oIn (O : Nat) : Nat → Bool := fun x => allB (fun b => !(bitP x b) || bitP O b) 6
def oYes (N O : Nat) (k : Nat → Nat) (p : Nat → Nat → Nat) (b a : Nat) : Nat → Bool := fun x => oIn O x && (lgt (wL k p b x) N == some a)
def owS (N : Nat) (p : Nat → Nat → Nat) (b : Nat) : Nat := bset (fun a => decide (0 < p a b)) N
def m_odds (σ : Sp) (b a w : Int32) : Int64 × Sp := match σ with
  | ((N, B, k, p), R) => (match pOf N b, pOf N a, pOf 2 w with
    | some y, some x, some h => if h = 0 then lN (cntB (oYes N (owS N p y) k p y x) 64 / Nat.gcd (cntB (oYes N (owS N p y) k p y x) 64) (cntB (oIn (owS N p y)) 64)) else lN (cntB (oIn (owS N p y)) 64 / Nat.gcd (cntB (oYes N (owS N p y) k p y x) 64) (cntB (oIn (owS N p y)) 64))
    | _, _, _ => lostV, ((N, B, k, p), R))
