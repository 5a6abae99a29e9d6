/-! THE STATE OF A PLANNER: the concert, the concerts that undo brings back (newest first), the text -/
abbrev AS : Type := ST × List ST × (Nat → Nat) × Nat
def en (z : ST) : Nat := (z.1 9).toNatClampNeg
def zW (z : ST) : Nat → Nat → Nat := Wc z.1 (-1) z.2.2.1
def zB (z : ST) : Nat → Nat → Bool := msb z.1 (en z) z.2.1
/-- no two songs are pinned at one place -/
def WU (s : Nat → Int32) (n : Nat) : Prop := ∀ a b, a < n → b < n → s (10 + a) = s (10 + b) → ¬ s (10 + a) = -1 → a = b
def WX (z : ST) : Prop := WF z.1 z.2.1 z.2.2.1 z.2.2.2 ∧ (WO z.1 z.2.1 ∧ WU z.1 z.2.1) ∧ 1 ≤ z.2.1 ∧ 1 ≤ z.2.2.1 ∧ 1 ≤ z.2.2.2
def VA (A : AS) : Prop := WX A.1 ∧ (∀ z ∈ A.2.1, WX z) ∧ A.2.1.length ≤ 5
def COz (h : HP) (g : Nat) (z : ST) : Prop := CO h g z.1 z.2.1 z.2.2.1 z.2.2.2
def CI (h : HP) (A : AS) : Prop := COz h 0 A.1 ∧ (∃ i, i < 5 ∧ h 7 13 1 = nI i ∧ h 7 13 2 = nI A.2.1.length ∧ ∀ j z, A.2.1[j]? = some z → COz h ((i + 4 - j) % 5 + 2) z) ∧ TXT h A.2.2.1 A.2.2.2 ∧ (h 7 9 5 = nI 0 ∨ (h 7 9 5 = nI 1 ∧ TF h A.1.2.1 (zW A.1) (zB A.1)))
def ed (A : AS) (z : ST) : AS := (z, (A.1 :: A.2.1).take 5, A.2.2)
theorem en_ok {z : ST} (F : WF z.1 z.2.1 z.2.2.1 z.2.2.2) : z.1 9 = nI (en z) ∧ en z < 2 ^ z.2.1 ∧ en z < 256 := by
  obtain ⟨e, e1, e2⟩ := F.2.2.1
  have h8 := Nat.lt_of_lt_of_le e2 (pw_le F.2.1.1)
  have : en z = e := by unfold en; rw [e1, nI_cl (by omega)]
  rw [this]
  exact ⟨e1, e2, h8⟩
theorem COz.mv {h h' : HP} {g : Nat} {z : ST} (C : COz h g z) (e : ∀ j, h' g j = h g j) : COz h' g z := co_frame C e
/-- another concert in the place of the present one, all else as it was -/
theorem CI.mod {h h2 : HP} {A : AS} {z : ST} (I : CI h A) (hf : h 7 9 5 = nI 0) (C : COz h2 0 z) (e : ∀ g' j', ¬ g' = 0 → h2 g' j' = h g' j') : CI h2 (z, A.2) := by
  obtain ⟨-, ⟨i, i1, i2, i3, i4⟩, T, -⟩ := I
  refine ⟨C, ⟨i, i1, by rw [e 7 13 (by omega)]; exact i2, by rw [e 7 13 (by omega)]; exact i3, fun j w hj => (i4 j w hj).mv (fun c => e _ c (by omega))⟩, ⟨by rw [e 7 10 (by omega)]; exact T.1, T.2.1, fun j hj => by rw [e 7 11 (by omega)]; exact T.2.2 j hj⟩, Or.inl (by rw [e 7 9 (by omega)]; exact hf)⟩
theorem take5 {z : ST} {l : List ST} {j : Nat} {w : ST} (h : ((z :: l).take 5)[j]? = some w) : j < 5 ∧ ((j = 0 ∧ w = z) ∨ ∃ i, j = i + 1 ∧ l[i]? = some w) := by
  have hj : j < 5 := by
    have := (List.getElem?_eq_some_iff.mp h).1
    rw [List.length_take] at this
    omega
  rw [List.getElem?_take_of_lt hj] at h
  refine ⟨hj, ?_⟩
  cases j with
  | zero => left; exact ⟨rfl, (Option.some.inj h).symm⟩
  | succ j => right; exact ⟨j, rfl, h⟩
theorem take5_len {z : ST} {l : List ST} (h : l.length ≤ 5) : ((z :: l).take 5).length = min (l.length + 1) 5 := by
  rw [List.length_take, List.length_cons, Nat.min_comm]
theorem ed_VA {A : AS} {z : ST} (V : VA A) (X : WX z) : VA (ed A z) := by
  refine ⟨X, fun w hw => ?_, ?_⟩
  · have := List.mem_of_mem_take hw
    rcases List.mem_cons.mp this with e | e
    · rw [e]; exact V.1
    · exact V.2.1 w e
  · show ((A.1 :: A.2.1).take 5).length ≤ 5
    rw [take5_len V.2.2]
    omega
/-- a choice by an argument's range -/
def sel1 {α : Type} (x : Int32) (n : Nat) (f : Nat → α) (e : α) : α := cond (inb x n) (f x.toNatClampNeg) e
theorem sel1_t {α : Type} {a n : Nat} {f : Nat → α} {e : α} (h : a < n) (hn : n < 2147483648) : sel1 (nI a) n f e = f a := by
  unfold sel1
  rw [inb_n h hn, nI_cl (by omega)]
  rfl
theorem sel1_f {α : Type} {x : Int32} {n : Nat} {f : Nat → α} {e : α} (h : inb x n = false) : sel1 x n f e = e := by
  unfold sel1
  rw [h]
  rfl
def upN (f : Nat → Nat) (k x : Nat) : Nat → Nat := fun j => if j = k then x else f j
/-! what each method answers, and the state behind it -/
def oAppend (A : AS) (x : Int32) : Int32 × AS := sel1 x 127 (fun c => if c < 32 then (-1, A) else if A.2.2.2 = 300 then (-3, A) else (nI (A.2.2.2 + 1), (A.1, A.2.1, upN A.2.2.1 A.2.2.2 c, A.2.2.2 + 1))) (-1, A)
def oClear (A : AS) : Int32 × AS := (nI A.2.2.2, (A.1, A.2.1, A.2.2.1, 0))
def oFirst (A : AS) : Int32 × AS := ((match (rd A.2.2.1 A.2.2.2).1 with
  | none => -4
  | some a => nI a), A)
def oConf (A : AS) : Int32 × AS := if (rd A.2.2.1 A.2.2.2).1 = none ∧ 0 < (rd A.2.2.1 A.2.2.2).2.2.1 ∧ 0 < (rd A.2.2.1 A.2.2.2).2.2.2.1 ∧ 0 < (rd A.2.2.1 A.2.2.2).2.2.2.2 then (nI (rd A.2.2.1 A.2.2.2).2.2.1, ((rd A.2.2.1 A.2.2.2).2, [], A.2.2)) else (-2, A)
def oSetPart (A : AS) (x y w t : Int32) : Int32 × AS := sel1 x A.1.2.1 (fun a => sel1 y A.1.2.2.1 (fun b => sel1 w A.1.2.2.2 (fun c => sel1 t 6 (fun t =>
  if oth A.1.1 a (nI c) b A.1.2.2.1 < (A.1.1 (33 + c)).toNatClampNeg then (nI (oth A.1.1 a (nI c) b A.1.2.2.1 + 1), ed A (upd (upd A.1.1 (45 + 2 * (a * 5 + b)) (nI c)) (46 + 2 * (a * 5 + b)) (nI t), A.1.2)) else (-2, A)) (-1, A)) (-1, A)) (-1, A)) (-1, A)
def oRemove (A : AS) (x y : Int32) : Int32 × AS := sel1 x A.1.2.1 (fun a => sel1 y A.1.2.2.1 (fun b => if kd A.1.1 a b = -1 then (-4, A) else (kd A.1.1 a b, ed A (upd A.1.1 (45 + 2 * (a * 5 + b)) (-1), A.1.2))) (-1, A)) (-1, A)
def oUnits (A : AS) (x y : Int32) : Int32 × AS := sel1 x A.1.2.2.2 (fun c => sel1 y 6 (fun u => if u < 1 then (-1, A) else if u < mx A.1.1 (nI c) A.1.2.2.1 A.1.2.1 then (-2, A) else (A.1.1 (33 + c), ed A (upd A.1.1 (33 + c) (nI u), A.1.2))) (-1, A)) (-1, A)
def pbo (s : Nat → Int32) (a : Nat) (y : Int32) : Nat → Bool
  | 0 => false
  | b + 1 => pbo s a y b || (!(decide (b = a)) && decide (s (10 + b) = y))
def oPin (A : AS) (x y : Int32) : Int32 × AS := sel1 x A.1.2.1 (fun a => sel1 y A.1.2.1 (fun j => if pbo A.1.1 a (nI j) A.1.2.1 = true then (-2, A) else (nI (pinc (upd A.1.1 (10 + a) (nI j)) A.1.2.1), ed A (upd A.1.1 (10 + a) (nI j), A.1.2))) (-1, A)) (-1, A)
def oUnpin (A : AS) (x : Int32) : Int32 × AS := sel1 x A.1.2.1 (fun a => if A.1.1 (10 + a) = -1 then (-4, A) else (A.1.1 (10 + a), ed A (upd A.1.1 (10 + a) (-1), A.1.2))) (-1, A)
def sbt (e a v : Nat) : Nat := (if e.testBit a then e - 2 ^ a else e) + v * 2 ^ a
def oEnc (A : AS) (x y : Int32) : Int32 × AS := sel1 x A.1.2.1 (fun a => sel1 y 2 (fun v => (nI (if (en A.1).testBit a then 1 else 0), ed A (upd A.1.1 9 (nI (sbt (en A.1) a v)), A.1.2))) (-1, A)) (-1, A)
def oMove (A : AS) (x y : Int32) : Int32 × AS := sel1 x A.1.2.1 (fun f => sel1 y A.1.2.1 (fun t => (A.1.1 (18 + f), ed A (ord A.1.1 (mvo (fun j => A.1.1 (18 + j)) f t), A.1.2))) (-1, A)) (-1, A)
def zG (z : ST) : Option Nat × Nat := GT z.2.1 (zW z) (mCl (zB z)) 0 0
def zS (z : ST) (j : Nat) : Option Nat := bsg z.2.1 (zW z) (mCl (zB z)) j
def oAdopt (A : AS) : Int32 × AS := match (zG A.1).1 with
  | none => (-4, A)
  | some c => (nI c, ed A (ord A.1.1 (fun j => if j < A.1.2.1 then enc (zS A.1 j) else A.1.1 (18 + j)), A.1.2))
def oUndo (A : AS) : Int32 × AS := match A.2.1 with
  | [] => (-2, A)
  | z :: r => (nI r.length, (z, r, A.2.2))
def oCount (A : AS) : Int32 := nI A.1.2.1
def oKind (A : AS) (x y : Int32) : Int32 := sel1 x A.1.2.1 (fun a => sel1 y A.1.2.2.1 (fun b => if kd A.1.1 a b = -1 then -4 else kd A.1.1 a b) (-1)) (-1)
def oTun (A : AS) (x y : Int32) : Int32 := sel1 x A.1.2.1 (fun a => sel1 y A.1.2.2.1 (fun b => if kd A.1.1 a b = -1 then -4 else tn A.1.1 a b) (-1)) (-1)
def oSpare (A : AS) (x y : Int32) : Int32 := sel1 x A.1.2.1 (fun a => sel1 y A.1.2.2.2 (fun c => A.1.1 (33 + c) - nI (cn A.1.1 a (nI c) A.1.2.2.1)) (-1)) (-1)
def oChange (A : AS) (q x y : Int32) : Int32 := sel1 q A.1.2.2.1 (fun q => sel1 x A.1.2.1 (fun a => sel1 y A.1.2.1 (fun b => if a = b then -1 else nI (chg A.1.1 (-1) A.1.2.2.1 a b q)) (-1)) (-1)) (-1)
def oCost (A : AS) (q x y : Int32) : Int32 := sel1 q A.1.2.2.1 (fun q => sel1 x A.1.2.1 (fun a => sel1 y A.1.2.1 (fun b => if a = b then -1 else nI (cof A.1.1 (-1) A.1.2.2.1 a b q)) (-1)) (-1)) (-1)
def oOver (A : AS) (x y : Int32) : Int32 := sel1 x A.1.2.1 (fun a => sel1 y A.1.2.1 (fun b => if a = b then -1 else nI (btw A.1.1 (-1) A.1.2.2.1 a b A.1.2.2.1)) (-1)) (-1)
def oSongAt (A : AS) (x : Int32) : Int32 := sel1 x A.1.2.1 (fun j => A.1.1 (18 + j)) (-1)
def stq (z : ST) (j : Nat) : Nat := btw z.1 (-1) z.2.2.1 (z.1 (18 + j)).toNatClampNeg (z.1 (18 + (j + 1))).toNatClampNeg z.2.2.1
def ocs (z : ST) : Nat → Nat
  | 0 => 0
  | j + 1 => ocs z j + stq z j
def oOrder (A : AS) : Int32 := nI (ocs A.1 (A.1.2.1 - 1))
def alw (z : ST) : Nat → Bool
  | 0 => true
  | j + 1 => alw z j && zB z (z.1 (18 + j)).toNatClampNeg j
def oAllowed (A : AS) : Int32 := bI (alw A.1 A.1.2.1)
/-- the dearest changeover so far: its cost and its place -/
def drs (z : ST) : Nat → Option (Nat × Nat)
  | 0 => none
  | j + 1 => match drs z j with
    | none => some (stq z j, j)
    | some q => if q.1 < stq z j then some (stq z j, j) else some q
def oDear (A : AS) : Int32 := match drs A.1 (A.1.2.1 - 1) with
  | none => -4
  | some q => nI q.2
def nf (o : Option Nat) : Int32 := match o with
  | none => -4
  | some c => nI c
def oBest (A : AS) : Int32 := nf (zG A.1).1
def oBestAt (A : AS) (x : Int32) : Int32 := sel1 x A.1.2.1 (fun j => nf (zS A.1 j)) (-1)
def oBestFrom (A : AS) (x : Int32) : Int32 := sel1 x A.1.2.1 (fun a => nf (cand (zW A.1) (mCl (zB A.1)) (GT A.1.2.1 (zW A.1) (mCl (zB A.1))) 0 0 a).1) (-1)
def oBestN (A : AS) : Int32 := nI (zG A.1).2
/-- the concert with one unit more of a kind -/
def zm (z : ST) (c : Nat) : ST := (upd z.1 (33 + c) (z.1 (33 + c) + 1), z.2)
def oSave (A : AS) (x : Int32) : Int32 := sel1 x A.1.2.2.2 (fun c => match (zG A.1).1 with
  | none => -4
  | some v => nI v - enc (zG (zm A.1 c)).1) (-1)
/-- the encores within a time: the sets before S -/
def ewi (z : ST) (t : Int32) : Nat → Nat × Int32
  | 0 => (0, nI 0)
  | 1 => (0, nI 0)
  | S + 2 => if ((S + 1) &&& en z = S + 1) ∧ ptm z.1 (S + 1) z.2.1 ≤ t ∧ ((ewi z t (S + 1)).2 < ptm z.1 (S + 1) z.2.1 ∨ (ptm z.1 (S + 1) z.2.1 = (ewi z t (S + 1)).2 ∧ pop (ewi z t (S + 1)).1 < pop (S + 1))) then (S + 1, ptm z.1 (S + 1) z.2.1) else ewi z t (S + 1)
def oWithin (A : AS) (x : Int32) : Int32 := sel1 x 161 (fun _ => nI (ewi A.1 x (2 ^ A.1.2.1)).1) (-1)
