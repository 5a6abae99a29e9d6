/-! THE CONCERT, as the model's row of numbers: 0 songs, 1.. times, 9 encores, 10.. pins, 18.. order, 26 players, 27.. stands, 32 kinds, 33.. units, 39.. kept at, 45.. parts (kind, tuning) -/
def kd (s : Nat → Int32) (a q : Nat) : Int32 := s (45 + 2 * (a * 5 + q))
def tn (s : Nat → Int32) (a q : Nat) : Int32 := s (46 + 2 * (a * 5 + q))
/-- how many of the first players play a kind in a song -/
def cn (s : Nat → Int32) (a : Nat) (x : Int32) : Nat → Nat
  | 0 => 0
  | q + 1 => cn s a x q + (if kd s a q = x then 1 else 0)
theorem cn_le (s : Nat → Int32) (a : Nat) (x : Int32) : ∀ q, cn s a x q ≤ q := by
  intro q
  induction q with
  | zero => exact Nat.le_refl _
  | succ q ih =>
    show cn s a x q + (if kd s a q = x then 1 else 0) ≤ q + 1
    split <;> omega
/-- the cells of a Concert hold the row -/
def CO (h : HP) (g : Nat) (s : Nat → Int32) (n p k : Nat) : Prop :=
  (h g 0 0 = nI n ∧ h g 0 1 = nI p ∧ h g 0 2 = nI k ∧ h g 0 3 = s 9) ∧ (∀ j, j < n → h g 1 j = s (1 + j)) ∧ (∀ j, j < p → h g 2 j = s (27 + j)) ∧ (∀ j, j < k → h g 3 j = s (33 + j) ∧ h g 4 j = s (39 + j)) ∧
  (∀ i, i < 40 → h g 5 i = s (45 + 2 * i)) ∧ (∀ i, i < 40 → ¬ s (45 + 2 * i) = -1 → h g 6 i = s (46 + 2 * i)) ∧ (∀ j, j < 8 → h g 7 j = s (10 + j) ∧ h g 8 j = s (18 + j))
def WF (s : Nat → Int32) (n p k : Nat) : Prop :=
  (s 0 = nI n ∧ s 26 = nI p ∧ s 32 = nI k) ∧ (n ≤ 8 ∧ p ≤ 5 ∧ k ≤ 6) ∧ (∃ e, s 9 = nI e ∧ e < 2 ^ n) ∧
  (∀ j, j < n → ∃ t, s (1 + j) = nI t ∧ 1 ≤ t ∧ t ≤ 20) ∧ (∀ j, j < k → ∃ u, s (33 + j) = nI u ∧ u ≤ 6) ∧
  (∀ a, a < 8 → ∀ q, q < 5 → kd s a q = -1 ∨ ((∃ c, c < k ∧ kd s a q = nI c) ∧ ∃ t, t ≤ 5 ∧ tn s a q = nI t)) ∧
  (∀ a, a < n → ∀ c, c < k → nI (cn s a (nI c) p) ≤ s (33 + c))
def WO (s : Nat → Int32) (n : Nat) : Prop := (∀ a, a < 8 → s (10 + a) = -1 ∨ ∃ q, q < n ∧ s (10 + a) = nI q) ∧ (∀ j, j < n → ∃ o, o < n ∧ s (18 + j) = nI o) ∧ (∀ i j, i < n → j < n → s (18 + i) = s (18 + j) → i = j)
/-- as a reading begins and goes on: no pins, the order of the numbers -/
def WD (s : Nat → Int32) : Prop := (∀ a, a < 8 → s (10 + a) = -1) ∧ (∀ j, j < 8 → s (18 + j) = nI j)
def bI (b : Bool) : Int32 := cond b 1 0
/-- the change of a player; m: the kind that has one unit more, or -1 -/
def un (s : Nat → Int32) (m x : Int32) : Int32 := s (33 + x.toNatClampNeg) + (if x = m then 1 else 0)
def chg (s : Nat → Int32) (m : Int32) (p a b q : Nat) : Nat :=
  if kd s a q = -1 then (if kd s b q = -1 then 0 else 1) else if kd s b q = -1 then 2 else if kd s a q = kd s b q then
    (if tn s a q = tn s b q then 0 else if nI (cn s b (kd s b q) p) < un s m (kd s b q) then 4 else 5) else 3
def far (s : Nat → Int32) (q : Nat) (x : Int32) : Nat := if s (39 + x.toNatClampNeg) = s (27 + q) then 0 else 1
def dst (x y : Int32) : Nat := if x < y then y.toNatClampNeg - x.toNatClampNeg else x.toNatClampNeg - y.toNatClampNeg
def cof (s : Nat → Int32) (m : Int32) (p a b q : Nat) : Nat := match chg s m p a b q with
  | 1 => 1 + far s q (kd s b q)
  | 2 => 1 + far s q (kd s a q)
  | 3 => 3 + far s q (kd s a q) + far s q (kd s b q)
  | 4 => 2 + far s q (kd s b q)
  | 5 => 2 + dst (tn s a q) (tn s b q)
  | _ => 0
/-- the cost of a changeover: the first players -/
def btw (s : Nat → Int32) (m : Int32) (p a b : Nat) : Nat → Nat
  | 0 => 0
  | q + 1 => btw s m p a b q + cof s m p a b q
theorem chg_le (s : Nat → Int32) (m : Int32) (p a b q : Nat) : chg s m p a b q ≤ 5 := by
  unfold chg
  repeat' split
  all_goals omega
theorem far_le (s : Nat → Int32) (q : Nat) (x : Int32) : far s q x ≤ 1 := by
  unfold far
  split <;> omega
/-! bits of small masks -/
def pcn : Nat → Nat → Nat
  | 0, _ => 0
  | i + 1, x => pcn i x + (if x.testBit i then 1 else 0)
def pop (x : Nat) : Nat := pcn 8 x
theorem pcn_le (x : Nat) : ∀ i, pcn i x ≤ i := by
  intro i
  induction i with
  | zero => exact Nat.le_refl _
  | succ i ih =>
    show pcn i x + (if x.testBit i then 1 else 0) ≤ i + 1
    split <;> omega
theorem pop_le (x : Nat) : pop x ≤ 8 := pcn_le x 8
theorem bit_sh : ∀ x, x < 256 → ∀ a, a < 8 → ((nI x >>> (nI a &&& 31)) &&& nI 1) = nI (if x.testBit a then 1 else 0) := by decide +kernel
theorem bit_or : ∀ x, x < 256 → ∀ a, a < 8 → (nI x ||| (nI 1 <<< (nI a &&& 31))) = nI (x ||| 2 ^ a) := by decide +kernel
theorem bit_lt : ∀ x, x < 256 → ∀ a, a < 8 → x ||| 2 ^ a < 256 := by decide +kernel
theorem bit_tb : ∀ x, x < 256 → ∀ a, a < 8 → ∀ b, b < 8 → (x ||| 2 ^ a).testBit b = (x.testBit b || decide (a = b)) := by decide +kernel
theorem bit_pop : ∀ x, x < 256 → ∀ a, a < 8 → x.testBit a = false → pop (x ||| 2 ^ a) = pop x + 1 := by decide +kernel
theorem bit_all : ∀ n, n < 9 → (nI 1 <<< (nI n &&& 31)) = nI (2 ^ n) := by decide +kernel
theorem pw_le {n : Nat} (h : n ≤ 8) : 2 ^ n ≤ 256 := Nat.pow_le_pow_right (by decide) h
theorem inb_lo {x : Int32} {n : Nat} (h : x < 0) : inb x n = false := by simp [inb, h]
theorem inb_hi {x : Int32} {n : Nat} (hn : n < 2147483648) (h : nI n ≤ x) : inb x n = false := by
  have e : n ≤ x.toNatClampNeg := by
    have h1 := Int32.le_iff_toInt_le.mp h
    rw [nI_toInt hn] at h1
    show n ≤ x.toInt.toNat
    omega
  simp [inb, e]
theorem inb_mid {x : Int32} {n : Nat} (hn : n < 2147483648) (h0 : ¬ x < 0) (h : ¬ nI n ≤ x) : inb x n = true := by
  obtain ⟨j, hj, rfl⟩ := nI_of h0
  have h1 : j < n := by
    apply Nat.lt_of_not_le
    intro q
    exact h (nI_le q hj)
  exact inb_n h1 hn
theorem inb_ex {x : Int32} {n : Nat} (hn : n < 2147483648) (h : inb x n = true) : ∃ a, a < n ∧ x = nI a := vp_in_of (inb_vp h) hn
theorem bI_ne {b : Bool} : ¬ bI b = 0 ↔ b = true := by cases b <;> decide
theorem bI_eq {b : Bool} : bI b = 0 ↔ b = false := by cases b <;> decide
theorem nI_ne_m1 {c : Nat} (h : c < 2147483648) : ¬ nI c = -1 := by
  intro e
  have h1 := congrArg Int32.toInt e
  rw [nI_toInt h] at h1
  have h2 : (-1 : Int32).toInt = -1 := by decide
  omega
