/-! THE TABLE OF THE ORDERS, as mathematics -/
def comb (a b : Option Nat × Nat) : Option Nat × Nat := match b.1, a.1 with
  | none, _ => a
  | some c, none => (some c, b.2)
  | some c, some l => if c < l then (some c, b.2) else if c = l then (some l, a.2 + b.2) else a
def fd (f : Nat → Option Nat × Nat) : Nat → Option Nat × Nat
  | 0 => (none, 0)
  | i + 1 => comb (fd f i) (f i)
/-- what a next song gives: its cost and the ways, over the table g -/
def cand (W : Nat → Nat → Nat) (may : Nat → Nat → Bool) (g : Nat → Nat → Option Nat × Nat) (S l x : Nat) : Option Nat × Nat :=
  if may S x = true then ((g (S ||| 2 ^ x) x).1.map (fun c => (if S = 0 then 0 else W l x) + c), (g (S ||| 2 ^ x) x).2) else (none, 0)
def G (n : Nat) (W : Nat → Nat → Nat) (may : Nat → Nat → Bool) : Nat → Nat → Nat → Option Nat × Nat
  | 0, _, _ => (some 0, 1)
  | m + 1, S, l => fd (cand W may (G n W may m) S l) n
def GT (n : Nat) (W : Nat → Nat → Nat) (may : Nat → Nat → Bool) (S l : Nat) : Option Nat × Nat := G n W may (n - pop S) S l
theorem fd_congr {f g : Nat → Option Nat × Nat} : ∀ n, (∀ i, i < n → f i = g i) → fd f n = fd g n := by
  intro n
  induction n with
  | zero => intro _; rfl
  | succ n ih =>
    intro h
    show comb (fd f n) (f n) = comb (fd g n) (g n)
    rw [ih (fun i hi => h i (by omega)), h n (by omega)]
theorem or_lt {n S x : Nat} (hS : S < 2 ^ n) (hx : x < n) : S ||| 2 ^ x < 2 ^ n := Nat.or_lt_two_pow hS (Nat.pow_lt_pow_right (by decide) hx)
theorem or_gt {S x : Nat} (h : S.testBit x = false) : S < S ||| 2 ^ x := by
  refine Nat.lt_of_le_of_ne Nat.left_le_or (fun e => ?_)
  have h2 : (S ||| 2 ^ x).testBit x = true := by simp [Nat.testBit_or, Nat.testBit_two_pow_self]
  rw [← e, h] at h2
  cases h2
theorem or_self {S x : Nat} : (S ||| 2 ^ x).testBit x = true := by simp [Nat.testBit_or, Nat.testBit_two_pow_self]
theorem or_pop {n S x : Nat} (hn : n ≤ 8) (hS : S < 2 ^ n) (hx : x < n) (h : S.testBit x = false) : pop (S ||| 2 ^ x) = pop S + 1 := bit_pop S (Nat.lt_of_lt_of_le hS (pw_le hn)) x (by omega) h
theorem GT_step {n : Nat} {W : Nat → Nat → Nat} {may : Nat → Nat → Bool} {S l : Nat} (hn : n ≤ 8) (hm : ∀ S x, may S x = true → S.testBit x = false) (hS : S < 2 ^ n) (hp : pop S < n) : GT n W may S l = fd (cand W may (GT n W may) S l) n := by
  obtain ⟨m, e⟩ : ∃ m, n - pop S = m + 1 := ⟨n - pop S - 1, by omega⟩
  unfold GT
  rw [e]
  show fd (cand W may (G n W may m) S l) n = _
  refine fd_congr n (fun x hx => ?_)
  unfold cand
  by_cases h : may S x = true
  · rw [if_pos h, if_pos h]
    have e2 : n - pop (S ||| 2 ^ x) = m := by rw [or_pop hn hS hx (hm S x h)]; omega
    show _ = (((G n W may (n - pop (S ||| 2 ^ x)) (S ||| 2 ^ x) x).1.map _), (G n W may (n - pop (S ||| 2 ^ x)) (S ||| 2 ^ x) x).2)
    rw [e2]
  · rw [if_neg h, if_neg h]
theorem GT_full {n : Nat} {W : Nat → Nat → Nat} {may : Nat → Nat → Bool} {S l : Nat} (hp : n ≤ pop S) : GT n W may S l = (some 0, 1) := by
  unfold GT
  rw [show n - pop S = 0 by omega]
  rfl
theorem comb_le {a b : Option Nat × Nat} {B : Nat} (ha : ∀ c, a.1 = some c → c ≤ B) (hb : ∀ c, b.1 = some c → c ≤ B) : ∀ c, (comb a b).1 = some c → c ≤ B := by
  intro c
  unfold comb
  cases h1 : b.1 with
  | none => exact ha c
  | some x =>
    cases h2 : a.1 with
    | none => intro e; cases e; exact hb _ h1
    | some y =>
      dsimp only
      split
      · intro e; cases e; exact hb _ h1
      · split
        · intro e; cases e; exact ha _ h2
        · exact ha c
theorem fd_le {f : Nat → Option Nat × Nat} {B : Nat} : ∀ n, (∀ i, i < n → ∀ c, (f i).1 = some c → c ≤ B) → ∀ c, (fd f n).1 = some c → c ≤ B := by
  intro n
  induction n with
  | zero => intro _ c h; cases h
  | succ n ih =>
    intro h
    exact comb_le (ih (fun i hi => h i (by omega))) (h n (by omega))
theorem G_le {n : Nat} {W : Nat → Nat → Nat} {may : Nat → Nat → Bool} (hW : ∀ a b, W a b ≤ 35) : ∀ m S l c, (G n W may m S l).1 = some c → c ≤ 35 * m := by
  intro m
  induction m with
  | zero => intro S l c h; cases h; omega
  | succ m ih =>
    intro S l c h
    refine fd_le n (fun i _ c2 h2 => ?_) c h
    unfold cand at h2
    by_cases hm : may S i = true
    · rw [if_pos hm] at h2
      cases hg : (G n W may m (S ||| 2 ^ i) i).1 with
      | none => rw [hg] at h2; cases h2
      | some z =>
        rw [hg] at h2
        cases h2
        have := ih _ _ _ hg
        have := hW l i
        show (if S = 0 then 0 else W l i) + z ≤ 35 * (m + 1)
        split <;> omega
    · rw [if_neg hm] at h2
      cases h2
theorem GT_le {n : Nat} {W : Nat → Nat → Nat} {may : Nat → Nat → Bool} (hn : n ≤ 8) (hW : ∀ a b, W a b ≤ 35) {S l c : Nat} (h : (GT n W may S l).1 = some c) : c ≤ 280 := by
  have := G_le hW _ _ _ _ h
  omega
/-- the class's numbers: -1 for none -/
def enc : Option Nat → Int32
  | none => -1
  | some c => nI c
def mCl (B : Nat → Nat → Bool) (S x : Nat) : Bool := !(S.testBit x) && B x (pop S)
theorem mCl_bit {B : Nat → Nat → Bool} : ∀ S x, mCl B S x = true → S.testBit x = false := by
  intro S x h
  unfold mCl at h
  cases hb : S.testBit x with
  | false => rfl
  | true => rw [hb] at h; cases h
def ctv (W : Nat → Nat → Nat) (B : Nat → Nat → Bool) (S l x : Nat) (v : Option Nat) : Option Nat := if mCl B S x = true then v.map (fun c => (if S = 0 then 0 else W l x) + c) else none
theorem cand_ctv {W : Nat → Nat → Nat} {B : Nat → Nat → Bool} {g : Nat → Nat → Option Nat × Nat} {S l x : Nat} : (cand W (mCl B) g S l x).1 = ctv W B S l x (g (S ||| 2 ^ x) x).1 := by
  unfold cand ctv
  split <;> rfl
/-- the class's table is loaded -/
def TL (h : HP) (n : Nat) (W : Nat → Nat → Nat) (B : Nat → Nat → Bool) : Prop := h 7 15 0 = nI n ∧ (∀ a b, a < n → b < n → h 7 16 (a * 8 + b) = nI (W a b)) ∧ (∀ a j, a < n → j < n → h 7 17 (a * 8 + j) = bI (B a j))
/-- an entry of the class's table is right -/
def TE (h : HP) (n : Nat) (W : Nat → Nat → Nat) (B : Nat → Nat → Bool) (S l : Nat) : Prop := h 7 18 (S * 8 + l) = enc (GT n W (mCl B) S l).1 ∧ h 7 19 (S * 8 + l) = nI (GT n W (mCl B) S l).2
def FO (h h' : HP) : Prop := ∀ g' j', ¬ (g' = 7 ∧ 15 ≤ j' ∧ j' ≤ 19) → h' g' j' = h g' j'
/-- the first song from x on, of the m next ones, whose value is v -/
def fs (f : Nat → Option Nat) (v : Option Nat) : Nat → Nat → Option Nat
  | 0, _ => none
  | m + 1, x => if (f x).isSome = true ∧ f x = v then some x else fs f v m (x + 1)
def nxt (n : Nat) (W : Nat → Nat → Nat) (may : Nat → Nat → Bool) (S l : Nat) : Option Nat := fs (fun x => (cand W may (GT n W may) S l x).1) (GT n W may S l).1 n 0
/-- the best order, i songs of it: the set and the last song -/
def bch (n : Nat) (W : Nat → Nat → Nat) (may : Nat → Nat → Bool) : Nat → Option (Nat × Nat)
  | 0 => some (0, 0)
  | i + 1 => match bch n W may i with
    | none => none
    | some q => match nxt n W may q.1 q.2 with
      | none => none
      | some x => some (q.1 ||| 2 ^ x, x)
def bsg (n : Nat) (W : Nat → Nat → Nat) (may : Nat → Nat → Bool) (j : Nat) : Option Nat := (bch n W may (j + 1)).map Prod.snd
theorem fs_lt {f : Nat → Option Nat} {v : Option Nat} : ∀ m x y, fs f v m x = some y → x ≤ y ∧ y < x + m ∧ (f y).isSome = true ∧ f y = v := by
  intro m
  induction m with
  | zero => intro x y h; cases h
  | succ m ih =>
    intro x y h
    unfold fs at h
    split at h
    · rename_i q
      cases h
      exact ⟨Nat.le_refl _, by omega, q.1, q.2⟩
    · have := ih _ _ h
      exact ⟨by omega, by omega, this.2.2⟩
theorem nxt_ok {n : Nat} {W : Nat → Nat → Nat} {may : Nat → Nat → Bool} {S l x : Nat} (h : nxt n W may S l = some x) : x < n ∧ may S x = true := by
  have h1 := fs_lt _ _ _ h
  refine ⟨by omega, ?_⟩
  have h2 := h1.2.2.1
  unfold cand at h2
  cases hb : may S x with
  | true => rfl
  | false => rw [hb] at h2; cases h2
theorem bch_ok {n : Nat} {W : Nat → Nat → Nat} {may : Nat → Nat → Bool} (hn : n ≤ 8) (hm : ∀ S x, may S x = true → S.testBit x = false) : ∀ i, i ≤ n → ∀ q, bch n W may i = some q → q.1 < 2 ^ n ∧ pop q.1 = i ∧ (q.1 = 0 ∧ q.2 = 0 ∨ (q.2 < n ∧ q.1.testBit q.2 = true)) := by
  intro i
  induction i with
  | zero =>
    intro _ q h
    cases h
    exact ⟨Nat.pow_pos (by decide), by decide, Or.inl ⟨rfl, rfl⟩⟩
  | succ i ih =>
    intro hi q h
    unfold bch at h
    cases hb : bch n W may i with
    | none => rw [hb] at h; cases h
    | some q0 =>
      rw [hb] at h
      dsimp only at h
      cases hx : nxt n W may q0.1 q0.2 with
      | none => rw [hx] at h; cases h
      | some x =>
        rw [hx] at h
        cases h
        obtain ⟨a1, a2, -⟩ := ih (by omega) q0 hb
        obtain ⟨b1, b2⟩ := nxt_ok hx
        exact ⟨or_lt a1 b1, by rw [or_pop hn a1 b1 (hm _ _ b2), a2], Or.inr ⟨b1, or_self⟩⟩
theorem pop_lt : ∀ n, n < 9 → ∀ S, S < 2 ^ n → S + 1 < 2 ^ n → pop S < n := by decide +kernel
theorem pop_full : ∀ n, n < 9 → pop (2 ^ n - 1) = n := by decide +kernel
theorem full_bit : ∀ n, n < 9 → ∀ x, x < n → (2 ^ n - 1).testBit x = true := by decide +kernel
theorem bit_lt' : ∀ n, n < 9 → ∀ S, S < 2 ^ n → ∀ x, x < 8 → S.testBit x = true → x < n := by decide +kernel
theorem popn {n S x : Nat} (hn : n ≤ 8) (hS : S < 2 ^ n) (hx : x < n) (h : S.testBit x = false) : pop S < n := by
  apply pop_lt n (by omega) S hS
  have h1 : S < S ||| 2 ^ x := or_gt h
  have h2 : S ||| 2 ^ x < 2 ^ n := or_lt hS hx
  omega
