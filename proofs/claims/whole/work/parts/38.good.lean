/-! GOOD SETS: no encore yet, or all other songs are in -/
theorem pcn_dj {S e : Nat} : ∀ n, (∀ i, i < n → ¬ (S.testBit i = true ∧ e.testBit i = true)) → pcn n S + pcn n e ≤ n ∧ ((∃ i, i < n ∧ S.testBit i = false ∧ e.testBit i = false) → pcn n S + pcn n e < n) := by
  intro n
  induction n with
  | zero => intro _; exact ⟨Nat.le_refl _, fun ⟨i, h, _⟩ => absurd h (Nat.not_lt_zero _)⟩
  | succ n ih =>
    intro h
    obtain ⟨h1, h2⟩ := ih (fun i hi => h i (by omega))
    have h3 := h n (by omega)
    show (pcn n S + (if S.testBit n then 1 else 0)) + (pcn n e + (if e.testBit n then 1 else 0)) ≤ n + 1 ∧ (_ → (pcn n S + (if S.testBit n then 1 else 0)) + (pcn n e + (if e.testBit n then 1 else 0)) < n + 1)
    cases a : S.testBit n with
    | true =>
      cases b : e.testBit n with
      | true => exact absurd ⟨a, b⟩ h3
      | false =>
        refine ⟨by simp; omega, fun ⟨i, hi, x, y⟩ => ?_⟩
        have : i < n := by
          rcases Nat.lt_or_ge i n with q | q
          · exact q
          · rw [show i = n by omega, a] at x; cases x
        have := h2 ⟨i, this, x, y⟩
        simp; omega
    | false =>
      cases b : e.testBit n with
      | true =>
        refine ⟨by simp; omega, fun ⟨i, hi, x, y⟩ => ?_⟩
        have : i < n := by
          rcases Nat.lt_or_ge i n with q | q
          · exact q
          · rw [show i = n by omega, b] at y; cases y
        have := h2 ⟨i, this, x, y⟩
        simp; omega
      | false => exact ⟨by simp; omega, fun _ => by simp; omega⟩
theorem pcn_cv {S e : Nat} : ∀ n, (∀ i, i < n → S.testBit i = true ∨ e.testBit i = true) → n ≤ pcn n S + pcn n e := by
  intro n
  induction n with
  | zero => intro _; exact Nat.zero_le _
  | succ n ih =>
    intro h
    have h1 := ih (fun i hi => h i (by omega))
    show n + 1 ≤ (pcn n S + (if S.testBit n then 1 else 0)) + (pcn n e + (if e.testBit n then 1 else 0))
    rcases h n (by omega) with q | q
    · rw [q]; simp; omega
    · rw [q]; simp; omega
theorem bit_hi {n x i : Nat} (h : x < 2 ^ n) (hi : n ≤ i) : x.testBit i = false := Nat.testBit_lt_two_pow (Nat.lt_of_lt_of_le h (Nat.pow_le_pow_right (by decide) hi))
theorem pcn_up {n x : Nat} (h : x < 2 ^ n) : ∀ j, pcn (n + j) x = pcn n x := by
  intro j
  induction j with
  | zero => rfl
  | succ j ih =>
    show pcn (n + j) x + (if x.testBit (n + j) then 1 else 0) = _
    rw [ih, bit_hi h (by omega)]
    rfl
theorem pop_pcn {n x : Nat} (hn : n ≤ 8) (h : x < 2 ^ n) : pop x = pcn n x := by
  have := pcn_up h (8 - n)
  rw [show n + (8 - n) = 8 by omega] at this
  exact this
theorem sub_bit {n e i : Nat} (he : e < 2 ^ n) : (2 ^ n - 1 - e).testBit i = (decide (i < n) && !(e.testBit i)) := by
  rw [show 2 ^ n - 1 - e = 2 ^ n - (e + 1) by omega, Nat.testBit_two_pow_sub_succ he]
theorem opn_iff {n e S : Nat} (he : e < 2 ^ n) : opn n e S = true ↔ ∀ i, i < n → S.testBit i = true ∨ e.testBit i = true := by
  unfold opn
  rw [decide_eq_true_eq]
  constructor
  · intro h i hi
    cases b : e.testBit i with
    | true => exact Or.inr rfl
    | false =>
      left
      have h1 := congrArg (fun x => x.testBit i) h
      rw [Nat.testBit_and, sub_bit he, b, decide_eq_true hi] at h1
      simpa using h1
  · intro h
    apply Nat.eq_of_testBit_eq
    intro i
    rw [Nat.testBit_and, sub_bit he]
    by_cases hi : i < n
    · rcases h i hi with q | q
      · rw [q, Bool.and_true]
      · rw [q]; simp
    · simp [hi]
/-- no encore is in, or all others are -/
def gd (n e S : Nat) : Prop := (∀ i, i < n → ¬ (S.testBit i = true ∧ e.testBit i = true)) ∨ opn n e S = true
theorem gd_0 {n e : Nat} : gd n e 0 := Or.inl (fun i _ h => by rw [Nat.zero_testBit] at h; cases h.1)
theorem gd_mcl {z : ST} {S a : Nat} (F : WF z.1 z.2.1 z.2.2.1 z.2.2.2) (hS : S < 2 ^ z.2.1) (ha : a < z.2.1) (g : gd z.2.1 (en z) S) : mcm z S a = mCl (zB z) S a := by
  obtain ⟨e1, e2, e3⟩ := en_ok F
  have h8 := F.2.1.1
  have pS := pop_pcn h8 hS
  have pe := pop_pcn h8 e2
  unfold mcm mCl zB msb
  cases hb : S.testBit a with
  | true => rfl
  | false =>
    suffices (!((en z).testBit a) || opn z.2.1 (en z) S) = ((en z).testBit a == decide (z.2.1 - pop (en z) ≤ pop S)) by rw [this]; simp
    by_cases ho : opn z.2.1 (en z) S = true
    · have hc := (opn_iff e2).mp ho
      have h1 := pcn_cv z.2.1 hc
      rw [ho, (hc a ha).resolve_left (by rw [hb]; decide), decide_eq_true (by omega)]
      rfl
    · have hd := g.resolve_right ho
      have hx : ∃ i, i < z.2.1 ∧ S.testBit i = false ∧ (en z).testBit i = false := by
        apply Classical.byContradiction
        intro q
        apply ho
        rw [opn_iff e2]
        intro i hi
        cases a1 : S.testBit i with
        | true => exact Or.inl rfl
        | false =>
          cases a2 : (en z).testBit i with
          | true => exact Or.inr rfl
          | false => exact absurd ⟨i, hi, a1, a2⟩ q
      have h1 := (pcn_dj z.2.1 hd).2 hx
      rw [bool_f ho, decide_eq_false (by omega)]
      cases (en z).testBit a <;> rfl
theorem gd_or {z : ST} {S a : Nat} (F : WF z.1 z.2.1 z.2.2.1 z.2.2.2) (g : gd z.2.1 (en z) S) (m : mcm z S a = true) : gd z.2.1 (en z) (S ||| 2 ^ a) := by
  obtain ⟨e1, e2, e3⟩ := en_ok F
  by_cases ho : opn z.2.1 (en z) S = true
  · right
    rw [opn_iff e2] at ho ⊢
    intro i hi
    rcases ho i hi with q | q
    · left; rw [Nat.testBit_or, q]; rfl
    · exact Or.inr q
  · have hd := g.resolve_right ho
    left
    intro i hi ⟨h1, h2⟩
    rw [Nat.testBit_or, Nat.testBit_two_pow] at h1
    cases hb : S.testBit i with
    | true => exact hd i hi ⟨hb, h2⟩
    | false =>
      rw [hb, Bool.false_or, decide_eq_true_eq] at h1
      unfold mcm at m
      rw [Bool.and_eq_true] at m
      rw [bool_f ho, h1, h2] at m
      cases m.2
/-! the walk along the order -/
theorem alM_set {z : ST} (O : WO z.1 z.2.1) (h8 : z.2.1 ≤ 8) : ∀ j, j ≤ z.2.1 → (alM z j).2 < 2 ^ z.2.1 ∧ pop (alM z j).2 = j ∧ ∀ i, i < z.2.1 → ((alM z j).2.testBit i = true → ∃ q, q < j ∧ z.1 (18 + q) = nI i) := by
  intro j
  induction j with
  | zero => intro _; exact ⟨Nat.pow_pos (by decide), (show pop 0 = 0 by decide), fun i _ h => by rw [show (alM z 0).2 = 0 from rfl, Nat.zero_testBit] at h; cases h⟩
  | succ j ih =>
    intro hj
    obtain ⟨h1, h2, h3⟩ := ih (by omega)
    obtain ⟨a, ha, ea⟩ := O.2.1 j (by omega)
    have e : (alM z (j + 1)).2 = (alM z j).2 ||| 2 ^ a := by
      show (alM z j).2 ||| 2 ^ (z.1 (18 + j)).toNatClampNeg = _
      rw [ea, nI_cl (by omega)]
    have hb : (alM z j).2.testBit a = false := by
      cases q : (alM z j).2.testBit a with
      | false => rfl
      | true =>
        obtain ⟨i, hi, ei⟩ := h3 a ha q
        have := O.2.2 i j (by omega) (by omega) (by rw [ei, ea])
        omega
    rw [e]
    refine ⟨or_lt h1 ha, by rw [or_pop h8 h1 ha hb, h2], fun i hi h => ?_⟩
    rw [Nat.testBit_or, Nat.testBit_two_pow] at h
    cases q : (alM z j).2.testBit i with
    | true =>
      obtain ⟨y, hy, ey⟩ := h3 i hi q
      exact ⟨y, by omega, ey⟩
    | false =>
      rw [q, Bool.false_or, decide_eq_true_eq] at h
      exact ⟨j, by omega, by rw [ea, h]⟩
theorem alM_alw {z : ST} (F : WF z.1 z.2.1 z.2.2.1 z.2.2.2) (O : WO z.1 z.2.1) : ∀ j, j ≤ z.2.1 → (alM z j).1 = alw z j ∧ (alw z j = true → gd z.2.1 (en z) (alM z j).2) := by
  have h8 := F.2.1.1
  intro j
  induction j with
  | zero => intro _; exact ⟨rfl, fun _ => gd_0⟩
  | succ j ih =>
    intro hj
    obtain ⟨h1, h2⟩ := ih (by omega)
    obtain ⟨a, ha, ea⟩ := O.2.1 j (by omega)
    obtain ⟨s1, s2, s3⟩ := alM_set O h8 j (by omega)
    have ec : (z.1 (18 + j)).toNatClampNeg = a := by rw [ea, nI_cl (by omega)]
    have hb : (alM z j).2.testBit a = false := by
      cases q : (alM z j).2.testBit a with
      | false => rfl
      | true =>
        obtain ⟨i, hi, ei⟩ := s3 a ha q
        have := O.2.2 i j (by omega) (by omega) (by rw [ei, ea])
        omega
    have e1 : (alM z (j + 1)).1 = ((alM z j).1 && mcm z (alM z j).2 a) := by
      show ((alM z j).1 && mcm z (alM z j).2 (z.1 (18 + j)).toNatClampNeg) = _
      rw [ec]
    have e2 : alw z (j + 1) = (alw z j && zB z a j) := by
      show (alw z j && zB z (z.1 (18 + j)).toNatClampNeg j) = _
      rw [ec]
    have e3 : (alM z (j + 1)).2 = (alM z j).2 ||| 2 ^ a := by
      show (alM z j).2 ||| 2 ^ (z.1 (18 + j)).toNatClampNeg = _
      rw [ec]
    rw [e1, e2, e3, h1]
    cases q : alw z j with
    | false => exact ⟨rfl, fun w => by cases w⟩
    | true =>
      have g := h2 q
      have m := gd_mcl F s1 ha g
      have m2 : mCl (zB z) (alM z j).2 a = zB z a j := by unfold mCl; rw [hb, s2]; rfl
      rw [m, m2]
      refine ⟨rfl, fun w => gd_or F g ?_⟩
      rw [m, m2]
      exact w
theorem t_M_isAllowed {d : Nat} {h : HP} {A : AS} (V : VA A) (I : MI h A) : MT (d + 2) mM_isAllowed [vR 8 20] h (fun r h' => r = some (vI (oAllowed A)) ∧ MI h' A) := by
  obtain ⟨⟨s, n, p, k⟩, kp, ch, len⟩ := A
  refine (t_M_isAllowed0 V.1.2.1.1 I.1 V.1.1).mono ?_
  rintro r h' ⟨rfl, rfl⟩
  refine ⟨?_, I⟩
  unfold oAllowed
  rw [← (alM_alw (z := (s, n, p, k)) V.1.1 V.1.2.1.1 n (Nat.le_refl _)).1]
