/-! THE REFERENCE'S READING, and that it is the class's -/
def hr (ch : Nat → Nat) (len i : Nat) : Nat := if i < len then ch i else 0
abbrev isD (c : Nat) : Prop := 48 ≤ c ∧ c ≤ 57
def nm (ch : Nat → Nat) (len i : Nat) : Nat × Nat := if isD (hr ch len i) then (if isD (hr ch len (i + 1)) then (10 * (hr ch len i - 48) + (hr ch len (i + 1) - 48), 2) else (hr ch len i - 48, 1)) else (0, 0)
def isn (ch : Nat → Nat) (len i lo hi b : Nat) : Bool := decide (0 < (nm ch len i).2) && (decide (lo ≤ (nm ch len i).1) && decide ((nm ch len i).1 < hi)) && decide (hr ch len (i + (nm ch len i).2) = b)
def nxp (ch : Nat → Nat) (len i : Nat) : Nat := i + (nm ch len i).2 + 1
def stM (ch : Nat → Nat) (len a : Nat) (z : ST) : Option (ST × Nat) :=
  if ch a = 115 then (if isn ch len (a + 1) 1 21 59 = true ∧ ¬ z.2.1 = 8 then some ((upd (upd z.1 (1 + z.2.1) (nI (nm ch len (a + 1)).1)) 0 (nI (z.2.1 + 1)), z.2.1 + 1, z.2.2.1, z.2.2.2), nxp ch len (a + 1)) else none)
  else if ch a = 112 then (if isn ch len (a + 1) 0 2 59 = true ∧ ¬ z.2.2.1 = 5 then some ((upd (upd z.1 (27 + z.2.2.1) (nI (nm ch len (a + 1)).1)) 26 (nI (z.2.2.1 + 1)), z.2.1, z.2.2.1 + 1, z.2.2.2), nxp ch len (a + 1)) else none)
  else if ch a = 107 then (if isn ch len (a + 1) 1 6 44 = true ∧ ¬ z.2.2.2 = 6 ∧ isn ch len (nxp ch len (a + 1)) 0 2 59 = true then some ((upd (upd (upd z.1 (33 + z.2.2.2) (nI (nm ch len (a + 1)).1)) (39 + z.2.2.2) (nI (nm ch len (nxp ch len (a + 1))).1)) 32 (nI (z.2.2.2 + 1)), z.2.1, z.2.2.1, z.2.2.2 + 1), nxp ch len (nxp ch len (a + 1))) else none)
  else if ch a = 117 then (if isn ch len (a + 1) 0 z.2.1 44 = true ∧ isn ch len (nxp ch len (a + 1)) 0 z.2.2.1 44 = true ∧ isn ch len (nxp ch len (nxp ch len (a + 1))) 0 z.2.2.2 44 = true ∧ isn ch len (nxp ch len (nxp ch len (nxp ch len (a + 1)))) 0 6 59 = true ∧
      oth z.1 (nm ch len (a + 1)).1 (nI (nm ch len (nxp ch len (nxp ch len (a + 1)))).1) (nm ch len (nxp ch len (a + 1))).1 z.2.2.1 < (z.1 (33 + (nm ch len (nxp ch len (nxp ch len (a + 1)))).1)).toNatClampNeg then
      some ((upd (upd z.1 (45 + 2 * ((nm ch len (a + 1)).1 * 5 + (nm ch len (nxp ch len (a + 1))).1)) (nI (nm ch len (nxp ch len (nxp ch len (a + 1)))).1)) (46 + 2 * ((nm ch len (a + 1)).1 * 5 + (nm ch len (nxp ch len (a + 1))).1)) (nI (nm ch len (nxp ch len (nxp ch len (nxp ch len (a + 1))))).1), z.2), nxp ch len (nxp ch len (nxp ch len (nxp ch len (a + 1))))) else none)
  else if ch a = 101 then (if isn ch len (a + 1) 0 z.2.1 59 = true then some ((upd z.1 9 (nI ((z.1 9).toNatClampNeg ||| 2 ^ (nm ch len (a + 1)).1)), z.2), nxp ch len (a + 1)) else none)
  else none
theorem hr_lt {ch : Nat → Nat} {len i : Nat} (h : ¬ hr ch len i = 0) : i < len ∧ hr ch len i = ch i := by
  unfold hr at h ⊢
  by_cases q : i < len
  · rw [if_pos q] at h ⊢; exact ⟨q, rfl⟩
  · rw [if_neg q] at h; exact absurd rfl h
theorem hr_in {ch : Nat → Nat} {len i : Nat} (h : i < len) : hr ch len i = ch i := by unfold hr; rw [if_pos h]
theorem rn_d {ch : Nat → Nat} {m i v dg : Nat} {ns : List Nat} (h : isD (ch i)) : rn ch (m + 1) i v dg ns = rn ch m (i + 1) (v * 10 + (ch i - 48)) (dg + 1) ns := by
  rw [rn, if_pos h]
theorem rn_s {ch : Nat → Nat} {m i v dg : Nat} {ns : List Nat} (h : ch i = 44 ∨ ch i = 59) (hd : 1 ≤ dg ∧ dg ≤ 2) (hn : ns.length < 4) : rn ch (m + 1) i v dg ns = rn ch m (i + 1) 0 0 (ns ++ [v]) := by
  rw [rn, if_neg (by omega), if_pos ⟨h, hd, hn⟩]
theorem num_rn {ch : Nat → Nat} {len i b : Nat} (hd : 0 < (nm ch len i).2) (hb : hr ch len (i + (nm ch len i).2) = b) (b2 : b = 44 ∨ b = 59) : (∀ m ns, ns.length < 4 → rn ch ((nm ch len i).2 + 1 + m) i 0 0 ns = rn ch m (nxp ch len i) 0 0 (ns ++ [(nm ch len i).1])) ∧ (∀ x, i ≤ x → x < i + (nm ch len i).2 → ¬ ch x = 59) ∧ i + (nm ch len i).2 < len ∧ ch (i + (nm ch len i).2) = b := by
  obtain ⟨l1, l2⟩ := hr_lt (ch := ch) (len := len) (i := i + (nm ch len i).2) (by omega)
  have l3 : ch (i + (nm ch len i).2) = b := by rw [← l2, hb]
  refine ⟨?_, ?_, l1, l3⟩
  · intro m ns hn
    unfold nxp
    unfold nm at hd l1 l3 ⊢
    by_cases h1 : isD (hr ch len i)
    · rw [if_pos h1] at hd l1 l3 ⊢
      obtain ⟨g1, g2⟩ := hr_lt (ch := ch) (len := len) (i := i) (by unfold isD at h1; omega)
      by_cases h2 : isD (hr ch len (i + 1))
      · rw [if_pos h2] at hd l1 l3 ⊢
        dsimp only at hd l1 l3 ⊢
        obtain ⟨g3, g4⟩ := hr_lt (ch := ch) (len := len) (i := i + 1) (by unfold isD at h2; omega)
        rw [g2] at h1 ⊢
        rw [g4] at h2 ⊢
        rw [show 2 + 1 + m = m + 1 + 1 + 1 by omega, rn_d h1, rn_d h2, rn_s (by rw [show i + 1 + 1 = i + 2 by omega, l3]; exact b2) ⟨by omega, by omega⟩ hn]
        rw [show (0 * 10 + (ch i - 48)) * 10 + (ch (i + 1) - 48) = 10 * (ch i - 48) + (ch (i + 1) - 48) by omega]
      · rw [if_neg h2] at hd l1 l3 ⊢
        dsimp only at hd l1 l3 ⊢
        rw [g2] at h1 ⊢
        rw [show 1 + 1 + m = m + 1 + 1 by omega, rn_d h1, rn_s (by rw [l3]; exact b2) ⟨by omega, by omega⟩ hn]
        rw [show 0 * 10 + (ch i - 48) = ch i - 48 by omega]
    · rw [if_neg h1] at hd
      exact absurd hd (by decide)
  · intro x hx1 hx2 hx
    unfold nm at hx2 hd
    by_cases h1 : isD (hr ch len i)
    · rw [if_pos h1] at hd hx2
      have e1 : ch i = hr ch len i := (hr_lt (by unfold isD at h1; omega)).2.symm
      by_cases h2 : isD (hr ch len (i + 1))
      · rw [if_pos h2] at hx2
        dsimp only at hx2
        have e2 : ch (i + 1) = hr ch len (i + 1) := (hr_lt (by unfold isD at h2; omega)).2.symm
        unfold isD at h1 h2
        rcases (show x = i ∨ x = i + 1 by omega) with q | q
        · rw [q] at hx; omega
        · rw [q] at hx; omega
      · rw [if_neg h2] at hx2
        dsimp only at hx2
        unfold isD at h1
        rw [show x = i by omega] at hx
        omega
    · rw [if_neg h1] at hd
      exact absurd hd (by decide)
theorem isn_ok {ch : Nat → Nat} {len i lo hi b : Nat} (h : isn ch len i lo hi b = true) : 0 < (nm ch len i).2 ∧ lo ≤ (nm ch len i).1 ∧ (nm ch len i).1 < hi ∧ hr ch len (i + (nm ch len i).2) = b := by
  unfold isn at h
  simp only [Bool.and_eq_true, decide_eq_true_eq] at h
  exact ⟨h.1.1, h.1.2.1, h.1.2.2, h.2⟩
theorem isn_mk {ch : Nat → Nat} {len i lo hi b : Nat} (h1 : 0 < (nm ch len i).2) (h2 : lo ≤ (nm ch len i).1) (h3 : (nm ch len i).1 < hi) (h4 : hr ch len (i + (nm ch len i).2) = b) : isn ch len i lo hi b = true := by
  unfold isn
  simp only [Bool.and_eq_true, decide_eq_true_eq]
  exact ⟨⟨h1, h2, h3⟩, h4⟩
theorem rn_all {ch : Nat → Nat} : ∀ m i v dg ns L, 3 ≤ dg → rn ch m i v dg ns = some L → ∀ x, i ≤ x → x < i + m → isD (ch x) := by
  intro m
  induction m with
  | zero => intro i v dg ns L _ _ x h1 h2; omega
  | succ m ih =>
    intro i v dg ns L hd h x h1 h2
    unfold rn at h
    by_cases q : 48 ≤ ch i ∧ ch i ≤ 57
    · rw [if_pos q] at h
      by_cases e : x = i
      · rw [e]; exact q
      · exact ih _ _ _ _ _ (by omega) h x (by omega) (by omega)
    · rw [if_neg q, if_neg (by omega)] at h
      cases h
theorem rn_num {ch : Nat → Nat} {len m i : Nat} {ns L : List Nat} (h : rn ch (m + 1) i 0 0 ns = some L) (he : ch (i + m) = 59) (hl : i + m < len) (hx : ∀ x, i ≤ x → x < i + m → ¬ ch x = 59) : 0 < (nm ch len i).2 ∧ (nm ch len i).2 ≤ m ∧ ns.length < 4 ∧ ((hr ch len (i + (nm ch len i).2) = 59 ∧ (nm ch len i).2 = m ∧ L = ns ++ [(nm ch len i).1]) ∨ (hr ch len (i + (nm ch len i).2) = 44 ∧ (nm ch len i).2 < m ∧ rn ch (m - (nm ch len i).2 - 1 + 1) (nxp ch len i) 0 0 (ns ++ [(nm ch len i).1]) = some L)) := by
  -- a step at a separator
  have key : ∀ dg v, 1 ≤ dg → dg ≤ m → nm ch len i = (v, dg) → ¬ isD (ch (i + dg)) → rn ch (m - dg + 1) (i + dg) v dg ns = some L → 0 < (nm ch len i).2 ∧ (nm ch len i).2 ≤ m ∧ ns.length < 4 ∧ ((hr ch len (i + (nm ch len i).2) = 59 ∧ (nm ch len i).2 = m ∧ L = ns ++ [(nm ch len i).1]) ∨ (hr ch len (i + (nm ch len i).2) = 44 ∧ (nm ch len i).2 < m ∧ rn ch (m - (nm ch len i).2 - 1 + 1) (nxp ch len i) 0 0 (ns ++ [(nm ch len i).1]) = some L)) := by
    intro dg v h1 h2 hn hd hr1
    unfold nxp
    rw [hn]
    dsimp only
    rw [hr_in (show i + dg < len by omega)]
    unfold rn at hr1
    rw [if_neg hd] at hr1
    by_cases q : (ch (i + dg) = 44 ∨ ch (i + dg) = 59) ∧ (1 ≤ dg ∧ dg ≤ 2) ∧ ns.length < 4
    · rw [if_pos q] at hr1
      refine ⟨by omega, h2, q.2.2, ?_⟩
      by_cases q2 : ch (i + dg) = 59
      · have : dg = m := by
          rcases Nat.lt_or_ge dg m with z | z
          · exact absurd q2 (hx (i + dg) (by omega) (by omega))
          · omega
        rw [this, Nat.sub_self] at hr1
        exact Or.inl ⟨q2, this, (Option.some.inj hr1).symm⟩
      · have : ¬ dg = m := fun z => q2 (by rw [z]; exact he)
        refine Or.inr ⟨by omega, by omega, ?_⟩
        rw [show m - dg - 1 + 1 = m - dg by omega]
        exact hr1
    · rw [if_neg q] at hr1
      cases hr1
  by_cases d0 : isD (ch i)
  · have m1 : 1 ≤ m := by
      rcases Nat.eq_zero_or_pos m with z | z
      · rw [z] at he; unfold isD at d0; rw [Nat.add_zero] at he; omega
      · exact z
    have r1 := h
    rw [rn_d d0] at r1
    have g0 : hr ch len i = ch i := hr_in (by omega)
    have g1 : hr ch len (i + 1) = ch (i + 1) := hr_in (by omega)
    by_cases d1 : isD (ch (i + 1))
    · have m2 : 2 ≤ m := by
        rcases (show m = 1 ∨ 2 ≤ m by omega) with z | z
        · rw [z] at he; unfold isD at d1; omega
        · exact z
      obtain ⟨m0, rfl⟩ : ∃ m0, m = m0 + 1 := ⟨m - 1, by omega⟩
      rw [rn_d d1] at r1
      have hn : nm ch len i = ((0 * 10 + (ch i - 48)) * 10 + (ch (i + 1) - 48), 2) := by
        unfold nm
        rw [g0, g1, if_pos d0, if_pos d1, show (0 * 10 + (ch i - 48)) * 10 + (ch (i + 1) - 48) = 10 * (ch i - 48) + (ch (i + 1) - 48) by omega]
      by_cases d2 : isD (ch (i + 1 + 1))
      · exfalso
        have hm0 : 1 ≤ m0 := by omega
        obtain ⟨m3, rfl⟩ : ∃ m3, m0 = m3 + 1 := ⟨m0 - 1, by omega⟩
        rw [rn_d d2] at r1
        rcases Nat.eq_zero_or_pos m3 with z | z
        · rw [z] at he; unfold isD at d2; rw [show i + (0 + 1 + 1) = i + 1 + 1 by omega] at he; omega
        · have := rn_all _ _ _ _ _ _ (by omega) r1 (i + (m3 + 1 + 1)) (by omega) (by omega)
          unfold isD at this
          omega
      · refine key 2 _ (by omega) (by omega) hn (by rw [show i + 2 = i + 1 + 1 by omega]; exact d2) ?_
        rw [show m0 + 1 - 2 + 1 = m0 by omega, show i + 2 = i + 1 + 1 by omega]
        exact r1
    · have hn : nm ch len i = (0 * 10 + (ch i - 48), 1) := by
        unfold nm
        rw [g0, g1, if_pos d0, if_neg d1, show 0 * 10 + (ch i - 48) = ch i - 48 by omega]
      refine key 1 _ (by omega) m1 hn d1 ?_
      rw [show m - 1 + 1 = m by omega]
      exact r1
  · exfalso
    unfold rn at h
    rw [if_neg d0, if_neg (by omega)] at h
    cases h
/-- the numbers of a statement that ends at e -/
theorem rn_cases {ch : Nat → Nat} {len a e : Nat} {L : List Nat} (h : rn ch (e - a) (a + 1) 0 0 [] = some L) (hae : a < e) (he : ch e = 59) (hl : e < len) (hx : ∀ x, a + 1 ≤ x → x < e → ¬ ch x = 59) :
    (0 < (nm ch len (a + 1)).2 ∧ ((hr ch len (a + 1 + (nm ch len (a + 1)).2) = 59 ∧ nxp ch len (a + 1) = e + 1 ∧ L = [(nm ch len (a + 1)).1]) ∨ (hr ch len (a + 1 + (nm ch len (a + 1)).2) = 44 ∧
     (0 < (nm ch len (nxp ch len (a + 1))).2 ∧ ((hr ch len (nxp ch len (a + 1) + (nm ch len (nxp ch len (a + 1))).2) = 59 ∧ nxp ch len (nxp ch len (a + 1)) = e + 1 ∧ L = [(nm ch len (a + 1)).1, (nm ch len (nxp ch len (a + 1))).1]) ∨ (hr ch len (nxp ch len (a + 1) + (nm ch len (nxp ch len (a + 1))).2) = 44 ∧
     (0 < (nm ch len (nxp ch len (nxp ch len (a + 1)))).2 ∧ ((∃ u v w, L = [u, v, w]) ∨ (hr ch len (nxp ch len (nxp ch len (a + 1)) + (nm ch len (nxp ch len (nxp ch len (a + 1)))).2) = 44 ∧
     (0 < (nm ch len (nxp ch len (nxp ch len (nxp ch len (a + 1))))).2 ∧ hr ch len (nxp ch len (nxp ch len (nxp ch len (a + 1))) + (nm ch len (nxp ch len (nxp ch len (nxp ch len (a + 1))))).2) = 59 ∧ nxp ch len (nxp ch len (nxp ch len (nxp ch len (a + 1)))) = e + 1 ∧ L = [(nm ch len (a + 1)).1, (nm ch len (nxp ch len (a + 1))).1, (nm ch len (nxp ch len (nxp ch len (a + 1)))).1, (nm ch len (nxp ch len (nxp ch len (nxp ch len (a + 1))))).1])))))))))) := by
  have st : ∀ i ns, i ≤ e → a + 1 ≤ i → rn ch (e - i + 1) i 0 0 ns = some L → 0 < (nm ch len i).2 ∧ ns.length < 4 ∧ ((hr ch len (i + (nm ch len i).2) = 59 ∧ nxp ch len i = e + 1 ∧ L = ns ++ [(nm ch len i).1]) ∨ (hr ch len (i + (nm ch len i).2) = 44 ∧ nxp ch len i ≤ e ∧ a + 1 ≤ nxp ch len i ∧ rn ch (e - nxp ch len i + 1) (nxp ch len i) 0 0 (ns ++ [(nm ch len i).1]) = some L)) := by
    intro i ns hi hai hr1
    obtain ⟨q1, q2, q3, q4⟩ := rn_num (len := len) hr1 (by rw [show i + (e - i) = e by omega]; exact he) (by omega) (fun x h1 h2 => hx x (by omega) (by omega))
    refine ⟨q1, q3, ?_⟩
    rcases q4 with ⟨p1, p2, p3⟩ | ⟨p1, p2, p3⟩
    · exact Or.inl ⟨p1, by unfold nxp; omega, p3⟩
    · refine Or.inr ⟨p1, by unfold nxp; omega, by unfold nxp; omega, ?_⟩
      rw [show e - nxp ch len i + 1 = e - i - (nm ch len i).2 - 1 + 1 by unfold nxp; omega]
      exact p3
  obtain ⟨a1, -, a2⟩ := st (a + 1) [] (by omega) (by omega) (by rw [show e - (a + 1) + 1 = e - a by omega]; exact h)
  refine ⟨a1, ?_⟩
  rcases a2 with p | ⟨p1, p2, p3, p4⟩
  · exact Or.inl p
  · refine Or.inr ⟨p1, ?_⟩
    obtain ⟨b1, -, b2⟩ := st _ _ p2 p3 p4
    refine ⟨b1, ?_⟩
    rcases b2 with q | ⟨q1, q2, q3, q4⟩
    · exact Or.inl q
    · refine Or.inr ⟨q1, ?_⟩
      obtain ⟨c1, -, c2⟩ := st _ _ q2 q3 q4
      refine ⟨c1, ?_⟩
      rcases c2 with w | ⟨w1, w2, w3, w4⟩
      · exact Or.inl ⟨_, _, _, w.2.2⟩
      · refine Or.inr ⟨w1, ?_⟩
        obtain ⟨d1, -, d2⟩ := st _ _ w2 w3 w4
        refine ⟨d1, ?_⟩
        rcases d2 with v | ⟨v1, v2, v3, v4⟩
        · exact v
        · exfalso
          obtain ⟨-, e2, -⟩ := st _ _ v2 v3 v4
          simp at e2
theorem stM_C {ch : Nat → Nat} {len a e : Nat} {z z' : ST} (hz : z.2.1 ≤ 8 ∧ z.2.2.1 ≤ 5 ∧ z.2.2.2 ≤ 6) (hae : a < e) (he : ch e = 59) (hl : e < len) (hx : ∀ x, a + 1 ≤ x → x < e → ¬ ch x = 59) (h : stC ch a e z = some z') : stM ch len a z = some (z', e + 1) := by
  unfold stC at h
  cases hr1 : rn ch (e - a) (a + 1) 0 0 [] with
  | none => rw [hr1] at h; cases h
  | some L =>
    rw [hr1] at h
    dsimp only at h
    obtain ⟨a1, a2⟩ := rn_cases hr1 hae he hl hx
    rcases a2 with ⟨p1, p2, p3⟩ | ⟨p1, b1, b2⟩
    · rw [p3] at h
      unfold apl at h
      dsimp only at h
      unfold stM
      by_cases k1 : ch a = 115
      · rw [if_pos k1] at h ⊢
        by_cases g : z.2.1 < 8 ∧ 1 ≤ (nm ch len (a + 1)).1 ∧ (nm ch len (a + 1)).1 ≤ 20
        · rw [if_pos g] at h
          cases h
          rw [if_pos ⟨isn_mk a1 g.2.1 (by omega) p1, by omega⟩, p2]
        · rw [if_neg g] at h; cases h
      · rw [if_neg k1] at h ⊢
        by_cases k2 : ch a = 112
        · rw [if_pos k2] at h ⊢
          by_cases g : z.2.2.1 < 5 ∧ (nm ch len (a + 1)).1 ≤ 1
          · rw [if_pos g] at h
            cases h
            rw [if_pos ⟨isn_mk a1 (Nat.zero_le _) (by omega) p1, by omega⟩, p2]
          · rw [if_neg g] at h; cases h
        · rw [if_neg k2] at h ⊢
          by_cases k3 : ch a = 101
          · rw [if_pos k3] at h
            rw [if_neg (by omega), if_neg (by omega), if_pos k3]
            by_cases g : (nm ch len (a + 1)).1 < z.2.1
            · rw [if_pos g] at h
              cases h
              rw [if_pos (isn_mk a1 (Nat.zero_le _) g p1), p2]
            · rw [if_neg g] at h; cases h
          · rw [if_neg k3] at h; cases h
    · rcases b2 with ⟨q1, q2, q3⟩ | ⟨q1, c1, c2⟩
      · rw [q3] at h
        unfold apl at h
        dsimp only at h
        unfold stM
        by_cases g : ch a = 107 ∧ z.2.2.2 < 6 ∧ 1 ≤ (nm ch len (a + 1)).1 ∧ (nm ch len (a + 1)).1 ≤ 5 ∧ (nm ch len (nxp ch len (a + 1))).1 ≤ 1
        · rw [if_pos g] at h
          cases h
          rw [if_neg (by omega), if_neg (by omega), if_pos g.1, if_pos ⟨isn_mk a1 g.2.2.1 (by omega) p1, by omega, isn_mk b1 (Nat.zero_le _) (by omega) q1⟩, q2]
        · rw [if_neg g] at h; cases h
      · rcases c2 with ⟨u, v, w, e3⟩ | ⟨w1, d1, d2, d3, d4⟩
        · rw [e3] at h
          cases h
        · rw [d4] at h
          unfold apl at h
          dsimp only at h
          unfold stM
          split at h
          · rename_i g
            cases h
            rw [if_neg (by omega), if_neg (by omega), if_neg (by omega), if_pos g.1, if_pos ⟨isn_mk a1 (Nat.zero_le _) g.2.1 p1, isn_mk b1 (Nat.zero_le _) g.2.2.1 q1, isn_mk c1 (Nat.zero_le _) g.2.2.2.1 w1, isn_mk d1 (Nat.zero_le _) (by omega) d2, g.2.2.2.2.2⟩, d3]
          · cases h
/-- one number that ends the statement -/
theorem one_C {ch : Nat → Nat} {len a : Nat} (h : 0 < (nm ch len (a + 1)).2) (h2 : hr ch len (a + 1 + (nm ch len (a + 1)).2) = 59) (hc : ¬ ch a = 59) : ∃ e, a < e ∧ e < len ∧ ch e = 59 ∧ (∀ x, a ≤ x → x < e → ¬ ch x = 59) ∧ nxp ch len (a + 1) = e + 1 ∧ rn ch (e - a) (a + 1) 0 0 [] = some [(nm ch len (a + 1)).1] := by
  obtain ⟨r1, r2, r3, r4⟩ := num_rn h h2 (Or.inr rfl)
  refine ⟨a + 1 + (nm ch len (a + 1)).2, by omega, r3, r4, fun x h1 h3 => ?_, rfl, ?_⟩
  · by_cases q : x = a
    · rw [q]; exact hc
    · exact r2 x (by omega) h3
  · rw [show a + 1 + (nm ch len (a + 1)).2 - a = (nm ch len (a + 1)).2 + 1 + 0 by omega, r1 0 [] (by decide)]
    rfl
theorem stM_S {ch : Nat → Nat} {len a j : Nat} {z z' : ST} (hz : z.2.1 ≤ 8 ∧ z.2.2.1 ≤ 5 ∧ z.2.2.2 ≤ 6) (h : stM ch len a z = some (z', j)) : ∃ e, a < e ∧ e < len ∧ ch e = 59 ∧ (∀ x, a ≤ x → x < e → ¬ ch x = 59) ∧ j = e + 1 ∧ stC ch a e z = some z' := by
  unfold stM at h
  by_cases k1 : ch a = 115
  · rw [if_pos k1] at h
    split at h
    · rename_i g
      cases h
      obtain ⟨i1, i2, i3, i4⟩ := isn_ok g.1
      obtain ⟨e, e1, e2, e3, e4, e5, e6⟩ := one_C i1 i4 (by omega)
      refine ⟨e, e1, e2, e3, e4, e5, ?_⟩
      unfold stC
      rw [e6]
      unfold apl
      dsimp only
      rw [if_pos k1, if_pos ⟨by omega, i2, by omega⟩]
    · cases h
  · rw [if_neg k1] at h
    by_cases k2 : ch a = 112
    · rw [if_pos k2] at h
      split at h
      · rename_i g
        cases h
        obtain ⟨i1, i2, i3, i4⟩ := isn_ok g.1
        obtain ⟨e, e1, e2, e3, e4, e5, e6⟩ := one_C i1 i4 (by omega)
        refine ⟨e, e1, e2, e3, e4, e5, ?_⟩
        unfold stC
        rw [e6]
        unfold apl
        dsimp only
        rw [if_neg k1, if_pos k2, if_pos ⟨by omega, by omega⟩]
      · cases h
    · rw [if_neg k2] at h
      by_cases k3 : ch a = 107
      · rw [if_pos k3] at h
        split at h
        · rename_i g
          cases h
          obtain ⟨i1, i2, i3, i4⟩ := isn_ok g.1
          obtain ⟨j1, j2, j3, j4⟩ := isn_ok g.2.2
          obtain ⟨r1, r2, r3, r4⟩ := num_rn i1 i4 (Or.inl rfl)
          obtain ⟨t1, t2, t3, t4⟩ := num_rn j1 j4 (Or.inr rfl)
          have en : nxp ch len (a + 1) = a + 1 + (nm ch len (a + 1)).2 + 1 := rfl
          refine ⟨nxp ch len (a + 1) + (nm ch len (nxp ch len (a + 1))).2, by omega, t3, t4, fun x h1 h3 => ?_, rfl, ?_⟩
          · by_cases q : x = a
            · rw [q]; omega
            · by_cases q2 : x < a + 1 + (nm ch len (a + 1)).2
              · exact r2 x (by omega) q2
              · by_cases q3 : x = a + 1 + (nm ch len (a + 1)).2
                · rw [q3, r4]; decide
                · exact t2 x (by omega) h3
          · unfold stC
            rw [show nxp ch len (a + 1) + (nm ch len (nxp ch len (a + 1))).2 - a = (nm ch len (a + 1)).2 + 1 + ((nm ch len (nxp ch len (a + 1))).2 + 1 + 0) by omega, r1 _ [] (by decide), t1 0 _ (by simp)]
            show apl (ch a) [(nm ch len (a + 1)).1, (nm ch len (nxp ch len (a + 1))).1] z = _
            unfold apl
            dsimp only
            rw [if_pos ⟨k3, by omega, i2, by omega, by omega⟩]
        · cases h
      · rw [if_neg k3] at h
        by_cases k4 : ch a = 117
        · rw [if_pos k4] at h
          split at h
          · rename_i g
            cases h
            obtain ⟨g1, g2, g3, g4, g5⟩ := g
            obtain ⟨i1, i2, i3, i4⟩ := isn_ok g1
            obtain ⟨j1, j2, j3, j4⟩ := isn_ok g2
            obtain ⟨l1, l2, l3, l4⟩ := isn_ok g3
            obtain ⟨m1, m2, m3, m4⟩ := isn_ok g4
            obtain ⟨r1, r2, r3, r4⟩ := num_rn i1 i4 (Or.inl rfl)
            obtain ⟨t1, t2, t3, t4⟩ := num_rn j1 j4 (Or.inl rfl)
            obtain ⟨u1, u2, u3, u4⟩ := num_rn l1 l4 (Or.inl rfl)
            obtain ⟨v1, v2, v3, v4⟩ := num_rn m1 m4 (Or.inr rfl)
            have en1 : nxp ch len (a + 1) = a + 1 + (nm ch len (a + 1)).2 + 1 := rfl
            have en2 : nxp ch len (nxp ch len (a + 1)) = nxp ch len (a + 1) + (nm ch len (nxp ch len (a + 1))).2 + 1 := rfl
            have en3 : nxp ch len (nxp ch len (nxp ch len (a + 1))) = nxp ch len (nxp ch len (a + 1)) + (nm ch len (nxp ch len (nxp ch len (a + 1)))).2 + 1 := rfl
            refine ⟨nxp ch len (nxp ch len (nxp ch len (a + 1))) + (nm ch len (nxp ch len (nxp ch len (nxp ch len (a + 1))))).2, by omega, v3, v4, fun x h1 h3 => ?_, rfl, ?_⟩
            · by_cases q : x = a
              · rw [q]; omega
              · by_cases q2 : x < a + 1 + (nm ch len (a + 1)).2
                · exact r2 x (by omega) q2
                · by_cases q3 : x = a + 1 + (nm ch len (a + 1)).2
                  · rw [q3, r4]; decide
                  · by_cases q4 : x < nxp ch len (a + 1) + (nm ch len (nxp ch len (a + 1))).2
                    · exact t2 x (by omega) q4
                    · by_cases q5 : x = nxp ch len (a + 1) + (nm ch len (nxp ch len (a + 1))).2
                      · rw [q5, t4]; decide
                      · by_cases q6 : x < nxp ch len (nxp ch len (a + 1)) + (nm ch len (nxp ch len (nxp ch len (a + 1)))).2
                        · exact u2 x (by omega) q6
                        · by_cases q7 : x = nxp ch len (nxp ch len (a + 1)) + (nm ch len (nxp ch len (nxp ch len (a + 1)))).2
                          · rw [q7, u4]; decide
                          · exact v2 x (by omega) h3
            · unfold stC
              rw [show nxp ch len (nxp ch len (nxp ch len (a + 1))) + (nm ch len (nxp ch len (nxp ch len (nxp ch len (a + 1))))).2 - a = (nm ch len (a + 1)).2 + 1 + ((nm ch len (nxp ch len (a + 1))).2 + 1 + ((nm ch len (nxp ch len (nxp ch len (a + 1)))).2 + 1 + ((nm ch len (nxp ch len (nxp ch len (nxp ch len (a + 1))))).2 + 1 + 0))) by omega, r1 _ [] (by decide), t1 _ _ (by simp), u1 _ _ (by simp), v1 0 _ (by simp)]
              show apl (ch a) [(nm ch len (a + 1)).1, (nm ch len (nxp ch len (a + 1))).1, (nm ch len (nxp ch len (nxp ch len (a + 1)))).1, (nm ch len (nxp ch len (nxp ch len (nxp ch len (a + 1))))).1] z = _
              unfold apl
              dsimp only
              rw [if_pos ⟨k4, i3, j3, l3, by omega, g5⟩]
          · cases h
        · rw [if_neg k4] at h
          by_cases k5 : ch a = 101
          · rw [if_pos k5] at h
            split at h
            · rename_i g
              cases h
              obtain ⟨i1, i2, i3, i4⟩ := isn_ok g
              obtain ⟨e, e1, e2, e3, e4, e5, e6⟩ := one_C i1 i4 (by omega)
              refine ⟨e, e1, e2, e3, e4, e5, ?_⟩
              unfold stC
              rw [e6]
              unfold apl
              dsimp only
              rw [if_neg k1, if_neg k2, if_pos k5, if_pos i3]
            · cases h
          · rw [if_neg k5] at h; cases h
/-! from a statement's first character on -/
theorem pC_skip {ch : Nat → Nat} {len a e : Nat} {z : ST} : ∀ m i, i + m = len → i ≤ e → e ≤ len → (∀ x, i ≤ x → x < e → ¬ ch x = 59) → pC ch len m i a z = pC ch len (len - e) e a z := by
  intro m
  induction m with
  | zero => intro i h1 h2 h3 _; rw [show e = i by omega, show len - i = 0 by omega]
  | succ m ih =>
    intro i h1 h2 h3 hx
    by_cases q : i = e
    · rw [← q, show len - i = m + 1 by omega]
    · rw [pC_n (hx i (Nat.le_refl _) (by omega))]
      exact ih (i + 1) (by omega) (by omega) h3 (fun x g1 g2 => hx x (by omega) g2)
theorem first_59 (ch : Nat → Nat) (len : Nat) : ∀ m i, i + m = len → (∀ x, i ≤ x → x < len → ¬ ch x = 59) ∨ ∃ e, i ≤ e ∧ e < len ∧ ch e = 59 ∧ ∀ x, i ≤ x → x < e → ¬ ch x = 59 := by
  intro m
  induction m with
  | zero => intro i h; exact Or.inl (fun x h1 h2 => by omega)
  | succ m ih =>
    intro i h
    by_cases q : ch i = 59
    · exact Or.inr ⟨i, Nat.le_refl _, by omega, q, fun x h1 h2 => by omega⟩
    · rcases ih (i + 1) (by omega) with g | ⟨e, e1, e2, e3, e4⟩
      · refine Or.inl (fun x h1 h2 => ?_)
        by_cases z : x = i
        · rw [z]; exact q
        · exact g x (by omega) h2
      · refine Or.inr ⟨e, by omega, e2, e3, fun x h1 h2 => ?_⟩
        by_cases z : x = i
        · rw [z]; exact q
        · exact e4 x (by omega) h2
theorem pC_stM {ch : Nat → Nat} {len i : Nat} {z : ST} (hz : z.2.1 ≤ 8 ∧ z.2.2.1 ≤ 5 ∧ z.2.2.2 ≤ 6) (hi : i < len) : (stM ch len i z = none → (pC ch len (len - i) i i z).1 = some i) ∧ ∀ z' j, stM ch len i z = some (z', j) → i < j ∧ j ≤ len ∧ pC ch len (len - i) i i z = pC ch len (len - j) j j z' ∧ ∃ e, stC ch i e z = some z' := by
  constructor
  · intro h
    rcases first_59 ch len (len - i) i (by omega) with g | ⟨e, e1, e2, e3, e4⟩
    · rw [pC_skip (len - i) i (by omega) (show i ≤ len by omega) (Nat.le_refl _) g, Nat.sub_self, pC_0]
      dsimp only
      rw [if_pos hi]
    · rw [pC_skip (len - i) i (by omega) e1 (by omega) e4, show len - e = (len - e - 1) + 1 by omega]
      cases hs : stC ch i e z with
      | none => rw [pC_b e3 hs]
      | some z' =>
        exfalso
        by_cases q : i = e
        · subst q
          unfold stC at hs
          rw [Nat.sub_self] at hs
          cases hs
        · have := stM_C (len := len) hz (show i < e by omega) e3 e2 (fun x h1 h2 => e4 x (by omega) h2) hs
          rw [h] at this
          cases this
  · intro z' j h
    obtain ⟨e, e1, e2, e3, e4, e5, e6⟩ := stM_S hz h
    refine ⟨by omega, by omega, ?_, e, e6⟩
    rw [pC_skip (len - i) i (by omega) (show i ≤ e by omega) (by omega) e4, show len - e = (len - e - 1) + 1 by omega, pC_g e3 e6, e5, show len - e - 1 = len - (e + 1) by omega]
theorem stC_DW {ch : Nat → Nat} {a i : Nat} {z z' : ST} (D : DW z) (h : stC ch a i z = some z') : DW z' := by
  unfold stC at h
  split at h
  · cases h
  · exact apl_DW D h
