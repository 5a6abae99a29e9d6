/-! inversions of the small machine's steps; references stay among the cells -/
theorem opt_some {α β : Type} {o : Option α} {f : α → Option β} {z : β} (h : opt o f = some z) : ∃ a, o = some a ∧ f a = some z := by
  cases o with
  | none => cases h
  | some a => exact ⟨a, rfl, h⟩
theorem cond_l {α : Type} {b : Bool} {x : Option α} {z : α} (h : cond b x none = some z) : b = true ∧ x = some z := by
  cases b with
  | false => cases h
  | true => exact ⟨rfl, h⟩
theorem cond_r {α : Type} {b : Bool} {x : Option α} {z : α} (h : cond b none x = some z) : b = false ∧ x = some z := by
  cases b with
  | true => cases h
  | false => exact ⟨rfl, h⟩
theorem nx_i {pc : Nat} {lv : List (Nat × AV)} {st : List AV} {h : HP} {z : SR} (hs : nx pc lv st h = some z) : z = .inl (pc, lv, st, h) := (Option.some.inj hs).symm
theorem lk_mem {α : Type} : ∀ {l : List (Nat × α)} {i : Nat} {x : α}, lk l i = some x → (i, x) ∈ l := by
  intro l
  induction l with
  | nil => intro i x h; cases h
  | cons q r ih =>
    intro i x h
    unfold lk at h
    cases hb : Nat.beq q.1 i with
    | true =>
      rw [hb] at h
      have e : q.1 = i := Nat.eq_of_beq_eq_true hb
      have e2 : q.2 = x := Option.some.inj h
      rw [← e, ← e2]
      exact List.mem_cons_self
    | false =>
      rw [hb] at h
      exact List.mem_cons_of_mem _ (ih h)
theorem ldI_i {lv : List (Nat × AV)} {k pc : Nat} {st : List AV} {h : HP} {z : SR} (hs : ldI lv k pc st h = some z) : ∃ x, (k, vI x) ∈ lv ∧ z = .inl (pc, lv, vI x :: st, h) := by
  unfold ldI at hs
  split at hs
  · rename_i x e
    exact ⟨x, lk_mem e, nx_i hs⟩
  · cases hs
theorem ldL_i {lv : List (Nat × AV)} {k pc : Nat} {st : List AV} {h : HP} {z : SR} (hs : ldL lv k pc st h = some z) : ∃ x, (k, vL x) ∈ lv ∧ z = .inl (pc, lv, vL x :: st, h) := by
  unfold ldL at hs
  split at hs
  · rename_i x e
    exact ⟨x, lk_mem e, nx_i hs⟩
  · cases hs
theorem ldR_i {lv : List (Nat × AV)} {k pc : Nat} {st : List AV} {h : HP} {z : SR} (hs : ldR lv k pc st h = some z) : ∃ x y, (k, vR x y) ∈ lv ∧ z = .inl (pc, lv, vR x y :: st, h) := by
  unfold ldR at hs
  split at hs
  · rename_i q e
    exact ⟨q.1, q.2, lk_mem e, nx_i hs⟩
  · cases hs
theorem blt_lt {a b : Nat} (h : Nat.blt a b = true) : a < b := Nat.le_of_ble_eq_true h
theorem stI_i {M : MR} {lv : List (Nat × AV)} {k pc : Nat} {st : List AV} {h : HP} {z : SR} (hs : stI M lv k pc st h = some z) : ∃ x r, st = vI x :: r ∧ k < mL M ∧ z = .inl (pc, lst lv k (vI x), r, h) := by
  unfold stI at hs
  split at hs
  · rename_i x r
    obtain ⟨h1, h2⟩ := cond_l hs
    exact ⟨x, r, rfl, blt_lt h1, nx_i h2⟩
  · cases hs
theorem stR_i {M : MR} {lv : List (Nat × AV)} {k pc : Nat} {st : List AV} {h : HP} {z : SR} (hs : stR M lv k pc st h = some z) : ∃ x y r, st = vR x y :: r ∧ k < mL M ∧ z = .inl (pc, lst lv k (vR x y), r, h) := by
  unfold stR at hs
  split at hs
  · rename_i q r
    obtain ⟨h1, h2⟩ := cond_l hs
    exact ⟨q.1, q.2, r, rfl, blt_lt h1, nx_i h2⟩
  · cases hs
theorem o2_i {f : Int32 → Int32 → Int32} {lv : List (Nat × AV)} {pc : Nat} {st : List AV} {h : HP} {z : SR} (hs : o2 f pc lv st h = some z) : ∃ x y r, st = vI y :: vI x :: r ∧ z = .inl (pc + 1, lv, vI (f x y) :: r, h) := by
  unfold o2 at hs
  split at hs
  · rename_i y x r
    exact ⟨x, y, r, rfl, nx_i hs⟩
  · cases hs
theorem o1_i {f : Int32 → AV} {lv : List (Nat × AV)} {pc : Nat} {st : List AV} {h : HP} {z : SR} (hs : o1 f pc lv st h = some z) : ∃ x r, st = vI x :: r ∧ z = .inl (pc + 1, lv, f x :: r, h) := by
  unfold o1 at hs
  split at hs
  · rename_i x r
    exact ⟨x, r, rfl, nx_i hs⟩
  · cases hs
theorem inb_vp {i : Int32} {n : Nat} (h : inb i n = true) : vp_in i n := by
  intro q
  unfold inb at h
  rcases q with q | q <;> simp [q] at h
theorem aLd_i {t : Nat} {lv : List (Nat × AV)} {pc : Nat} {st : List AV} {h : HP} {z : SR} (hs : aLd t pc lv st h = some z) : ∃ i g j r n, st = vI i :: vR g j :: r ∧ aC j = some (t, n) ∧ vp_in i n ∧ z = .inl (pc + 1, lv, vI (h g j i.toNatClampNeg) :: r, h) := by
  unfold aLd at hs
  split at hs
  · rename_i i g j r
    split at hs
    · rename_i t' n e
      obtain ⟨h1, h2⟩ := cond_l hs
      rw [Bool.and_eq_true] at h1
      have e1 : t = t' := Nat.eq_of_beq_eq_true h1.1
      exact ⟨i, g, j, r, n, rfl, by rw [e, e1], inb_vp h1.2, nx_i h2⟩
    · cases hs
  · cases hs
theorem aSt_i {t : Nat} {f : Int32 → Int32} {lv : List (Nat × AV)} {pc : Nat} {st : List AV} {h : HP} {z : SR} (hs : aSt t f pc lv st h = some z) : ∃ x i g j r n, st = vI x :: vI i :: vR g j :: r ∧ aC j = some (t, n) ∧ vp_in i n ∧ z = .inl (pc + 1, lv, r, hset h g j i.toNatClampNeg (f x)) := by
  unfold aSt at hs
  split at hs
  · rename_i x i g j r
    split at hs
    · rename_i t' n e
      obtain ⟨h1, h2⟩ := cond_l hs
      rw [Bool.and_eq_true] at h1
      have e1 : t = t' := Nat.eq_of_beq_eq_true h1.1
      exact ⟨x, i, g, j, r, n, rfl, by rw [e, e1], inb_vp h1.2, nx_i h2⟩
    · cases hs
  · cases hs
theorem getF_i {M : MR} {idx : Nat} {lv : List (Nat × AV)} {pc : Nat} {st : List AV} {h : HP} {z : SR} (hs : getF M idx pc lv st h = some z) : ∃ g j r ci k w nf, st = vR g j :: r ∧ (idx, ci, k, w) ∈ fldT (mK M) ∧ oC j = some (ci, nf) ∧ k < nf ∧ z = .inl (pc + 3, lv, fA h g j k :: r, h) := by
  unfold getF at hs
  split at hs
  · rename_i g j r
    obtain ⟨f, h1, hs⟩ := opt_some hs
    obtain ⟨o, h2, hs⟩ := opt_some hs
    obtain ⟨h3, h4⟩ := cond_l hs
    rw [Bool.and_eq_true] at h3
    have e1 : f.1 = o.1 := Nat.eq_of_beq_eq_true h3.1
    exact ⟨g, j, r, f.1, f.2.1, f.2.2, o.2, rfl, lk_mem h1, by rw [e1]; exact h2, blt_lt h3.2, nx_i h4⟩
  · cases hs
theorem putF_i {M : MR} {idx : Nat} {lv : List (Nat × AV)} {pc : Nat} {st : List AV} {h : HP} {z : SR} (hs : putF M idx pc lv st h = some z) : ∃ x g j r ci k w nf, st = vI x :: vR g j :: r ∧ (idx, ci, k, w) ∈ fldT (mK M) ∧ oC j = some (ci, nf) ∧ k < nf ∧ tg g j k = none ∧ (isZ j k = true → zero1 x = true) ∧ z = .inl (pc + 3, lv, r, hset h g j k x) := by
  unfold putF at hs
  split at hs
  · rename_i x g j r
    obtain ⟨f, h1, hs⟩ := opt_some hs
    obtain ⟨o, h2, hs⟩ := opt_some hs
    obtain ⟨h3, h4⟩ := cond_l hs
    simp only [Bool.and_eq_true, Option.isNone_iff_eq_none, Bool.or_eq_true, Bool.not_eq_true'] at h3
    obtain ⟨⟨⟨h5, h6⟩, h7⟩, h8⟩ := h3
    have e1 : f.1 = o.1 := Nat.eq_of_beq_eq_true h5
    exact ⟨x, g, j, r, f.1, f.2.1, f.2.2, o.2, rfl, lk_mem h1, by rw [e1]; exact h2, blt_lt h6, h7, fun q => h8.elim (fun y => by rw [q] at y; cases y) id, nx_i h4⟩
  · cases hs
theorem acp_i {d : Nat} {lv : List (Nat × AV)} {pc : Nat} {st : List AV} {h : HP} {z : SR} (hs : acp d pc lv st h = some z) : ∃ n g1 j1 g0 j0 n0 n1, st = [vI n, vI 0, vR g1 j1, vI 0, vR g0 j0] ∧ aC j0 = some (0, n0) ∧ aC j1 = some (0, n1) ∧ 0 < d ∧ ¬ n < 0 ∧ n.toNatClampNeg ≤ n0 ∧ n.toNatClampNeg ≤ n1 ∧ z = .inl (pc + 3, lv, [], hrow h g1 j1 (va_cpy (h g0 j0) (h g1 j1) 0 0 n.toNatClampNeg)) := by
  unfold acp at hs
  split at hs
  · rename_i n dp g1 j1 sp g0 j0
    obtain ⟨a0, h1, hs⟩ := opt_some hs
    obtain ⟨a1, h2, hs⟩ := opt_some hs
    obtain ⟨h3, h4⟩ := cond_l hs
    simp only [Bool.and_eq_true, Bool.not_eq_true', decide_eq_false_iff_not] at h3
    obtain ⟨⟨⟨⟨⟨⟨⟨q1, q2⟩, q3⟩, q4⟩, q5⟩, q6⟩, q7⟩, q8⟩ := h3
    have e1 : a0.1 = 0 := Nat.eq_of_beq_eq_true q2
    have e2 : a1.1 = 0 := Nat.eq_of_beq_eq_true q3
    have e3 : sp = 0 := eq_of_beq q4
    have e4 : dp = 0 := eq_of_beq q5
    subst e3; subst e4
    exact ⟨n, g1, j1, g0, j0, a0.2, a1.2, rfl, by rw [← e1]; exact h1, by rw [← e2]; exact h2, blt_lt q1, q6, Nat.le_of_ble_eq_true q7, Nat.le_of_ble_eq_true q8, nx_i h4⟩
  · cases hs
theorem inv_i {M : MR} {idx : Nat} {st : List AV} {z : SR} (hs : inv M idx st = some z) : ∃ M' w g j as r nf, (idx, M', w) ∈ calT (mK M) ∧ mS M' = false ∧ st = as.reverse ++ vR g j :: r ∧ as.length = mA M' ∧ oC j = some (mK M', nf) ∧ r.length ≤ 4 ∧ 1 + wds as ≤ mL M' ∧ z = .inr (.inr (M', vR g j :: as, r)) := by
  unfold inv at hs
  obtain ⟨q, h1, hs⟩ := opt_some hs
  obtain ⟨h2, hs⟩ := cond_r hs
  split at hs
  · rename_i g j r e
    obtain ⟨o, h3, hs⟩ := opt_some hs
    obtain ⟨h4, h5⟩ := cond_l hs
    simp only [Bool.and_eq_true] at h4
    obtain ⟨⟨⟨q1, q2⟩, q3⟩, q4⟩ := h4
    have e1 : o.1 = mK q.1 := Nat.eq_of_beq_eq_true q1
    refine ⟨q.1, q.2, g, j, (st.take (mA q.1)).reverse, r, o.2, lk_mem h1, h2, ?_, ?_, by rw [← e1]; exact h3, Nat.le_of_ble_eq_true q2, Nat.le_of_ble_eq_true q3, (Option.some.inj h5).symm⟩
    · rw [List.reverse_reverse, ← e, List.take_append_drop]
    · rw [List.length_reverse, List.length_take, Nat.min_eq_left (Nat.le_of_ble_eq_true q4)]
  · cases hs
theorem ins_i {M : MR} {idx : Nat} {st : List AV} {z : SR} (hs : ins M idx st = some z) : ∃ M' w as r, (idx, M', w) ∈ calT (mK M) ∧ mS M' = true ∧ st = as.reverse ++ r ∧ as.length = mA M' ∧ r.length ≤ 4 ∧ wds as ≤ mL M' ∧ z = .inr (.inr (M', as, r)) := by
  unfold ins at hs
  obtain ⟨q, h1, hs⟩ := opt_some hs
  obtain ⟨h4, h5⟩ := cond_l hs
  simp only [Bool.and_eq_true] at h4
  obtain ⟨⟨⟨q1, q2⟩, q3⟩, q4⟩ := h4
  refine ⟨q.1, q.2, (st.take (mA q.1)).reverse, st.drop (mA q.1), lk_mem h1, q1, ?_, ?_, Nat.le_of_ble_eq_true q3, Nat.le_of_ble_eq_true q4, (Option.some.inj h5).symm⟩
  · rw [List.reverse_reverse, List.take_append_drop]
  · rw [List.length_reverse, List.length_take, Nat.min_eq_left (Nat.le_of_ble_eq_true q2)]
theorem jmp_i {c : Bool} {pc : Nat} {off : Int} {lv : List (Nat × AV)} {st : List AV} {h : HP} {z : SR} (hs : jmp c pc off lv st h = some z) : ∃ t : Nat, (pc : Int) + off = (t : Int) ∧ z = .inl (cond c t (pc + 3), lv, st, h) := by
  unfold jmp at hs
  split at hs
  · rename_i t e
    refine ⟨t, ?_, (Option.some.inj hs).symm⟩
    unfold tgo at e
    split at e
    · rename_i u f
      cases e
      exact f
    · cases e
  · cases hs
theorem tgo_i {pc t : Nat} {off : Int} (e : tgo pc off = some t) : (pc : Int) + off = (t : Int) := by
  unfold tgo at e
  split at e
  · rename_i u f
    cases e
    exact f
  · cases e
theorem mth_i {d op : Nat} {lv : List (Nat × AV)} {pc : Nat} {st : List AV} {h : HP} {z : SR} (hs : mth d op pc lv st h = some z) : 0 < d ∧ ∃ r : List AV, r.length ≤ 4 ∧ ((∃ x y, op = 1 ∧ st = vI y :: vI x :: r ∧ z = .inl (pc + 3, lv, vI (if x < y then y else x) :: r, h)) ∨ (∃ x y, op = 2 ∧ st = vI y :: vI x :: r ∧ z = .inl (pc + 3, lv, vI (if y < x then y else x) :: r, h)) ∨ (∃ x, op = 3 ∧ st = vI x :: r ∧ z = .inl (pc + 3, lv, vI (if 0 ≤ x then x else 0 - x) :: r, h))) := by
  unfold mth at hs
  split at hs
  · rename_i y x r
    obtain ⟨h1, h2⟩ := cond_l hs
    rw [Bool.and_eq_true] at h1
    exact ⟨blt_lt h1.1, r, Nat.le_of_ble_eq_true h1.2, Or.inl ⟨x, y, rfl, rfl, nx_i h2⟩⟩
  · rename_i y x r
    obtain ⟨h1, h2⟩ := cond_l hs
    rw [Bool.and_eq_true] at h1
    exact ⟨blt_lt h1.1, r, Nat.le_of_ble_eq_true h1.2, Or.inr (Or.inl ⟨x, y, rfl, rfl, nx_i h2⟩)⟩
  · rename_i x r
    obtain ⟨h1, h2⟩ := cond_l hs
    rw [Bool.and_eq_true] at h1
    exact ⟨blt_lt h1.1, r, Nat.le_of_ble_eq_true h1.2, Or.inr (Or.inr ⟨x, rfl, rfl, nx_i h2⟩)⟩
  · cases hs
