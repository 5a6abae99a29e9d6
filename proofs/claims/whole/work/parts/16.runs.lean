/-! RUNS of the small machine, goal first -/
theorem ex_up : ∀ (n d : Nat) (M : MR) (c : CF) (r : Option AV × HP), ex n d M c = some r → ex (n + 1) d M c = some r := by
  intro n
  induction n with
  | zero => intro d M c r h; cases h
  | succ n ih =>
    intro d M c r h
    unfold ex at h ⊢
    cases hs : stp d M c with
    | none => rw [hs] at h; cases h
    | some z =>
      rw [hs] at h
      rcases z with c' | r' | ⟨M', as, rest⟩
      · exact ih d M c' r h
      · exact h
      · cases d with
        | zero => cases h
        | succ d' =>
          dsimp only at h ⊢
          cases hx : ex n d' M' (0, ent 0 as, [], c.2.2.2) with
          | none => rw [hx] at h; cases h
          | some rr =>
            rw [hx] at h
            rw [ih d' M' _ rr hx]
            exact ih _ _ _ _ h
theorem ex_mono {n m d : Nat} {M : MR} {c : CF} {r : Option AV × HP} (h : ex n d M c = some r) (hm : n ≤ m) : ex m d M c = some r := by
  induction hm with
  | refl => exact h
  | step _ ih => exact ex_up _ _ _ _ _ ih
def R (d : Nat) (M : MR) (c : CF) (Q : Option AV → HP → Prop) : Prop := ∃ (n : Nat) (r : Option AV × HP), ex n d M c = some r ∧ Q r.1 r.2
abbrev MT (d : Nat) (M : MR) (as : List AV) (h : HP) (Q : Option AV → HP → Prop) : Prop := R d M (0, ent 0 as, [], h) Q
theorem R.mono {d : Nat} {M : MR} {c : CF} {Q Q' : Option AV → HP → Prop} (k : R d M c Q) (hq : ∀ r h, Q r h → Q' r h) : R d M c Q' := by
  obtain ⟨n, r, h1, h2⟩ := k
  exact ⟨n, r, h1, hq _ _ h2⟩
def stps : Nat → Nat → MR → CF → Option CF
  | 0, _, _, c => some c
  | k + 1, d, M, c => match stp d M c with
    | some (.inl c') => stps k d M c'
    | _ => none
theorem R_next {d : Nat} {M : MR} {c c' : CF} {Q : Option AV → HP → Prop} (h : stp d M c = some (.inl c')) (k : R d M c' Q) : R d M c Q := by
  obtain ⟨n, r, h1, h2⟩ := k
  exact ⟨n + 1, r, by unfold ex; rw [h]; exact h1, h2⟩
theorem R_s : ∀ (k : Nat) {d : Nat} {M : MR} {c : CF} (c' : CF) {Q : Option AV → HP → Prop}, stps k d M c = some c' → R d M c' Q → R d M c Q := by
  intro k
  induction k with
  | zero =>
    intro d M c c' Q h hR
    cases h
    exact hR
  | succ k ih =>
    intro d M c c' Q h hR
    unfold stps at h
    split at h
    · rename_i c2 e
      exact R_next e (ih c' h hR)
    · cases h
theorem R_ret {d : Nat} {M : MR} {c : CF} {Q : Option AV → HP → Prop} (r : Option AV) (h' : HP) (h : stp d M c = some (.inr (.inl (r, h')))) (k : Q r h') : R d M c Q := ⟨1, (r, h'), by unfold ex; rw [h], k⟩
theorem R_call {d : Nat} {M : MR} {pc : Nat} {lv : List (Nat × AV)} {st : List AV} {h : HP} {Q Q' : Option AV → HP → Prop} (M' : MR) (as rest : List AV) (hs : stp (d + 1) M (pc, lv, st, h) = some (.inr (.inr (M', as, rest)))) (hc : MT d M' as h Q')
    (k : ∀ r h', Q' r h' → R (d + 1) M (pc + 3, lv, r.toList ++ rest, h') Q) : R (d + 1) M (pc, lv, st, h) Q := by
  obtain ⟨n, ⟨r, h'⟩, h1, h2⟩ := hc
  obtain ⟨n2, r2, h3, h4⟩ := k r h' h2
  refine ⟨max n n2 + 1, r2, ?_, h4⟩
  unfold ex
  rw [hs]
  dsimp only
  rw [ex_mono h1 (Nat.le_max_left n n2)]
  exact ex_mono h3 (Nat.le_max_right n n2)
/-- a call whose answer is an int that is known -/
theorem R_calli {d : Nat} {M : MR} {pc : Nat} {lv : List (Nat × AV)} {st : List AV} {h : HP} {Q : Option AV → HP → Prop} (M' : MR) (as rest : List AV) (x : Int32) (h1 : HP) (hs : stp (d + 1) M (pc, lv, st, h) = some (.inr (.inr (M', as, rest)))) (hc : MT d M' as h (fun r h' => r = some (vI x) ∧ h' = h1))
    (k : R (d + 1) M (pc + 3, lv, vI x :: rest, h1) Q) : R (d + 1) M (pc, lv, st, h) Q :=
  R_call M' as rest hs hc (fun r h' e => by obtain ⟨rfl, rfl⟩ := e; exact k)
theorem R_callv {d : Nat} {M : MR} {pc : Nat} {lv : List (Nat × AV)} {st : List AV} {h : HP} {Q : Option AV → HP → Prop} (M' : MR) (as rest : List AV) (h1 : HP) (hs : stp (d + 1) M (pc, lv, st, h) = some (.inr (.inr (M', as, rest)))) (hc : MT d M' as h (fun r h' => r = none ∧ h' = h1))
    (k : R (d + 1) M (pc + 3, lv, rest, h1) Q) : R (d + 1) M (pc, lv, st, h) Q :=
  R_call M' as rest hs hc (fun r h' e => by obtain ⟨rfl, rfl⟩ := e; exact k)
theorem R_br {d : Nat} {M : MR} {b : Bool} {t f : Nat} {lv : List (Nat × AV)} {st : List AV} {h : HP} {Q : Option AV → HP → Prop} (kt : b = true → R d M (t, lv, st, h) Q) (kf : b = false → R d M (f, lv, st, h) Q) : R d M (cond b t f, lv, st, h) Q := by
  cases b with
  | true => exact kt rfl
  | false => exact kf rfl
/-- a branch on a proposition that the test decides -/
theorem R_bp {d : Nat} {M : MR} {b : Bool} (P : Prop) {t f : Nat} {lv : List (Nat × AV)} {st : List AV} {h : HP} {Q : Option AV → HP → Prop} (hb : b = true ↔ P) (kt : P → R d M (t, lv, st, h) Q) (kf : ¬ P → R d M (f, lv, st, h) Q) : R d M (cond b t f, lv, st, h) Q := by
  cases b with
  | true => exact kt (hb.mp rfl)
  | false => exact kf (fun q => by cases hb.mpr q)
theorem R_bt {d : Nat} {M : MR} {b : Bool} {t f : Nat} {lv : List (Nat × AV)} {st : List AV} {h : HP} {Q : Option AV → HP → Prop} (hb : b = true) (kt : R d M (t, lv, st, h) Q) : R d M (cond b t f, lv, st, h) Q := by rw [hb]; exact kt
theorem R_bf {d : Nat} {M : MR} {b : Bool} {t f : Nat} {lv : List (Nat × AV)} {st : List AV} {h : HP} {Q : Option AV → HP → Prop} (hb : b = false) (kf : R d M (f, lv, st, h) Q) : R d M (cond b t f, lv, st, h) Q := by rw [hb]; exact kf
theorem R_top {d : Nat} {M : MR} {pc : Nat} {lv : List (Nat × AV)} {st : List AV} {h : HP} {Q : Option AV → HP → Prop} {x : Int32} (y : Int32) (e : x = y) (k : R d M (pc, lv, vI y :: st, h) Q) : R d M (pc, lv, vI x :: st, h) Q := by rw [e]; exact k
theorem R_lv {d : Nat} {M : MR} {pc : Nat} {lv lv' : List (Nat × AV)} {st : List AV} {h : HP} {Q : Option AV → HP → Prop} (e : lv = lv') (k : R d M (pc, lv', st, h) Q) : R d M (pc, lv, st, h) Q := by rw [e]; exact k
theorem R_hp {d : Nat} {M : MR} {pc : Nat} {lv : List (Nat × AV)} {st : List AV} {h : HP} {Q : Option AV → HP → Prop} (k : ∀ h', h' = h → R d M (pc, lv, st, h') Q) : R d M (pc, lv, st, h) Q := k h rfl
/-! numbers -/
theorem nI_cl {n : Nat} (h : n < 2147483648) : (nI n).toNatClampNeg = n := nI_clamp h
theorem inb_n {x n : Nat} (h : x < n) (hn : n < 2147483648) : inb (nI x) n = true := by
  unfold inb
  have h1 : ¬ nI x < 0 := nI_pos (by omega)
  have h2 : ¬ n ≤ (nI x).toNatClampNeg := by rw [nI_cl (by omega)]; omega
  simp [h1, h2]
theorem i2_lt {a b : Nat} (ha : a < 2147483648) (hb : b < 2147483648) : if2 .lt (nI a) (nI b) = true ↔ a < b := by
  unfold if2; rw [decide_eq_true_eq]; exact nI_ltI ha hb
theorem i2_ge {a b : Nat} (ha : a < 2147483648) (hb : b < 2147483648) : if2 .ge (nI a) (nI b) = true ↔ b ≤ a := by
  unfold if2; rw [decide_eq_true_eq]; exact nI_leI hb ha
theorem i2_gt {a b : Nat} (ha : a < 2147483648) (hb : b < 2147483648) : if2 .gt (nI a) (nI b) = true ↔ b < a := by
  unfold if2; rw [decide_eq_true_eq]; exact nI_ltI hb ha
theorem i2_le {a b : Nat} (ha : a < 2147483648) (hb : b < 2147483648) : if2 .le (nI a) (nI b) = true ↔ a ≤ b := by
  unfold if2; rw [decide_eq_true_eq]; exact nI_leI ha hb
theorem i2_eq {a b : Nat} (ha : a < 2147483648) (hb : b < 2147483648) : if2 .eq (nI a) (nI b) = true ↔ a = b := by
  unfold if2; rw [decide_eq_true_eq]; exact nI_eq ha hb
theorem i2_ne {a b : Nat} (ha : a < 2147483648) (hb : b < 2147483648) : if2 .ne (nI a) (nI b) = true ↔ ¬ a = b := by
  unfold if2; rw [decide_eq_true_eq, nI_eq ha hb]
theorem x2_eq {x y : Int32} : if2 .eq x y = true ↔ x = y := by unfold if2; rw [decide_eq_true_eq]
theorem x2_ne {x y : Int32} : if2 .ne x y = true ↔ ¬ x = y := by unfold if2; rw [decide_eq_true_eq]
theorem x2_lt {x y : Int32} : if2 .lt x y = true ↔ x < y := by unfold if2; rw [decide_eq_true_eq]
theorem x2_ge {x y : Int32} : if2 .ge x y = true ↔ y ≤ x := by unfold if2; rw [decide_eq_true_eq]
theorem x2_gt {x y : Int32} : if2 .gt x y = true ↔ y < x := by unfold if2; rw [decide_eq_true_eq]
theorem x2_le {x y : Int32} : if2 .le x y = true ↔ x ≤ y := by unfold if2; rw [decide_eq_true_eq]
theorem x0_eq {x : Int32} : if0 .eq x = true ↔ x = 0 := by unfold if0; rw [decide_eq_true_eq]
theorem x0_ne {x : Int32} : if0 .ne x = true ↔ ¬ x = 0 := by unfold if0; rw [decide_eq_true_eq]
theorem x0_lt {x : Int32} : if0 .lt x = true ↔ x < 0 := by unfold if0; rw [decide_eq_true_eq]
theorem x0_ge {x : Int32} : if0 .ge x = true ↔ 0 ≤ x := by unfold if0; rw [decide_eq_true_eq]
theorem x0_gt {x : Int32} : if0 .gt x = true ↔ 0 < x := by unfold if0; rw [decide_eq_true_eq]
theorem x0_le {x : Int32} : if0 .le x = true ↔ x ≤ 0 := by unfold if0; rw [decide_eq_true_eq]
theorem hs_same {h : HP} {g j k : Nat} {x : Int32} : hset h g j k x g j = upd (h g j) k x := hrow_eq
theorem hs_ne {h : HP} {g j k g' j' : Nat} {x : Int32} (e : ¬ (g' = g ∧ j' = j)) : hset h g j k x g' j' = h g' j' := by
  unfold hset hrow
  rw [if_neg e]
theorem hr_ne {h : HP} {g j g' j' : Nat} {f : Nat → Int32} (e : ¬ (g' = g ∧ j' = j)) : hrow h g j f g' j' = h g' j' := by
  unfold hrow
  rw [if_neg e]
theorem up_same {f : Nat → Int32} {k : Nat} {x : Int32} : upd f k x k = x := by simp [upd]
theorem up_ne {f : Nat → Int32} {k j : Nat} {x : Int32} (e : ¬ j = k) : upd f k x j = f j := by simp [upd, e]
/-! array loads and stores, arithmetic, with indices that are written nI -/
theorem R_ld {d : Nat} {M : MR} {pc : Nat} {lv : List (Nat × AV)} {st : List AV} {h : HP} {Q : Option AV → HP → Prop} (g j x n : Nat) (hs : lk (mI M) pc = some (.iaload, 1)) (ha : aC j = some (0, n)) (hx : x < n) (hn : n < 2147483648) (k : R d M (pc + 1, lv, vI (h g j x) :: st, h) Q) : R d M (pc, lv, vI (nI x) :: vR g j :: st, h) Q := by
  refine R_next (c' := (pc + 1, lv, vI (h g j x) :: st, h)) ?_ k
  unfold stp opt
  rw [hs]
  simp only [sti, aLd, ha, inb_n hx hn, nI_cl (Nat.lt_trans hx hn)]
  rfl
theorem R_ldc {d : Nat} {M : MR} {pc : Nat} {lv : List (Nat × AV)} {st : List AV} {h : HP} {Q : Option AV → HP → Prop} (g j x n : Nat) (hs : lk (mI M) pc = some (.caload, 1)) (ha : aC j = some (1, n)) (hx : x < n) (hn : n < 2147483648) (k : R d M (pc + 1, lv, vI (h g j x) :: st, h) Q) : R d M (pc, lv, vI (nI x) :: vR g j :: st, h) Q := by
  refine R_next (c' := (pc + 1, lv, vI (h g j x) :: st, h)) ?_ k
  unfold stp opt
  rw [hs]
  simp only [sti, aLd, ha, inb_n hx hn, nI_cl (Nat.lt_trans hx hn)]
  rfl
theorem R_ldb {d : Nat} {M : MR} {pc : Nat} {lv : List (Nat × AV)} {st : List AV} {h : HP} {Q : Option AV → HP → Prop} (g j x n : Nat) (hs : lk (mI M) pc = some (.baload, 1)) (ha : aC j = some (2, n)) (hx : x < n) (hn : n < 2147483648) (k : R d M (pc + 1, lv, vI (h g j x) :: st, h) Q) : R d M (pc, lv, vI (nI x) :: vR g j :: st, h) Q := by
  refine R_next (c' := (pc + 1, lv, vI (h g j x) :: st, h)) ?_ k
  unfold stp opt
  rw [hs]
  simp only [sti, aLd, ha, inb_n hx hn, nI_cl (Nat.lt_trans hx hn)]
  rfl
theorem R_ldq {d : Nat} {M : MR} {pc : Nat} {lv : List (Nat × AV)} {st : List AV} {h : HP} {Q : Option AV → HP → Prop} (g x : Nat) (hs : lk (mI M) pc = some (.aaload, 1)) (hx : x < 5) (k : R d M (pc + 1, lv, vR (x + 2) 0 :: st, h) Q) : R d M (pc, lv, vI (nI x) :: vR g 14 :: st, h) Q := by
  refine R_next (c' := (pc + 1, lv, vR (x + 2) 0 :: st, h)) ?_ k
  unfold stp opt
  rw [hs]
  simp only [sti, inb_n hx (by decide), nI_cl (Nat.lt_trans hx (by decide : 5 < 2147483648))]
  rfl
theorem R_st {d : Nat} {M : MR} {pc : Nat} {lv : List (Nat × AV)} {st : List AV} {h : HP} {Q : Option AV → HP → Prop} (g j x n : Nat) (v : Int32) (hs : lk (mI M) pc = some (.iastore, 1)) (ha : aC j = some (0, n)) (hx : x < n) (hn : n < 2147483648) (k : ∀ h', h' = hset h g j x v → R d M (pc + 1, lv, st, h') Q) : R d M (pc, lv, vI v :: vI (nI x) :: vR g j :: st, h) Q := by
  refine R_next (c' := (pc + 1, lv, st, hset h g j x v)) ?_ (k _ rfl)
  unfold stp opt
  rw [hs]
  simp only [sti, aSt, ha, inb_n hx hn, nI_cl (Nat.lt_trans hx hn)]
  rfl
theorem R_stc {d : Nat} {M : MR} {pc : Nat} {lv : List (Nat × AV)} {st : List AV} {h : HP} {Q : Option AV → HP → Prop} (g j x n : Nat) (v : Int32) (hs : lk (mI M) pc = some (.castore, 1)) (ha : aC j = some (1, n)) (hx : x < n) (hn : n < 2147483648) (k : ∀ h', h' = hset h g j x (vp_nar .char v) → R d M (pc + 1, lv, st, h') Q) : R d M (pc, lv, vI v :: vI (nI x) :: vR g j :: st, h) Q := by
  refine R_next (c' := (pc + 1, lv, st, hset h g j x (vp_nar .char v))) ?_ (k _ rfl)
  unfold stp opt
  rw [hs]
  simp only [sti, aSt, ha, inb_n hx hn, nI_cl (Nat.lt_trans hx hn)]
  rfl
theorem R_stb {d : Nat} {M : MR} {pc : Nat} {lv : List (Nat × AV)} {st : List AV} {h : HP} {Q : Option AV → HP → Prop} (g j x n : Nat) (v : Int32) (hs : lk (mI M) pc = some (.bastore, 1)) (ha : aC j = some (2, n)) (hx : x < n) (hn : n < 2147483648) (k : ∀ h', h' = hset h g j x (vp_nar .boolean v) → R d M (pc + 1, lv, st, h') Q) : R d M (pc, lv, vI v :: vI (nI x) :: vR g j :: st, h) Q := by
  refine R_next (c' := (pc + 1, lv, st, hset h g j x (vp_nar .boolean v))) ?_ (k _ rfl)
  unfold stp opt
  rw [hs]
  simp only [sti, aSt, ha, inb_n hx hn, nI_cl (Nat.lt_trans hx hn)]
  rfl
theorem R_add {d : Nat} {M : MR} {pc : Nat} {lv : List (Nat × AV)} {st : List AV} {h : HP} {Q : Option AV → HP → Prop} (a b : Nat) (hs : lk (mI M) pc = some (.iadd, 1)) (k : R d M (pc + 1, lv, vI (nI (a + b)) :: st, h) Q) : R d M (pc, lv, vI (nI b) :: vI (nI a) :: st, h) Q := by
  refine R_next (c' := (pc + 1, lv, vI (nI (a + b)) :: st, h)) ?_ k
  unfold stp opt
  rw [hs]
  simp only [sti, o2, nx, nI_add]
theorem R_mul {d : Nat} {M : MR} {pc : Nat} {lv : List (Nat × AV)} {st : List AV} {h : HP} {Q : Option AV → HP → Prop} (a b : Nat) (hs : lk (mI M) pc = some (.imul, 1)) (k : R d M (pc + 1, lv, vI (nI (a * b)) :: st, h) Q) : R d M (pc, lv, vI (nI b) :: vI (nI a) :: st, h) Q := by
  refine R_next (c' := (pc + 1, lv, vI (nI (a * b)) :: st, h)) ?_ k
  unfold stp opt
  rw [hs]
  simp only [sti, o2, nx, pk_mul]
theorem R_sub {d : Nat} {M : MR} {pc : Nat} {lv : List (Nat × AV)} {st : List AV} {h : HP} {Q : Option AV → HP → Prop} (a b : Nat) (hs : lk (mI M) pc = some (.isub, 1)) (hab : b ≤ a) (k : R d M (pc + 1, lv, vI (nI (a - b)) :: st, h) Q) : R d M (pc, lv, vI (nI b) :: vI (nI a) :: st, h) Q := by
  refine R_next (c' := (pc + 1, lv, vI (nI (a - b)) :: st, h)) ?_ k
  unfold stp opt
  rw [hs]
  simp only [sti, o2, nx, pk_sub hab]
theorem R_gi {d : Nat} {M : MR} {pc : Nat} {lv : List (Nat × AV)} {st : List AV} {h : HP} {Q : Option AV → HP → Prop} {x : AV} (k : R d M (pc, lv, x :: st, h) Q) : R d M (pc, lv, x :: st, h) Q := k
