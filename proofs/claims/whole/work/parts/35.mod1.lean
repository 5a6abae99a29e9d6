/-! THE REFERENCE: its row is the concert -/
def MS (c : Nat) (h : HP) (s : Nat → Int32) : Prop := ∀ i, i < 125 → h 8 c i = s i
theorem w_le {a b : Int32} : a.toInt64 ≤ b.toInt64 ↔ a ≤ b := by
  rw [Int64.le_iff_toInt_le, Int32.le_iff_toInt_le, Int32.toInt_toInt64, Int32.toInt_toInt64]
theorem w_in {x a b : Int32} : (decide (a.toInt64 ≤ x.toInt64) && decide (x.toInt64 ≤ b.toInt64)) = (decide (a ≤ x) && decide (x ≤ b)) := by simp only [w_le]
theorem inb_in {x : Int32} {n : Nat} (hn : n ≤ 160) : (decide ((0 : Int64) ≤ x.toInt64) && decide (x.toInt64 ≤ (nI n - nI 1).toInt64)) = inb x n := by
  rw [show (0 : Int64) = (0 : Int32).toInt64 by decide, w_in]
  have e : (nI n - nI 1).toInt = (n : Int) - 1 := by
    have h : ∀ n, n < 161 → (nI n - nI 1).toInt = (n : Int) - 1 := by decide +kernel
    exact h n (by omega)
  have h0 : (0 : Int32).toInt = 0 := by decide
  by_cases h1 : x < 0
  · rw [inb_lo h1, decide_eq_false (fun q => by have := Int32.lt_iff_toInt_lt.mp h1; have := Int32.le_iff_toInt_le.mp q; omega)]; rfl
  · by_cases h2 : nI n ≤ x
    · rw [inb_hi (by omega) h2, decide_eq_false (p := x ≤ _) (fun q => by have h3 := Int32.le_iff_toInt_le.mp h2; have := Int32.le_iff_toInt_le.mp q; rw [nI_toInt (by omega)] at h3; omega)]; simp
    · rw [inb_mid (by omega) h1 h2, decide_eq_true, decide_eq_true]; · rfl
      · apply Int32.le_iff_toInt_le.mpr
        have h3 : ¬ (nI n).toInt ≤ x.toInt := fun q => h2 (Int32.le_iff_toInt_le.mpr q)
        rw [nI_toInt (by omega)] at h3
        omega
      · apply Int32.le_iff_toInt_le.mpr
        have h3 : ¬ x.toInt < (0 : Int32).toInt := fun q => h1 (Int32.lt_iff_toInt_lt.mpr q)
        omega
theorem lg_lt {x y : Int64} : if0 .lt (lg_cmp x y) = true ↔ ¬ y ≤ x := by
  rw [x0_lt, lg_cmp_lt, Int64.lt_iff_toInt_lt, Int64.le_iff_toInt_le]; omega
theorem lg_gt {x y : Int64} : if0 .gt (lg_cmp x y) = true ↔ ¬ x ≤ y := by
  rw [x0_gt, lg_cmp_gt, Int64.lt_iff_toInt_lt, Int64.le_iff_toInt_le]; omega
theorem R_retb {d : Nat} {M : MR} {pc : Nat} {lv : List (Nat × AV)} {h : HP} {Q : Option AV → HP → Prop} (b : Bool) (hs : lk (mI M) pc = some (.ireturn, 1)) (hr : mR M = some .boolean) (k : Q (some (vI (bI b))) h) : R d M (pc, lv, [vI (bI b)], h) Q := by
  refine R_ret (some (vI (bI b))) h ?_ k
  have hz : zero1 (bI b) = true := by cases b <;> decide
  unfold stp opt
  rw [hs]
  simp only [sti, hr, hz]
  rfl
set_option maxRecDepth 100000 in
theorem t_M_in {d : Nat} {h : HP} {x a b : Int64} : MT d mM_in [vL x, vL a, vL b] h (fun r h' => r = some (vI (bI (decide (a ≤ x) && decide (x ≤ b)))) ∧ h' = h) := by
  refine R_s 4 (cond (if0 .lt (lg_cmp x a)) 17 6, [(0, vL x), (2, vL a), (4, vL b)], [], h) rfl ?_
  refine R_bp (¬ a ≤ x) lg_lt (fun c1 => ?_) (fun c1 => ?_)
  · refine R_s 1 (18, [(0, vL x), (2, vL a), (4, vL b)], [vI (nI 0)], h) rfl ?_
    exact R_ret (some (vI (nI 0))) h rfl ⟨by rw [decide_eq_false c1]; rfl, rfl⟩
  · refine R_s 4 (cond (if0 .gt (lg_cmp x b)) 17 13, [(0, vL x), (2, vL a), (4, vL b)], [], h) rfl ?_
    refine R_bp (¬ x ≤ b) lg_gt (fun c2 => ?_) (fun c2 => ?_)
    · refine R_s 1 (18, [(0, vL x), (2, vL a), (4, vL b)], [vI (nI 0)], h) rfl ?_
      exact R_ret (some (vI (nI 0))) h rfl ⟨by rw [decide_eq_false (p := x ≤ b) c2, Bool.and_false]; rfl, rfl⟩
    · refine R_s 2 (18, [(0, vL x), (2, vL a), (4, vL b)], [vI (nI 1)], h) rfl ?_
      exact R_ret (some (vI (nI 1))) h rfl ⟨by rw [decide_eq_true (Classical.not_not.mp c1), decide_eq_true (Classical.not_not.mp c2)]; rfl, rfl⟩
set_option maxRecDepth 100000 in
theorem t_M_at {d a b : Nat} {h : HP} : MT d mM_at [vI (nI a), vI (nI b)] h (fun r h' => r = some (vI (nI (45 + 2 * (a * 5 + b)))) ∧ h' = h) := by
  refine R_s 4 (5, [(0, vI (nI a)), (1, vI (nI b))], [vI (nI a), vI (nI 5), vI (nI 2), vI (nI 45)], h) rfl ?_
  refine R_mul 5 a rfl ?_
  refine R_s 1 (7, [(0, vI (nI a)), (1, vI (nI b))], [vI (nI b), vI (nI (5 * a)), vI (nI 2), vI (nI 45)], h) rfl ?_
  refine R_add (5 * a) b rfl ?_
  refine R_mul 2 ((5 * a) + b) rfl ?_
  refine R_add 45 (2 * ((5 * a) + b)) rfl ?_
  exact R_ret (some (vI (nI (45 + (2 * ((5 * a) + b)))))) h rfl ⟨by rw [Nat.mul_comm 5 a], rfl⟩
set_option maxRecDepth 100000 in
theorem t_M_isSong {d n : Nat} {h : HP} {x : Int32} (hn : h 8 21 0 = nI n) (h8 : n ≤ 8) : MT (d + 1) mM_isSong [vR 8 20, vI x] h (fun r h' => r = some (vI (bI (inb x n))) ∧ h' = h) := by
  refine R_s 6 (8, [(0, vR 8 20), (1, vI x)], [vI (nI 0), vR 8 21, vL 0, vL ((x).toInt64)], h) rfl ?_
  refine R_ld 8 21 0 125 rfl rfl (by omega) (by decide) ?_
  refine R_top (nI n) hn ?_
  refine R_s 3 (12, [(0, vR 8 20), (1, vI x)], [vL ((nI n - nI 1).toInt64), vL 0, vL ((x).toInt64)], h) rfl ?_
  refine R_calli mM_in [vL ((x).toInt64), vL 0, vL ((nI n - nI 1).toInt64)] [] (bI (decide ((0 : Int64) ≤ x.toInt64) && decide (x.toInt64 ≤ (nI n - nI 1).toInt64))) h rfl t_M_in ?_
  refine R_top (bI (inb x n)) (by rw [inb_in (by omega)]) ?_
  exact R_retb _ rfl rfl ⟨rfl, rfl⟩
set_option maxRecDepth 100000 in
theorem t_M_isPosition {d n : Nat} {h : HP} {x : Int32} (hn : h 8 21 0 = nI n) (h8 : n ≤ 8) : MT (d + 1) mM_isPosition [vR 8 20, vI x] h (fun r h' => r = some (vI (bI (inb x n))) ∧ h' = h) := by
  refine R_s 6 (8, [(0, vR 8 20), (1, vI x)], [vI (nI 0), vR 8 21, vL 0, vL ((x).toInt64)], h) rfl ?_
  refine R_ld 8 21 0 125 rfl rfl (by omega) (by decide) ?_
  refine R_top (nI n) hn ?_
  refine R_s 3 (12, [(0, vR 8 20), (1, vI x)], [vL ((nI n - nI 1).toInt64), vL 0, vL ((x).toInt64)], h) rfl ?_
  refine R_calli mM_in [vL ((x).toInt64), vL 0, vL ((nI n - nI 1).toInt64)] [] (bI (decide ((0 : Int64) ≤ x.toInt64) && decide (x.toInt64 ≤ (nI n - nI 1).toInt64))) h rfl t_M_in ?_
  refine R_top (bI (inb x n)) (by rw [inb_in (by omega)]) ?_
  exact R_retb _ rfl rfl ⟨rfl, rfl⟩
set_option maxRecDepth 100000 in
theorem t_M_isPlayer {d n : Nat} {h : HP} {x : Int32} (hn : h 8 21 26 = nI n) (h8 : n ≤ 8) : MT (d + 1) mM_isPlayer [vR 8 20, vI x] h (fun r h' => r = some (vI (bI (inb x n))) ∧ h' = h) := by
  refine R_s 6 (9, [(0, vR 8 20), (1, vI x)], [vI (nI 26), vR 8 21, vL 0, vL ((x).toInt64)], h) rfl ?_
  refine R_ld 8 21 26 125 rfl rfl (by omega) (by decide) ?_
  refine R_top (nI n) hn ?_
  refine R_s 3 (13, [(0, vR 8 20), (1, vI x)], [vL ((nI n - nI 1).toInt64), vL 0, vL ((x).toInt64)], h) rfl ?_
  refine R_calli mM_in [vL ((x).toInt64), vL 0, vL ((nI n - nI 1).toInt64)] [] (bI (decide ((0 : Int64) ≤ x.toInt64) && decide (x.toInt64 ≤ (nI n - nI 1).toInt64))) h rfl t_M_in ?_
  refine R_top (bI (inb x n)) (by rw [inb_in (by omega)]) ?_
  exact R_retb _ rfl rfl ⟨rfl, rfl⟩
set_option maxRecDepth 100000 in
theorem t_M_isKind {d n : Nat} {h : HP} {x : Int32} (hn : h 8 21 32 = nI n) (h8 : n ≤ 8) : MT (d + 1) mM_isKind [vR 8 20, vI x] h (fun r h' => r = some (vI (bI (inb x n))) ∧ h' = h) := by
  refine R_s 6 (9, [(0, vR 8 20), (1, vI x)], [vI (nI 32), vR 8 21, vL 0, vL ((x).toInt64)], h) rfl ?_
  refine R_ld 8 21 32 125 rfl rfl (by omega) (by decide) ?_
  refine R_top (nI n) hn ?_
  refine R_s 3 (13, [(0, vR 8 20), (1, vI x)], [vL ((nI n - nI 1).toInt64), vL 0, vL ((x).toInt64)], h) rfl ?_
  refine R_calli mM_in [vL ((x).toInt64), vL 0, vL ((nI n - nI 1).toInt64)] [] (bI (decide ((0 : Int64) ≤ x.toInt64) && decide (x.toInt64 ≤ (nI n - nI 1).toInt64))) h rfl t_M_in ?_
  refine R_top (bI (inb x n)) (by rw [inb_in (by omega)]) ?_
  exact R_retb _ rfl rfl ⟨rfl, rfl⟩
def otm (s : Nat → Int32) (a : Nat) (y t : Int32) : Nat → Nat
  | 0 => 0
  | q + 1 => otm s a y t q + (if ¬ nI q = t ∧ kd s a q = y then 1 else 0)
theorem otm_cn {s : Nat → Int32} {a : Nat} {y : Int32} : ∀ q, q ≤ 5 → otm s a y (-1) q = cn s a y q := by
  intro q
  induction q with
  | zero => intro _; rfl
  | succ q ih =>
    intro h
    show otm s a y (-1) q + _ = cn s a y q + _
    rw [ih (by omega)]
    by_cases e : kd s a q = y
    · rw [if_pos ⟨nI_ne_m1 (by omega), e⟩, if_pos e]
    · rw [if_neg (fun z => e z.2), if_neg e]
theorem otm_oth {s : Nat → Int32} {a b : Nat} {y : Int32} (hb : b < 1000) : ∀ q, q ≤ 5 → otm s a y (nI b) q = oth s a y b q := by
  intro q
  induction q with
  | zero => intro _; rfl
  | succ q ih =>
    intro h
    show otm s a y (nI b) q + _ = oth s a y b q + _
    rw [ih (by omega)]
    by_cases e : ¬ q = b ∧ kd s a q = y
    · rw [if_pos e, if_pos ⟨fun z => e.1 ((nI_eq (by omega) (by omega)).mp z), e.2⟩]
    · rw [if_neg e, if_neg (fun z => e ⟨fun v => z.1 (by rw [v]), z.2⟩)]
set_option maxRecDepth 100000 in
theorem t_M_others21 {d p a : Nat} {h : HP} {s : Nat → Int32} {y t : Int32} (M : MS 21 h s) (hp : s 26 = nI p) (h5 : p ≤ 5) (ha : a < 8) : MT (d + 1) mM_others [vR 8 21, vI (nI a), vI y, vI t] h (fun r h' => r = some (vI (nI (otm s a y t p))) ∧ h' = h) := by
  refine R_s 4 (6, [(5, vI (nI 0)), (4, vI (nI 0)), (0, vR 8 21), (1, vI (nI a)), (2, vI y), (3, vI t)], [], h) rfl ?_
  suffices ∀ m (q c : Nat) (hm : q + m = p) (hc : c = otm s a y t q), R (d + 1) mM_others (6, [(5, vI (nI q)), (4, vI (nI c)), (0, vR 8 21), (1, vI (nI a)), (2, vI y), (3, vI t)], [], h) _ from this p 0 0 (by omega) rfl
  intro m
  induction m with
  | zero =>
    intro q c hm hc
    refine R_s 3 (11, [(5, vI (nI q)), (4, vI (nI c)), (0, vR 8 21), (1, vI (nI a)), (2, vI y), (3, vI t)], [vI (nI 26), vR 8 21, vI (nI q)], h) rfl ?_
    refine R_ld 8 21 26 125 rfl rfl (by omega) (by decide) ?_
    refine R_top (nI p) ((M 26 (by decide)).trans hp) ?_
    refine R_s 1 (cond (if2 .ge (nI q) (nI p)) 49 15, [(5, vI (nI q)), (4, vI (nI c)), (0, vR 8 21), (1, vI (nI a)), (2, vI y), (3, vI t)], [], h) rfl ?_
    refine R_bp (p ≤ q) (i2_ge (by omega) (by omega)) (fun c1 => ?_) (fun c1 => ?_)
    · refine R_s 1 (51, [(5, vI (nI q)), (4, vI (nI c)), (0, vR 8 21), (1, vI (nI a)), (2, vI y), (3, vI t)], [vI (nI c)], h) rfl ?_
      exact R_ret (some (vI (nI c))) h rfl ⟨by rw [hc, show q = p by omega], rfl⟩
    · exact absurd hm (by omega)
  | succ m ih =>
    intro q c hm hc
    refine R_s 3 (11, [(5, vI (nI q)), (4, vI (nI c)), (0, vR 8 21), (1, vI (nI a)), (2, vI y), (3, vI t)], [vI (nI 26), vR 8 21, vI (nI q)], h) rfl ?_
    refine R_ld 8 21 26 125 rfl rfl (by omega) (by decide) ?_
    refine R_top (nI p) ((M 26 (by decide)).trans hp) ?_
    refine R_s 1 (cond (if2 .ge (nI q) (nI p)) 49 15, [(5, vI (nI q)), (4, vI (nI c)), (0, vR 8 21), (1, vI (nI a)), (2, vI y), (3, vI t)], [], h) rfl ?_
    refine R_bp (p ≤ q) (i2_ge (by omega) (by omega)) (fun c1 => ?_) (fun c1 => ?_)
    · refine R_s 1 (51, [(5, vI (nI q)), (4, vI (nI c)), (0, vR 8 21), (1, vI (nI a)), (2, vI y), (3, vI t)], [vI (nI c)], h) rfl ?_
      exact R_ret (some (vI (nI c))) h rfl ⟨by rw [hc, show q = p by omega], rfl⟩
    · refine R_s 4 (cond (if2 .eq (nI q) t) 39 23, [(5, vI (nI q)), (4, vI (nI c)), (0, vR 8 21), (1, vI (nI a)), (2, vI y), (3, vI t)], [vI (nI c)], h) rfl ?_
      refine R_bp ((nI q) = t) x2_eq (fun c2 => ?_) (fun c2 => ?_)
      · refine R_s 1 (40, [(5, vI (nI q)), (4, vI (nI c)), (0, vR 8 21), (1, vI (nI a)), (2, vI y), (3, vI t)], [vI (nI 0), vI (nI c)], h) rfl ?_
        refine R_add c 0 rfl ?_
        refine R_s 2 (46, [(5, vI (nI q + Int32.ofInt 1)), (4, vI (nI (c + 0))), (0, vR 8 21), (1, vI (nI a)), (2, vI y), (3, vI t)], [], h) rfl ?_
        refine R_lv (lv' := [(5, vI (nI (q + 1))), (4, vI (nI (c + 0))), (0, vR 8 21), (1, vI (nI a)), (2, vI y), (3, vI t)]) (by rw [show nI q + Int32.ofInt 1 = nI (q + 1) from nI_add _ _]) ?_
        refine R_s 1 (6, [(5, vI (nI (q + 1))), (4, vI (nI (c + 0))), (0, vR 8 21), (1, vI (nI a)), (2, vI y), (3, vI t)], [], h) rfl ?_
        exact ih (q + 1) c (by omega) (by rw [hc]; show _ = otm s a y t q + _; rw [if_neg (fun z => z.1 c2)]; rfl)
      · refine R_s 3 (27, [(5, vI (nI q)), (4, vI (nI c)), (0, vR 8 21), (1, vI (nI a)), (2, vI y), (3, vI t)], [vI (nI q), vI (nI a), vR 8 21, vI (nI c)], h) rfl ?_
        refine R_calli mM_at [vI (nI a), vI (nI q)] [vR 8 21, vI (nI c)] (nI (45 + 2 * (a * 5 + q))) h rfl t_M_at ?_
        refine R_ld 8 21 (45 + 2 * (a * 5 + q)) 125 rfl rfl (by omega) (by decide) ?_
        refine R_top (kd s a q) (M _ (by omega)) ?_
        refine R_s 2 (cond (if2 .ne (kd s a q) y) 39 35, [(5, vI (nI q)), (4, vI (nI c)), (0, vR 8 21), (1, vI (nI a)), (2, vI y), (3, vI t)], [vI (nI c)], h) rfl ?_
        refine R_bp (¬ (kd s a q) = y) x2_ne (fun c3 => ?_) (fun c3 => ?_)
        · refine R_s 1 (40, [(5, vI (nI q)), (4, vI (nI c)), (0, vR 8 21), (1, vI (nI a)), (2, vI y), (3, vI t)], [vI (nI 0), vI (nI c)], h) rfl ?_
          refine R_add c 0 rfl ?_
          refine R_s 2 (46, [(5, vI (nI q + Int32.ofInt 1)), (4, vI (nI (c + 0))), (0, vR 8 21), (1, vI (nI a)), (2, vI y), (3, vI t)], [], h) rfl ?_
          refine R_lv (lv' := [(5, vI (nI (q + 1))), (4, vI (nI (c + 0))), (0, vR 8 21), (1, vI (nI a)), (2, vI y), (3, vI t)]) (by rw [show nI q + Int32.ofInt 1 = nI (q + 1) from nI_add _ _]) ?_
          refine R_s 1 (6, [(5, vI (nI (q + 1))), (4, vI (nI (c + 0))), (0, vR 8 21), (1, vI (nI a)), (2, vI y), (3, vI t)], [], h) rfl ?_
          exact ih (q + 1) c (by omega) (by rw [hc]; show _ = otm s a y t q + _; rw [if_neg (fun z => c3 z.2)]; rfl)
        · refine R_s 2 (40, [(5, vI (nI q)), (4, vI (nI c)), (0, vR 8 21), (1, vI (nI a)), (2, vI y), (3, vI t)], [vI (nI 1), vI (nI c)], h) rfl ?_
          refine R_add c 1 rfl ?_
          refine R_s 2 (46, [(5, vI (nI q + Int32.ofInt 1)), (4, vI (nI (c + 1))), (0, vR 8 21), (1, vI (nI a)), (2, vI y), (3, vI t)], [], h) rfl ?_
          refine R_lv (lv' := [(5, vI (nI (q + 1))), (4, vI (nI (c + 1))), (0, vR 8 21), (1, vI (nI a)), (2, vI y), (3, vI t)]) (by rw [show nI q + Int32.ofInt 1 = nI (q + 1) from nI_add _ _]) ?_
          refine R_s 1 (6, [(5, vI (nI (q + 1))), (4, vI (nI (c + 1))), (0, vR 8 21), (1, vI (nI a)), (2, vI y), (3, vI t)], [], h) rfl ?_
          exact ih (q + 1) (c + 1) (by omega) (by rw [hc]; show _ = otm s a y t q + _; rw [if_pos ⟨c2, Classical.not_not.mp c3⟩])
set_option maxRecDepth 100000 in
theorem t_M_part21 {d a b : Nat} {h : HP} {y t : Int32} (ha : a < 8) (hb : b < 5) : MT (d + 1) mM_part [vR 8 21, vI (nI a), vI (nI b), vI y, vI t] h (fun r h' => r = none ∧ h' = hset (hset h 8 21 (45 + 2 * (a * 5 + b)) y) 8 21 (46 + 2 * (a * 5 + b)) t) := by
  refine R_s 3 (3, [(0, vR 8 21), (1, vI (nI a)), (2, vI (nI b)), (3, vI y), (4, vI t)], [vI (nI b), vI (nI a), vR 8 21], h) rfl ?_
  refine R_calli mM_at [vI (nI a), vI (nI b)] [vR 8 21] (nI (45 + 2 * (a * 5 + b))) h rfl t_M_at ?_
  refine R_s 1 (7, [(0, vR 8 21), (1, vI (nI a)), (2, vI (nI b)), (3, vI y), (4, vI t)], [vI y, vI (nI (45 + 2 * (a * 5 + b))), vR 8 21], h) rfl ?_
  refine R_st 8 21 (45 + 2 * (a * 5 + b)) 125 y rfl rfl (by omega) (by decide) (fun h1 eh1 => ?_)
  refine R_s 3 (11, [(0, vR 8 21), (1, vI (nI a)), (2, vI (nI b)), (3, vI y), (4, vI t)], [vI (nI b), vI (nI a), vR 8 21], h1) rfl ?_
  refine R_calli mM_at [vI (nI a), vI (nI b)] [vR 8 21] (nI (45 + 2 * (a * 5 + b))) h1 rfl t_M_at ?_
  refine R_s 1 (15, [(0, vR 8 21), (1, vI (nI a)), (2, vI (nI b)), (3, vI y), (4, vI t)], [vI (nI 1), vI (nI (45 + 2 * (a * 5 + b))), vR 8 21], h1) rfl ?_
  refine R_add (45 + 2 * (a * 5 + b)) 1 rfl ?_
  refine R_s 1 (18, [(0, vR 8 21), (1, vI (nI a)), (2, vI (nI b)), (3, vI y), (4, vI t)], [vI t, vI (nI ((45 + 2 * (a * 5 + b)) + 1)), vR 8 21], h1) rfl ?_
  refine R_st 8 21 ((45 + 2 * (a * 5 + b)) + 1) 125 t rfl rfl (by omega) (by decide) (fun h2 eh2 => ?_)
  exact R_ret none h2 rfl ⟨rfl, by rw [eh2, show 45 + 2 * (a * 5 + b) + 1 = 46 + 2 * (a * 5 + b) by omega, eh1]⟩
set_option maxRecDepth 100000 in
theorem t_M_others22 {d p a : Nat} {h : HP} {s : Nat → Int32} {y t : Int32} (M : MS 22 h s) (hp : s 26 = nI p) (h5 : p ≤ 5) (ha : a < 8) : MT (d + 1) mM_others [vR 8 22, vI (nI a), vI y, vI t] h (fun r h' => r = some (vI (nI (otm s a y t p))) ∧ h' = h) := by
  refine R_s 4 (6, [(5, vI (nI 0)), (4, vI (nI 0)), (0, vR 8 22), (1, vI (nI a)), (2, vI y), (3, vI t)], [], h) rfl ?_
  suffices ∀ m (q c : Nat) (hm : q + m = p) (hc : c = otm s a y t q), R (d + 1) mM_others (6, [(5, vI (nI q)), (4, vI (nI c)), (0, vR 8 22), (1, vI (nI a)), (2, vI y), (3, vI t)], [], h) _ from this p 0 0 (by omega) rfl
  intro m
  induction m with
  | zero =>
    intro q c hm hc
    refine R_s 3 (11, [(5, vI (nI q)), (4, vI (nI c)), (0, vR 8 22), (1, vI (nI a)), (2, vI y), (3, vI t)], [vI (nI 26), vR 8 22, vI (nI q)], h) rfl ?_
    refine R_ld 8 22 26 125 rfl rfl (by omega) (by decide) ?_
    refine R_top (nI p) ((M 26 (by decide)).trans hp) ?_
    refine R_s 1 (cond (if2 .ge (nI q) (nI p)) 49 15, [(5, vI (nI q)), (4, vI (nI c)), (0, vR 8 22), (1, vI (nI a)), (2, vI y), (3, vI t)], [], h) rfl ?_
    refine R_bp (p ≤ q) (i2_ge (by omega) (by omega)) (fun c1 => ?_) (fun c1 => ?_)
    · refine R_s 1 (51, [(5, vI (nI q)), (4, vI (nI c)), (0, vR 8 22), (1, vI (nI a)), (2, vI y), (3, vI t)], [vI (nI c)], h) rfl ?_
      exact R_ret (some (vI (nI c))) h rfl ⟨by rw [hc, show q = p by omega], rfl⟩
    · exact absurd hm (by omega)
  | succ m ih =>
    intro q c hm hc
    refine R_s 3 (11, [(5, vI (nI q)), (4, vI (nI c)), (0, vR 8 22), (1, vI (nI a)), (2, vI y), (3, vI t)], [vI (nI 26), vR 8 22, vI (nI q)], h) rfl ?_
    refine R_ld 8 22 26 125 rfl rfl (by omega) (by decide) ?_
    refine R_top (nI p) ((M 26 (by decide)).trans hp) ?_
    refine R_s 1 (cond (if2 .ge (nI q) (nI p)) 49 15, [(5, vI (nI q)), (4, vI (nI c)), (0, vR 8 22), (1, vI (nI a)), (2, vI y), (3, vI t)], [], h) rfl ?_
    refine R_bp (p ≤ q) (i2_ge (by omega) (by omega)) (fun c1 => ?_) (fun c1 => ?_)
    · refine R_s 1 (51, [(5, vI (nI q)), (4, vI (nI c)), (0, vR 8 22), (1, vI (nI a)), (2, vI y), (3, vI t)], [vI (nI c)], h) rfl ?_
      exact R_ret (some (vI (nI c))) h rfl ⟨by rw [hc, show q = p by omega], rfl⟩
    · refine R_s 4 (cond (if2 .eq (nI q) t) 39 23, [(5, vI (nI q)), (4, vI (nI c)), (0, vR 8 22), (1, vI (nI a)), (2, vI y), (3, vI t)], [vI (nI c)], h) rfl ?_
      refine R_bp ((nI q) = t) x2_eq (fun c2 => ?_) (fun c2 => ?_)
      · refine R_s 1 (40, [(5, vI (nI q)), (4, vI (nI c)), (0, vR 8 22), (1, vI (nI a)), (2, vI y), (3, vI t)], [vI (nI 0), vI (nI c)], h) rfl ?_
        refine R_add c 0 rfl ?_
        refine R_s 2 (46, [(5, vI (nI q + Int32.ofInt 1)), (4, vI (nI (c + 0))), (0, vR 8 22), (1, vI (nI a)), (2, vI y), (3, vI t)], [], h) rfl ?_
        refine R_lv (lv' := [(5, vI (nI (q + 1))), (4, vI (nI (c + 0))), (0, vR 8 22), (1, vI (nI a)), (2, vI y), (3, vI t)]) (by rw [show nI q + Int32.ofInt 1 = nI (q + 1) from nI_add _ _]) ?_
        refine R_s 1 (6, [(5, vI (nI (q + 1))), (4, vI (nI (c + 0))), (0, vR 8 22), (1, vI (nI a)), (2, vI y), (3, vI t)], [], h) rfl ?_
        exact ih (q + 1) c (by omega) (by rw [hc]; show _ = otm s a y t q + _; rw [if_neg (fun z => z.1 c2)]; rfl)
      · refine R_s 3 (27, [(5, vI (nI q)), (4, vI (nI c)), (0, vR 8 22), (1, vI (nI a)), (2, vI y), (3, vI t)], [vI (nI q), vI (nI a), vR 8 22, vI (nI c)], h) rfl ?_
        refine R_calli mM_at [vI (nI a), vI (nI q)] [vR 8 22, vI (nI c)] (nI (45 + 2 * (a * 5 + q))) h rfl t_M_at ?_
        refine R_ld 8 22 (45 + 2 * (a * 5 + q)) 125 rfl rfl (by omega) (by decide) ?_
        refine R_top (kd s a q) (M _ (by omega)) ?_
        refine R_s 2 (cond (if2 .ne (kd s a q) y) 39 35, [(5, vI (nI q)), (4, vI (nI c)), (0, vR 8 22), (1, vI (nI a)), (2, vI y), (3, vI t)], [vI (nI c)], h) rfl ?_
        refine R_bp (¬ (kd s a q) = y) x2_ne (fun c3 => ?_) (fun c3 => ?_)
        · refine R_s 1 (40, [(5, vI (nI q)), (4, vI (nI c)), (0, vR 8 22), (1, vI (nI a)), (2, vI y), (3, vI t)], [vI (nI 0), vI (nI c)], h) rfl ?_
          refine R_add c 0 rfl ?_
          refine R_s 2 (46, [(5, vI (nI q + Int32.ofInt 1)), (4, vI (nI (c + 0))), (0, vR 8 22), (1, vI (nI a)), (2, vI y), (3, vI t)], [], h) rfl ?_
          refine R_lv (lv' := [(5, vI (nI (q + 1))), (4, vI (nI (c + 0))), (0, vR 8 22), (1, vI (nI a)), (2, vI y), (3, vI t)]) (by rw [show nI q + Int32.ofInt 1 = nI (q + 1) from nI_add _ _]) ?_
          refine R_s 1 (6, [(5, vI (nI (q + 1))), (4, vI (nI (c + 0))), (0, vR 8 22), (1, vI (nI a)), (2, vI y), (3, vI t)], [], h) rfl ?_
          exact ih (q + 1) c (by omega) (by rw [hc]; show _ = otm s a y t q + _; rw [if_neg (fun z => c3 z.2)]; rfl)
        · refine R_s 2 (40, [(5, vI (nI q)), (4, vI (nI c)), (0, vR 8 22), (1, vI (nI a)), (2, vI y), (3, vI t)], [vI (nI 1), vI (nI c)], h) rfl ?_
          refine R_add c 1 rfl ?_
          refine R_s 2 (46, [(5, vI (nI q + Int32.ofInt 1)), (4, vI (nI (c + 1))), (0, vR 8 22), (1, vI (nI a)), (2, vI y), (3, vI t)], [], h) rfl ?_
          refine R_lv (lv' := [(5, vI (nI (q + 1))), (4, vI (nI (c + 1))), (0, vR 8 22), (1, vI (nI a)), (2, vI y), (3, vI t)]) (by rw [show nI q + Int32.ofInt 1 = nI (q + 1) from nI_add _ _]) ?_
          refine R_s 1 (6, [(5, vI (nI (q + 1))), (4, vI (nI (c + 1))), (0, vR 8 22), (1, vI (nI a)), (2, vI y), (3, vI t)], [], h) rfl ?_
          exact ih (q + 1) (c + 1) (by omega) (by rw [hc]; show _ = otm s a y t q + _; rw [if_pos ⟨c2, Classical.not_not.mp c3⟩])
set_option maxRecDepth 100000 in
theorem t_M_part22 {d a b : Nat} {h : HP} {y t : Int32} (ha : a < 8) (hb : b < 5) : MT (d + 1) mM_part [vR 8 22, vI (nI a), vI (nI b), vI y, vI t] h (fun r h' => r = none ∧ h' = hset (hset h 8 22 (45 + 2 * (a * 5 + b)) y) 8 22 (46 + 2 * (a * 5 + b)) t) := by
  refine R_s 3 (3, [(0, vR 8 22), (1, vI (nI a)), (2, vI (nI b)), (3, vI y), (4, vI t)], [vI (nI b), vI (nI a), vR 8 22], h) rfl ?_
  refine R_calli mM_at [vI (nI a), vI (nI b)] [vR 8 22] (nI (45 + 2 * (a * 5 + b))) h rfl t_M_at ?_
  refine R_s 1 (7, [(0, vR 8 22), (1, vI (nI a)), (2, vI (nI b)), (3, vI y), (4, vI t)], [vI y, vI (nI (45 + 2 * (a * 5 + b))), vR 8 22], h) rfl ?_
  refine R_st 8 22 (45 + 2 * (a * 5 + b)) 125 y rfl rfl (by omega) (by decide) (fun h1 eh1 => ?_)
  refine R_s 3 (11, [(0, vR 8 22), (1, vI (nI a)), (2, vI (nI b)), (3, vI y), (4, vI t)], [vI (nI b), vI (nI a), vR 8 22], h1) rfl ?_
  refine R_calli mM_at [vI (nI a), vI (nI b)] [vR 8 22] (nI (45 + 2 * (a * 5 + b))) h1 rfl t_M_at ?_
  refine R_s 1 (15, [(0, vR 8 22), (1, vI (nI a)), (2, vI (nI b)), (3, vI y), (4, vI t)], [vI (nI 1), vI (nI (45 + 2 * (a * 5 + b))), vR 8 22], h1) rfl ?_
  refine R_add (45 + 2 * (a * 5 + b)) 1 rfl ?_
  refine R_s 1 (18, [(0, vR 8 22), (1, vI (nI a)), (2, vI (nI b)), (3, vI y), (4, vI t)], [vI t, vI (nI ((45 + 2 * (a * 5 + b)) + 1)), vR 8 22], h1) rfl ?_
  refine R_st 8 22 ((45 + 2 * (a * 5 + b)) + 1) 125 t rfl rfl (by omega) (by decide) (fun h2 eh2 => ?_)
  exact R_ret none h2 rfl ⟨rfl, by rw [eh2, show 45 + 2 * (a * 5 + b) + 1 = 46 + 2 * (a * 5 + b) by omega, eh1]⟩
theorem bool_f {b : Bool} (h : ¬ b = true) : b = false := by cases b with
  | false => rfl
  | true => exact absurd rfl h
theorem bool_t {b : Bool} (h : b = true) : ¬ b = false := by rw [h]; decide
set_option maxRecDepth 100000 in
theorem t_M_areTwo {d n : Nat} {h : HP} {x y : Int32} (hn : h 8 21 0 = nI n) (h8 : n ≤ 8) : MT (d + 2) mM_areTwo [vR 8 20, vI x, vI y] h (fun r h' => r = some (vI (bI (inb x n && inb y n && !(decide (x = y))))) ∧ h' = h) := by
  refine R_s 2 (2, [(0, vR 8 20), (1, vI x), (2, vI y)], [vI x, vR 8 20], h) rfl ?_
  refine R_calli mM_isSong [vR 8 20, vI x] [] (bI (inb x n)) h rfl (t_M_isSong hn h8) ?_
  refine R_s 1 (cond (if0 .eq (bI (inb x n))) 25 8, [(0, vR 8 20), (1, vI x), (2, vI y)], [], h) rfl ?_
  refine R_bp ((inb x n) = false) (x0_eq.trans bI_eq) (fun c1 => ?_) (fun c1 => ?_)
  · refine R_s 1 (26, [(0, vR 8 20), (1, vI x), (2, vI y)], [vI (nI 0)], h) rfl ?_
    exact R_ret (some (vI (nI 0))) h rfl ⟨by simp [c1, bI, nI_0], rfl⟩
  · refine R_s 2 (10, [(0, vR 8 20), (1, vI x), (2, vI y)], [vI y, vR 8 20], h) rfl ?_
    refine R_calli mM_isSong [vR 8 20, vI y] [] (bI (inb y n)) h rfl (t_M_isSong hn h8) ?_
    refine R_s 1 (cond (if0 .eq (bI (inb y n))) 25 16, [(0, vR 8 20), (1, vI x), (2, vI y)], [], h) rfl ?_
    refine R_bp ((inb y n) = false) (x0_eq.trans bI_eq) (fun c2 => ?_) (fun c2 => ?_)
    · refine R_s 1 (26, [(0, vR 8 20), (1, vI x), (2, vI y)], [vI (nI 0)], h) rfl ?_
      exact R_ret (some (vI (nI 0))) h rfl ⟨by simp [c2, bI, nI_0], rfl⟩
    · refine R_s 3 (cond (if2 .eq x y) 25 21, [(0, vR 8 20), (1, vI x), (2, vI y)], [], h) rfl ?_
      refine R_bp (x = y) x2_eq (fun c3 => ?_) (fun c3 => ?_)
      · refine R_s 1 (26, [(0, vR 8 20), (1, vI x), (2, vI y)], [vI (nI 0)], h) rfl ?_
        exact R_ret (some (vI (nI 0))) h rfl ⟨by simp [c3, bI, nI_0], rfl⟩
      · refine R_s 2 (26, [(0, vR 8 20), (1, vI x), (2, vI y)], [vI (nI 1)], h) rfl ?_
        exact R_ret (some (vI (nI 1))) h rfl ⟨by simp [c3, tf c1, tf c2, bI]; rfl, rfl⟩
theorem un_s {s : Nat → Int32} {m : Int32} {c u : Nat} (hc : c < 1000) (hu : s (33 + c) = nI u) : un s m (nI c) = nI (u + if nI c = m then 1 else 0) := by
  unfold un
  rw [nI_cl (by omega), hu]
  split
  · exact nI_add u 1
  · rw [show (0 : Int32) = nI 0 from rfl]; exact nI_add u 0
set_option maxRecDepth 100000 in
theorem t_M_change {d n p k : Nat} {h : HP} {s : Nat → Int32} {a b q : Nat} {m : Int32} (ha : a < 8) (hb : b < 8) (hq : q < 5) (M : MS 21 h s) (F : WF s n p k) : MT (d + 2) mM_change [vR 8 20, vI (nI q), vI (nI a), vI (nI b), vI m] h (fun r h' => r = some (vI (nI (chg s m p a b q))) ∧ h' = h) := by
  have h8 := F.2.1.1
  have h5 := F.2.1.2.1
  have h6 := F.2.1.2.2
  refine R_s 4 (6, [(0, vR 8 20), (1, vI (nI q)), (2, vI (nI a)), (3, vI (nI b)), (4, vI m)], [vI (nI q), vI (nI a), vR 8 21], h) rfl ?_
  refine R_calli mM_at [vI (nI a), vI (nI q)] [vR 8 21] (nI (45 + 2 * (a * 5 + q))) h rfl t_M_at ?_
  refine R_ld 8 21 (45 + 2 * (a * 5 + q)) 125 rfl rfl (by omega) (by decide) ?_
  refine R_top (kd s a q) (M _ (by omega)) ?_
  refine R_s 5 (18, [(5, vI (kd s a q)), (0, vR 8 20), (1, vI (nI q)), (2, vI (nI a)), (3, vI (nI b)), (4, vI m)], [vI (nI q), vI (nI b), vR 8 21], h) rfl ?_
  refine R_calli mM_at [vI (nI b), vI (nI q)] [vR 8 21] (nI (45 + 2 * (b * 5 + q))) h rfl t_M_at ?_
  refine R_ld 8 21 (45 + 2 * (b * 5 + q)) 125 rfl rfl (by omega) (by decide) ?_
  refine R_top (kd s b q) (M _ (by omega)) ?_
  refine R_s 4 (cond (if2 .eq (kd s a q) (-1)) 36 30, [(6, vI (kd s b q)), (5, vI (kd s a q)), (0, vR 8 20), (1, vI (nI q)), (2, vI (nI a)), (3, vI (nI b)), (4, vI m)], [], h) rfl ?_
  refine R_bp ((kd s a q) = (-1)) x2_eq (fun c1 => ?_) (fun c1 => ?_)
  · refine R_s 3 (cond (if2 .eq (kd s b q) (-1)) 46 42, [(6, vI (kd s b q)), (5, vI (kd s a q)), (0, vR 8 20), (1, vI (nI q)), (2, vI (nI a)), (3, vI (nI b)), (4, vI m)], [], h) rfl ?_
    refine R_bp ((kd s b q) = (-1)) x2_eq (fun c2 => ?_) (fun c2 => ?_)
    · refine R_s 3 (cond (if2 .eq (kd s a q) (-1)) 56 52, [(6, vI (kd s b q)), (5, vI (kd s a q)), (0, vR 8 20), (1, vI (nI q)), (2, vI (nI a)), (3, vI (nI b)), (4, vI m)], [], h) rfl ?_
      refine R_bt (x2_eq.mpr c1) ?_
      refine R_s 1 (57, [(6, vI (kd s b q)), (5, vI (kd s a q)), (0, vR 8 20), (1, vI (nI q)), (2, vI (nI a)), (3, vI (nI b)), (4, vI m)], [vI (nI 0)], h) rfl ?_
      exact R_ret (some (vI (nI 0))) h rfl ⟨by unfold chg; rw [if_pos c1, if_pos c2], rfl⟩
    · refine R_s 2 (57, [(6, vI (kd s b q)), (5, vI (kd s a q)), (0, vR 8 20), (1, vI (nI q)), (2, vI (nI a)), (3, vI (nI b)), (4, vI m)], [vI (nI 1)], h) rfl ?_
      exact R_ret (some (vI (nI 1))) h rfl ⟨by unfold chg; rw [if_pos c1, if_neg c2], rfl⟩
  · refine R_s 3 (cond (if2 .ne (kd s b q) (-1)) 58 36, [(6, vI (kd s b q)), (5, vI (kd s a q)), (0, vR 8 20), (1, vI (nI q)), (2, vI (nI a)), (3, vI (nI b)), (4, vI m)], [], h) rfl ?_
    refine R_bp (¬ (kd s b q) = (-1)) x2_ne (fun c2 => ?_) (fun c2 => ?_)
    · refine R_s 3 (cond (if2 .eq (kd s a q) (kd s b q)) 67 65, [(6, vI (kd s b q)), (5, vI (kd s a q)), (0, vR 8 20), (1, vI (nI q)), (2, vI (nI a)), (3, vI (nI b)), (4, vI m)], [], h) rfl ?_
      refine R_bp ((kd s a q) = (kd s b q)) x2_eq (fun c3 => ?_) (fun c3 => ?_)
      · refine R_s 4 (73, [(6, vI (kd s b q)), (5, vI (kd s a q)), (0, vR 8 20), (1, vI (nI q)), (2, vI (nI a)), (3, vI (nI b)), (4, vI m)], [vI (nI q), vI (nI a), vR 8 21], h) rfl ?_
        refine R_calli mM_at [vI (nI a), vI (nI q)] [vR 8 21] (nI (45 + 2 * (a * 5 + q))) h rfl t_M_at ?_
        refine R_s 1 (77, [(6, vI (kd s b q)), (5, vI (kd s a q)), (0, vR 8 20), (1, vI (nI q)), (2, vI (nI a)), (3, vI (nI b)), (4, vI m)], [vI (nI 1), vI (nI (45 + 2 * (a * 5 + q))), vR 8 21], h) rfl ?_
        refine R_add (45 + 2 * (a * 5 + q)) 1 rfl ?_
        refine R_ld 8 21 ((45 + 2 * (a * 5 + q)) + 1) 125 rfl rfl (by omega) (by decide) ?_
        refine R_top (tn s a q) ((M _ (by omega)).trans (by unfold tn; rw [show 45 + 2 * (a * 5 + q) + 1 = 46 + 2 * (a * 5 + q) by omega])) ?_
        refine R_s 4 (85, [(6, vI (kd s b q)), (5, vI (kd s a q)), (0, vR 8 20), (1, vI (nI q)), (2, vI (nI a)), (3, vI (nI b)), (4, vI m)], [vI (nI q), vI (nI b), vR 8 21, vI (tn s a q)], h) rfl ?_
        refine R_calli mM_at [vI (nI b), vI (nI q)] [vR 8 21, vI (tn s a q)] (nI (45 + 2 * (b * 5 + q))) h rfl t_M_at ?_
        refine R_s 1 (89, [(6, vI (kd s b q)), (5, vI (kd s a q)), (0, vR 8 20), (1, vI (nI q)), (2, vI (nI a)), (3, vI (nI b)), (4, vI m)], [vI (nI 1), vI (nI (45 + 2 * (b * 5 + q))), vR 8 21, vI (tn s a q)], h) rfl ?_
        refine R_add (45 + 2 * (b * 5 + q)) 1 rfl ?_
        refine R_ld 8 21 ((45 + 2 * (b * 5 + q)) + 1) 125 rfl rfl (by omega) (by decide) ?_
        refine R_top (tn s b q) ((M _ (by omega)).trans (by unfold tn; rw [show 45 + 2 * (b * 5 + q) + 1 = 46 + 2 * (b * 5 + q) by omega])) ?_
        refine R_s 1 (cond (if2 .ne (tn s a q) (tn s b q)) 96 94, [(6, vI (kd s b q)), (5, vI (kd s a q)), (0, vR 8 20), (1, vI (nI q)), (2, vI (nI a)), (3, vI (nI b)), (4, vI m)], [], h) rfl ?_
        refine R_bp (¬ (tn s a q) = (tn s b q)) x2_ne (fun c4 => ?_) (fun c4 => ?_)
        · obtain ⟨c, hc, ec⟩ := ((F.2.2.2.2.2.1 b hb q hq).resolve_left c2).1
          obtain ⟨u, hu, hu6⟩ := F.2.2.2.2.1 c hc
          have hcn : cn s b (nI c) p ≤ 5 := Nat.le_trans (cn_le _ _ _ _) h5
          refine R_lv (lv' := [(6, vI (nI c)), (5, vI (kd s a q)), (0, vR 8 20), (1, vI (nI q)), (2, vI (nI a)), (3, vI (nI b)), (4, vI m)]) (by rw [ec]) ?_
          refine R_s 4 (104, [(6, vI (nI c)), (5, vI (kd s a q)), (0, vR 8 20), (1, vI (nI q)), (2, vI (nI a)), (3, vI (nI b)), (4, vI m)], [vI (nI c), vI (nI 33), vR 8 21], h) rfl ?_
          refine R_add 33 c rfl ?_
          refine R_ld 8 21 (33 + c) 125 rfl rfl (by omega) (by decide) ?_
          refine R_top (nI u) ((M _ (by omega)).trans hu) ?_
          refine R_s 3 (cond (if2 .ne (nI c) m) 117 113, [(6, vI (nI c)), (5, vI (kd s a q)), (0, vR 8 20), (1, vI (nI q)), (2, vI (nI a)), (3, vI (nI b)), (4, vI m)], [vI (nI u)], h) rfl ?_
          refine R_bp (¬ (nI c) = m) x2_ne (fun c5 => ?_) (fun c5 => ?_)
          · refine R_s 1 (118, [(6, vI (nI c)), (5, vI (kd s a q)), (0, vR 8 20), (1, vI (nI q)), (2, vI (nI a)), (3, vI (nI b)), (4, vI m)], [vI (nI 0), vI (nI u)], h) rfl ?_
            refine R_add u 0 rfl ?_
            refine R_s 1 (121, [(7, vI (nI (u + 0))), (6, vI (nI c)), (5, vI (kd s a q)), (0, vR 8 20), (1, vI (nI q)), (2, vI (nI a)), (3, vI (nI b)), (4, vI m)], [], h) rfl ?_
            refine R_s 5 (129, [(7, vI (nI (u + 0))), (6, vI (nI c)), (5, vI (kd s a q)), (0, vR 8 20), (1, vI (nI q)), (2, vI (nI a)), (3, vI (nI b)), (4, vI m)], [vI (-1), vI (nI c), vI (nI b), vR 8 21], h) rfl ?_
            refine R_calli mM_others [vR 8 21, vI (nI b), vI (nI c), vI (-1)] [] (nI (otm s b (nI c) (-1) p)) h rfl (t_M_others21 M F.1.2.1 h5 hb) ?_
            refine R_top (nI (cn s b (nI c) p)) (by rw [otm_cn p h5]) ?_
            refine R_s 2 (cond (if2 .ge (nI (cn s b (nI c) p)) (nI (u + 0))) 141 137, [(7, vI (nI (u + 0))), (6, vI (nI c)), (5, vI (kd s a q)), (0, vR 8 20), (1, vI (nI q)), (2, vI (nI a)), (3, vI (nI b)), (4, vI m)], [], h) rfl ?_
            refine R_bp ((u + 0) ≤ (cn s b (nI c) p)) (i2_ge (by omega) (by omega)) (fun c6 => ?_) (fun c6 => ?_)
            · refine R_s 1 (142, [(7, vI (nI (u + 0))), (6, vI (nI c)), (5, vI (kd s a q)), (0, vR 8 20), (1, vI (nI q)), (2, vI (nI a)), (3, vI (nI b)), (4, vI m)], [vI (nI 5)], h) rfl ?_
              exact R_ret (some (vI (nI 5))) h rfl ⟨by unfold chg; rw [if_neg c1, if_neg c2, if_pos c3, if_neg c4, if_neg (by rw [ec, un_s (by omega) hu, if_neg c5]; exact nI_nlt c6 (by omega))], rfl⟩
            · refine R_s 2 (142, [(7, vI (nI (u + 0))), (6, vI (nI c)), (5, vI (kd s a q)), (0, vR 8 20), (1, vI (nI q)), (2, vI (nI a)), (3, vI (nI b)), (4, vI m)], [vI (nI 4)], h) rfl ?_
              exact R_ret (some (vI (nI 4))) h rfl ⟨by unfold chg; rw [if_neg c1, if_neg c2, if_pos c3, if_neg c4, if_pos (by rw [ec, un_s (by omega) hu, if_neg c5]; exact nI_lt (by omega) (by omega))], rfl⟩
          · refine R_s 2 (118, [(6, vI (nI c)), (5, vI (kd s a q)), (0, vR 8 20), (1, vI (nI q)), (2, vI (nI a)), (3, vI (nI b)), (4, vI m)], [vI (nI 1), vI (nI u)], h) rfl ?_
            refine R_add u 1 rfl ?_
            refine R_s 1 (121, [(7, vI (nI (u + 1))), (6, vI (nI c)), (5, vI (kd s a q)), (0, vR 8 20), (1, vI (nI q)), (2, vI (nI a)), (3, vI (nI b)), (4, vI m)], [], h) rfl ?_
            refine R_s 5 (129, [(7, vI (nI (u + 1))), (6, vI (nI c)), (5, vI (kd s a q)), (0, vR 8 20), (1, vI (nI q)), (2, vI (nI a)), (3, vI (nI b)), (4, vI m)], [vI (-1), vI (nI c), vI (nI b), vR 8 21], h) rfl ?_
            refine R_calli mM_others [vR 8 21, vI (nI b), vI (nI c), vI (-1)] [] (nI (otm s b (nI c) (-1) p)) h rfl (t_M_others21 M F.1.2.1 h5 hb) ?_
            refine R_top (nI (cn s b (nI c) p)) (by rw [otm_cn p h5]) ?_
            refine R_s 2 (cond (if2 .ge (nI (cn s b (nI c) p)) (nI (u + 1))) 141 137, [(7, vI (nI (u + 1))), (6, vI (nI c)), (5, vI (kd s a q)), (0, vR 8 20), (1, vI (nI q)), (2, vI (nI a)), (3, vI (nI b)), (4, vI m)], [], h) rfl ?_
            refine R_bp ((u + 1) ≤ (cn s b (nI c) p)) (i2_ge (by omega) (by omega)) (fun c6 => ?_) (fun c6 => ?_)
            · refine R_s 1 (142, [(7, vI (nI (u + 1))), (6, vI (nI c)), (5, vI (kd s a q)), (0, vR 8 20), (1, vI (nI q)), (2, vI (nI a)), (3, vI (nI b)), (4, vI m)], [vI (nI 5)], h) rfl ?_
              exact R_ret (some (vI (nI 5))) h rfl ⟨by unfold chg; rw [if_neg c1, if_neg c2, if_pos c3, if_neg c4, if_neg (by rw [ec, un_s (by omega) hu, if_pos (Classical.not_not.mp c5)]; exact nI_nlt c6 (by omega))], rfl⟩
            · refine R_s 2 (142, [(7, vI (nI (u + 1))), (6, vI (nI c)), (5, vI (kd s a q)), (0, vR 8 20), (1, vI (nI q)), (2, vI (nI a)), (3, vI (nI b)), (4, vI m)], [vI (nI 4)], h) rfl ?_
              exact R_ret (some (vI (nI 4))) h rfl ⟨by unfold chg; rw [if_neg c1, if_neg c2, if_pos c3, if_neg c4, if_pos (by rw [ec, un_s (by omega) hu, if_pos (Classical.not_not.mp c5)]; exact nI_lt (by omega) (by omega))], rfl⟩
        · refine R_s 1 (95, [(6, vI (kd s b q)), (5, vI (kd s a q)), (0, vR 8 20), (1, vI (nI q)), (2, vI (nI a)), (3, vI (nI b)), (4, vI m)], [vI (nI 0)], h) rfl ?_
          exact R_ret (some (vI (nI 0))) h rfl ⟨by unfold chg; rw [if_neg c1, if_neg c2, if_pos c3, if_pos (Classical.not_not.mp c4)], rfl⟩
      · refine R_s 1 (66, [(6, vI (kd s b q)), (5, vI (kd s a q)), (0, vR 8 20), (1, vI (nI q)), (2, vI (nI a)), (3, vI (nI b)), (4, vI m)], [vI (nI 3)], h) rfl ?_
        exact R_ret (some (vI (nI 3))) h rfl ⟨by unfold chg; rw [if_neg c1, if_neg c2, if_neg c3], rfl⟩
    · refine R_s 3 (cond (if2 .eq (kd s b q) (-1)) 46 42, [(6, vI (kd s b q)), (5, vI (kd s a q)), (0, vR 8 20), (1, vI (nI q)), (2, vI (nI a)), (3, vI (nI b)), (4, vI m)], [], h) rfl ?_
      refine R_bt (x2_eq.mpr (Classical.not_not.mp c2)) ?_
      refine R_s 3 (cond (if2 .eq (kd s a q) (-1)) 56 52, [(6, vI (kd s b q)), (5, vI (kd s a q)), (0, vR 8 20), (1, vI (nI q)), (2, vI (nI a)), (3, vI (nI b)), (4, vI m)], [], h) rfl ?_
      refine R_bf (by unfold if2; exact decide_eq_false c1) ?_
      refine R_s 2 (57, [(6, vI (kd s b q)), (5, vI (kd s a q)), (0, vR 8 20), (1, vI (nI q)), (2, vI (nI a)), (3, vI (nI b)), (4, vI m)], [vI (nI 2)], h) rfl ?_
      exact R_ret (some (vI (nI 2))) h rfl ⟨by unfold chg; rw [if_neg c1, if_pos (Classical.not_not.mp c2)], rfl⟩
set_option maxRecDepth 100000 in
theorem t_M_isFar {d n p k : Nat} {h : HP} {s : Nat → Int32} {q c : Nat} (hq : q < 5) (hc : c < 6) (M : MS 21 h s) (F : WF s n p k) : MT (d) mM_isFar [vR 8 20, vI (nI q), vI (nI c)] h (fun r h' => r = some (vI (nI (far s q (nI c)))) ∧ h' = h) := by
  have h8 := F.2.1.1
  have h5 := F.2.1.2.1
  have h6 := F.2.1.2.2
  refine R_s 4 (7, [(0, vR 8 20), (1, vI (nI q)), (2, vI (nI c))], [vI (nI c), vI (nI 39), vR 8 21], h) rfl ?_
  refine R_add 39 c rfl ?_
  refine R_ld 8 21 (39 + c) 125 rfl rfl (by omega) (by decide) ?_
  refine R_top (s (39 + c)) (M _ (by omega)) ?_
  refine R_s 4 (16, [(0, vR 8 20), (1, vI (nI q)), (2, vI (nI c))], [vI (nI q), vI (nI 27), vR 8 21, vI (s (39 + c))], h) rfl ?_
  refine R_add 27 q rfl ?_
  refine R_ld 8 21 (27 + q) 125 rfl rfl (by omega) (by decide) ?_
  refine R_top (s (27 + q)) (M _ (by omega)) ?_
  refine R_s 1 (cond (if2 .eq (s (39 + c)) (s (27 + q))) 25 21, [(0, vR 8 20), (1, vI (nI q)), (2, vI (nI c))], [], h) rfl ?_
  refine R_bp ((s (39 + c)) = (s (27 + q))) x2_eq (fun c1 => ?_) (fun c1 => ?_)
  · refine R_s 1 (26, [(0, vR 8 20), (1, vI (nI q)), (2, vI (nI c))], [vI (nI 0)], h) rfl ?_
    exact R_ret (some (vI (nI 0))) h rfl ⟨by unfold far; rw [nI_cl (by omega), if_pos c1], rfl⟩
  · refine R_s 2 (26, [(0, vR 8 20), (1, vI (nI q)), (2, vI (nI c))], [vI (nI 1)], h) rfl ?_
    exact R_ret (some (vI (nI 1))) h rfl ⟨by unfold far; rw [nI_cl (by omega), if_neg c1], rfl⟩
theorem neg_d {t u : Nat} (ht : t ≤ 5) (hu : u ≤ 5) (hl : ¬ 0 ≤ nI t - nI u) : nI 2 + -(nI t - nI u) = nI (2 + dst (nI t) (nI u)) := by
  have h : ∀ t, t < 6 → ∀ u, u < 6 → ¬ 0 ≤ nI t - nI u → nI 2 + -(nI t - nI u) = nI (2 + dst (nI t) (nI u)) := by decide +kernel
  exact h t (by omega) u (by omega) hl
theorem pos_d {t u : Nat} (ht : t ≤ 5) (hu : u ≤ 5) (hl : 0 ≤ nI t - nI u) : nI 2 + (nI t - nI u) = nI (2 + dst (nI t) (nI u)) := by
  have h : ∀ t, t < 6 → ∀ u, u < 6 → 0 ≤ nI t - nI u → nI 2 + (nI t - nI u) = nI (2 + dst (nI t) (nI u)) := by decide +kernel
  exact h t (by omega) u (by omega) hl
theorem i0_n {n : Nat} (h : n < 2147483648) : if0 .eq (nI n) = true ↔ n = 0 := by rw [x0_eq, ← nI_0, nI_eq h (by decide)]
set_option maxRecDepth 100000 in
theorem t_M_costOf {d n p k : Nat} {h : HP} {s : Nat → Int32} {a b q : Nat} {m : Int32} (ha : a < 8) (hb : b < 8) (hq : q < 5) (M : MS 21 h s) (F : WF s n p k) : MT (d + 3) mM_costOf [vR 8 20, vI (nI q), vI (nI a), vI (nI b), vI m] h (fun r h' => r = some (vI (nI (cof s m p a b q))) ∧ h' = h) := by
  have h8 := F.2.1.1
  have h5 := F.2.1.2.1
  have h6 := F.2.1.2.2
  refine R_s 4 (6, [(0, vR 8 20), (1, vI (nI q)), (2, vI (nI a)), (3, vI (nI b)), (4, vI m)], [vI (nI q), vI (nI a), vR 8 21], h) rfl ?_
  refine R_calli mM_at [vI (nI a), vI (nI q)] [vR 8 21] (nI (45 + 2 * (a * 5 + q))) h rfl t_M_at ?_
  refine R_ld 8 21 (45 + 2 * (a * 5 + q)) 125 rfl rfl (by omega) (by decide) ?_
  refine R_top (kd s a q) (M _ (by omega)) ?_
  refine R_s 5 (18, [(5, vI (kd s a q)), (0, vR 8 20), (1, vI (nI q)), (2, vI (nI a)), (3, vI (nI b)), (4, vI m)], [vI (nI q), vI (nI b), vR 8 21], h) rfl ?_
  refine R_calli mM_at [vI (nI b), vI (nI q)] [vR 8 21] (nI (45 + 2 * (b * 5 + q))) h rfl t_M_at ?_
  refine R_ld 8 21 (45 + 2 * (b * 5 + q)) 125 rfl rfl (by omega) (by decide) ?_
  refine R_top (kd s b q) (M _ (by omega)) ?_
  refine R_s 6 (30, [(6, vI (kd s b q)), (5, vI (kd s a q)), (0, vR 8 20), (1, vI (nI q)), (2, vI (nI a)), (3, vI (nI b)), (4, vI m)], [vI m, vI (nI b), vI (nI a), vI (nI q), vR 8 20], h) rfl ?_
  refine R_calli mM_change [vR 8 20, vI (nI q), vI (nI a), vI (nI b), vI m] [] (nI (chg s m p a b q)) h rfl (t_M_change ha hb hq M F) ?_
  have hle := chg_le s m p a b q
  unfold cof
  have key := chg_kd s m p a b q
  generalize chg s m p a b q = z at hle key ⊢
  rcases (show z = 0 ∨ z = 1 ∨ z = 2 ∨ z = 3 ∨ z = 4 ∨ z = 5 by omega) with rfl | rfl | rfl | rfl | rfl | rfl
  · refine R_s 1 (193, [(6, vI (kd s b q)), (5, vI (kd s a q)), (0, vR 8 20), (1, vI (nI q)), (2, vI (nI a)), (3, vI (nI b)), (4, vI m)], [], h) rfl ?_
    refine R_s 1 (194, [(6, vI (kd s b q)), (5, vI (kd s a q)), (0, vR 8 20), (1, vI (nI q)), (2, vI (nI a)), (3, vI (nI b)), (4, vI m)], [vI (nI 0)], h) rfl ?_
    exact R_ret (some (vI (nI 0))) h rfl ⟨rfl, rfl⟩
  · refine R_s 1 (68, [(6, vI (kd s b q)), (5, vI (kd s a q)), (0, vR 8 20), (1, vI (nI q)), (2, vI (nI a)), (3, vI (nI b)), (4, vI m)], [], h) rfl ?_
    obtain ⟨e, he, ee⟩ := ((F.2.2.2.2.2.1 b hb q hq).resolve_left key).1
    refine R_lv (lv' := [(6, vI (nI e)), (5, vI (kd s a q)), (0, vR 8 20), (1, vI (nI q)), (2, vI (nI a)), (3, vI (nI b)), (4, vI m)]) (by rw [ee]) ?_
    rw [ee]
    refine R_s 3 (72, [(6, vI (nI e)), (5, vI (kd s a q)), (0, vR 8 20), (1, vI (nI q)), (2, vI (nI a)), (3, vI (nI b)), (4, vI m)], [vI (nI e), vI (nI q), vR 8 20], h) rfl ?_
    refine R_calli mM_isFar [vR 8 20, vI (nI q), vI (nI e)] [] (nI (far s q (nI e))) h rfl (t_M_isFar hq (by omega) M F) ?_
    have hfe := far_le s q (nI e)
    refine R_s 1 (cond (if0 .eq (nI (far s q (nI e)))) 82 78, [(6, vI (nI e)), (5, vI (kd s a q)), (0, vR 8 20), (1, vI (nI q)), (2, vI (nI a)), (3, vI (nI b)), (4, vI m)], [], h) rfl ?_
    refine R_bp (far s q (nI e) = 0) (i0_n (by omega)) (fun fe => ?_) (fun fe => ?_)
    · rw [fe]
      refine R_s 1 (83, [(6, vI (nI e)), (5, vI (kd s a q)), (0, vR 8 20), (1, vI (nI q)), (2, vI (nI a)), (3, vI (nI b)), (4, vI m)], [vI (nI 1)], h) rfl ?_
      exact R_ret (some (vI (nI 1))) h rfl ⟨rfl, rfl⟩
    · have fe : far s q (nI e) = 1 := by omega
      rw [fe]
      refine R_s 2 (83, [(6, vI (nI e)), (5, vI (kd s a q)), (0, vR 8 20), (1, vI (nI q)), (2, vI (nI a)), (3, vI (nI b)), (4, vI m)], [vI (nI 2)], h) rfl ?_
      exact R_ret (some (vI (nI 2))) h rfl ⟨rfl, rfl⟩
  · refine R_s 1 (84, [(6, vI (kd s b q)), (5, vI (kd s a q)), (0, vR 8 20), (1, vI (nI q)), (2, vI (nI a)), (3, vI (nI b)), (4, vI m)], [], h) rfl ?_
    obtain ⟨c, hc, ec⟩ := ((F.2.2.2.2.2.1 a ha q hq).resolve_left key).1
    refine R_lv (lv' := [(6, vI (kd s b q)), (5, vI (nI c)), (0, vR 8 20), (1, vI (nI q)), (2, vI (nI a)), (3, vI (nI b)), (4, vI m)]) (by rw [ec]) ?_
    rw [ec]
    refine R_s 3 (88, [(6, vI (kd s b q)), (5, vI (nI c)), (0, vR 8 20), (1, vI (nI q)), (2, vI (nI a)), (3, vI (nI b)), (4, vI m)], [vI (nI c), vI (nI q), vR 8 20], h) rfl ?_
    refine R_calli mM_isFar [vR 8 20, vI (nI q), vI (nI c)] [] (nI (far s q (nI c))) h rfl (t_M_isFar hq (by omega) M F) ?_
    have hfc := far_le s q (nI c)
    refine R_s 1 (cond (if0 .eq (nI (far s q (nI c)))) 98 94, [(6, vI (kd s b q)), (5, vI (nI c)), (0, vR 8 20), (1, vI (nI q)), (2, vI (nI a)), (3, vI (nI b)), (4, vI m)], [], h) rfl ?_
    refine R_bp (far s q (nI c) = 0) (i0_n (by omega)) (fun fc => ?_) (fun fc => ?_)
    · rw [fc]
      refine R_s 1 (99, [(6, vI (kd s b q)), (5, vI (nI c)), (0, vR 8 20), (1, vI (nI q)), (2, vI (nI a)), (3, vI (nI b)), (4, vI m)], [vI (nI 1)], h) rfl ?_
      exact R_ret (some (vI (nI 1))) h rfl ⟨rfl, rfl⟩
    · have fc : far s q (nI c) = 1 := by omega
      rw [fc]
      refine R_s 2 (99, [(6, vI (kd s b q)), (5, vI (nI c)), (0, vR 8 20), (1, vI (nI q)), (2, vI (nI a)), (3, vI (nI b)), (4, vI m)], [vI (nI 2)], h) rfl ?_
      exact R_ret (some (vI (nI 2))) h rfl ⟨rfl, rfl⟩
  · refine R_s 1 (100, [(6, vI (kd s b q)), (5, vI (kd s a q)), (0, vR 8 20), (1, vI (nI q)), (2, vI (nI a)), (3, vI (nI b)), (4, vI m)], [], h) rfl ?_
    obtain ⟨c, hc, ec⟩ := ((F.2.2.2.2.2.1 a ha q hq).resolve_left key.1).1
    obtain ⟨e, he, ee⟩ := ((F.2.2.2.2.2.1 b hb q hq).resolve_left key.2).1
    refine R_lv (lv' := [(6, vI (kd s b q)), (5, vI (nI c)), (0, vR 8 20), (1, vI (nI q)), (2, vI (nI a)), (3, vI (nI b)), (4, vI m)]) (by rw [ec]) ?_
    refine R_lv (lv' := [(6, vI (nI e)), (5, vI (nI c)), (0, vR 8 20), (1, vI (nI q)), (2, vI (nI a)), (3, vI (nI b)), (4, vI m)]) (by rw [ee]) ?_
    rw [ec, ee]
    refine R_s 4 (105, [(6, vI (nI e)), (5, vI (nI c)), (0, vR 8 20), (1, vI (nI q)), (2, vI (nI a)), (3, vI (nI b)), (4, vI m)], [vI (nI c), vI (nI q), vR 8 20, vI (nI 3)], h) rfl ?_
    refine R_calli mM_isFar [vR 8 20, vI (nI q), vI (nI c)] [vI (nI 3)] (nI (far s q (nI c))) h rfl (t_M_isFar hq (by omega) M F) ?_
    have hfc := far_le s q (nI c)
    refine R_s 1 (cond (if0 .eq (nI (far s q (nI c)))) 115 111, [(6, vI (nI e)), (5, vI (nI c)), (0, vR 8 20), (1, vI (nI q)), (2, vI (nI a)), (3, vI (nI b)), (4, vI m)], [vI (nI 3)], h) rfl ?_
    refine R_bp (far s q (nI c) = 0) (i0_n (by omega)) (fun fc => ?_) (fun fc => ?_)
    · rw [fc]
      refine R_s 1 (116, [(6, vI (nI e)), (5, vI (nI c)), (0, vR 8 20), (1, vI (nI q)), (2, vI (nI a)), (3, vI (nI b)), (4, vI m)], [vI (nI 0), vI (nI 3)], h) rfl ?_
      refine R_add 3 0 rfl ?_
      refine R_s 3 (121, [(6, vI (nI e)), (5, vI (nI c)), (0, vR 8 20), (1, vI (nI q)), (2, vI (nI a)), (3, vI (nI b)), (4, vI m)], [vI (nI e), vI (nI q), vR 8 20, vI (nI (3 + 0))], h) rfl ?_
      refine R_calli mM_isFar [vR 8 20, vI (nI q), vI (nI e)] [vI (nI (3 + 0))] (nI (far s q (nI e))) h rfl (t_M_isFar hq (by omega) M F) ?_
      have hfe := far_le s q (nI e)
      refine R_s 1 (cond (if0 .eq (nI (far s q (nI e)))) 131 127, [(6, vI (nI e)), (5, vI (nI c)), (0, vR 8 20), (1, vI (nI q)), (2, vI (nI a)), (3, vI (nI b)), (4, vI m)], [vI (nI (3 + 0))], h) rfl ?_
      refine R_bp (far s q (nI e) = 0) (i0_n (by omega)) (fun fe => ?_) (fun fe => ?_)
      · rw [fe]
        refine R_s 1 (132, [(6, vI (nI e)), (5, vI (nI c)), (0, vR 8 20), (1, vI (nI q)), (2, vI (nI a)), (3, vI (nI b)), (4, vI m)], [vI (nI 0), vI (nI (3 + 0))], h) rfl ?_
        refine R_add (3 + 0) 0 rfl ?_
        exact R_ret (some (vI (nI ((3 + 0) + 0)))) h rfl ⟨rfl, rfl⟩
      · have fe : far s q (nI e) = 1 := by omega
        rw [fe]
        refine R_s 2 (132, [(6, vI (nI e)), (5, vI (nI c)), (0, vR 8 20), (1, vI (nI q)), (2, vI (nI a)), (3, vI (nI b)), (4, vI m)], [vI (nI 1), vI (nI (3 + 0))], h) rfl ?_
        refine R_add (3 + 0) 1 rfl ?_
        exact R_ret (some (vI (nI ((3 + 0) + 1)))) h rfl ⟨rfl, rfl⟩
    · have fc : far s q (nI c) = 1 := by omega
      rw [fc]
      refine R_s 2 (116, [(6, vI (nI e)), (5, vI (nI c)), (0, vR 8 20), (1, vI (nI q)), (2, vI (nI a)), (3, vI (nI b)), (4, vI m)], [vI (nI 1), vI (nI 3)], h) rfl ?_
      refine R_add 3 1 rfl ?_
      refine R_s 3 (121, [(6, vI (nI e)), (5, vI (nI c)), (0, vR 8 20), (1, vI (nI q)), (2, vI (nI a)), (3, vI (nI b)), (4, vI m)], [vI (nI e), vI (nI q), vR 8 20, vI (nI (3 + 1))], h) rfl ?_
      refine R_calli mM_isFar [vR 8 20, vI (nI q), vI (nI e)] [vI (nI (3 + 1))] (nI (far s q (nI e))) h rfl (t_M_isFar hq (by omega) M F) ?_
      have hfe := far_le s q (nI e)
      refine R_s 1 (cond (if0 .eq (nI (far s q (nI e)))) 131 127, [(6, vI (nI e)), (5, vI (nI c)), (0, vR 8 20), (1, vI (nI q)), (2, vI (nI a)), (3, vI (nI b)), (4, vI m)], [vI (nI (3 + 1))], h) rfl ?_
      refine R_bp (far s q (nI e) = 0) (i0_n (by omega)) (fun fe => ?_) (fun fe => ?_)
      · rw [fe]
        refine R_s 1 (132, [(6, vI (nI e)), (5, vI (nI c)), (0, vR 8 20), (1, vI (nI q)), (2, vI (nI a)), (3, vI (nI b)), (4, vI m)], [vI (nI 0), vI (nI (3 + 1))], h) rfl ?_
        refine R_add (3 + 1) 0 rfl ?_
        exact R_ret (some (vI (nI ((3 + 1) + 0)))) h rfl ⟨rfl, rfl⟩
      · have fe : far s q (nI e) = 1 := by omega
        rw [fe]
        refine R_s 2 (132, [(6, vI (nI e)), (5, vI (nI c)), (0, vR 8 20), (1, vI (nI q)), (2, vI (nI a)), (3, vI (nI b)), (4, vI m)], [vI (nI 1), vI (nI (3 + 1))], h) rfl ?_
        refine R_add (3 + 1) 1 rfl ?_
        exact R_ret (some (vI (nI ((3 + 1) + 1)))) h rfl ⟨rfl, rfl⟩
  · refine R_s 1 (134, [(6, vI (kd s b q)), (5, vI (kd s a q)), (0, vR 8 20), (1, vI (nI q)), (2, vI (nI a)), (3, vI (nI b)), (4, vI m)], [], h) rfl ?_
    obtain ⟨e, he, ee⟩ := ((F.2.2.2.2.2.1 b hb q hq).resolve_left key.2).1
    refine R_lv (lv' := [(6, vI (nI e)), (5, vI (kd s a q)), (0, vR 8 20), (1, vI (nI q)), (2, vI (nI a)), (3, vI (nI b)), (4, vI m)]) (by rw [ee]) ?_
    rw [ee]
    refine R_s 3 (138, [(6, vI (nI e)), (5, vI (kd s a q)), (0, vR 8 20), (1, vI (nI q)), (2, vI (nI a)), (3, vI (nI b)), (4, vI m)], [vI (nI e), vI (nI q), vR 8 20], h) rfl ?_
    refine R_calli mM_isFar [vR 8 20, vI (nI q), vI (nI e)] [] (nI (far s q (nI e))) h rfl (t_M_isFar hq (by omega) M F) ?_
    have hfe := far_le s q (nI e)
    refine R_s 1 (cond (if0 .eq (nI (far s q (nI e)))) 148 144, [(6, vI (nI e)), (5, vI (kd s a q)), (0, vR 8 20), (1, vI (nI q)), (2, vI (nI a)), (3, vI (nI b)), (4, vI m)], [], h) rfl ?_
    refine R_bp (far s q (nI e) = 0) (i0_n (by omega)) (fun fe => ?_) (fun fe => ?_)
    · rw [fe]
      refine R_s 1 (149, [(6, vI (nI e)), (5, vI (kd s a q)), (0, vR 8 20), (1, vI (nI q)), (2, vI (nI a)), (3, vI (nI b)), (4, vI m)], [vI (nI 2)], h) rfl ?_
      exact R_ret (some (vI (nI 2))) h rfl ⟨rfl, rfl⟩
    · have fe : far s q (nI e) = 1 := by omega
      rw [fe]
      refine R_s 2 (149, [(6, vI (nI e)), (5, vI (kd s a q)), (0, vR 8 20), (1, vI (nI q)), (2, vI (nI a)), (3, vI (nI b)), (4, vI m)], [vI (nI 3)], h) rfl ?_
      exact R_ret (some (vI (nI 3))) h rfl ⟨rfl, rfl⟩
  · refine R_s 1 (150, [(6, vI (kd s b q)), (5, vI (kd s a q)), (0, vR 8 20), (1, vI (nI q)), (2, vI (nI a)), (3, vI (nI b)), (4, vI m)], [], h) rfl ?_
    obtain ⟨t, ht, et⟩ := ((F.2.2.2.2.2.1 a ha q hq).resolve_left key.1).2
    obtain ⟨u, hu, eu⟩ := ((F.2.2.2.2.2.1 b hb q hq).resolve_left key.2).2
    refine R_s 4 (156, [(6, vI (kd s b q)), (5, vI (kd s a q)), (0, vR 8 20), (1, vI (nI q)), (2, vI (nI a)), (3, vI (nI b)), (4, vI m)], [vI (nI q), vI (nI a), vR 8 21], h) rfl ?_
    refine R_calli mM_at [vI (nI a), vI (nI q)] [vR 8 21] (nI (45 + 2 * (a * 5 + q))) h rfl t_M_at ?_
    refine R_s 1 (160, [(6, vI (kd s b q)), (5, vI (kd s a q)), (0, vR 8 20), (1, vI (nI q)), (2, vI (nI a)), (3, vI (nI b)), (4, vI m)], [vI (nI 1), vI (nI (45 + 2 * (a * 5 + q))), vR 8 21], h) rfl ?_
    refine R_add (45 + 2 * (a * 5 + q)) 1 rfl ?_
    refine R_ld 8 21 ((45 + 2 * (a * 5 + q)) + 1) 125 rfl rfl (by omega) (by decide) ?_
    refine R_top (nI t) ((M _ (by omega)).trans ((show s (45 + 2 * (a * 5 + q) + 1) = tn s a q by unfold tn; rw [show 45 + 2 * (a * 5 + q) + 1 = 46 + 2 * (a * 5 + q) by omega]).trans et)) ?_
    refine R_s 4 (168, [(6, vI (kd s b q)), (5, vI (kd s a q)), (0, vR 8 20), (1, vI (nI q)), (2, vI (nI a)), (3, vI (nI b)), (4, vI m)], [vI (nI q), vI (nI b), vR 8 21, vI (nI t)], h) rfl ?_
    refine R_calli mM_at [vI (nI b), vI (nI q)] [vR 8 21, vI (nI t)] (nI (45 + 2 * (b * 5 + q))) h rfl t_M_at ?_
    refine R_s 1 (172, [(6, vI (kd s b q)), (5, vI (kd s a q)), (0, vR 8 20), (1, vI (nI q)), (2, vI (nI a)), (3, vI (nI b)), (4, vI m)], [vI (nI 1), vI (nI (45 + 2 * (b * 5 + q))), vR 8 21, vI (nI t)], h) rfl ?_
    refine R_add (45 + 2 * (b * 5 + q)) 1 rfl ?_
    refine R_ld 8 21 ((45 + 2 * (b * 5 + q)) + 1) 125 rfl rfl (by omega) (by decide) ?_
    refine R_top (nI u) ((M _ (by omega)).trans ((show s (45 + 2 * (b * 5 + q) + 1) = tn s b q by unfold tn; rw [show 45 + 2 * (b * 5 + q) + 1 = 46 + 2 * (b * 5 + q) by omega]).trans eu)) ?_
    refine R_s 5 (cond (if0 .ge (nI t - nI u)) 189 183, [(7, vI (nI t - nI u)), (6, vI (kd s b q)), (5, vI (kd s a q)), (0, vR 8 20), (1, vI (nI q)), (2, vI (nI a)), (3, vI (nI b)), (4, vI m)], [vI (nI 2)], h) rfl ?_
    refine R_bp (0 ≤ (nI t - nI u)) x0_ge (fun c9 => ?_) (fun c9 => ?_)
    · refine R_s 2 (192, [(7, vI (nI t - nI u)), (6, vI (kd s b q)), (5, vI (kd s a q)), (0, vR 8 20), (1, vI (nI q)), (2, vI (nI a)), (3, vI (nI b)), (4, vI m)], [vI ((nI 2) + (nI t - nI u))], h) rfl ?_
      refine R_top (nI (2 + dst (nI t) (nI u))) (pos_d ht hu c9) ?_
      exact R_ret (some (vI (nI (2 + dst (nI t) (nI u))))) h rfl ⟨by rw [et, eu]; rfl, rfl⟩
    · refine R_s 4 (192, [(7, vI (nI t - nI u)), (6, vI (kd s b q)), (5, vI (kd s a q)), (0, vR 8 20), (1, vI (nI q)), (2, vI (nI a)), (3, vI (nI b)), (4, vI m)], [vI ((nI 2) + (-(nI t - nI u)))], h) rfl ?_
      refine R_top (nI (2 + dst (nI t) (nI u))) (neg_d ht hu c9) ?_
      exact R_ret (some (vI (nI (2 + dst (nI t) (nI u))))) h rfl ⟨by rw [et, eu]; rfl, rfl⟩
set_option maxRecDepth 100000 in
theorem t_M_between {d n p k : Nat} {h : HP} {s : Nat → Int32} {a b : Nat} {m : Int32} (ha : a < 8) (hb : b < 8) (M : MS 21 h s) (F : WF s n p k) : MT (d + 4) mM_between [vR 8 20, vI (nI a), vI (nI b), vI m] h (fun r h' => r = some (vI (nI (btw s m p a b p))) ∧ h' = h) := by
  have h8 := F.2.1.1
  have h5 := F.2.1.2.1
  have h6 := F.2.1.2.2
  refine R_s 4 (6, [(5, vI (nI 0)), (4, vI (nI 0)), (0, vR 8 20), (1, vI (nI a)), (2, vI (nI b)), (3, vI m)], [], h) rfl ?_
  suffices ∀ m0 (q c : Nat) (hm : q + m0 = p) (hc : c = btw s m p a b q), R (d + 4) mM_between (6, [(5, vI (nI q)), (4, vI (nI c)), (0, vR 8 20), (1, vI (nI a)), (2, vI (nI b)), (3, vI m)], [], h) _ from this p 0 0 (by omega) rfl
  intro m0
  induction m0 with
  | zero =>
    intro q c hm hc
    refine R_s 4 (14, [(5, vI (nI q)), (4, vI (nI c)), (0, vR 8 20), (1, vI (nI a)), (2, vI (nI b)), (3, vI m)], [vI (nI 26), vR 8 21, vI (nI q)], h) rfl ?_
    refine R_ld 8 21 26 125 rfl rfl (by omega) (by decide) ?_
    refine R_top (nI p) ((M 26 (by decide)).trans F.1.2.1) ?_
    refine R_s 1 (cond (if2 .ge (nI q) (nI p)) 38 18, [(5, vI (nI q)), (4, vI (nI c)), (0, vR 8 20), (1, vI (nI a)), (2, vI (nI b)), (3, vI m)], [], h) rfl ?_
    refine R_bp (p ≤ q) (i2_ge (by omega) (by omega)) (fun c1 => ?_) (fun c1 => ?_)
    · refine R_s 1 (40, [(5, vI (nI q)), (4, vI (nI c)), (0, vR 8 20), (1, vI (nI a)), (2, vI (nI b)), (3, vI m)], [vI (nI c)], h) rfl ?_
      exact R_ret (some (vI (nI c))) h rfl ⟨by rw [hc, show q = p by omega], rfl⟩
    · exact absurd hm (by omega)
  | succ m0 ih =>
    intro q c hm hc
    refine R_s 4 (14, [(5, vI (nI q)), (4, vI (nI c)), (0, vR 8 20), (1, vI (nI a)), (2, vI (nI b)), (3, vI m)], [vI (nI 26), vR 8 21, vI (nI q)], h) rfl ?_
    refine R_ld 8 21 26 125 rfl rfl (by omega) (by decide) ?_
    refine R_top (nI p) ((M 26 (by decide)).trans F.1.2.1) ?_
    refine R_s 1 (cond (if2 .ge (nI q) (nI p)) 38 18, [(5, vI (nI q)), (4, vI (nI c)), (0, vR 8 20), (1, vI (nI a)), (2, vI (nI b)), (3, vI m)], [], h) rfl ?_
    refine R_bp (p ≤ q) (i2_ge (by omega) (by omega)) (fun c1 => ?_) (fun c1 => ?_)
    · refine R_s 1 (40, [(5, vI (nI q)), (4, vI (nI c)), (0, vR 8 20), (1, vI (nI a)), (2, vI (nI b)), (3, vI m)], [vI (nI c)], h) rfl ?_
      exact R_ret (some (vI (nI c))) h rfl ⟨by rw [hc, show q = p by omega], rfl⟩
    · refine R_s 6 (26, [(5, vI (nI q)), (4, vI (nI c)), (0, vR 8 20), (1, vI (nI a)), (2, vI (nI b)), (3, vI m)], [vI m, vI (nI b), vI (nI a), vI (nI q), vR 8 20, vI (nI c)], h) rfl ?_
      refine R_calli mM_costOf [vR 8 20, vI (nI q), vI (nI a), vI (nI b), vI m] [vI (nI c)] (nI (cof s m p a b q)) h rfl (t_M_costOf ha hb (by omega) M F) ?_
      refine R_add c (cof s m p a b q) rfl ?_
      refine R_s 2 (35, [(5, vI (nI q + Int32.ofInt 1)), (4, vI (nI (c + (cof s m p a b q)))), (0, vR 8 20), (1, vI (nI a)), (2, vI (nI b)), (3, vI m)], [], h) rfl ?_
      refine R_lv (lv' := [(5, vI (nI (q + 1))), (4, vI (nI (c + (cof s m p a b q)))), (0, vR 8 20), (1, vI (nI a)), (2, vI (nI b)), (3, vI m)]) (by rw [show nI q + Int32.ofInt 1 = nI (q + 1) from nI_add _ _]) ?_
      refine R_s 1 (6, [(5, vI (nI (q + 1))), (4, vI (nI (c + (cof s m p a b q)))), (0, vR 8 20), (1, vI (nI a)), (2, vI (nI b)), (3, vI m)], [], h) rfl ?_
      exact ih (q + 1) _ (by omega) (by rw [hc]; rfl)
