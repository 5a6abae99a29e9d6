theorem t_C_costOfChangeover {d g n p k : Nat} {h : HP} {s : Nat → Int32} {a b : Nat} (C : CO h g s n p k) (F : WF s n p k) (ha : a < 8) (hb : b < 8) : MT (d + 3) mC_costOfChangeover [vR g 0, vI (nI a), vI (nI b)] h (fun r h' => r = some (vI (nI (btw s (-1) p a b p))) ∧ h' = h) := by
  have h5 := F.2.1.2.1
  refine R_s 4 (5, [(4, vI (nI 0)), (3, vI (nI 0)), (0, vR g 0), (1, vI (nI a)), (2, vI (nI b))], [], h) rfl ?_
  suffices ∀ m q c, q + m = p → c = btw s (-1) p a b q → R (d + 3) mC_costOfChangeover (5, [(4, vI (nI q)), (3, vI (nI c)), (0, vR g 0), (1, vI (nI a)), (2, vI (nI b))], [], h) (fun r h' => r = some (vI (nI (btw s (-1) p a b p))) ∧ h' = h) from this p 0 0 (by omega) rfl
  intro m
  induction m with
  | zero =>
    intro q c hm hc
    have hq : q ≤ 5 := by omega
    refine R_s 3 (11, [(4, vI (nI q)), (3, vI (nI c)), (0, vR g 0), (1, vI (nI a)), (2, vI (nI b))], [vI (h g 0 1), vI (nI q)], h) rfl ?_
    refine R_top (nI p) C.1.2.1 ?_
    refine R_s 1 (cond (if2 .ge (nI q) (nI p)) 31 14, [(4, vI (nI q)), (3, vI (nI c)), (0, vR g 0), (1, vI (nI a)), (2, vI (nI b))], [], h) rfl ?_
    refine R_bp (p ≤ q) (i2_ge (by omega) (by omega)) (fun c1 => ?_) (fun c1 => ?_)
    · refine R_s 1 (32, [(4, vI (nI q)), (3, vI (nI c)), (0, vR g 0), (1, vI (nI a)), (2, vI (nI b))], [vI (nI c)], h) rfl ?_
      exact R_ret (some (vI (nI c))) h rfl ⟨by rw [hc, show q = p by omega], rfl⟩
    · exact absurd hm (by omega)
  | succ m ih =>
    intro q c hm hc
    have hq : q ≤ 5 := by omega
    refine R_s 3 (11, [(4, vI (nI q)), (3, vI (nI c)), (0, vR g 0), (1, vI (nI a)), (2, vI (nI b))], [vI (h g 0 1), vI (nI q)], h) rfl ?_
    refine R_top (nI p) C.1.2.1 ?_
    refine R_s 1 (cond (if2 .ge (nI q) (nI p)) 31 14, [(4, vI (nI q)), (3, vI (nI c)), (0, vR g 0), (1, vI (nI a)), (2, vI (nI b))], [], h) rfl ?_
    refine R_bp (p ≤ q) (i2_ge (by omega) (by omega)) (fun c1 => ?_) (fun c1 => ?_)
    · refine R_s 1 (32, [(4, vI (nI q)), (3, vI (nI c)), (0, vR g 0), (1, vI (nI a)), (2, vI (nI b))], [vI (nI c)], h) rfl ?_
      exact R_ret (some (vI (nI c))) h rfl ⟨by rw [hc, show q = p by omega], rfl⟩
    · refine R_s 5 (20, [(4, vI (nI q)), (3, vI (nI c)), (0, vR g 0), (1, vI (nI a)), (2, vI (nI b))], [vI (nI b), vI (nI a), vI (nI q), vR g 0, vI (nI c)], h) rfl ?_
      refine R_calli mC_costOfChange [vR g 0, vI (nI q), vI (nI a), vI (nI b)] [vI (nI c)] (nI (cof s (-1) p a b q)) h rfl (t_C_costOfChange C F ha hb (by omega)) ?_
      refine R_add c (cof s (-1) p a b q) rfl ?_
      refine R_s 2 (28, [(4, vI (nI q + Int32.ofInt 1)), (3, vI (nI (c + (cof s (-1) p a b q)))), (0, vR g 0), (1, vI (nI a)), (2, vI (nI b))], [], h) rfl ?_
      refine R_lv (lv' := [(4, vI (nI (q + 1))), (3, vI (nI (c + (cof s (-1) p a b q)))), (0, vR g 0), (1, vI (nI a)), (2, vI (nI b))]) (by rw [show nI q + Int32.ofInt 1 = nI (q + 1) from nI_add _ _]) ?_
      refine R_s 1 (5, [(4, vI (nI (q + 1))), (3, vI (nI (c + (cof s (-1) p a b q)))), (0, vR g 0), (1, vI (nI a)), (2, vI (nI b))], [], h) rfl ?_
      exact ih (q + 1) _ (by omega) (by rw [hc]; rfl)
theorem t_C_costAfter {d g n p k : Nat} {h : HP} {s : Nat → Int32} {j a b : Nat} (C : CO h g s n p k) (F : WF s n p k) (hj : j + 1 < 8) (ha : a < 8) (hb : b < 8) (ea : s (18 + j) = nI a) (eb : s (18 + (j + 1)) = nI b) : MT (d + 4) mC_costAfter [vR g 0, vI (nI j)] h (fun r h' => r = some (vI (nI (btw s (-1) p a b p))) ∧ h' = h) := by
  refine R_s 4 (6, [(0, vR g 0), (1, vI (nI j))], [vI (nI j), vR g 8, vR g 0], h) rfl ?_
  refine R_ld g 8 j 8 rfl rfl (by omega) (by decide) ?_
  refine R_top (nI a) ((C.2.2.2.2.2.2 j (by omega)).2.trans ea) ?_
  refine R_s 4 (13, [(0, vR g 0), (1, vI (nI j))], [vI (nI 1), vI (nI j), vR g 8, vI (nI a), vR g 0], h) rfl ?_
  refine R_add j 1 rfl ?_
  refine R_ld g 8 (j + 1) 8 rfl rfl (by omega) (by decide) ?_
  refine R_top (nI b) ((C.2.2.2.2.2.2 (j + 1) (by omega)).2.trans eb) ?_
  refine R_calli mC_costOfChangeover [vR g 0, vI (nI a), vI (nI b)] [] (nI (btw s (-1) p a b p)) h rfl (t_C_costOfChangeover C F ha hb) ?_
  exact R_ret (some (vI (nI (btw s (-1) p a b p)))) h rfl ⟨rfl, rfl⟩
def mx (s : Nat → Int32) (y : Int32) (p : Nat) : Nat → Nat
  | 0 => 0
  | a + 1 => if mx s y p a < cn s a y p then cn s a y p else mx s y p a
theorem mx_le (s : Nat → Int32) (y : Int32) (p : Nat) : ∀ a, mx s y p a ≤ p := by
  intro a
  induction a with
  | zero => exact Nat.zero_le _
  | succ a ih =>
    show (if mx s y p a < cn s a y p then cn s a y p else mx s y p a) ≤ p
    split
    · exact cn_le _ _ _ _
    · exact ih
theorem if_nI {a b : Nat} (ha : a < 2147483648) (hb : b < 2147483648) : (if nI a < nI b then nI b else nI a) = nI (if a < b then b else a) := by
  by_cases h : a < b
  · rw [if_pos h, if_pos (nI_lt h hb)]
  · rw [if_neg h, if_neg (nI_nlt (by omega) ha)]
theorem t_C_mostPlayersOn {d g n p k : Nat} {h : HP} {s : Nat → Int32} {y : Int32} (C : CO h g s n p k) (h8 : n ≤ 8) (h5 : p ≤ 5) : MT (d + 1) mC_mostPlayersOn [vR g 0, vI y] h (fun r h' => r = some (vI (nI (mx s y p n))) ∧ h' = h) := by
  refine R_s 4 (4, [(3, vI (nI 0)), (2, vI (nI 0)), (0, vR g 0), (1, vI y)], [], h) rfl ?_
  suffices ∀ m a c, a + m = n → c = mx s y p a → R (d + 1) mC_mostPlayersOn (4, [(3, vI (nI a)), (2, vI (nI c)), (0, vR g 0), (1, vI y)], [], h) (fun r h' => r = some (vI (nI (mx s y p n))) ∧ h' = h) from this n 0 0 (by omega) rfl
  intro m
  induction m with
  | zero =>
    intro a c hm hc
    have hcn := cn_le s a y p
    have hcl : c ≤ p := by rw [hc]; exact mx_le _ _ _ _
    refine R_s 3 (9, [(3, vI (nI a)), (2, vI (nI c)), (0, vR g 0), (1, vI y)], [vI (h g 0 0), vI (nI a)], h) rfl ?_
    refine R_top (nI n) C.1.1 ?_
    refine R_s 1 (cond (if2 .ge (nI a) (nI n)) 29 12, [(3, vI (nI a)), (2, vI (nI c)), (0, vR g 0), (1, vI y)], [], h) rfl ?_
    refine R_bp (n ≤ a) (i2_ge (by omega) (by omega)) (fun c1 => ?_) (fun c1 => ?_)
    · refine R_s 1 (30, [(3, vI (nI a)), (2, vI (nI c)), (0, vR g 0), (1, vI y)], [vI (nI c)], h) rfl ?_
      exact R_ret (some (vI (nI c))) h rfl ⟨by rw [hc, show a = n by omega], rfl⟩
    · exact absurd hm (by omega)
  | succ m ih =>
    intro a c hm hc
    have hcn := cn_le s a y p
    have hcl : c ≤ p := by rw [hc]; exact mx_le _ _ _ _
    refine R_s 3 (9, [(3, vI (nI a)), (2, vI (nI c)), (0, vR g 0), (1, vI y)], [vI (h g 0 0), vI (nI a)], h) rfl ?_
    refine R_top (nI n) C.1.1 ?_
    refine R_s 1 (cond (if2 .ge (nI a) (nI n)) 29 12, [(3, vI (nI a)), (2, vI (nI c)), (0, vR g 0), (1, vI y)], [], h) rfl ?_
    refine R_bp (n ≤ a) (i2_ge (by omega) (by omega)) (fun c1 => ?_) (fun c1 => ?_)
    · refine R_s 1 (30, [(3, vI (nI a)), (2, vI (nI c)), (0, vR g 0), (1, vI y)], [vI (nI c)], h) rfl ?_
      exact R_ret (some (vI (nI c))) h rfl ⟨by rw [hc, show a = n by omega], rfl⟩
    · refine R_s 4 (16, [(3, vI (nI a)), (2, vI (nI c)), (0, vR g 0), (1, vI y)], [vI y, vI (nI a), vR g 0, vI (nI c)], h) rfl ?_
      refine R_calli mC_playersOn [vR g 0, vI (nI a), vI y] [vI (nI c)] (nI (cn s a y p)) h rfl (t_C_playersOn C h5 (by omega)) ?_
      refine R_s 1 (22, [(3, vI (nI a)), (2, vI (nI c)), (0, vR g 0), (1, vI y)], [vI (if (nI c) < (nI (cn s a y p)) then (nI (cn s a y p)) else (nI c))], h) rfl ?_
      refine R_top (nI (if c < cn s a y p then cn s a y p else c)) (if_nI (by omega) (by omega)) ?_
      refine R_s 2 (26, [(3, vI (nI a + Int32.ofInt 1)), (2, vI (nI (if c < cn s a y p then cn s a y p else c))), (0, vR g 0), (1, vI y)], [], h) rfl ?_
      refine R_lv (lv' := [(3, vI (nI (a + 1))), (2, vI (nI (if c < cn s a y p then cn s a y p else c))), (0, vR g 0), (1, vI y)]) (by rw [show nI a + Int32.ofInt 1 = nI (a + 1) from nI_add _ _]) ?_
      refine R_s 1 (4, [(3, vI (nI (a + 1))), (2, vI (nI (if c < cn s a y p then cn s a y p else c))), (0, vR g 0), (1, vI y)], [], h) rfl ?_
      exact ih (a + 1) _ (by omega) (by rw [hc]; rfl)
/-- the first song from a on, of the m next ones, that is pinned at y; -1 if none -/
def spn (s : Nat → Int32) (y : Int32) : Nat → Nat → Int32
  | 0, _ => -1
  | m + 1, a => if s (10 + a) = y then nI a else spn s y m (a + 1)
theorem t_C_songPinnedAt {d g n p k : Nat} {h : HP} {s : Nat → Int32} {y : Int32} (C : CO h g s n p k) (h8 : n ≤ 8) : MT d mC_songPinnedAt [vR g 0, vI y] h (fun r h' => r = some (vI (spn s y n 0)) ∧ h' = h) := by
  refine R_s 2 (2, [(2, vI (nI 0)), (0, vR g 0), (1, vI y)], [], h) rfl ?_
  suffices ∀ m a, a + m = n → spn s y n 0 = spn s y m a → R d mC_songPinnedAt (2, [(2, vI (nI a)), (0, vR g 0), (1, vI y)], [], h) (fun r h' => r = some (vI (spn s y n 0)) ∧ h' = h) from this n 0 (by omega) rfl
  intro m
  induction m with
  | zero =>
    intro a hm hc
    refine R_s 3 (7, [(2, vI (nI a)), (0, vR g 0), (1, vI y)], [vI (h g 0 0), vI (nI a)], h) rfl ?_
    refine R_top (nI n) C.1.1 ?_
    refine R_s 1 (cond (if2 .ge (nI a) (nI n)) 28 10, [(2, vI (nI a)), (0, vR g 0), (1, vI y)], [], h) rfl ?_
    refine R_bp (n ≤ a) (i2_ge (by omega) (by omega)) (fun c1 => ?_) (fun c1 => ?_)
    · refine R_s 1 (29, [(2, vI (nI a)), (0, vR g 0), (1, vI y)], [vI (-1)], h) rfl ?_
      exact R_ret (some (vI (-1))) h rfl ⟨by rw [hc, show 0 = 0 by omega]; rfl, rfl⟩
    · exact absurd hm (by omega)
  | succ m ih =>
    intro a hm hc
    refine R_s 3 (7, [(2, vI (nI a)), (0, vR g 0), (1, vI y)], [vI (h g 0 0), vI (nI a)], h) rfl ?_
    refine R_top (nI n) C.1.1 ?_
    refine R_s 1 (cond (if2 .ge (nI a) (nI n)) 28 10, [(2, vI (nI a)), (0, vR g 0), (1, vI y)], [], h) rfl ?_
    refine R_bp (n ≤ a) (i2_ge (by omega) (by omega)) (fun c1 => ?_) (fun c1 => ?_)
    · refine R_s 1 (29, [(2, vI (nI a)), (0, vR g 0), (1, vI y)], [vI (-1)], h) rfl ?_
      exact R_ret (some (vI (-1))) h rfl ⟨by rw [hc, show m + 1 = 0 by omega]; rfl, rfl⟩
    · refine R_s 3 (15, [(2, vI (nI a)), (0, vR g 0), (1, vI y)], [vI (nI a), vR g 7], h) rfl ?_
      refine R_ld g 7 a 8 rfl rfl (by omega) (by decide) ?_
      refine R_top (s (10 + a)) (C.2.2.2.2.2.2 a (by omega)).1 ?_
      refine R_s 2 (cond (if2 .ne (s (10 + a)) y) 22 20, [(2, vI (nI a)), (0, vR g 0), (1, vI y)], [], h) rfl ?_
      refine R_bp (¬ (s (10 + a)) = y) x2_ne (fun c2 => ?_) (fun c2 => ?_)
      · refine R_s 1 (25, [(2, vI (nI a + Int32.ofInt 1)), (0, vR g 0), (1, vI y)], [], h) rfl ?_
        refine R_lv (lv' := [(2, vI (nI (a + 1))), (0, vR g 0), (1, vI y)]) (by rw [show nI a + Int32.ofInt 1 = nI (a + 1) from nI_add _ _]) ?_
        refine R_s 1 (2, [(2, vI (nI (a + 1))), (0, vR g 0), (1, vI y)], [], h) rfl ?_
        exact ih (a + 1) (by omega) (by rw [hc]; show (if _ then _ else _) = _; rw [if_neg c2])
      · refine R_s 1 (21, [(2, vI (nI a)), (0, vR g 0), (1, vI y)], [vI (nI a)], h) rfl ?_
        exact R_ret (some (vI (nI a))) h rfl ⟨by rw [hc]; show _ = some (vI (if _ then _ else _)); rw [if_pos (Classical.not_not.mp c2)], rfl⟩
def pinc (s : Nat → Int32) : Nat → Nat
  | 0 => 0
  | a + 1 => pinc s a + (if s (10 + a) = -1 then 0 else 1)
theorem pinc_le (s : Nat → Int32) : ∀ a, pinc s a ≤ a := by
  intro a
  induction a with
  | zero => exact Nat.le_refl _
  | succ a ih =>
    show pinc s a + (if s (10 + a) = -1 then 0 else 1) ≤ a + 1
    split <;> omega
theorem t_C_pinCount {d g n p k : Nat} {h : HP} {s : Nat → Int32} (C : CO h g s n p k) (h8 : n ≤ 8) : MT d mC_pinCount [vR g 0] h (fun r h' => r = some (vI (nI (pinc s n))) ∧ h' = h) := by
  refine R_s 4 (4, [(2, vI (nI 0)), (1, vI (nI 0)), (0, vR g 0)], [], h) rfl ?_
  suffices ∀ m a c, a + m = n → c = pinc s a → R d mC_pinCount (4, [(2, vI (nI a)), (1, vI (nI c)), (0, vR g 0)], [], h) (fun r h' => r = some (vI (nI (pinc s n))) ∧ h' = h) from this n 0 0 (by omega) rfl
  intro m
  induction m with
  | zero =>
    intro a c hm hc
    have hcl : c ≤ a := by rw [hc]; exact pinc_le _ _
    refine R_s 3 (9, [(2, vI (nI a)), (1, vI (nI c)), (0, vR g 0)], [vI (h g 0 0), vI (nI a)], h) rfl ?_
    refine R_top (nI n) C.1.1 ?_
    refine R_s 1 (cond (if2 .ge (nI a) (nI n)) 31 12, [(2, vI (nI a)), (1, vI (nI c)), (0, vR g 0)], [], h) rfl ?_
    refine R_bp (n ≤ a) (i2_ge (by omega) (by omega)) (fun c1 => ?_) (fun c1 => ?_)
    · refine R_s 1 (32, [(2, vI (nI a)), (1, vI (nI c)), (0, vR g 0)], [vI (nI c)], h) rfl ?_
      exact R_ret (some (vI (nI c))) h rfl ⟨by rw [hc, show a = n by omega], rfl⟩
    · exact absurd hm (by omega)
  | succ m ih =>
    intro a c hm hc
    have hcl : c ≤ a := by rw [hc]; exact pinc_le _ _
    refine R_s 3 (9, [(2, vI (nI a)), (1, vI (nI c)), (0, vR g 0)], [vI (h g 0 0), vI (nI a)], h) rfl ?_
    refine R_top (nI n) C.1.1 ?_
    refine R_s 1 (cond (if2 .ge (nI a) (nI n)) 31 12, [(2, vI (nI a)), (1, vI (nI c)), (0, vR g 0)], [], h) rfl ?_
    refine R_bp (n ≤ a) (i2_ge (by omega) (by omega)) (fun c1 => ?_) (fun c1 => ?_)
    · refine R_s 1 (32, [(2, vI (nI a)), (1, vI (nI c)), (0, vR g 0)], [vI (nI c)], h) rfl ?_
      exact R_ret (some (vI (nI c))) h rfl ⟨by rw [hc, show a = n by omega], rfl⟩
    · refine R_s 3 (17, [(2, vI (nI a)), (1, vI (nI c)), (0, vR g 0)], [vI (nI a), vR g 7], h) rfl ?_
      refine R_ld g 7 a 8 rfl rfl (by omega) (by decide) ?_
      refine R_top (s (10 + a)) (C.2.2.2.2.2.2 a (by omega)).1 ?_
      refine R_s 2 (cond (if2 .eq (s (10 + a)) (-1)) 25 22, [(2, vI (nI a)), (1, vI (nI c)), (0, vR g 0)], [], h) rfl ?_
      refine R_bp ((s (10 + a)) = (-1)) x2_eq (fun c2 => ?_) (fun c2 => ?_)
      · refine R_s 1 (28, [(2, vI (nI a + Int32.ofInt 1)), (1, vI (nI c)), (0, vR g 0)], [], h) rfl ?_
        refine R_lv (lv' := [(2, vI (nI (a + 1))), (1, vI (nI c)), (0, vR g 0)]) (by rw [show nI a + Int32.ofInt 1 = nI (a + 1) from nI_add _ _]) ?_
        refine R_s 1 (4, [(2, vI (nI (a + 1))), (1, vI (nI c)), (0, vR g 0)], [], h) rfl ?_
        exact ih (a + 1) _ (by omega) (by rw [hc]; show _ = _ + (if _ then _ else _); rw [if_pos c2]; rfl)
      · refine R_s 1 (25, [(1, vI (nI c + Int32.ofInt 1)), (2, vI (nI a)), (0, vR g 0)], [], h) rfl ?_
        refine R_lv (lv' := [(1, vI (nI (c + 1))), (2, vI (nI a)), (0, vR g 0)]) (by rw [show nI c + Int32.ofInt 1 = nI (c + 1) from nI_add _ _]) ?_
        refine R_s 1 (28, [(2, vI (nI a + Int32.ofInt 1)), (1, vI (nI (c + 1))), (0, vR g 0)], [], h) rfl ?_
        refine R_lv (lv' := [(2, vI (nI (a + 1))), (1, vI (nI (c + 1))), (0, vR g 0)]) (by rw [show nI a + Int32.ofInt 1 = nI (a + 1) from nI_add _ _]) ?_
        refine R_s 1 (4, [(2, vI (nI (a + 1))), (1, vI (nI (c + 1))), (0, vR g 0)], [], h) rfl ?_
        exact ih (a + 1) _ (by omega) (by rw [hc]; show _ = _ + (if _ then _ else _); rw [if_neg c2])
def bq1 (x : Int32) : Int32 := x - (((x).toUInt32 >>> ((nI 1).toUInt32 &&& Int32.toUInt32 31)).toInt32 &&& nI 1431655765)
def bq2 (x : Int32) : Int32 := (x &&& nI 858993459) + (((x).toUInt32 >>> ((nI 2).toUInt32 &&& Int32.toUInt32 31)).toInt32 &&& nI 858993459)
def bq3 (x : Int32) : Int32 := (x + ((x).toUInt32 >>> ((nI 4).toUInt32 &&& Int32.toUInt32 31)).toInt32) &&& nI 252645135
def bq4 (x : Int32) : Int32 := x + ((x).toUInt32 >>> ((nI 8).toUInt32 &&& Int32.toUInt32 31)).toInt32
def bq5 (x : Int32) : Int32 := x + ((x).toUInt32 >>> ((nI 16).toUInt32 &&& Int32.toUInt32 31)).toInt32
theorem bq_ok : ∀ e, e < 256 → bq5 (bq4 (bq3 (bq2 (bq1 (nI e))))) &&& nI 63 = nI (pop e) := by decide +kernel
theorem t_I_bitCount {d e : Nat} {h : HP} (he : e < 256) : MT d mI_bitCount [vI (nI e)] h (fun r h' => r = some (vI (nI (pop e))) ∧ h' = h) := by
  refine R_s 8 (10, [(0, vI ((nI e) - ((((nI e).toUInt32 >>> ((nI 1).toUInt32 &&& Int32.toUInt32 31)).toInt32) &&& (nI 1431655765))))], [], h) rfl ?_
  refine R_lv (lv' := [(0, vI (bq1 (nI e)))]) rfl ?_
  refine R_s 10 (24, [(0, vI (((bq1 (nI e)) &&& (nI 858993459)) + ((((bq1 (nI e)).toUInt32 >>> ((nI 2).toUInt32 &&& Int32.toUInt32 31)).toInt32) &&& (nI 858993459))))], [], h) rfl ?_
  refine R_lv (lv' := [(0, vI (bq2 (bq1 (nI e))))]) rfl ?_
  refine R_s 8 (34, [(0, vI (((bq2 (bq1 (nI e))) + (((bq2 (bq1 (nI e))).toUInt32 >>> ((nI 4).toUInt32 &&& Int32.toUInt32 31)).toInt32)) &&& (nI 252645135)))], [], h) rfl ?_
  refine R_lv (lv' := [(0, vI (bq3 (bq2 (bq1 (nI e)))))]) rfl ?_
  refine R_s 6 (41, [(0, vI ((bq3 (bq2 (bq1 (nI e)))) + (((bq3 (bq2 (bq1 (nI e)))).toUInt32 >>> ((nI 8).toUInt32 &&& Int32.toUInt32 31)).toInt32)))], [], h) rfl ?_
  refine R_lv (lv' := [(0, vI (bq4 (bq3 (bq2 (bq1 (nI e))))))]) rfl ?_
  refine R_s 6 (48, [(0, vI ((bq4 (bq3 (bq2 (bq1 (nI e))))) + (((bq4 (bq3 (bq2 (bq1 (nI e))))).toUInt32 >>> ((nI 16).toUInt32 &&& Int32.toUInt32 31)).toInt32)))], [], h) rfl ?_
  refine R_lv (lv' := [(0, vI (bq5 (bq4 (bq3 (bq2 (bq1 (nI e)))))))]) rfl ?_
  refine R_s 3 (52, [(0, vI (bq5 (bq4 (bq3 (bq2 (bq1 (nI e)))))))], [vI ((bq5 (bq4 (bq3 (bq2 (bq1 (nI e)))))) &&& (nI 63))], h) rfl ?_
  exact R_ret (some (vI ((bq5 (bq4 (bq3 (bq2 (bq1 (nI e)))))) &&& (nI 63)))) h rfl ⟨by rw [← bq_ok e he], rfl⟩
theorem pop_n : ∀ n, n < 9 → ∀ e, e < 2 ^ n → pop e ≤ n := by decide +kernel
def msb (s : Nat → Int32) (e n a j : Nat) : Bool := (decide (s (10 + a) = -1) || decide (s (10 + a) = nI j)) && (e.testBit a == decide (n - pop e ≤ j))
theorem i2_bb {b c : Bool} : if2 .ne (bI b) (nI (if c then 1 else 0)) = true ↔ ¬ b = c := by cases b <;> cases c <;> decide
theorem t_C_mayStandAt {d g n p k : Nat} {h : HP} {s : Nat → Int32} {e a j : Nat} (C : CO h g s n p k) (h8 : n ≤ 8) (he : s 9 = nI e) (hen : e < 2 ^ n) (ha : a < 8) (hj : j < 8) : MT (d + 1) mC_mayStandAt [vR g 0, vI (nI a), vI (nI j)] h (fun r h' => r = some (vI (bI (msb s e n a j))) ∧ h' = h) := by
  have he8 : e < 256 := Nat.lt_of_lt_of_le hen (pw_le h8)
  have hpn := pop_n n (by omega) e hen
  refine R_s 3 (5, [(0, vR g 0), (1, vI (nI a)), (2, vI (nI j))], [vI (h g 0 0), vI (nI j)], h) rfl ?_
  refine R_top (nI n) C.1.1 ?_
  refine R_s 2 (9, [(0, vR g 0), (1, vI (nI a)), (2, vI (nI j))], [vI (h g 0 3), vI (nI n), vI (nI j)], h) rfl ?_
  refine R_top (nI e) (C.1.2.2.2.trans he) ?_
  refine R_calli mI_bitCount [vI (nI e)] [vI (nI n), vI (nI j)] (nI (pop e)) h rfl (t_I_bitCount he8) ?_
  refine R_sub n (pop e) rfl hpn ?_
  refine R_s 1 (cond (if2 .lt (nI j) (nI (n - (pop e)))) 20 16, [(0, vR g 0), (1, vI (nI a)), (2, vI (nI j))], [], h) rfl ?_
  refine R_bp (j < (n - (pop e))) (i2_lt (by omega) (by omega)) (fun c1 => ?_) (fun c1 => ?_)
  · refine R_s 2 (22, [(3, vI (nI 0)), (0, vR g 0), (1, vI (nI a)), (2, vI (nI j))], [], h) rfl ?_
    refine R_s 3 (27, [(3, vI (nI 0)), (0, vR g 0), (1, vI (nI a)), (2, vI (nI j))], [vI (nI a), vR g 7], h) rfl ?_
    refine R_ld g 7 a 8 rfl rfl (by omega) (by decide) ?_
    refine R_top (s (10 + a)) (C.2.2.2.2.2.2 a ha).1 ?_
    refine R_s 2 (cond (if2 .eq (s (10 + a)) (-1)) 42 32, [(3, vI (nI 0)), (0, vR g 0), (1, vI (nI a)), (2, vI (nI j))], [], h) rfl ?_
    refine R_bp ((s (10 + a)) = (-1)) x2_eq (fun c2 => ?_) (fun c2 => ?_)
    · refine R_s 5 (cond (if0 .eq (nI 1)) 67 54, [(4, vI (nI 1)), (3, vI (nI 0)), (0, vR g 0), (1, vI (nI a)), (2, vI (nI j))], [], h) rfl ?_
      refine R_bf rfl ?_
      refine R_s 2 (56, [(4, vI (nI 1)), (3, vI (nI 0)), (0, vR g 0), (1, vI (nI a)), (2, vI (nI j))], [vI (nI a), vR g 0], h) rfl ?_
      refine R_calli mC_isEncore [vR g 0, vI (nI a)] [] (bI (e.testBit a)) h rfl (t_C_isEncore (C.1.2.2.2.trans he) he8 ha) ?_
      refine R_s 2 (cond (if2 .ne (bI (e.testBit a)) (nI 0)) 67 63, [(4, vI (nI 1)), (3, vI (nI 0)), (0, vR g 0), (1, vI (nI a)), (2, vI (nI j))], [], h) rfl ?_
      refine R_bp (¬ e.testBit a = false) (i2_bb (c := false)) (fun c9 => ?_) (fun c9 => ?_)
      · refine R_s 1 (68, [(4, vI (nI 1)), (3, vI (nI 0)), (0, vR g 0), (1, vI (nI a)), (2, vI (nI j))], [vI (nI 0)], h) rfl ?_
        exact R_ret (some (vI (nI 0))) h rfl ⟨by rw [show msb s e n a j = false by unfold msb; rw [show decide (n - pop e ≤ j) = false from decide_eq_false (by omega)]; cases hb : e.testBit a <;> simp [hb] at c9 ⊢]; rfl, rfl⟩
      · refine R_s 2 (68, [(4, vI (nI 1)), (3, vI (nI 0)), (0, vR g 0), (1, vI (nI a)), (2, vI (nI j))], [vI (nI 1)], h) rfl ?_
        exact R_ret (some (vI (nI 1))) h rfl ⟨by rw [show msb s e n a j = true by unfold msb; rw [show decide (n - pop e ≤ j) = false from decide_eq_false (by omega), Classical.not_not.mp c9]; simp [c2]]; rfl, rfl⟩
    · refine R_s 3 (37, [(3, vI (nI 0)), (0, vR g 0), (1, vI (nI a)), (2, vI (nI j))], [vI (nI a), vR g 7], h) rfl ?_
      refine R_ld g 7 a 8 rfl rfl (by omega) (by decide) ?_
      refine R_top (s (10 + a)) (C.2.2.2.2.2.2 a ha).1 ?_
      refine R_s 2 (cond (if2 .ne (s (10 + a)) (nI j)) 46 42, [(3, vI (nI 0)), (0, vR g 0), (1, vI (nI a)), (2, vI (nI j))], [], h) rfl ?_
      refine R_bp (¬ (s (10 + a)) = (nI j)) x2_ne (fun c3 => ?_) (fun c3 => ?_)
      · refine R_s 4 (cond (if0 .eq (nI 0)) 67 54, [(4, vI (nI 0)), (3, vI (nI 0)), (0, vR g 0), (1, vI (nI a)), (2, vI (nI j))], [], h) rfl ?_
        refine R_bt rfl ?_
        refine R_s 1 (68, [(4, vI (nI 0)), (3, vI (nI 0)), (0, vR g 0), (1, vI (nI a)), (2, vI (nI j))], [vI (nI 0)], h) rfl ?_
        exact R_ret (some (vI (nI 0))) h rfl ⟨by rw [show msb s e n a j = false by unfold msb; simp [c2, c3]]; rfl, rfl⟩
      · refine R_s 5 (cond (if0 .eq (nI 1)) 67 54, [(4, vI (nI 1)), (3, vI (nI 0)), (0, vR g 0), (1, vI (nI a)), (2, vI (nI j))], [], h) rfl ?_
        refine R_bf rfl ?_
        refine R_s 2 (56, [(4, vI (nI 1)), (3, vI (nI 0)), (0, vR g 0), (1, vI (nI a)), (2, vI (nI j))], [vI (nI a), vR g 0], h) rfl ?_
        refine R_calli mC_isEncore [vR g 0, vI (nI a)] [] (bI (e.testBit a)) h rfl (t_C_isEncore (C.1.2.2.2.trans he) he8 ha) ?_
        refine R_s 2 (cond (if2 .ne (bI (e.testBit a)) (nI 0)) 67 63, [(4, vI (nI 1)), (3, vI (nI 0)), (0, vR g 0), (1, vI (nI a)), (2, vI (nI j))], [], h) rfl ?_
        refine R_bp (¬ e.testBit a = false) (i2_bb (c := false)) (fun c9 => ?_) (fun c9 => ?_)
        · refine R_s 1 (68, [(4, vI (nI 1)), (3, vI (nI 0)), (0, vR g 0), (1, vI (nI a)), (2, vI (nI j))], [vI (nI 0)], h) rfl ?_
          exact R_ret (some (vI (nI 0))) h rfl ⟨by rw [show msb s e n a j = false by unfold msb; rw [show decide (n - pop e ≤ j) = false from decide_eq_false (by omega)]; cases hb : e.testBit a <;> simp [hb] at c9 ⊢]; rfl, rfl⟩
        · refine R_s 2 (68, [(4, vI (nI 1)), (3, vI (nI 0)), (0, vR g 0), (1, vI (nI a)), (2, vI (nI j))], [vI (nI 1)], h) rfl ?_
          exact R_ret (some (vI (nI 1))) h rfl ⟨by rw [show msb s e n a j = true by unfold msb; rw [show decide (n - pop e ≤ j) = false from decide_eq_false (by omega), Classical.not_not.mp c9]; simp [Classical.not_not.mp c3]]; rfl, rfl⟩
  · refine R_s 3 (22, [(3, vI (nI 1)), (0, vR g 0), (1, vI (nI a)), (2, vI (nI j))], [], h) rfl ?_
    refine R_s 3 (27, [(3, vI (nI 1)), (0, vR g 0), (1, vI (nI a)), (2, vI (nI j))], [vI (nI a), vR g 7], h) rfl ?_
    refine R_ld g 7 a 8 rfl rfl (by omega) (by decide) ?_
    refine R_top (s (10 + a)) (C.2.2.2.2.2.2 a ha).1 ?_
    refine R_s 2 (cond (if2 .eq (s (10 + a)) (-1)) 42 32, [(3, vI (nI 1)), (0, vR g 0), (1, vI (nI a)), (2, vI (nI j))], [], h) rfl ?_
    refine R_bp ((s (10 + a)) = (-1)) x2_eq (fun c2 => ?_) (fun c2 => ?_)
    · refine R_s 5 (cond (if0 .eq (nI 1)) 67 54, [(4, vI (nI 1)), (3, vI (nI 1)), (0, vR g 0), (1, vI (nI a)), (2, vI (nI j))], [], h) rfl ?_
      refine R_bf rfl ?_
      refine R_s 2 (56, [(4, vI (nI 1)), (3, vI (nI 1)), (0, vR g 0), (1, vI (nI a)), (2, vI (nI j))], [vI (nI a), vR g 0], h) rfl ?_
      refine R_calli mC_isEncore [vR g 0, vI (nI a)] [] (bI (e.testBit a)) h rfl (t_C_isEncore (C.1.2.2.2.trans he) he8 ha) ?_
      refine R_s 2 (cond (if2 .ne (bI (e.testBit a)) (nI 1)) 67 63, [(4, vI (nI 1)), (3, vI (nI 1)), (0, vR g 0), (1, vI (nI a)), (2, vI (nI j))], [], h) rfl ?_
      refine R_bp (¬ e.testBit a = true) (i2_bb (c := true)) (fun c9 => ?_) (fun c9 => ?_)
      · refine R_s 1 (68, [(4, vI (nI 1)), (3, vI (nI 1)), (0, vR g 0), (1, vI (nI a)), (2, vI (nI j))], [vI (nI 0)], h) rfl ?_
        exact R_ret (some (vI (nI 0))) h rfl ⟨by rw [show msb s e n a j = false by unfold msb; rw [show decide (n - pop e ≤ j) = true from decide_eq_true (by omega)]; cases hb : e.testBit a <;> simp [hb] at c9 ⊢]; rfl, rfl⟩
      · refine R_s 2 (68, [(4, vI (nI 1)), (3, vI (nI 1)), (0, vR g 0), (1, vI (nI a)), (2, vI (nI j))], [vI (nI 1)], h) rfl ?_
        exact R_ret (some (vI (nI 1))) h rfl ⟨by rw [show msb s e n a j = true by unfold msb; rw [show decide (n - pop e ≤ j) = true from decide_eq_true (by omega), Classical.not_not.mp c9]; simp [c2]]; rfl, rfl⟩
    · refine R_s 3 (37, [(3, vI (nI 1)), (0, vR g 0), (1, vI (nI a)), (2, vI (nI j))], [vI (nI a), vR g 7], h) rfl ?_
      refine R_ld g 7 a 8 rfl rfl (by omega) (by decide) ?_
      refine R_top (s (10 + a)) (C.2.2.2.2.2.2 a ha).1 ?_
      refine R_s 2 (cond (if2 .ne (s (10 + a)) (nI j)) 46 42, [(3, vI (nI 1)), (0, vR g 0), (1, vI (nI a)), (2, vI (nI j))], [], h) rfl ?_
      refine R_bp (¬ (s (10 + a)) = (nI j)) x2_ne (fun c3 => ?_) (fun c3 => ?_)
      · refine R_s 4 (cond (if0 .eq (nI 0)) 67 54, [(4, vI (nI 0)), (3, vI (nI 1)), (0, vR g 0), (1, vI (nI a)), (2, vI (nI j))], [], h) rfl ?_
        refine R_bt rfl ?_
        refine R_s 1 (68, [(4, vI (nI 0)), (3, vI (nI 1)), (0, vR g 0), (1, vI (nI a)), (2, vI (nI j))], [vI (nI 0)], h) rfl ?_
        exact R_ret (some (vI (nI 0))) h rfl ⟨by rw [show msb s e n a j = false by unfold msb; simp [c2, c3]]; rfl, rfl⟩
      · refine R_s 5 (cond (if0 .eq (nI 1)) 67 54, [(4, vI (nI 1)), (3, vI (nI 1)), (0, vR g 0), (1, vI (nI a)), (2, vI (nI j))], [], h) rfl ?_
        refine R_bf rfl ?_
        refine R_s 2 (56, [(4, vI (nI 1)), (3, vI (nI 1)), (0, vR g 0), (1, vI (nI a)), (2, vI (nI j))], [vI (nI a), vR g 0], h) rfl ?_
        refine R_calli mC_isEncore [vR g 0, vI (nI a)] [] (bI (e.testBit a)) h rfl (t_C_isEncore (C.1.2.2.2.trans he) he8 ha) ?_
        refine R_s 2 (cond (if2 .ne (bI (e.testBit a)) (nI 1)) 67 63, [(4, vI (nI 1)), (3, vI (nI 1)), (0, vR g 0), (1, vI (nI a)), (2, vI (nI j))], [], h) rfl ?_
        refine R_bp (¬ e.testBit a = true) (i2_bb (c := true)) (fun c9 => ?_) (fun c9 => ?_)
        · refine R_s 1 (68, [(4, vI (nI 1)), (3, vI (nI 1)), (0, vR g 0), (1, vI (nI a)), (2, vI (nI j))], [vI (nI 0)], h) rfl ?_
          exact R_ret (some (vI (nI 0))) h rfl ⟨by rw [show msb s e n a j = false by unfold msb; rw [show decide (n - pop e ≤ j) = true from decide_eq_true (by omega)]; cases hb : e.testBit a <;> simp [hb] at c9 ⊢]; rfl, rfl⟩
        · refine R_s 2 (68, [(4, vI (nI 1)), (3, vI (nI 1)), (0, vR g 0), (1, vI (nI a)), (2, vI (nI j))], [vI (nI 1)], h) rfl ?_
          exact R_ret (some (vI (nI 1))) h rfl ⟨by rw [show msb s e n a j = true by unfold msb; rw [show decide (n - pop e ≤ j) = true from decide_eq_true (by omega), Classical.not_not.mp c9]; simp [Classical.not_not.mp c3]]; rfl, rfl⟩
def ptm (s : Nat → Int32) (S : Nat) : Nat → Int32
  | 0 => nI 0
  | a + 1 => if S.testBit a then ptm s S a + s (1 + a) else ptm s S a
theorem t_C_playingTime {d g n p k : Nat} {h : HP} {s : Nat → Int32} {S : Nat} (C : CO h g s n p k) (h8 : n ≤ 8) (hS : S < 256) : MT d mC_playingTime [vR g 0, vI (nI S)] h (fun r h' => r = some (vI (ptm s S n)) ∧ h' = h) := by
  refine R_s 4 (4, [(3, vI (nI 0)), (2, vI (nI 0)), (0, vR g 0), (1, vI (nI S))], [], h) rfl ?_
  suffices ∀ m a c, a + m = n → c = ptm s S a → R d mC_playingTime (4, [(3, vI (nI a)), (2, vI c), (0, vR g 0), (1, vI (nI S))], [], h) (fun r h' => r = some (vI (ptm s S n)) ∧ h' = h) from this n 0 _ (by omega) rfl
  intro m
  induction m with
  | zero =>
    intro a c hm hc
    refine R_s 3 (9, [(3, vI (nI a)), (2, vI c), (0, vR g 0), (1, vI (nI S))], [vI (h g 0 0), vI (nI a)], h) rfl ?_
    refine R_top (nI n) C.1.1 ?_
    refine R_s 1 (cond (if2 .ge (nI a) (nI n)) 36 12, [(3, vI (nI a)), (2, vI c), (0, vR g 0), (1, vI (nI S))], [], h) rfl ?_
    refine R_bp (n ≤ a) (i2_ge (by omega) (by omega)) (fun c1 => ?_) (fun c1 => ?_)
    · refine R_s 1 (37, [(3, vI (nI a)), (2, vI c), (0, vR g 0), (1, vI (nI S))], [vI c], h) rfl ?_
      exact R_ret (some (vI c)) h rfl ⟨by rw [hc, show a = n by omega], rfl⟩
    · exact absurd hm (by omega)
  | succ m ih =>
    intro a c hm hc
    refine R_s 3 (9, [(3, vI (nI a)), (2, vI c), (0, vR g 0), (1, vI (nI S))], [vI (h g 0 0), vI (nI a)], h) rfl ?_
    refine R_top (nI n) C.1.1 ?_
    refine R_s 1 (cond (if2 .ge (nI a) (nI n)) 36 12, [(3, vI (nI a)), (2, vI c), (0, vR g 0), (1, vI (nI S))], [], h) rfl ?_
    refine R_bp (n ≤ a) (i2_ge (by omega) (by omega)) (fun c1 => ?_) (fun c1 => ?_)
    · refine R_s 1 (37, [(3, vI (nI a)), (2, vI c), (0, vR g 0), (1, vI (nI S))], [vI c], h) rfl ?_
      exact R_ret (some (vI c)) h rfl ⟨by rw [hc, show a = n by omega], rfl⟩
    · refine R_s 5 (17, [(3, vI (nI a)), (2, vI c), (0, vR g 0), (1, vI (nI S))], [vI (((nI S) >>> ((nI a) &&& 31)) &&& (nI 1))], h) rfl ?_
      refine R_top (nI (if S.testBit a then 1 else 0)) (bit_sh S hS a (by omega)) ?_
      refine R_s 2 (cond (if2 .ne (nI (if S.testBit a then 1 else 0)) (nI 1)) 30 21, [(3, vI (nI a)), (2, vI c), (0, vR g 0), (1, vI (nI S))], [], h) rfl ?_
      refine R_bp (S.testBit a = false) i2_nb (fun c2 => ?_) (fun c2 => ?_)
      · refine R_s 1 (33, [(3, vI (nI a + Int32.ofInt 1)), (2, vI c), (0, vR g 0), (1, vI (nI S))], [], h) rfl ?_
        refine R_lv (lv' := [(3, vI (nI (a + 1))), (2, vI c), (0, vR g 0), (1, vI (nI S))]) (by rw [show nI a + Int32.ofInt 1 = nI (a + 1) from nI_add _ _]) ?_
        refine R_s 1 (4, [(3, vI (nI (a + 1))), (2, vI c), (0, vR g 0), (1, vI (nI S))], [], h) rfl ?_
        exact ih (a + 1) _ (by omega) (by rw [hc]; show _ = (if _ then _ else _); rw [c2]; rfl)
      · refine R_s 4 (27, [(3, vI (nI a)), (2, vI c), (0, vR g 0), (1, vI (nI S))], [vI (nI a), vR g 1, vI c], h) rfl ?_
        refine R_ld g 1 a 8 rfl rfl (by omega) (by decide) ?_
        refine R_top (s (1 + a)) (C.2.1 a (by omega)) ?_
        refine R_s 3 (33, [(3, vI (nI a + Int32.ofInt 1)), (2, vI (c + (s (1 + a)))), (0, vR g 0), (1, vI (nI S))], [], h) rfl ?_
        refine R_lv (lv' := [(3, vI (nI (a + 1))), (2, vI (c + (s (1 + a)))), (0, vR g 0), (1, vI (nI S))]) (by rw [show nI a + Int32.ofInt 1 = nI (a + 1) from nI_add _ _]) ?_
        refine R_s 1 (4, [(3, vI (nI (a + 1))), (2, vI (c + (s (1 + a)))), (0, vR g 0), (1, vI (nI S))], [], h) rfl ?_
        exact ih (a + 1) _ (by omega) (by rw [hc]; show _ = (if _ then _ else _); rw [tf c2]; rfl)
