theorem tf {b : Bool} (h : ¬ b = false) : b = true := by cases b with
  | true => rfl
  | false => exact absurd rfl h
theorem i2_nb {b : Bool} : if2 .ne (nI (if b then 1 else 0)) (nI 1) = true ↔ b = false := by cases b <;> decide
theorem i2_eb {b : Bool} : if2 .eq (nI (if b then 1 else 0)) (nI 1) = true ↔ b = true := by cases b <;> decide
theorem t_C_isSong {d g n : Nat} {h : HP} {x : Int32} (hn : h g 0 0 = nI n) (h8 : n ≤ 8) : MT d mC_isSong [vR g 0, vI x] h (fun r h' => r = some (vI (bI (inb x n))) ∧ h' = h) := by
  refine R_s 2 (cond (if0 .lt x) 16 4, [(0, vR g 0), (1, vI x)], [], h) rfl ?_
  refine R_bp (x < 0) x0_lt (fun c1 => ?_) (fun c1 => ?_)
  · refine R_s 1 (17, [(0, vR g 0), (1, vI x)], [vI (nI 0)], h) rfl ?_
    exact R_ret (some (vI (nI 0))) h rfl ⟨by rw [inb_lo c1]; rfl, rfl⟩
  · refine R_s 3 (9, [(0, vR g 0), (1, vI x)], [vI (h g 0 0), vI x], h) rfl ?_
    refine R_top (nI n) hn ?_
    refine R_s 1 (cond (if2 .ge x (nI n)) 16 12, [(0, vR g 0), (1, vI x)], [], h) rfl ?_
    refine R_bp ((nI n) ≤ x) x2_ge (fun c2 => ?_) (fun c2 => ?_)
    · refine R_s 1 (17, [(0, vR g 0), (1, vI x)], [vI (nI 0)], h) rfl ?_
      exact R_ret (some (vI (nI 0))) h rfl ⟨by rw [inb_hi (by omega) c2]; rfl, rfl⟩
    · refine R_s 2 (17, [(0, vR g 0), (1, vI x)], [vI (nI 1)], h) rfl ?_
      exact R_ret (some (vI (nI 1))) h rfl ⟨by rw [inb_mid (by omega) c1 c2]; rfl, rfl⟩
theorem t_C_isPlayer {d g n : Nat} {h : HP} {x : Int32} (hn : h g 0 1 = nI n) (h8 : n ≤ 8) : MT d mC_isPlayer [vR g 0, vI x] h (fun r h' => r = some (vI (bI (inb x n))) ∧ h' = h) := by
  refine R_s 2 (cond (if0 .lt x) 16 4, [(0, vR g 0), (1, vI x)], [], h) rfl ?_
  refine R_bp (x < 0) x0_lt (fun c1 => ?_) (fun c1 => ?_)
  · refine R_s 1 (17, [(0, vR g 0), (1, vI x)], [vI (nI 0)], h) rfl ?_
    exact R_ret (some (vI (nI 0))) h rfl ⟨by rw [inb_lo c1]; rfl, rfl⟩
  · refine R_s 3 (9, [(0, vR g 0), (1, vI x)], [vI (h g 0 1), vI x], h) rfl ?_
    refine R_top (nI n) hn ?_
    refine R_s 1 (cond (if2 .ge x (nI n)) 16 12, [(0, vR g 0), (1, vI x)], [], h) rfl ?_
    refine R_bp ((nI n) ≤ x) x2_ge (fun c2 => ?_) (fun c2 => ?_)
    · refine R_s 1 (17, [(0, vR g 0), (1, vI x)], [vI (nI 0)], h) rfl ?_
      exact R_ret (some (vI (nI 0))) h rfl ⟨by rw [inb_hi (by omega) c2]; rfl, rfl⟩
    · refine R_s 2 (17, [(0, vR g 0), (1, vI x)], [vI (nI 1)], h) rfl ?_
      exact R_ret (some (vI (nI 1))) h rfl ⟨by rw [inb_mid (by omega) c1 c2]; rfl, rfl⟩
theorem t_C_isKind {d g n : Nat} {h : HP} {x : Int32} (hn : h g 0 2 = nI n) (h8 : n ≤ 8) : MT d mC_isKind [vR g 0, vI x] h (fun r h' => r = some (vI (bI (inb x n))) ∧ h' = h) := by
  refine R_s 2 (cond (if0 .lt x) 16 4, [(0, vR g 0), (1, vI x)], [], h) rfl ?_
  refine R_bp (x < 0) x0_lt (fun c1 => ?_) (fun c1 => ?_)
  · refine R_s 1 (17, [(0, vR g 0), (1, vI x)], [vI (nI 0)], h) rfl ?_
    exact R_ret (some (vI (nI 0))) h rfl ⟨by rw [inb_lo c1]; rfl, rfl⟩
  · refine R_s 3 (9, [(0, vR g 0), (1, vI x)], [vI (h g 0 2), vI x], h) rfl ?_
    refine R_top (nI n) hn ?_
    refine R_s 1 (cond (if2 .ge x (nI n)) 16 12, [(0, vR g 0), (1, vI x)], [], h) rfl ?_
    refine R_bp ((nI n) ≤ x) x2_ge (fun c2 => ?_) (fun c2 => ?_)
    · refine R_s 1 (17, [(0, vR g 0), (1, vI x)], [vI (nI 0)], h) rfl ?_
      exact R_ret (some (vI (nI 0))) h rfl ⟨by rw [inb_hi (by omega) c2]; rfl, rfl⟩
    · refine R_s 2 (17, [(0, vR g 0), (1, vI x)], [vI (nI 1)], h) rfl ?_
      exact R_ret (some (vI (nI 1))) h rfl ⟨by rw [inb_mid (by omega) c1 c2]; rfl, rfl⟩
theorem t_C_isSide {d g : Nat} {h : HP} {x : Int32} : MT d mC_isSide [vR g 0, vI x] h (fun r h' => r = some (vI (bI (zero1 x))) ∧ h' = h) := by
  refine R_s 2 (cond (if0 .eq x) 9 4, [(0, vR g 0), (1, vI x)], [], h) rfl ?_
  refine R_bp (x = 0) x0_eq (fun c1 => ?_) (fun c1 => ?_)
  · refine R_s 2 (14, [(0, vR g 0), (1, vI x)], [vI (nI 1)], h) rfl ?_
    exact R_ret (some (vI (nI 1))) h rfl ⟨by rw [c1]; rfl, rfl⟩
  · refine R_s 3 (cond (if2 .ne x (nI 1)) 13 9, [(0, vR g 0), (1, vI x)], [], h) rfl ?_
    refine R_bp (¬ x = 1) (show _ ↔ ¬ x = 1 from x2_ne) (fun c2 => ?_) (fun c2 => ?_)
    · refine R_s 1 (14, [(0, vR g 0), (1, vI x)], [vI (nI 0)], h) rfl ?_
      exact R_ret (some (vI (nI 0))) h rfl ⟨by rw [show zero1 x = false by simp [zero1, c1]; exact c2]; rfl, rfl⟩
    · refine R_s 2 (14, [(0, vR g 0), (1, vI x)], [vI (nI 1)], h) rfl ?_
      exact R_ret (some (vI (nI 1))) h rfl ⟨by rw [Classical.not_not.mp c2]; rfl, rfl⟩
theorem i5_6 {t : Int32} (h : nI 5 < t) : nI 6 ≤ t := by
  have h1 := Int32.lt_iff_toInt_lt.mp h
  apply Int32.le_iff_toInt_le.mpr
  rw [nI_toInt (by decide)] at h1 ⊢
  omega
theorem i6_5 {t : Int32} (h : nI 6 ≤ t) : nI 5 < t := by
  have h1 := Int32.le_iff_toInt_le.mp h
  apply Int32.lt_iff_toInt_lt.mpr
  rw [nI_toInt (by decide)] at h1 ⊢
  omega
theorem t_C_isPart {d g n p k : Nat} {h : HP} {x y z t : Int32} (hn : h g 0 0 = nI n) (hp : h g 0 1 = nI p) (hk : h g 0 2 = nI k) (h8 : n ≤ 8) (h5 : p ≤ 5) (h6 : k ≤ 6) : MT (d + 1) mC_isPart [vR g 0, vI x, vI y, vI z, vI t] h (fun r h' => r = some (vI (bI (inb x n && inb y p && inb z k && inb t 6))) ∧ h' = h) := by
  refine R_s 2 (2, [(0, vR g 0), (1, vI x), (2, vI y), (3, vI z), (4, vI t)], [vI x, vR g 0], h) rfl ?_
  refine R_calli mC_isSong [vR g 0, vI x] [] (bI (inb x n)) h rfl (t_C_isSong hn h8) ?_
  refine R_s 1 (cond (if0 .eq (bI (inb x n))) 39 8, [(0, vR g 0), (1, vI x), (2, vI y), (3, vI z), (4, vI t)], [], h) rfl ?_
  refine R_bp ((inb x n) = false) (x0_eq.trans bI_eq) (fun c1 => ?_) (fun c1 => ?_)
  · refine R_s 1 (40, [(0, vR g 0), (1, vI x), (2, vI y), (3, vI z), (4, vI t)], [vI (nI 0)], h) rfl ?_
    exact R_ret (some (vI (nI 0))) h rfl ⟨by simp [c1, bI, nI_0], rfl⟩
  · refine R_s 2 (10, [(0, vR g 0), (1, vI x), (2, vI y), (3, vI z), (4, vI t)], [vI y, vR g 0], h) rfl ?_
    refine R_calli mC_isPlayer [vR g 0, vI y] [] (bI (inb y p)) h rfl (t_C_isPlayer hp (by omega)) ?_
    refine R_s 1 (cond (if0 .eq (bI (inb y p))) 39 16, [(0, vR g 0), (1, vI x), (2, vI y), (3, vI z), (4, vI t)], [], h) rfl ?_
    refine R_bp ((inb y p) = false) (x0_eq.trans bI_eq) (fun c2 => ?_) (fun c2 => ?_)
    · refine R_s 1 (40, [(0, vR g 0), (1, vI x), (2, vI y), (3, vI z), (4, vI t)], [vI (nI 0)], h) rfl ?_
      exact R_ret (some (vI (nI 0))) h rfl ⟨by simp [c2, bI, nI_0], rfl⟩
    · refine R_s 2 (18, [(0, vR g 0), (1, vI x), (2, vI y), (3, vI z), (4, vI t)], [vI z, vR g 0], h) rfl ?_
      refine R_calli mC_isKind [vR g 0, vI z] [] (bI (inb z k)) h rfl (t_C_isKind hk (by omega)) ?_
      refine R_s 1 (cond (if0 .eq (bI (inb z k))) 39 24, [(0, vR g 0), (1, vI x), (2, vI y), (3, vI z), (4, vI t)], [], h) rfl ?_
      refine R_bp ((inb z k) = false) (x0_eq.trans bI_eq) (fun c3 => ?_) (fun c3 => ?_)
      · refine R_s 1 (40, [(0, vR g 0), (1, vI x), (2, vI y), (3, vI z), (4, vI t)], [vI (nI 0)], h) rfl ?_
        exact R_ret (some (vI (nI 0))) h rfl ⟨by simp [c3, bI, nI_0], rfl⟩
      · refine R_s 2 (cond (if0 .lt t) 39 29, [(0, vR g 0), (1, vI x), (2, vI y), (3, vI z), (4, vI t)], [], h) rfl ?_
        refine R_bp (t < 0) x0_lt (fun c4 => ?_) (fun c4 => ?_)
        · refine R_s 1 (40, [(0, vR g 0), (1, vI x), (2, vI y), (3, vI z), (4, vI t)], [vI (nI 0)], h) rfl ?_
          exact R_ret (some (vI (nI 0))) h rfl ⟨by rw [inb_lo (n := 6) c4]; simp [bI, nI_0], rfl⟩
        · refine R_s 3 (cond (if2 .gt t (nI 5)) 39 35, [(0, vR g 0), (1, vI x), (2, vI y), (3, vI z), (4, vI t)], [], h) rfl ?_
          refine R_bp ((nI 5) < t) x2_gt (fun c5 => ?_) (fun c5 => ?_)
          · refine R_s 1 (40, [(0, vR g 0), (1, vI x), (2, vI y), (3, vI z), (4, vI t)], [vI (nI 0)], h) rfl ?_
            exact R_ret (some (vI (nI 0))) h rfl ⟨by rw [show inb t 6 = false from inb_hi (by decide) (i5_6 c5)]; simp [bI, nI_0], rfl⟩
          · refine R_s 2 (40, [(0, vR g 0), (1, vI x), (2, vI y), (3, vI z), (4, vI t)], [vI (nI 1)], h) rfl ?_
            exact R_ret (some (vI (nI 1))) h rfl ⟨by rw [show inb t 6 = true from inb_mid (by decide) c4 (fun q => c5 (i6_5 q)), tf c1, tf c2, tf c3]; rfl, rfl⟩
theorem t_C_areTwoSongs {d g n : Nat} {h : HP} {x y : Int32} (hn : h g 0 0 = nI n) (h8 : n ≤ 8) : MT (d + 1) mC_areTwoSongs [vR g 0, vI x, vI y] h (fun r h' => r = some (vI (bI (inb x n && inb y n && !(decide (x = y))))) ∧ h' = h) := by
  refine R_s 2 (2, [(0, vR g 0), (1, vI x), (2, vI y)], [vI x, vR g 0], h) rfl ?_
  refine R_calli mC_isSong [vR g 0, vI x] [] (bI (inb x n)) h rfl (t_C_isSong hn h8) ?_
  refine R_s 1 (cond (if0 .eq (bI (inb x n))) 25 8, [(0, vR g 0), (1, vI x), (2, vI y)], [], h) rfl ?_
  refine R_bp ((inb x n) = false) (x0_eq.trans bI_eq) (fun c1 => ?_) (fun c1 => ?_)
  · refine R_s 1 (26, [(0, vR g 0), (1, vI x), (2, vI y)], [vI (nI 0)], h) rfl ?_
    exact R_ret (some (vI (nI 0))) h rfl ⟨by simp [c1, bI, nI_0], rfl⟩
  · refine R_s 2 (10, [(0, vR g 0), (1, vI x), (2, vI y)], [vI y, vR g 0], h) rfl ?_
    refine R_calli mC_isSong [vR g 0, vI y] [] (bI (inb y n)) h rfl (t_C_isSong hn h8) ?_
    refine R_s 1 (cond (if0 .eq (bI (inb y n))) 25 16, [(0, vR g 0), (1, vI x), (2, vI y)], [], h) rfl ?_
    refine R_bp ((inb y n) = false) (x0_eq.trans bI_eq) (fun c2 => ?_) (fun c2 => ?_)
    · refine R_s 1 (26, [(0, vR g 0), (1, vI x), (2, vI y)], [vI (nI 0)], h) rfl ?_
      exact R_ret (some (vI (nI 0))) h rfl ⟨by simp [c2, bI, nI_0], rfl⟩
    · refine R_s 3 (cond (if2 .eq x y) 25 21, [(0, vR g 0), (1, vI x), (2, vI y)], [], h) rfl ?_
      refine R_bp (x = y) x2_eq (fun c3 => ?_) (fun c3 => ?_)
      · refine R_s 1 (26, [(0, vR g 0), (1, vI x), (2, vI y)], [vI (nI 0)], h) rfl ?_
        exact R_ret (some (vI (nI 0))) h rfl ⟨by simp [c3, bI, nI_0], rfl⟩
      · refine R_s 2 (26, [(0, vR g 0), (1, vI x), (2, vI y)], [vI (nI 1)], h) rfl ?_
        exact R_ret (some (vI (nI 1))) h rfl ⟨by simp [c3, tf c1, tf c2, bI]; rfl, rfl⟩
theorem i0_le {n : Nat} (h : n < 2147483648) : if0 .le (nI n) = true ↔ n = 0 := by
  rw [x0_le, ← nI_0, nI_leI h (by decide)]
  omega
theorem t_C_hasAllSorts {d g n p k : Nat} {h : HP} (hn : h g 0 0 = nI n) (hp : h g 0 1 = nI p) (hk : h g 0 2 = nI k) (h8 : n ≤ 8) (h5 : p ≤ 5) (h6 : k ≤ 6) : MT d mC_hasAllSorts [vR g 0] h (fun r h' => r = some (vI (bI (decide (0 < n) && decide (0 < p) && decide (0 < k)))) ∧ h' = h) := by
  refine R_s 2 (4, [(0, vR g 0)], [vI (h g 0 0)], h) rfl ?_
  refine R_top (nI n) hn ?_
  refine R_s 1 (cond (if0 .le (nI n)) 25 7, [(0, vR g 0)], [], h) rfl ?_
  refine R_bp (n = 0) (i0_le (by omega)) (fun c0 => ?_) (fun c0 => ?_)
  · refine R_s 1 (26, [(0, vR g 0)], [vI (nI 0)], h) rfl ?_
    exact R_ret (some (vI (nI 0))) h rfl ⟨by rw [show decide (0 < n) = false by rw [c0]; rfl]; simp [bI, nI_0], rfl⟩
  · refine R_s 2 (11, [(0, vR g 0)], [vI (h g 0 1)], h) rfl ?_
    refine R_top (nI p) hp ?_
    refine R_s 1 (cond (if0 .le (nI p)) 25 14, [(0, vR g 0)], [], h) rfl ?_
    refine R_bp (p = 0) (i0_le (by omega)) (fun c1 => ?_) (fun c1 => ?_)
    · refine R_s 1 (26, [(0, vR g 0)], [vI (nI 0)], h) rfl ?_
      exact R_ret (some (vI (nI 0))) h rfl ⟨by rw [show decide (0 < p) = false by rw [c1]; rfl]; simp [bI, nI_0], rfl⟩
    · refine R_s 2 (18, [(0, vR g 0)], [vI (h g 0 2)], h) rfl ?_
      refine R_top (nI k) hk ?_
      refine R_s 1 (cond (if0 .le (nI k)) 25 21, [(0, vR g 0)], [], h) rfl ?_
      refine R_bp (k = 0) (i0_le (by omega)) (fun c2 => ?_) (fun c2 => ?_)
      · refine R_s 1 (26, [(0, vR g 0)], [vI (nI 0)], h) rfl ?_
        exact R_ret (some (vI (nI 0))) h rfl ⟨by rw [show decide (0 < k) = false by rw [c2]; rfl]; simp [bI, nI_0], rfl⟩
      · refine R_s 2 (26, [(0, vR g 0)], [vI (nI 1)], h) rfl ?_
        exact R_ret (some (vI (nI 1))) h rfl ⟨by rw [show decide (0 < n) = true from decide_eq_true (by omega), show decide (0 < p) = true from decide_eq_true (by omega), show decide (0 < k) = true from decide_eq_true (by omega)]; rfl, rfl⟩
theorem t_C_isEncore {d g e a : Nat} {h : HP} (he : h g 0 3 = nI e) (h8 : e < 256) (ha : a < 8) : MT d mC_isEncore [vR g 0, vI (nI a)] h (fun r h' => r = some (vI (bI (e.testBit a))) ∧ h' = h) := by
  refine R_s 2 (4, [(0, vR g 0), (1, vI (nI a))], [vI (h g 0 3)], h) rfl ?_
  refine R_top (nI e) he ?_
  refine R_s 4 (8, [(0, vR g 0), (1, vI (nI a))], [vI (((nI e) >>> ((nI a) &&& 31)) &&& (nI 1))], h) rfl ?_
  refine R_top (nI (if e.testBit a then 1 else 0)) (bit_sh e h8 a ha) ?_
  refine R_s 2 (cond (if2 .ne (nI (if e.testBit a then 1 else 0)) (nI 1)) 16 12, [(0, vR g 0), (1, vI (nI a))], [], h) rfl ?_
  refine R_bp (e.testBit a = false) i2_nb (fun c1 => ?_) (fun c1 => ?_)
  · refine R_s 1 (17, [(0, vR g 0), (1, vI (nI a))], [vI (nI 0)], h) rfl ?_
    exact R_ret (some (vI (nI 0))) h rfl ⟨by rw [c1]; rfl, rfl⟩
  · refine R_s 2 (17, [(0, vR g 0), (1, vI (nI a))], [vI (nI 1)], h) rfl ?_
    exact R_ret (some (vI (nI 1))) h rfl ⟨by rw [tf c1]; rfl, rfl⟩
theorem t_C_kindPlayed {d g n p k : Nat} {h : HP} {s : Nat → Int32} {a q : Nat} (C : CO h g s n p k) (ha : a < 8) (hq : q < 5) : MT d mC_kindPlayed [vR g 0, vI (nI a), vI (nI q)] h (fun r h' => r = some (vI (kd s a q)) ∧ h' = h) := by
  refine R_s 4 (6, [(0, vR g 0), (1, vI (nI a)), (2, vI (nI q))], [vI (nI 5), vI (nI a), vR g 5], h) rfl ?_
  refine R_mul a 5 rfl ?_
  refine R_s 1 (8, [(0, vR g 0), (1, vI (nI a)), (2, vI (nI q))], [vI (nI q), vI (nI (a * 5)), vR g 5], h) rfl ?_
  refine R_add (a * 5) q rfl ?_
  refine R_ld g 5 ((a * 5) + q) 40 rfl rfl (by omega) (by decide) ?_
  refine R_top (kd s a q) (C.2.2.2.2.1 _ (by omega)) ?_
  exact R_ret (some (vI (kd s a q))) h rfl ⟨rfl, rfl⟩
theorem t_C_tuningPlayed {d g n p k : Nat} {h : HP} {s : Nat → Int32} {a q : Nat} (C : CO h g s n p k) (ha : a < 8) (hq : q < 5) (hk : ¬ kd s a q = -1) : MT d mC_tuningPlayed [vR g 0, vI (nI a), vI (nI q)] h (fun r h' => r = some (vI (tn s a q)) ∧ h' = h) := by
  refine R_s 4 (6, [(0, vR g 0), (1, vI (nI a)), (2, vI (nI q))], [vI (nI 5), vI (nI a), vR g 6], h) rfl ?_
  refine R_mul a 5 rfl ?_
  refine R_s 1 (8, [(0, vR g 0), (1, vI (nI a)), (2, vI (nI q))], [vI (nI q), vI (nI (a * 5)), vR g 6], h) rfl ?_
  refine R_add (a * 5) q rfl ?_
  refine R_ld g 6 ((a * 5) + q) 40 rfl rfl (by omega) (by decide) ?_
  refine R_top (tn s a q) (C.2.2.2.2.2.1 _ (by omega) hk) ?_
  exact R_ret (some (vI (tn s a q))) h rfl ⟨rfl, rfl⟩
theorem t_C_playersOn {d g n p k : Nat} {h : HP} {s : Nat → Int32} {a : Nat} {y : Int32} (C : CO h g s n p k) (h5 : p ≤ 5) (ha : a < 8) : MT d mC_playersOn [vR g 0, vI (nI a), vI y] h (fun r h' => r = some (vI (nI (cn s a y p))) ∧ h' = h) := by
  refine R_s 4 (5, [(4, vI (nI 0)), (3, vI (nI 0)), (0, vR g 0), (1, vI (nI a)), (2, vI y)], [], h) rfl ?_
  suffices ∀ m q c, q + m = p → c = cn s a y q → R d mC_playersOn (5, [(4, vI (nI q)), (3, vI (nI c)), (0, vR g 0), (1, vI (nI a)), (2, vI y)], [], h) (fun r h' => r = some (vI (nI (cn s a y p))) ∧ h' = h) from this p 0 0 (by omega) rfl
  intro m
  induction m with
  | zero =>
    intro q c hm hc
    have hq : q ≤ 5 := by omega
    have hc5 : c ≤ 5 := by rw [hc]; exact Nat.le_trans (cn_le _ _ _ _) hq
    refine R_s 3 (11, [(4, vI (nI q)), (3, vI (nI c)), (0, vR g 0), (1, vI (nI a)), (2, vI y)], [vI (h g 0 1), vI (nI q)], h) rfl ?_
    refine R_top (nI p) C.1.2.1 ?_
    refine R_s 1 (cond (if2 .ge (nI q) (nI p)) 38 14, [(4, vI (nI q)), (3, vI (nI c)), (0, vR g 0), (1, vI (nI a)), (2, vI y)], [], h) rfl ?_
    refine R_bp (p ≤ q) (i2_ge (by omega) (by omega)) (fun c1 => ?_) (fun c1 => ?_)
    · refine R_s 1 (39, [(4, vI (nI q)), (3, vI (nI c)), (0, vR g 0), (1, vI (nI a)), (2, vI y)], [vI (nI c)], h) rfl ?_
      exact R_ret (some (vI (nI c))) h rfl ⟨by rw [hc, show q = p by omega], rfl⟩
    · exact absurd hm (by omega)
  | succ m ih =>
    intro q c hm hc
    have hq : q ≤ 5 := by omega
    have hc5 : c ≤ 5 := by rw [hc]; exact Nat.le_trans (cn_le _ _ _ _) hq
    refine R_s 3 (11, [(4, vI (nI q)), (3, vI (nI c)), (0, vR g 0), (1, vI (nI a)), (2, vI y)], [vI (h g 0 1), vI (nI q)], h) rfl ?_
    refine R_top (nI p) C.1.2.1 ?_
    refine R_s 1 (cond (if2 .ge (nI q) (nI p)) 38 14, [(4, vI (nI q)), (3, vI (nI c)), (0, vR g 0), (1, vI (nI a)), (2, vI y)], [], h) rfl ?_
    refine R_bp (p ≤ q) (i2_ge (by omega) (by omega)) (fun c1 => ?_) (fun c1 => ?_)
    · refine R_s 1 (39, [(4, vI (nI q)), (3, vI (nI c)), (0, vR g 0), (1, vI (nI a)), (2, vI y)], [vI (nI c)], h) rfl ?_
      exact R_ret (some (vI (nI c))) h rfl ⟨by rw [hc, show q = p by omega], rfl⟩
    · refine R_s 4 (20, [(4, vI (nI q)), (3, vI (nI c)), (0, vR g 0), (1, vI (nI a)), (2, vI y)], [vI (nI 5), vI (nI a), vR g 5], h) rfl ?_
      refine R_mul a 5 rfl ?_
      refine R_s 1 (23, [(4, vI (nI q)), (3, vI (nI c)), (0, vR g 0), (1, vI (nI a)), (2, vI y)], [vI (nI q), vI (nI (a * 5)), vR g 5], h) rfl ?_
      refine R_add (a * 5) q rfl ?_
      refine R_ld g 5 ((a * 5) + q) 40 rfl rfl (by omega) (by decide) ?_
      refine R_top (kd s a q) (C.2.2.2.2.1 _ (by omega)) ?_
      refine R_s 2 (cond (if2 .ne (kd s a q) y) 32 29, [(4, vI (nI q)), (3, vI (nI c)), (0, vR g 0), (1, vI (nI a)), (2, vI y)], [], h) rfl ?_
      refine R_bp (¬ (kd s a q) = y) x2_ne (fun c2 => ?_) (fun c2 => ?_)
      · refine R_s 1 (35, [(4, vI (nI q + Int32.ofInt 1)), (3, vI (nI c)), (0, vR g 0), (1, vI (nI a)), (2, vI y)], [], h) rfl ?_
        refine R_lv (lv' := [(4, vI (nI (q + 1))), (3, vI (nI c)), (0, vR g 0), (1, vI (nI a)), (2, vI y)]) (by rw [show nI q + Int32.ofInt 1 = nI (q + 1) from nI_add _ _]) ?_
        refine R_s 1 (5, [(4, vI (nI (q + 1))), (3, vI (nI c)), (0, vR g 0), (1, vI (nI a)), (2, vI y)], [], h) rfl ?_
        exact ih (q + 1) c (by omega) (by rw [hc]; show _ = cn s a y q + _; rw [if_neg c2]; rfl)
      · refine R_s 1 (32, [(3, vI (nI c + Int32.ofInt 1)), (4, vI (nI q)), (0, vR g 0), (1, vI (nI a)), (2, vI y)], [], h) rfl ?_
        refine R_lv (lv' := [(3, vI (nI (c + 1))), (4, vI (nI q)), (0, vR g 0), (1, vI (nI a)), (2, vI y)]) (by rw [show nI c + Int32.ofInt 1 = nI (c + 1) from nI_add _ _]) ?_
        refine R_s 1 (35, [(4, vI (nI q + Int32.ofInt 1)), (3, vI (nI (c + 1))), (0, vR g 0), (1, vI (nI a)), (2, vI y)], [], h) rfl ?_
        refine R_lv (lv' := [(4, vI (nI (q + 1))), (3, vI (nI (c + 1))), (0, vR g 0), (1, vI (nI a)), (2, vI y)]) (by rw [show nI q + Int32.ofInt 1 = nI (q + 1) from nI_add _ _]) ?_
        refine R_s 1 (5, [(4, vI (nI (q + 1))), (3, vI (nI (c + 1))), (0, vR g 0), (1, vI (nI a)), (2, vI y)], [], h) rfl ?_
        exact ih (q + 1) (c + 1) (by omega) (by rw [hc]; show _ = cn s a y q + _; rw [if_pos (Classical.not_not.mp c2)])
theorem t_C_hasUnitFor {d g n p k : Nat} {h : HP} {s : Nat → Int32} {a q c u : Nat} (C : CO h g s n p k) (h5 : p ≤ 5) (h6 : k ≤ 6) (ha : a < 8) (hq : q < 5) (hc : c < k) (hu : s (33 + c) = nI u) (hu9 : u ≤ 6) : MT (d + 1) mC_hasUnitFor [vR g 0, vI (nI a), vI (nI q), vI (nI c)] h (fun r h' => r = some (vI (bI (decide (kd s a q = nI c) || decide (cn s a (nI c) p < u)))) ∧ h' = h) := by
  have hcn : cn s a (nI c) p ≤ 5 := Nat.le_trans (cn_le _ _ _ _) h5
  refine R_s 3 (3, [(0, vR g 0), (1, vI (nI a)), (2, vI (nI q)), (3, vI (nI c))], [vI (nI q), vI (nI a), vR g 0], h) rfl ?_
  refine R_calli mC_kindPlayed [vR g 0, vI (nI a), vI (nI q)] [] (kd s a q) h rfl (t_C_kindPlayed C ha hq) ?_
  refine R_s 2 (cond (if2 .eq (kd s a q) (nI c)) 25 10, [(0, vR g 0), (1, vI (nI a)), (2, vI (nI q)), (3, vI (nI c))], [], h) rfl ?_
  refine R_bp ((kd s a q) = (nI c)) x2_eq (fun c1 => ?_) (fun c1 => ?_)
  · refine R_s 2 (30, [(0, vR g 0), (1, vI (nI a)), (2, vI (nI q)), (3, vI (nI c))], [vI (nI 1)], h) rfl ?_
    exact R_ret (some (vI (nI 1))) h rfl ⟨by rw [decide_eq_true c1]; rfl, rfl⟩
  · refine R_s 3 (13, [(0, vR g 0), (1, vI (nI a)), (2, vI (nI q)), (3, vI (nI c))], [vI (nI c), vI (nI a), vR g 0], h) rfl ?_
    refine R_calli mC_playersOn [vR g 0, vI (nI a), vI (nI c)] [] (nI (cn s a (nI c) p)) h rfl (t_C_playersOn C h5 ha) ?_
    refine R_s 3 (21, [(0, vR g 0), (1, vI (nI a)), (2, vI (nI q)), (3, vI (nI c))], [vI (nI c), vR g 3, vI (nI (cn s a (nI c) p))], h) rfl ?_
    refine R_ld g 3 c 6 rfl rfl (by omega) (by decide) ?_
    refine R_top (nI u) ((C.2.2.2.1 c hc).1.trans hu) ?_
    refine R_s 1 (cond (if2 .ge (nI (cn s a (nI c) p)) (nI u)) 29 25, [(0, vR g 0), (1, vI (nI a)), (2, vI (nI q)), (3, vI (nI c))], [], h) rfl ?_
    refine R_bp (u ≤ (cn s a (nI c) p)) (i2_ge (by omega) (by omega)) (fun c2 => ?_) (fun c2 => ?_)
    · refine R_s 1 (30, [(0, vR g 0), (1, vI (nI a)), (2, vI (nI q)), (3, vI (nI c))], [vI (nI 0)], h) rfl ?_
      exact R_ret (some (vI (nI 0))) h rfl ⟨by rw [decide_eq_false c1, decide_eq_false (by omega)]; rfl, rfl⟩
    · refine R_s 2 (30, [(0, vR g 0), (1, vI (nI a)), (2, vI (nI q)), (3, vI (nI c))], [vI (nI 1)], h) rfl ?_
      exact R_ret (some (vI (nI 1))) h rfl ⟨by rw [decide_eq_false c1, decide_eq_true (show cn s a (nI c) p < u by omega)]; rfl, rfl⟩
theorem un_m1 {s : Nat → Int32} {c : Nat} (hc : c < 2147483648) : un s (-1) (nI c) = s (33 + c) := by
  unfold un
  rw [if_neg (nI_ne_m1 hc), nI_cl hc, Int32.add_zero]
theorem t_C_change {d g n p k : Nat} {h : HP} {s : Nat → Int32} {a b q : Nat} (C : CO h g s n p k) (F : WF s n p k) (ha : a < 8) (hb : b < 8) (hq : q < 5) : MT (d + 1) mC_change [vR g 0, vI (nI q), vI (nI a), vI (nI b)] h (fun r h' => r = some (vI (nI (chg s (-1) p a b q))) ∧ h' = h) := by
  have h5 := F.2.1.2.1
  have h6 := F.2.1.2.2
  refine R_s 3 (3, [(0, vR g 0), (1, vI (nI q)), (2, vI (nI a)), (3, vI (nI b))], [vI (nI q), vI (nI a), vR g 0], h) rfl ?_
  refine R_calli mC_kindPlayed [vR g 0, vI (nI a), vI (nI q)] [] (kd s a q) h rfl (t_C_kindPlayed C ha hq) ?_
  refine R_s 4 (11, [(4, vI (kd s a q)), (0, vR g 0), (1, vI (nI q)), (2, vI (nI a)), (3, vI (nI b))], [vI (nI q), vI (nI b), vR g 0], h) rfl ?_
  refine R_calli mC_kindPlayed [vR g 0, vI (nI b), vI (nI q)] [] (kd s b q) h rfl (t_C_kindPlayed C hb hq) ?_
  refine R_s 4 (cond (if2 .ne (kd s a q) (-1)) 34 22, [(5, vI (kd s b q)), (4, vI (kd s a q)), (0, vR g 0), (1, vI (nI q)), (2, vI (nI a)), (3, vI (nI b))], [], h) rfl ?_
  refine R_bp (¬ (kd s a q) = (-1)) x2_ne (fun c1 => ?_) (fun c1 => ?_)
  · refine R_s 3 (cond (if2 .ne (kd s b q) (-1)) 42 40, [(5, vI (kd s b q)), (4, vI (kd s a q)), (0, vR g 0), (1, vI (nI q)), (2, vI (nI a)), (3, vI (nI b))], [], h) rfl ?_
    refine R_bp (¬ (kd s b q) = (-1)) x2_ne (fun c2 => ?_) (fun c2 => ?_)
    · refine R_s 3 (cond (if2 .eq (kd s a q) (kd s b q)) 51 49, [(5, vI (kd s b q)), (4, vI (kd s a q)), (0, vR g 0), (1, vI (nI q)), (2, vI (nI a)), (3, vI (nI b))], [], h) rfl ?_
      refine R_bp ((kd s a q) = (kd s b q)) x2_eq (fun c3 => ?_) (fun c3 => ?_)
      · refine R_s 3 (54, [(5, vI (kd s b q)), (4, vI (kd s a q)), (0, vR g 0), (1, vI (nI q)), (2, vI (nI a)), (3, vI (nI b))], [vI (nI q), vI (nI a), vR g 0], h) rfl ?_
        refine R_calli mC_tuningPlayed [vR g 0, vI (nI a), vI (nI q)] [] (tn s a q) h rfl (t_C_tuningPlayed C ha hq c1) ?_
        refine R_s 3 (60, [(5, vI (kd s b q)), (4, vI (kd s a q)), (0, vR g 0), (1, vI (nI q)), (2, vI (nI a)), (3, vI (nI b))], [vI (nI q), vI (nI b), vR g 0, vI (tn s a q)], h) rfl ?_
        refine R_calli mC_tuningPlayed [vR g 0, vI (nI b), vI (nI q)] [vI (tn s a q)] (tn s b q) h rfl (t_C_tuningPlayed C hb hq c2) ?_
        refine R_s 1 (cond (if2 .ne (tn s a q) (tn s b q)) 68 66, [(5, vI (kd s b q)), (4, vI (kd s a q)), (0, vR g 0), (1, vI (nI q)), (2, vI (nI a)), (3, vI (nI b))], [], h) rfl ?_
        refine R_bp (¬ (tn s a q) = (tn s b q)) x2_ne (fun c4 => ?_) (fun c4 => ?_)
        · obtain ⟨c, hc, ec⟩ := ((F.2.2.2.2.2.1 b hb q hq).resolve_left c2).1
          obtain ⟨u, hu, hu6⟩ := F.2.2.2.2.1 c hc
          have hcn : cn s b (nI c) p ≤ 5 := Nat.le_trans (cn_le _ _ _ _) h5
          refine R_lv (lv' := [(5, vI (nI c)), (4, vI (kd s a q)), (0, vR g 0), (1, vI (nI q)), (2, vI (nI a)), (3, vI (nI b))]) (by rw [ec]) ?_
          refine R_s 3 (72, [(5, vI (nI c)), (4, vI (kd s a q)), (0, vR g 0), (1, vI (nI q)), (2, vI (nI a)), (3, vI (nI b))], [vI (nI c), vI (nI b), vR g 0], h) rfl ?_
          refine R_calli mC_playersOn [vR g 0, vI (nI b), vI (nI c)] [] (nI (cn s b (nI c) p)) h rfl (t_C_playersOn C h5 hb) ?_
          refine R_s 3 (81, [(5, vI (nI c)), (4, vI (kd s a q)), (0, vR g 0), (1, vI (nI q)), (2, vI (nI a)), (3, vI (nI b))], [vI (nI c), vR g 3, vI (nI (cn s b (nI c) p))], h) rfl ?_
          refine R_ld g 3 c 6 rfl rfl (by omega) (by decide) ?_
          refine R_top (nI u) ((C.2.2.2.1 c hc).1.trans hu) ?_
          refine R_s 1 (cond (if2 .ge (nI (cn s b (nI c) p)) (nI u)) 89 85, [(5, vI (nI c)), (4, vI (kd s a q)), (0, vR g 0), (1, vI (nI q)), (2, vI (nI a)), (3, vI (nI b))], [], h) rfl ?_
          refine R_bp (u ≤ (cn s b (nI c) p)) (i2_ge (by omega) (by omega)) (fun c5 => ?_) (fun c5 => ?_)
          · refine R_s 1 (90, [(5, vI (nI c)), (4, vI (kd s a q)), (0, vR g 0), (1, vI (nI q)), (2, vI (nI a)), (3, vI (nI b))], [vI (nI 5)], h) rfl ?_
            exact R_ret (some (vI (nI 5))) h rfl ⟨by unfold chg; rw [if_neg c1, if_neg c2, if_pos c3, if_neg c4, if_neg (by rw [ec, un_m1 (by omega), hu]; exact nI_nlt c5 (by omega))], rfl⟩
          · refine R_s 2 (90, [(5, vI (nI c)), (4, vI (kd s a q)), (0, vR g 0), (1, vI (nI q)), (2, vI (nI a)), (3, vI (nI b))], [vI (nI 4)], h) rfl ?_
            exact R_ret (some (vI (nI 4))) h rfl ⟨by unfold chg; rw [if_neg c1, if_neg c2, if_pos c3, if_neg c4, if_pos (by rw [ec, un_m1 (by omega), hu]; exact nI_lt (by omega) (by omega))], rfl⟩
        · refine R_s 1 (67, [(5, vI (kd s b q)), (4, vI (kd s a q)), (0, vR g 0), (1, vI (nI q)), (2, vI (nI a)), (3, vI (nI b))], [vI (nI 0)], h) rfl ?_
          exact R_ret (some (vI (nI 0))) h rfl ⟨by unfold chg; rw [if_neg c1, if_neg c2, if_pos c3, if_pos (Classical.not_not.mp c4)], rfl⟩
      · refine R_s 1 (50, [(5, vI (kd s b q)), (4, vI (kd s a q)), (0, vR g 0), (1, vI (nI q)), (2, vI (nI a)), (3, vI (nI b))], [vI (nI 3)], h) rfl ?_
        exact R_ret (some (vI (nI 3))) h rfl ⟨by unfold chg; rw [if_neg c1, if_neg c2, if_neg c3], rfl⟩
    · refine R_s 1 (41, [(5, vI (kd s b q)), (4, vI (kd s a q)), (0, vR g 0), (1, vI (nI q)), (2, vI (nI a)), (3, vI (nI b))], [vI (nI 2)], h) rfl ?_
      exact R_ret (some (vI (nI 2))) h rfl ⟨by unfold chg; rw [if_neg c1, if_pos (Classical.not_not.mp c2)], rfl⟩
  · refine R_s 3 (cond (if2 .ne (kd s b q) (-1)) 32 28, [(5, vI (kd s b q)), (4, vI (kd s a q)), (0, vR g 0), (1, vI (nI q)), (2, vI (nI a)), (3, vI (nI b))], [], h) rfl ?_
    refine R_bp (¬ (kd s b q) = (-1)) x2_ne (fun c2 => ?_) (fun c2 => ?_)
    · refine R_s 1 (33, [(5, vI (kd s b q)), (4, vI (kd s a q)), (0, vR g 0), (1, vI (nI q)), (2, vI (nI a)), (3, vI (nI b))], [vI (nI 1)], h) rfl ?_
      exact R_ret (some (vI (nI 1))) h rfl ⟨by unfold chg; rw [if_pos (Classical.not_not.mp c1), if_neg c2], rfl⟩
    · refine R_s 2 (33, [(5, vI (kd s b q)), (4, vI (kd s a q)), (0, vR g 0), (1, vI (nI q)), (2, vI (nI a)), (3, vI (nI b))], [vI (nI 0)], h) rfl ?_
      exact R_ret (some (vI (nI 0))) h rfl ⟨by unfold chg; rw [if_pos (Classical.not_not.mp c1), if_pos (Classical.not_not.mp c2)], rfl⟩
theorem t_C_costOfSide {d g n p k : Nat} {h : HP} {s : Nat → Int32} {q c : Nat} (C : CO h g s n p k) (h6 : k ≤ 6) (h5 : p ≤ 5) (hq : q < p) (hc : c < k) : MT (d + 1) mC_costOfSide [vR g 0, vI (nI q), vI (nI c)] h (fun r h' => r = some (vI (nI (far s q (nI c)))) ∧ h' = h) := by
  refine R_s 2 (2, [(0, vR g 0), (1, vI (nI q)), (2, vI (nI c))], [vI (nI c), vR g 0], h) rfl ?_
  refine R_calli mC_isKind [vR g 0, vI (nI c)] [] (bI (inb (nI c) k)) h rfl (t_C_isKind C.1.2.2.1 (by omega)) ?_
  refine R_top (nI 1) (by rw [inb_n hc (by omega)]; rfl) ?_
  refine R_s 1 (cond (if0 .eq (nI 1)) 27 8, [(0, vR g 0), (1, vI (nI q)), (2, vI (nI c))], [], h) rfl ?_
  refine R_bf rfl ?_
  refine R_s 3 (13, [(0, vR g 0), (1, vI (nI q)), (2, vI (nI c))], [vI (nI c), vR g 4], h) rfl ?_
  refine R_ld g 4 c 6 rfl rfl (by omega) (by decide) ?_
  refine R_top (s (39 + c)) (C.2.2.2.1 c hc).2 ?_
  refine R_s 3 (19, [(0, vR g 0), (1, vI (nI q)), (2, vI (nI c))], [vI (nI q), vR g 2, vI (s (39 + c))], h) rfl ?_
  refine R_ld g 2 q 5 rfl rfl (by omega) (by decide) ?_
  refine R_top (s (27 + q)) (C.2.2.1 q hq) ?_
  refine R_s 1 (cond (if2 .eq (s (39 + c)) (s (27 + q))) 27 23, [(0, vR g 0), (1, vI (nI q)), (2, vI (nI c))], [], h) rfl ?_
  refine R_bp ((s (39 + c)) = (s (27 + q))) x2_eq (fun c1 => ?_) (fun c1 => ?_)
  · refine R_s 1 (28, [(0, vR g 0), (1, vI (nI q)), (2, vI (nI c))], [vI (nI 0)], h) rfl ?_
    exact R_ret (some (vI (nI 0))) h rfl ⟨by unfold far; rw [nI_cl (by omega), if_pos c1], rfl⟩
  · refine R_s 2 (28, [(0, vR g 0), (1, vI (nI q)), (2, vI (nI c))], [vI (nI 1)], h) rfl ?_
    exact R_ret (some (vI (nI 1))) h rfl ⟨by unfold far; rw [nI_cl (by omega), if_neg c1], rfl⟩
theorem abs_d {t u : Nat} (ht : t ≤ 5) (hu : u ≤ 5) : (if 0 ≤ (nI t - nI u) then (nI t - nI u) else 0 - (nI t - nI u)) = nI (dst (nI t) (nI u)) := by
  have h : ∀ t, t < 6 → ∀ u, u < 6 → (if 0 ≤ (nI t - nI u) then (nI t - nI u) else 0 - (nI t - nI u)) = nI (dst (nI t) (nI u)) := by decide +kernel
  exact h t (by omega) u (by omega)
theorem sw_c {m : MR} : True := trivial
/-- what a change says of the two parts -/
theorem chg_kd (s : Nat → Int32) (m : Int32) (p a b q : Nat) : match chg s m p a b q with
  | 0 => True
  | 1 => ¬ kd s b q = -1
  | 2 => ¬ kd s a q = -1
  | _ => ¬ kd s a q = -1 ∧ ¬ kd s b q = -1 := by
  unfold chg
  by_cases h1 : kd s a q = -1
  · rw [if_pos h1]
    by_cases h2 : kd s b q = -1
    · rw [if_pos h2]; trivial
    · rw [if_neg h2]; exact h2
  · rw [if_neg h1]
    by_cases h2 : kd s b q = -1
    · rw [if_pos h2]; exact h1
    · rw [if_neg h2]
      repeat' split
      all_goals first | trivial | exact ⟨h1, h2⟩ | skip
      all_goals (rename_i e; revert e; repeat' split) 
      all_goals (intro e; first | trivial | exact h2 | exact h1 | exact ⟨h1, h2⟩ | (exfalso; omega))
theorem t_C_costOfChange {d g n p k : Nat} {h : HP} {s : Nat → Int32} {a b q : Nat} (C : CO h g s n p k) (F : WF s n p k) (ha : a < 8) (hb : b < 8) (hq : q < p) : MT (d + 2) mC_costOfChange [vR g 0, vI (nI q), vI (nI a), vI (nI b)] h (fun r h' => r = some (vI (nI (cof s (-1) p a b q))) ∧ h' = h) := by
  have h5 := F.2.1.2.1
  have h6 := F.2.1.2.2
  have hq5 : q < 5 := by omega
  refine R_s 3 (3, [(0, vR g 0), (1, vI (nI q)), (2, vI (nI a)), (3, vI (nI b))], [vI (nI q), vI (nI a), vR g 0], h) rfl ?_
  refine R_calli mC_kindPlayed [vR g 0, vI (nI a), vI (nI q)] [] (kd s a q) h rfl (t_C_kindPlayed C ha hq5) ?_
  refine R_s 4 (11, [(4, vI (kd s a q)), (0, vR g 0), (1, vI (nI q)), (2, vI (nI a)), (3, vI (nI b))], [vI (nI q), vI (nI b), vR g 0], h) rfl ?_
  refine R_calli mC_kindPlayed [vR g 0, vI (nI b), vI (nI q)] [] (kd s b q) h rfl (t_C_kindPlayed C hb hq5) ?_
  refine R_s 5 (20, [(5, vI (kd s b q)), (4, vI (kd s a q)), (0, vR g 0), (1, vI (nI q)), (2, vI (nI a)), (3, vI (nI b))], [vI (nI b), vI (nI a), vI (nI q), vR g 0], h) rfl ?_
  refine R_calli mC_change [vR g 0, vI (nI q), vI (nI a), vI (nI b)] [] (nI (chg s (-1) p a b q)) h rfl (t_C_change C F ha hb hq5) ?_
  have hle := chg_le s (-1) p a b q
  have hcof : cof s (-1) p a b q = cof s (-1) p a b q := rfl
  unfold cof
  have key := chg_kd s (-1) p a b q
  generalize chg s (-1) p a b q = z at hle key ⊢
  rcases (show z = 0 ∨ z = 1 ∨ z = 2 ∨ z = 3 ∨ z = 4 ∨ z = 5 by omega) with rfl | rfl | rfl | rfl | rfl | rfl
  · refine R_s 1 (123, [(5, vI (kd s b q)), (4, vI (kd s a q)), (0, vR g 0), (1, vI (nI q)), (2, vI (nI a)), (3, vI (nI b))], [], h) rfl ?_
    refine R_s 1 (124, [(5, vI (kd s b q)), (4, vI (kd s a q)), (0, vR g 0), (1, vI (nI q)), (2, vI (nI a)), (3, vI (nI b))], [vI (nI 0)], h) rfl ?_
    exact R_ret (some (vI (nI 0))) h rfl ⟨rfl, rfl⟩
  · refine R_s 1 (56, [(5, vI (kd s b q)), (4, vI (kd s a q)), (0, vR g 0), (1, vI (nI q)), (2, vI (nI a)), (3, vI (nI b))], [], h) rfl ?_
    obtain ⟨e, he, ee⟩ := ((F.2.2.2.2.2.1 b hb q hq5).resolve_left key).1
    refine R_lv (lv' := [(5, vI (nI e)), (4, vI (kd s a q)), (0, vR g 0), (1, vI (nI q)), (2, vI (nI a)), (3, vI (nI b))]) (by rw [ee]) ?_
    rw [ee]
    refine R_s 4 (61, [(5, vI (nI e)), (4, vI (kd s a q)), (0, vR g 0), (1, vI (nI q)), (2, vI (nI a)), (3, vI (nI b))], [vI (nI e), vI (nI q), vR g 0, vI (nI 1)], h) rfl ?_
    refine R_calli mC_costOfSide [vR g 0, vI (nI q), vI (nI e)] [vI (nI 1)] (nI (far s q (nI e))) h rfl (t_C_costOfSide C h6 h5 hq he) ?_
    refine R_add 1 (far s q (nI e)) rfl ?_
    exact R_ret (some (vI (nI (1 + (far s q (nI e)))))) h rfl ⟨rfl, rfl⟩
  · refine R_s 1 (66, [(5, vI (kd s b q)), (4, vI (kd s a q)), (0, vR g 0), (1, vI (nI q)), (2, vI (nI a)), (3, vI (nI b))], [], h) rfl ?_
    obtain ⟨c, hc, ec⟩ := ((F.2.2.2.2.2.1 a ha q hq5).resolve_left key).1
    refine R_lv (lv' := [(5, vI (kd s b q)), (4, vI (nI c)), (0, vR g 0), (1, vI (nI q)), (2, vI (nI a)), (3, vI (nI b))]) (by rw [ec]) ?_
    rw [ec]
    refine R_s 4 (71, [(5, vI (kd s b q)), (4, vI (nI c)), (0, vR g 0), (1, vI (nI q)), (2, vI (nI a)), (3, vI (nI b))], [vI (nI c), vI (nI q), vR g 0, vI (nI 1)], h) rfl ?_
    refine R_calli mC_costOfSide [vR g 0, vI (nI q), vI (nI c)] [vI (nI 1)] (nI (far s q (nI c))) h rfl (t_C_costOfSide C h6 h5 hq hc) ?_
    refine R_add 1 (far s q (nI c)) rfl ?_
    exact R_ret (some (vI (nI (1 + (far s q (nI c)))))) h rfl ⟨rfl, rfl⟩
  · refine R_s 1 (76, [(5, vI (kd s b q)), (4, vI (kd s a q)), (0, vR g 0), (1, vI (nI q)), (2, vI (nI a)), (3, vI (nI b))], [], h) rfl ?_
    obtain ⟨c, hc, ec⟩ := ((F.2.2.2.2.2.1 a ha q hq5).resolve_left key.1).1
    obtain ⟨e, he, ee⟩ := ((F.2.2.2.2.2.1 b hb q hq5).resolve_left key.2).1
    refine R_lv (lv' := [(5, vI (kd s b q)), (4, vI (nI c)), (0, vR g 0), (1, vI (nI q)), (2, vI (nI a)), (3, vI (nI b))]) (by rw [ec]) ?_
    refine R_lv (lv' := [(5, vI (nI e)), (4, vI (nI c)), (0, vR g 0), (1, vI (nI q)), (2, vI (nI a)), (3, vI (nI b))]) (by rw [ee]) ?_
    rw [ec, ee]
    refine R_s 4 (81, [(5, vI (nI e)), (4, vI (nI c)), (0, vR g 0), (1, vI (nI q)), (2, vI (nI a)), (3, vI (nI b))], [vI (nI c), vI (nI q), vR g 0, vI (nI 3)], h) rfl ?_
    refine R_calli mC_costOfSide [vR g 0, vI (nI q), vI (nI c)] [vI (nI 3)] (nI (far s q (nI c))) h rfl (t_C_costOfSide C h6 h5 hq hc) ?_
    refine R_add 3 (far s q (nI c)) rfl ?_
    refine R_s 3 (89, [(5, vI (nI e)), (4, vI (nI c)), (0, vR g 0), (1, vI (nI q)), (2, vI (nI a)), (3, vI (nI b))], [vI (nI e), vI (nI q), vR g 0, vI (nI (3 + (far s q (nI c))))], h) rfl ?_
    refine R_calli mC_costOfSide [vR g 0, vI (nI q), vI (nI e)] [vI (nI (3 + (far s q (nI c))))] (nI (far s q (nI e))) h rfl (t_C_costOfSide C h6 h5 hq he) ?_
    refine R_add (3 + (far s q (nI c))) (far s q (nI e)) rfl ?_
    exact R_ret (some (vI (nI ((3 + (far s q (nI c))) + (far s q (nI e)))))) h rfl ⟨rfl, rfl⟩
  · refine R_s 1 (94, [(5, vI (kd s b q)), (4, vI (kd s a q)), (0, vR g 0), (1, vI (nI q)), (2, vI (nI a)), (3, vI (nI b))], [], h) rfl ?_
    obtain ⟨e, he, ee⟩ := ((F.2.2.2.2.2.1 b hb q hq5).resolve_left key.2).1
    refine R_lv (lv' := [(5, vI (nI e)), (4, vI (kd s a q)), (0, vR g 0), (1, vI (nI q)), (2, vI (nI a)), (3, vI (nI b))]) (by rw [ee]) ?_
    rw [ee]
    refine R_s 4 (99, [(5, vI (nI e)), (4, vI (kd s a q)), (0, vR g 0), (1, vI (nI q)), (2, vI (nI a)), (3, vI (nI b))], [vI (nI e), vI (nI q), vR g 0, vI (nI 2)], h) rfl ?_
    refine R_calli mC_costOfSide [vR g 0, vI (nI q), vI (nI e)] [vI (nI 2)] (nI (far s q (nI e))) h rfl (t_C_costOfSide C h6 h5 hq he) ?_
    refine R_add 2 (far s q (nI e)) rfl ?_
    exact R_ret (some (vI (nI (2 + (far s q (nI e)))))) h rfl ⟨rfl, rfl⟩
  · refine R_s 1 (104, [(5, vI (kd s b q)), (4, vI (kd s a q)), (0, vR g 0), (1, vI (nI q)), (2, vI (nI a)), (3, vI (nI b))], [], h) rfl ?_
    obtain ⟨t, ht, et⟩ := ((F.2.2.2.2.2.1 a ha q hq5).resolve_left key.1).2
    obtain ⟨u, hu, eu⟩ := ((F.2.2.2.2.2.1 b hb q hq5).resolve_left key.2).2
    refine R_s 4 (108, [(5, vI (kd s b q)), (4, vI (kd s a q)), (0, vR g 0), (1, vI (nI q)), (2, vI (nI a)), (3, vI (nI b))], [vI (nI q), vI (nI a), vR g 0, vI (nI 2)], h) rfl ?_
    refine R_calli mC_tuningPlayed [vR g 0, vI (nI a), vI (nI q)] [vI (nI 2)] (tn s a q) h rfl (t_C_tuningPlayed C ha hq5 key.1) ?_
    refine R_top (nI t) et ?_
    refine R_s 3 (114, [(5, vI (kd s b q)), (4, vI (kd s a q)), (0, vR g 0), (1, vI (nI q)), (2, vI (nI a)), (3, vI (nI b))], [vI (nI q), vI (nI b), vR g 0, vI (nI t), vI (nI 2)], h) rfl ?_
    refine R_calli mC_tuningPlayed [vR g 0, vI (nI b), vI (nI q)] [vI (nI t), vI (nI 2)] (tn s b q) h rfl (t_C_tuningPlayed C hb hq5 key.2) ?_
    refine R_top (nI u) eu ?_
    refine R_s 2 (121, [(5, vI (kd s b q)), (4, vI (kd s a q)), (0, vR g 0), (1, vI (nI q)), (2, vI (nI a)), (3, vI (nI b))], [vI (if 0 ≤ (nI t - nI u) then (nI t - nI u) else 0 - (nI t - nI u)), vI (nI 2)], h) rfl ?_
    refine R_top (nI (dst (nI t) (nI u))) (abs_d ht hu) ?_
    refine R_add 2 (dst (nI t) (nI u)) rfl ?_
    exact R_ret (some (vI (nI (2 + (dst (nI t) (nI u)))))) h rfl ⟨by rw [et, eu]; rfl, rfl⟩
