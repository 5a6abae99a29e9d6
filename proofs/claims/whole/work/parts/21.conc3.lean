def FR (g : Nat) (h h' : HP) : Prop := ∀ g' j', ¬ g' = g → h' g' j' = h g' j'
theorem FR.rf {g : Nat} {h : HP} : FR g h h := fun _ _ _ => rfl
theorem FR.tr {g : Nat} {h h1 h2 : HP} (a : FR g h h1) (b : FR g h1 h2) : FR g h h2 := fun g' j' e => (b g' j' e).trans (a g' j' e)
theorem FR.set {g j k : Nat} {h h1 : HP} {x : Int32} (a : FR g h h1) : FR g h (hset h1 g j k x) := fun g' j' e => (hs_ne (fun q => e q.1)).trans (a g' j' e)
theorem FR.row {g j : Nat} {h h1 : HP} {f : Nat → Int32} (a : FR g h h1) : FR g h (hrow h1 g j f) := fun g' j' e => (hr_ne (fun q => e q.1)).trans (a g' j' e)
/-- as makeEmpty goes on: b parts and c songs are done -/
def ME (h h' : HP) (g b c : Nat) : Prop := FR g h h' ∧ (h' g 0 0 = nI 0 ∧ h' g 0 1 = nI 0 ∧ h' g 0 2 = nI 0 ∧ h' g 0 3 = nI 0) ∧ (∀ x, x < b → h' g 5 x = -1) ∧ (∀ x, x < c → h' g 7 x = -1 ∧ h' g 8 x = nI x)
theorem ME_co {h h' : HP} {g : Nat} (I : ME h h' g 40 8) : CO h' g emp 0 0 0 := by
  obtain ⟨-, ⟨a1, a2, a3, a4⟩, b, c⟩ := I
  refine ⟨⟨a1, a2, a3, a4⟩, fun j hj => by omega, fun j hj => by omega, fun j hj => by omega, fun i hi => ?_, fun i hi hx => ?_, fun j hj => ⟨?_, ?_⟩⟩
  · rw [b i hi]
    unfold emp
    rw [if_neg (by omega), if_neg (by omega), if_pos (by omega)]
  · refine absurd ?_ hx
    unfold emp
    rw [if_neg (by omega), if_neg (by omega), if_pos (by omega)]
  · rw [(c j hj).1]; exact (emp_WD.1 j hj).symm
  · rw [(c j hj).2]; exact (emp_WD.2 j hj).symm
theorem t_C_makeEmpty {d g : Nat} {h : HP} : MT d mC_makeEmpty [vR g 0] h (fun r h' => r = none ∧ CO h' g emp 0 0 0 ∧ FR g h h') := by
  refine R_s 3 (5, [(0, vR g 0)], [], (hset h g 0 0 (nI 0))) rfl ?_
  refine R_hp (fun h1 eh1 => ?_)
  refine R_s 3 (10, [(0, vR g 0)], [], (hset h1 g 0 1 (nI 0))) rfl ?_
  refine R_hp (fun h2 eh2 => ?_)
  refine R_s 3 (15, [(0, vR g 0)], [], (hset h2 g 0 2 (nI 0))) rfl ?_
  refine R_hp (fun h3 eh3 => ?_)
  refine R_s 3 (20, [(0, vR g 0)], [], (hset h3 g 0 3 (nI 0))) rfl ?_
  refine R_hp (fun h4 eh4 => ?_)
  refine R_s 2 (22, [(1, vI (nI 0)), (0, vR g 0)], [], h4) rfl ?_
  have I0 : ME h h4 g 0 0 := by
    refine ⟨?_, ⟨?_, ?_, ?_, ?_⟩, fun x hx => by omega, fun x hx => by omega⟩
    · rw [eh4, eh3, eh2, eh1]; exact FR.rf.set.set.set.set
    · rw [eh4, eh3, eh2, eh1]; simp [hset, hrow, upd]
    · rw [eh4, eh3, eh2, eh1]; simp [hset, hrow, upd]
    · rw [eh4, eh3, eh2, eh1]; simp [hset, hrow, upd]
    · rw [eh4, eh3, eh2, eh1]; simp [hset, hrow, upd]
  suffices ∀ m i hh, i + m = 40 → ME h hh g i 0 → R d mC_makeEmpty (22, [(1, vI (nI i)), (0, vR g 0)], [], hh) (fun r h' => r = none ∧ CO h' g emp 0 0 0 ∧ FR g h h') from this 40 0 h4 (by omega) I0
  intro m
  induction m with
  | zero =>
    intro i hh hm I
    refine R_s 3 (cond (if2 .ge (nI i) (nI 40)) 48 28, [(1, vI (nI i)), (0, vR g 0)], [], hh) rfl ?_
    refine R_bp (40 ≤ i) (i2_ge (by omega) (by omega)) (fun c1 => ?_) (fun c1 => ?_)
    · have I : ME h hh g 40 0 := ⟨I.1, I.2.1, fun y hy => I.2.2.1 y (by omega), fun y hy => by omega⟩
      refine R_s 2 (50, [(1, vI (nI 0)), (0, vR g 0)], [], hh) rfl ?_
      clear hm
      suffices ∀ m i hh, i + m = 8 → ME h hh g 40 i → R d mC_makeEmpty (50, [(1, vI (nI i)), (0, vR g 0)], [], hh) (fun r h' => r = none ∧ CO h' g emp 0 0 0 ∧ FR g h h') from this 8 0 hh (by omega) I
      intro m2
      induction m2 with
      | zero =>
        intro i hh hm J
        refine R_s 3 (cond (if2 .ge (nI i) (nI 8)) 76 56, [(1, vI (nI i)), (0, vR g 0)], [], hh) rfl ?_
        refine R_bp (8 ≤ i) (i2_ge (by omega) (by omega)) (fun c2 => ?_) (fun c2 => ?_)
        · exact R_ret none hh rfl ⟨rfl, ME_co ⟨J.1, J.2.1, J.2.2.1, fun y hy => J.2.2.2 y (by omega)⟩, J.1⟩
        · exact absurd hm (by omega)
      | succ m2 ih2 =>
        intro i hh hm J
        refine R_s 3 (cond (if2 .ge (nI i) (nI 8)) 76 56, [(1, vI (nI i)), (0, vR g 0)], [], hh) rfl ?_
        refine R_bp (8 ≤ i) (i2_ge (by omega) (by omega)) (fun c2 => ?_) (fun c2 => ?_)
        · exact R_ret none hh rfl ⟨rfl, ME_co ⟨J.1, J.2.1, J.2.2.1, fun y hy => J.2.2.2 y (by omega)⟩, J.1⟩
        · refine R_s 4 (62, [(1, vI (nI i)), (0, vR g 0)], [vI (-1), vI (nI i), vR g 7], hh) rfl ?_
          refine R_st g 7 i 8 (-1) rfl rfl (by omega) (by decide) (fun h5 eh5 => ?_)
          refine R_s 4 (69, [(1, vI (nI i)), (0, vR g 0)], [vI (nI i), vI (nI i), vR g 8], h5) rfl ?_
          refine R_st g 8 i 8 (nI i) rfl rfl (by omega) (by decide) (fun h6 eh6 => ?_)
          refine R_s 1 (73, [(1, vI (nI i + Int32.ofInt 1)), (0, vR g 0)], [], h6) rfl ?_
          refine R_lv (lv' := [(1, vI (nI (i + 1))), (0, vR g 0)]) (by rw [show nI i + Int32.ofInt 1 = nI (i + 1) from nI_add _ _]) ?_
          refine R_s 1 (50, [(1, vI (nI (i + 1))), (0, vR g 0)], [], h6) rfl ?_
          exact ih2 (i + 1) _ (by omega) ⟨by rw [eh6, eh5]; exact J.1.set.set, by rw [eh6, eh5]; simpa [hset, hrow, upd] using J.2.1, fun y hy => by rw [eh6, eh5, hs_ne (by omega), hs_ne (by omega)]; exact J.2.2.1 y hy, fun y hy => by
            rw [eh6, eh5]
            by_cases q : y = i
            · subst q; simp [hset, hrow, upd]
            · have := J.2.2.2 y (by omega)
              simpa [hset, hrow, upd, q] using this⟩
    · exact absurd hm (by omega)
  | succ m ih =>
    intro i hh hm I
    refine R_s 3 (cond (if2 .ge (nI i) (nI 40)) 48 28, [(1, vI (nI i)), (0, vR g 0)], [], hh) rfl ?_
    refine R_bp (40 ≤ i) (i2_ge (by omega) (by omega)) (fun c1 => ?_) (fun c1 => ?_)
    · have I : ME h hh g 40 0 := ⟨I.1, I.2.1, fun y hy => I.2.2.1 y (by omega), fun y hy => by omega⟩
      refine R_s 2 (50, [(1, vI (nI 0)), (0, vR g 0)], [], hh) rfl ?_
      clear ih
      suffices ∀ m i hh, i + m = 8 → ME h hh g 40 i → R d mC_makeEmpty (50, [(1, vI (nI i)), (0, vR g 0)], [], hh) (fun r h' => r = none ∧ CO h' g emp 0 0 0 ∧ FR g h h') from this 8 0 hh (by omega) I
      intro m2
      induction m2 with
      | zero =>
        intro i hh hm J
        refine R_s 3 (cond (if2 .ge (nI i) (nI 8)) 76 56, [(1, vI (nI i)), (0, vR g 0)], [], hh) rfl ?_
        refine R_bp (8 ≤ i) (i2_ge (by omega) (by omega)) (fun c2 => ?_) (fun c2 => ?_)
        · exact R_ret none hh rfl ⟨rfl, ME_co ⟨J.1, J.2.1, J.2.2.1, fun y hy => J.2.2.2 y (by omega)⟩, J.1⟩
        · exact absurd hm (by omega)
      | succ m2 ih2 =>
        intro i hh hm J
        refine R_s 3 (cond (if2 .ge (nI i) (nI 8)) 76 56, [(1, vI (nI i)), (0, vR g 0)], [], hh) rfl ?_
        refine R_bp (8 ≤ i) (i2_ge (by omega) (by omega)) (fun c2 => ?_) (fun c2 => ?_)
        · exact R_ret none hh rfl ⟨rfl, ME_co ⟨J.1, J.2.1, J.2.2.1, fun y hy => J.2.2.2 y (by omega)⟩, J.1⟩
        · refine R_s 4 (62, [(1, vI (nI i)), (0, vR g 0)], [vI (-1), vI (nI i), vR g 7], hh) rfl ?_
          refine R_st g 7 i 8 (-1) rfl rfl (by omega) (by decide) (fun h7 eh7 => ?_)
          refine R_s 4 (69, [(1, vI (nI i)), (0, vR g 0)], [vI (nI i), vI (nI i), vR g 8], h7) rfl ?_
          refine R_st g 8 i 8 (nI i) rfl rfl (by omega) (by decide) (fun h8 eh8 => ?_)
          refine R_s 1 (73, [(1, vI (nI i + Int32.ofInt 1)), (0, vR g 0)], [], h8) rfl ?_
          refine R_lv (lv' := [(1, vI (nI (i + 1))), (0, vR g 0)]) (by rw [show nI i + Int32.ofInt 1 = nI (i + 1) from nI_add _ _]) ?_
          refine R_s 1 (50, [(1, vI (nI (i + 1))), (0, vR g 0)], [], h8) rfl ?_
          exact ih2 (i + 1) _ (by omega) ⟨by rw [eh8, eh7]; exact J.1.set.set, by rw [eh8, eh7]; simpa [hset, hrow, upd] using J.2.1, fun y hy => by rw [eh8, eh7, hs_ne (by omega), hs_ne (by omega)]; exact J.2.2.1 y hy, fun y hy => by
            rw [eh8, eh7]
            by_cases q : y = i
            · subst q; simp [hset, hrow, upd]
            · have := J.2.2.2 y (by omega)
              simpa [hset, hrow, upd, q] using this⟩
    · refine R_s 4 (34, [(1, vI (nI i)), (0, vR g 0)], [vI (-1), vI (nI i), vR g 5], hh) rfl ?_
      refine R_st g 5 i 40 (-1) rfl rfl (by omega) (by decide) (fun h9 eh9 => ?_)
      refine R_s 4 (41, [(1, vI (nI i)), (0, vR g 0)], [vI (nI 0), vI (nI i), vR g 6], h9) rfl ?_
      refine R_st g 6 i 40 (nI 0) rfl rfl (by omega) (by decide) (fun h10 eh10 => ?_)
      refine R_s 1 (45, [(1, vI (nI i + Int32.ofInt 1)), (0, vR g 0)], [], h10) rfl ?_
      refine R_lv (lv' := [(1, vI (nI (i + 1))), (0, vR g 0)]) (by rw [show nI i + Int32.ofInt 1 = nI (i + 1) from nI_add _ _]) ?_
      refine R_s 1 (22, [(1, vI (nI (i + 1))), (0, vR g 0)], [], h10) rfl ?_
      exact ih (i + 1) _ (by omega) ⟨by rw [eh10, eh9]; exact I.1.set.set, by rw [eh10, eh9]; simpa [hset, hrow, upd] using I.2.1, fun y hy => by
        rw [eh10, eh9, hs_ne (by omega)]
        by_cases q : y = i
        · subst q; rw [hs_same, up_same]
        · rw [hs_same, up_ne q]; exact I.2.2.1 y (by omega), fun y hy => by omega⟩
theorem t_C_copyFrom {d g g2 n p k : Nat} {h : HP} {s : Nat → Int32} (hne : ¬ g2 = g) (C : CO h g2 s n p k) (h8 : n ≤ 8) (h5 : p ≤ 5) (h6 : k ≤ 6) : MT (d + 1) mC_copyFrom [vR g 0, vR g2 0] h (fun r h' => r = none ∧ CO h' g s n p k ∧ FR g h h') := by
  refine R_s 4 (8, [(0, vR g 0), (1, vR g2 0)], [], (hset h g 0 0 (h g2 0 0))) rfl ?_
  refine R_hp (fun h1 eh1 => ?_)
  refine R_s 4 (16, [(0, vR g 0), (1, vR g2 0)], [], (hset h1 g 0 1 (h1 g2 0 1))) rfl ?_
  refine R_hp (fun h2 eh2 => ?_)
  refine R_s 4 (24, [(0, vR g 0), (1, vR g2 0)], [], (hset h2 g 0 2 (h2 g2 0 2))) rfl ?_
  refine R_hp (fun h3 eh3 => ?_)
  refine R_s 4 (32, [(0, vR g 0), (1, vR g2 0)], [], (hset h3 g 0 3 (h3 g2 0 3))) rfl ?_
  refine R_hp (fun h4 eh4 => ?_)
  refine R_s 8 (47, [(0, vR g 0), (1, vR g2 0)], [], (hrow h4 g 1 (va_cpy (h4 g2 1) (h4 g 1) 0 0 8))) rfl ?_
  refine R_hp (fun h5 eh5 => ?_)
  refine R_s 8 (61, [(0, vR g 0), (1, vR g2 0)], [], (hrow h5 g 2 (va_cpy (h5 g2 2) (h5 g 2) 0 0 5))) rfl ?_
  refine R_hp (fun h6 eh6 => ?_)
  refine R_s 8 (76, [(0, vR g 0), (1, vR g2 0)], [], (hrow h6 g 3 (va_cpy (h6 g2 3) (h6 g 3) 0 0 6))) rfl ?_
  refine R_hp (fun h7 eh7 => ?_)
  refine R_s 8 (91, [(0, vR g 0), (1, vR g2 0)], [], (hrow h7 g 4 (va_cpy (h7 g2 4) (h7 g 4) 0 0 6))) rfl ?_
  refine R_hp (fun h8 eh8 => ?_)
  refine R_s 8 (106, [(0, vR g 0), (1, vR g2 0)], [], (hrow h8 g 5 (va_cpy (h8 g2 5) (h8 g 5) 0 0 40))) rfl ?_
  refine R_hp (fun h9 eh9 => ?_)
  refine R_s 8 (121, [(0, vR g 0), (1, vR g2 0)], [], (hrow h9 g 6 (va_cpy (h9 g2 6) (h9 g 6) 0 0 40))) rfl ?_
  refine R_hp (fun h10 eh10 => ?_)
  refine R_s 8 (136, [(0, vR g 0), (1, vR g2 0)], [], (hrow h10 g 7 (va_cpy (h10 g2 7) (h10 g 7) 0 0 8))) rfl ?_
  refine R_hp (fun h11 eh11 => ?_)
  refine R_s 8 (151, [(0, vR g 0), (1, vR g2 0)], [], (hrow h11 g 8 (va_cpy (h11 g2 8) (h11 g 8) 0 0 8))) rfl ?_
  refine R_hp (fun h12 eh12 => ?_)
  have f1 : ∀ j', h1 g2 j' = h g2 j' := fun j' => by rw [eh1, hs_ne (fun q => hne q.1)]
  have f2 : ∀ j', h2 g2 j' = h g2 j' := fun j' => by rw [eh2, hs_ne (fun q => hne q.1)]; exact f1 j'
  have f3 : ∀ j', h3 g2 j' = h g2 j' := fun j' => by rw [eh3, hs_ne (fun q => hne q.1)]; exact f2 j'
  have f4 : ∀ j', h4 g2 j' = h g2 j' := fun j' => by rw [eh4, hs_ne (fun q => hne q.1)]; exact f3 j'
  have f5 : ∀ j', h5 g2 j' = h g2 j' := fun j' => by rw [eh5, hr_ne (fun q => hne q.1)]; exact f4 j'
  have f6 : ∀ j', h6 g2 j' = h g2 j' := fun j' => by rw [eh6, hr_ne (fun q => hne q.1)]; exact f5 j'
  have f7 : ∀ j', h7 g2 j' = h g2 j' := fun j' => by rw [eh7, hr_ne (fun q => hne q.1)]; exact f6 j'
  have f8 : ∀ j', h8 g2 j' = h g2 j' := fun j' => by rw [eh8, hr_ne (fun q => hne q.1)]; exact f7 j'
  have f9 : ∀ j', h9 g2 j' = h g2 j' := fun j' => by rw [eh9, hr_ne (fun q => hne q.1)]; exact f8 j'
  have f10 : ∀ j', h10 g2 j' = h g2 j' := fun j' => by rw [eh10, hr_ne (fun q => hne q.1)]; exact f9 j'
  have f11 : ∀ j', h11 g2 j' = h g2 j' := fun j' => by rw [eh11, hr_ne (fun q => hne q.1)]; exact f10 j'
  have f12 : ∀ j', h12 g2 j' = h g2 j' := fun j' => by rw [eh12, hr_ne (fun q => hne q.1)]; exact f11 j'
  have F : FR g h h12 := by rw [eh12, eh11, eh10, eh9, eh8, eh7, eh6, eh5, eh4, eh3, eh2, eh1]; exact FR.rf.set.set.set.set.row.row.row.row.row.row.row.row
  have k0 : h12 g 0 = h4 g 0 := by rw [eh12, eh11, eh10, eh9, eh8, eh7, eh6, eh5]; simp [hrow]
  have k1 : ∀ x, x < 8 → h12 g 1 x = h g2 1 x := fun x hx => by
    have e : h12 g 1 = h5 g 1 := by rw [eh12, eh11, eh10, eh9, eh8, eh7, eh6]; simp [hrow]
    rw [e, eh5, hrow_eq, pk_cpy_in (Nat.zero_le _) (by omega), Nat.sub_zero, Nat.zero_add, f4]
  have k2 : ∀ x, x < 5 → h12 g 2 x = h g2 2 x := fun x hx => by
    have e : h12 g 2 = h6 g 2 := by rw [eh12, eh11, eh10, eh9, eh8, eh7]; simp [hrow]
    rw [e, eh6, hrow_eq, pk_cpy_in (Nat.zero_le _) (by omega), Nat.sub_zero, Nat.zero_add, f5]
  have k3 : ∀ x, x < 6 → h12 g 3 x = h g2 3 x := fun x hx => by
    have e : h12 g 3 = h7 g 3 := by rw [eh12, eh11, eh10, eh9, eh8]; simp [hrow]
    rw [e, eh7, hrow_eq, pk_cpy_in (Nat.zero_le _) (by omega), Nat.sub_zero, Nat.zero_add, f6]
  have k4 : ∀ x, x < 6 → h12 g 4 x = h g2 4 x := fun x hx => by
    have e : h12 g 4 = h8 g 4 := by rw [eh12, eh11, eh10, eh9]; simp [hrow]
    rw [e, eh8, hrow_eq, pk_cpy_in (Nat.zero_le _) (by omega), Nat.sub_zero, Nat.zero_add, f7]
  have k5 : ∀ x, x < 40 → h12 g 5 x = h g2 5 x := fun x hx => by
    have e : h12 g 5 = h9 g 5 := by rw [eh12, eh11, eh10]; simp [hrow]
    rw [e, eh9, hrow_eq, pk_cpy_in (Nat.zero_le _) (by omega), Nat.sub_zero, Nat.zero_add, f8]
  have k6 : ∀ x, x < 40 → h12 g 6 x = h g2 6 x := fun x hx => by
    have e : h12 g 6 = h10 g 6 := by rw [eh12, eh11]; simp [hrow]
    rw [e, eh10, hrow_eq, pk_cpy_in (Nat.zero_le _) (by omega), Nat.sub_zero, Nat.zero_add, f9]
  have k7 : ∀ x, x < 8 → h12 g 7 x = h g2 7 x := fun x hx => by
    have e : h12 g 7 = h11 g 7 := by rw [eh12]; simp [hrow]
    rw [e, eh11, hrow_eq, pk_cpy_in (Nat.zero_le _) (by omega), Nat.sub_zero, Nat.zero_add, f10]
  have k8 : ∀ x, x < 8 → h12 g 8 x = h g2 8 x := fun x hx => by
    have e : h12 g 8 = h12 g 8 := by rfl
    rw [e, eh12, hrow_eq, pk_cpy_in (Nat.zero_le _) (by omega), Nat.sub_zero, Nat.zero_add, f11]
  have z0 : h4 g 0 0 = h g2 0 0 ∧ h4 g 0 1 = h g2 0 1 ∧ h4 g 0 2 = h g2 0 2 ∧ h4 g 0 3 = h g2 0 3 := by
    refine ⟨?_, ?_, ?_, ?_⟩
    · rw [eh4, eh3, eh2, eh1]; simp [hset, hrow, upd]
    · rw [eh4, eh3, eh2]; simp [hset, hrow, upd]; rw [f1]
    · rw [eh4, eh3]; simp [hset, hrow, upd]; rw [f2]
    · rw [eh4]; simp [hset, hrow, upd]; rw [f3]
  obtain ⟨⟨c1, c2, c3, c4⟩, c5, c6, c7, c8, c9, c10⟩ := C
  exact R_ret none h12 rfl ⟨rfl, ⟨⟨by rw [k0, z0.1]; exact c1, by rw [k0, z0.2.1]; exact c2, by rw [k0, z0.2.2.1]; exact c3, by rw [k0, z0.2.2.2]; exact c4⟩, fun j hj => by rw [k1 j (by omega)]; exact c5 j hj, fun j hj => by rw [k2 j (by omega)]; exact c6 j hj, fun j hj => ⟨by rw [k3 j (by omega)]; exact (c7 j hj).1, by rw [k4 j (by omega)]; exact (c7 j hj).2⟩, fun j hj => by rw [k5 j hj]; exact c8 j hj, fun j hj hx => by rw [k6 j hj]; exact c9 j hj hx, fun j hj => ⟨by rw [k7 j hj]; exact (c10 j hj).1, by rw [k8 j hj]; exact (c10 j hj).2⟩⟩, F⟩
theorem t_C_givePart {d g a q : Nat} {h : HP} {y t : Int32} (ha : a < 8) (hq : q < 5) : MT d mC_givePart [vR g 0, vI (nI a), vI (nI q), vI y, vI t] h (fun r h' => r = none ∧ h' = hset (hset h g 5 (a * 5 + q) y) g 6 (a * 5 + q) t) := by
  refine R_s 4 (6, [(0, vR g 0), (1, vI (nI a)), (2, vI (nI q)), (3, vI y), (4, vI t)], [vI (nI 5), vI (nI a), vR g 5], h) rfl ?_
  refine R_mul a 5 rfl ?_
  refine R_s 1 (8, [(0, vR g 0), (1, vI (nI a)), (2, vI (nI q)), (3, vI y), (4, vI t)], [vI (nI q), vI (nI (a * 5)), vR g 5], h) rfl ?_
  refine R_add (a * 5) q rfl ?_
  refine R_s 1 (10, [(0, vR g 0), (1, vI (nI a)), (2, vI (nI q)), (3, vI y), (4, vI t)], [vI y, vI (nI ((a * 5) + q)), vR g 5], h) rfl ?_
  refine R_st g 5 ((a * 5) + q) 40 y rfl rfl (by omega) (by decide) (fun h1 eh1 => ?_)
  refine R_s 4 (17, [(0, vR g 0), (1, vI (nI a)), (2, vI (nI q)), (3, vI y), (4, vI t)], [vI (nI 5), vI (nI a), vR g 6], h1) rfl ?_
  refine R_mul a 5 rfl ?_
  refine R_s 1 (19, [(0, vR g 0), (1, vI (nI a)), (2, vI (nI q)), (3, vI y), (4, vI t)], [vI (nI q), vI (nI (a * 5)), vR g 6], h1) rfl ?_
  refine R_add (a * 5) q rfl ?_
  refine R_s 1 (22, [(0, vR g 0), (1, vI (nI a)), (2, vI (nI q)), (3, vI y), (4, vI t)], [vI t, vI (nI ((a * 5) + q)), vR g 6], h1) rfl ?_
  refine R_st g 6 ((a * 5) + q) 40 t rfl rfl (by omega) (by decide) (fun h2 eh2 => ?_)
  exact R_ret none h2 rfl ⟨rfl, by rw [eh2, eh1]⟩
theorem t_C_addSong_t {d g n v : Nat} {h : HP} (hn : h g 0 0 = nI n) (h8 : n ≤ 8) (hv : v < 1000) (h1 : n < 8) (h2 : 1 ≤ v) (h3 : v ≤ 20) : MT d mC_addSong [vR g 0, vI (nI v)] h (fun r h' => r = some (vI (nI 1)) ∧ h' = hset (hset h g 1 n (nI v)) g 0 0 (nI (n + 1))) := by
  refine R_s 2 (4, [(0, vR g 0), (1, vI (nI v))], [vI (h g 0 0)], h) rfl ?_
  refine R_top (nI n) hn ?_
  refine R_s 2 (cond (if2 .eq (nI n) (nI 8)) 20 9, [(0, vR g 0), (1, vI (nI v))], [], h) rfl ?_
  refine R_bp (n = 8) (i2_eq (by omega) (by omega)) (fun c1 => ?_) (fun c1 => ?_)
  · exact absurd c1 (by omega)
  · refine R_s 3 (cond (if2 .lt (nI v) (nI 1)) 20 14, [(0, vR g 0), (1, vI (nI v))], [], h) rfl ?_
    refine R_bp (v < 1) (i2_lt (by omega) (by omega)) (fun c1 => ?_) (fun c1 => ?_)
    · exact absurd c1 (by omega)
    · refine R_s 3 (cond (if2 .le (nI v) (nI 20)) 22 20, [(0, vR g 0), (1, vI (nI v))], [], h) rfl ?_
      refine R_bp (v ≤ 20) (i2_le (by omega) (by omega)) (fun c1 => ?_) (fun c1 => ?_)
      · refine R_s 4 (30, [(0, vR g 0), (1, vI (nI v))], [vI (h g 0 0), vR g 1], h) rfl ?_
        refine R_top (nI n) hn ?_
        refine R_s 1 (31, [(0, vR g 0), (1, vI (nI v))], [vI (nI v), vI (nI n), vR g 1], h) rfl ?_
        refine R_st g 1 n 8 (nI v) rfl rfl (by omega) (by decide) (fun h1 eh1 => ?_)
        refine R_s 3 (37, [(0, vR g 0), (1, vI (nI v))], [vI (h1 g 0 0), vR g 0], h1) rfl ?_
        refine R_top (nI n) (by rw [eh1, hs_ne (by omega)]; exact hn) ?_
        refine R_s 1 (38, [(0, vR g 0), (1, vI (nI v))], [vI (nI 1), vI (nI n), vR g 0], h1) rfl ?_
        refine R_add n 1 rfl ?_
        refine R_s 1 (42, [(0, vR g 0), (1, vI (nI v))], [], (hset h1 g 0 0 (nI (n + 1)))) rfl ?_
        refine R_hp (fun h2 eh2 => ?_)
        refine R_s 1 (43, [(0, vR g 0), (1, vI (nI v))], [vI (nI 1)], h2) rfl ?_
        exact R_ret (some (vI (nI 1))) h2 rfl ⟨rfl, by rw [eh2, eh1]⟩
      · exact absurd c1 (by omega)
theorem t_C_addSong_f {d g n v : Nat} {h : HP} (hn : h g 0 0 = nI n) (h8 : n ≤ 8) (hv : v < 1000) (h1 : n = 8 ∨ v < 1 ∨ 20 < v) : MT d mC_addSong [vR g 0, vI (nI v)] h (fun r h' => r = some (vI (nI 0)) ∧ h' = h) := by
  refine R_s 2 (4, [(0, vR g 0), (1, vI (nI v))], [vI (h g 0 0)], h) rfl ?_
  refine R_top (nI n) hn ?_
  refine R_s 2 (cond (if2 .eq (nI n) (nI 8)) 20 9, [(0, vR g 0), (1, vI (nI v))], [], h) rfl ?_
  refine R_bp (n = 8) (i2_eq (by omega) (by omega)) (fun c1 => ?_) (fun c1 => ?_)
  · refine R_s 1 (21, [(0, vR g 0), (1, vI (nI v))], [vI (nI 0)], h) rfl ?_
    exact R_ret (some (vI (nI 0))) h rfl ⟨rfl, rfl⟩
  · refine R_s 3 (cond (if2 .lt (nI v) (nI 1)) 20 14, [(0, vR g 0), (1, vI (nI v))], [], h) rfl ?_
    refine R_bp (v < 1) (i2_lt (by omega) (by omega)) (fun c2 => ?_) (fun c2 => ?_)
    · refine R_s 1 (21, [(0, vR g 0), (1, vI (nI v))], [vI (nI 0)], h) rfl ?_
      exact R_ret (some (vI (nI 0))) h rfl ⟨rfl, rfl⟩
    · refine R_s 3 (cond (if2 .le (nI v) (nI 20)) 22 20, [(0, vR g 0), (1, vI (nI v))], [], h) rfl ?_
      refine R_bp (v ≤ 20) (i2_le (by omega) (by omega)) (fun c3 => ?_) (fun c3 => ?_)
      · exact absurd h1 (by omega)
      · refine R_s 1 (21, [(0, vR g 0), (1, vI (nI v))], [vI (nI 0)], h) rfl ?_
        exact R_ret (some (vI (nI 0))) h rfl ⟨rfl, rfl⟩
theorem zero1_n {v : Nat} (hv : v < 1000) : zero1 (nI v) = decide (v ≤ 1) := by
  have h : ∀ v, v < 1000 → zero1 (nI v) = decide (v ≤ 1) := by decide +kernel
  exact h v hv
theorem t_C_addPlayer_t {d g n v : Nat} {h : HP} (hn : h g 0 1 = nI n) (h8 : n ≤ 5) (hv : v < 1000) (h1 : n < 5) (h2 : v ≤ 1) : MT (d + 1) mC_addPlayer [vR g 0, vI (nI v)] h (fun r h' => r = some (vI (nI 1)) ∧ h' = hset (hset h g 2 n (nI v)) g 0 1 (nI (n + 1))) := by
  refine R_s 2 (4, [(0, vR g 0), (1, vI (nI v))], [vI (h g 0 1)], h) rfl ?_
  refine R_top (nI n) hn ?_
  refine R_s 2 (cond (if2 .eq (nI n) (nI 5)) 16 8, [(0, vR g 0), (1, vI (nI v))], [], h) rfl ?_
  refine R_bp (n = 5) (i2_eq (by omega) (by omega)) (fun c1 => ?_) (fun c1 => ?_)
  · exact absurd c1 (by omega)
  · refine R_s 2 (10, [(0, vR g 0), (1, vI (nI v))], [vI (nI v), vR g 0], h) rfl ?_
    refine R_calli mC_isSide [vR g 0, vI (nI v)] [] (bI (zero1 (nI v))) h rfl t_C_isSide ?_
    refine R_top (nI 1) (by rw [zero1_n hv, decide_eq_true h2]; rfl) ?_
    refine R_s 1 (cond (if0 .ne (nI 1)) 18 16, [(0, vR g 0), (1, vI (nI v))], [], h) rfl ?_
    refine R_bt rfl ?_
    refine R_s 4 (26, [(0, vR g 0), (1, vI (nI v))], [vI (h g 0 1), vR g 2], h) rfl ?_
    refine R_top (nI n) hn ?_
    refine R_s 1 (27, [(0, vR g 0), (1, vI (nI v))], [vI (nI v), vI (nI n), vR g 2], h) rfl ?_
    refine R_st g 2 n 5 (nI v) rfl rfl (by omega) (by decide) (fun h1 eh1 => ?_)
    refine R_s 3 (33, [(0, vR g 0), (1, vI (nI v))], [vI (h1 g 0 1), vR g 0], h1) rfl ?_
    refine R_top (nI n) (by rw [eh1, hs_ne (by omega)]; exact hn) ?_
    refine R_s 1 (34, [(0, vR g 0), (1, vI (nI v))], [vI (nI 1), vI (nI n), vR g 0], h1) rfl ?_
    refine R_add n 1 rfl ?_
    refine R_s 1 (38, [(0, vR g 0), (1, vI (nI v))], [], (hset h1 g 0 1 (nI (n + 1)))) rfl ?_
    refine R_hp (fun h2 eh2 => ?_)
    refine R_s 1 (39, [(0, vR g 0), (1, vI (nI v))], [vI (nI 1)], h2) rfl ?_
    exact R_ret (some (vI (nI 1))) h2 rfl ⟨rfl, by rw [eh2, eh1]⟩
theorem t_C_addPlayer_f {d g n v : Nat} {h : HP} (hn : h g 0 1 = nI n) (h8 : n ≤ 5) (hv : v < 1000) (h1 : n = 5 ∨ 1 < v) : MT (d + 1) mC_addPlayer [vR g 0, vI (nI v)] h (fun r h' => r = some (vI (nI 0)) ∧ h' = h) := by
  refine R_s 2 (4, [(0, vR g 0), (1, vI (nI v))], [vI (h g 0 1)], h) rfl ?_
  refine R_top (nI n) hn ?_
  refine R_s 2 (cond (if2 .eq (nI n) (nI 5)) 16 8, [(0, vR g 0), (1, vI (nI v))], [], h) rfl ?_
  refine R_bp (n = 5) (i2_eq (by omega) (by omega)) (fun c1 => ?_) (fun c1 => ?_)
  · refine R_s 1 (17, [(0, vR g 0), (1, vI (nI v))], [vI (nI 0)], h) rfl ?_
    exact R_ret (some (vI (nI 0))) h rfl ⟨rfl, rfl⟩
  · refine R_s 2 (10, [(0, vR g 0), (1, vI (nI v))], [vI (nI v), vR g 0], h) rfl ?_
    refine R_calli mC_isSide [vR g 0, vI (nI v)] [] (bI (zero1 (nI v))) h rfl t_C_isSide ?_
    refine R_top (nI 0) (by rw [zero1_n hv, decide_eq_false (by omega)]; rfl) ?_
    refine R_s 1 (cond (if0 .ne (nI 0)) 18 16, [(0, vR g 0), (1, vI (nI v))], [], h) rfl ?_
    refine R_bf rfl ?_
    refine R_s 1 (17, [(0, vR g 0), (1, vI (nI v))], [vI (nI 0)], h) rfl ?_
    exact R_ret (some (vI (nI 0))) h rfl ⟨rfl, rfl⟩
theorem t_C_addKind_t {d g n u v : Nat} {h : HP} (hn : h g 0 2 = nI n) (h8 : n ≤ 6) (hu : u < 1000) (hv : v < 1000) (h1 : n < 6) (h2 : 1 ≤ u) (h3 : u ≤ 5) (h4 : v ≤ 1) : MT (d + 1) mC_addKind [vR g 0, vI (nI u), vI (nI v)] h (fun r h' => r = some (vI (nI 1)) ∧ h' = hset (hset (hset h g 3 n (nI u)) g 4 n (nI v)) g 0 2 (nI (n + 1))) := by
  refine R_s 2 (4, [(0, vR g 0), (1, vI (nI u)), (2, vI (nI v))], [vI (h g 0 2)], h) rfl ?_
  refine R_top (nI n) hn ?_
  refine R_s 2 (cond (if2 .eq (nI n) (nI 6)) 27 9, [(0, vR g 0), (1, vI (nI u)), (2, vI (nI v))], [], h) rfl ?_
  refine R_bp (n = 6) (i2_eq (by omega) (by omega)) (fun c1 => ?_) (fun c1 => ?_)
  · exact absurd c1 (by omega)
  · refine R_s 3 (cond (if2 .lt (nI u) (nI 1)) 27 14, [(0, vR g 0), (1, vI (nI u)), (2, vI (nI v))], [], h) rfl ?_
    refine R_bp (u < 1) (i2_lt (by omega) (by omega)) (fun c1 => ?_) (fun c1 => ?_)
    · exact absurd c1 (by omega)
    · refine R_s 3 (cond (if2 .gt (nI u) (nI 5)) 27 19, [(0, vR g 0), (1, vI (nI u)), (2, vI (nI v))], [], h) rfl ?_
      refine R_bp (5 < u) (i2_gt (by omega) (by omega)) (fun c1 => ?_) (fun c1 => ?_)
      · exact absurd c1 (by omega)
      · refine R_s 2 (21, [(0, vR g 0), (1, vI (nI u)), (2, vI (nI v))], [vI (nI v), vR g 0], h) rfl ?_
        refine R_calli mC_isSide [vR g 0, vI (nI v)] [] (bI (zero1 (nI v))) h rfl t_C_isSide ?_
        refine R_top (nI 1) (by rw [zero1_n hv, decide_eq_true h4]; rfl) ?_
        refine R_s 1 (cond (if0 .ne (nI 1)) 29 27, [(0, vR g 0), (1, vI (nI u)), (2, vI (nI v))], [], h) rfl ?_
        refine R_bt rfl ?_
        refine R_s 4 (37, [(0, vR g 0), (1, vI (nI u)), (2, vI (nI v))], [vI (h g 0 2), vR g 3], h) rfl ?_
        refine R_top (nI n) hn ?_
        refine R_s 1 (38, [(0, vR g 0), (1, vI (nI u)), (2, vI (nI v))], [vI (nI u), vI (nI n), vR g 3], h) rfl ?_
        refine R_st g 3 n 6 (nI u) rfl rfl (by omega) (by decide) (fun h1 eh1 => ?_)
        refine R_s 4 (47, [(0, vR g 0), (1, vI (nI u)), (2, vI (nI v))], [vI (h1 g 0 2), vR g 4], h1) rfl ?_
        refine R_top (nI n) (by rw [eh1, hs_ne (by omega)]; exact hn) ?_
        refine R_s 1 (48, [(0, vR g 0), (1, vI (nI u)), (2, vI (nI v))], [vI (nI v), vI (nI n), vR g 4], h1) rfl ?_
        refine R_st g 4 n 6 (nI v) rfl rfl (by omega) (by decide) (fun h2 eh2 => ?_)
        refine R_s 3 (54, [(0, vR g 0), (1, vI (nI u)), (2, vI (nI v))], [vI (h2 g 0 2), vR g 0], h2) rfl ?_
        refine R_top (nI n) (by rw [eh2, hs_ne (by omega), eh1, hs_ne (by omega)]; exact hn) ?_
        refine R_s 1 (55, [(0, vR g 0), (1, vI (nI u)), (2, vI (nI v))], [vI (nI 1), vI (nI n), vR g 0], h2) rfl ?_
        refine R_add n 1 rfl ?_
        refine R_s 1 (59, [(0, vR g 0), (1, vI (nI u)), (2, vI (nI v))], [], (hset h2 g 0 2 (nI (n + 1)))) rfl ?_
        refine R_hp (fun h3 eh3 => ?_)
        refine R_s 1 (60, [(0, vR g 0), (1, vI (nI u)), (2, vI (nI v))], [vI (nI 1)], h3) rfl ?_
        exact R_ret (some (vI (nI 1))) h3 rfl ⟨rfl, by rw [eh3, eh2, eh1]⟩
theorem t_C_addKind_f {d g n u v : Nat} {h : HP} (hn : h g 0 2 = nI n) (h8 : n ≤ 6) (hu : u < 1000) (hv : v < 1000) (h1 : n = 6 ∨ u < 1 ∨ 5 < u ∨ 1 < v) : MT (d + 1) mC_addKind [vR g 0, vI (nI u), vI (nI v)] h (fun r h' => r = some (vI (nI 0)) ∧ h' = h) := by
  refine R_s 2 (4, [(0, vR g 0), (1, vI (nI u)), (2, vI (nI v))], [vI (h g 0 2)], h) rfl ?_
  refine R_top (nI n) hn ?_
  refine R_s 2 (cond (if2 .eq (nI n) (nI 6)) 27 9, [(0, vR g 0), (1, vI (nI u)), (2, vI (nI v))], [], h) rfl ?_
  refine R_bp (n = 6) (i2_eq (by omega) (by omega)) (fun c1 => ?_) (fun c1 => ?_)
  · refine R_s 1 (28, [(0, vR g 0), (1, vI (nI u)), (2, vI (nI v))], [vI (nI 0)], h) rfl ?_
    exact R_ret (some (vI (nI 0))) h rfl ⟨rfl, rfl⟩
  · refine R_s 3 (cond (if2 .lt (nI u) (nI 1)) 27 14, [(0, vR g 0), (1, vI (nI u)), (2, vI (nI v))], [], h) rfl ?_
    refine R_bp (u < 1) (i2_lt (by omega) (by omega)) (fun c2 => ?_) (fun c2 => ?_)
    · refine R_s 1 (28, [(0, vR g 0), (1, vI (nI u)), (2, vI (nI v))], [vI (nI 0)], h) rfl ?_
      exact R_ret (some (vI (nI 0))) h rfl ⟨rfl, rfl⟩
    · refine R_s 3 (cond (if2 .gt (nI u) (nI 5)) 27 19, [(0, vR g 0), (1, vI (nI u)), (2, vI (nI v))], [], h) rfl ?_
      refine R_bp (5 < u) (i2_gt (by omega) (by omega)) (fun c3 => ?_) (fun c3 => ?_)
      · refine R_s 1 (28, [(0, vR g 0), (1, vI (nI u)), (2, vI (nI v))], [vI (nI 0)], h) rfl ?_
        exact R_ret (some (vI (nI 0))) h rfl ⟨rfl, rfl⟩
      · refine R_s 2 (21, [(0, vR g 0), (1, vI (nI u)), (2, vI (nI v))], [vI (nI v), vR g 0], h) rfl ?_
        refine R_calli mC_isSide [vR g 0, vI (nI v)] [] (bI (zero1 (nI v))) h rfl t_C_isSide ?_
        refine R_top (nI 0) (by rw [zero1_n hv, decide_eq_false (by omega)]; rfl) ?_
        refine R_s 1 (cond (if0 .ne (nI 0)) 29 27, [(0, vR g 0), (1, vI (nI u)), (2, vI (nI v))], [], h) rfl ?_
        refine R_bf rfl ?_
        refine R_s 1 (28, [(0, vR g 0), (1, vI (nI u)), (2, vI (nI v))], [vI (nI 0)], h) rfl ?_
        exact R_ret (some (vI (nI 0))) h rfl ⟨rfl, rfl⟩
theorem t_C_addEncore_t {d g n e v : Nat} {h : HP} (hn : h g 0 0 = nI n) (h8 : n ≤ 8) (he : h g 0 3 = nI e) (he8 : e < 256) (hv : v < 1000) (h1 : v < n) : MT (d + 1) mC_addEncore [vR g 0, vI (nI v)] h (fun r h' => r = some (vI (nI 1)) ∧ h' = hset h g 0 3 (nI (e ||| 2 ^ v))) := by
  refine R_s 2 (2, [(0, vR g 0), (1, vI (nI v))], [vI (nI v), vR g 0], h) rfl ?_
  refine R_calli mC_isSong [vR g 0, vI (nI v)] [] (bI (inb (nI v) n)) h rfl (t_C_isSong hn h8) ?_
  refine R_top (nI 1) (by rw [inb_n h1 (by omega)]; rfl) ?_
  refine R_s 1 (cond (if0 .ne (nI 1)) 10 8, [(0, vR g 0), (1, vI (nI v))], [], h) rfl ?_
  refine R_bt rfl ?_
  refine R_s 3 (15, [(0, vR g 0), (1, vI (nI v))], [vI (h g 0 3), vR g 0], h) rfl ?_
  refine R_top (nI e) he ?_
  refine R_s 4 (19, [(0, vR g 0), (1, vI (nI v))], [vI ((nI e) ||| ((nI 1) <<< ((nI v) &&& 31))), vR g 0], h) rfl ?_
  refine R_top (nI (e ||| 2 ^ v)) (bit_or e he8 v (by omega)) ?_
  refine R_s 1 (22, [(0, vR g 0), (1, vI (nI v))], [], (hset h g 0 3 (nI (e ||| 2 ^ v)))) rfl ?_
  refine R_hp (fun h1 eh1 => ?_)
  refine R_s 1 (23, [(0, vR g 0), (1, vI (nI v))], [vI (nI 1)], h1) rfl ?_
  exact R_ret (some (vI (nI 1))) h1 rfl ⟨rfl, by rw [eh1]⟩
theorem inb_no {x n : Nat} (h : n ≤ x) (hx : x < 2147483648) : inb (nI x) n = false := by
  unfold inb
  have h2 : n ≤ (nI x).toNatClampNeg := by rw [nI_cl hx]; exact h
  simp [h2]
theorem t_C_addEncore_f {d g n e v : Nat} {h : HP} (hn : h g 0 0 = nI n) (h8 : n ≤ 8) (he : h g 0 3 = nI e) (he8 : e < 256) (hv : v < 1000) (h1 : n ≤ v) : MT (d + 1) mC_addEncore [vR g 0, vI (nI v)] h (fun r h' => r = some (vI (nI 0)) ∧ h' = h) := by
  refine R_s 2 (2, [(0, vR g 0), (1, vI (nI v))], [vI (nI v), vR g 0], h) rfl ?_
  refine R_calli mC_isSong [vR g 0, vI (nI v)] [] (bI (inb (nI v) n)) h rfl (t_C_isSong hn h8) ?_
  refine R_top (nI 0) (by rw [inb_no h1 (by omega)]; rfl) ?_
  refine R_s 1 (cond (if0 .ne (nI 0)) 10 8, [(0, vR g 0), (1, vI (nI v))], [], h) rfl ?_
  refine R_bf rfl ?_
  refine R_s 1 (9, [(0, vR g 0), (1, vI (nI v))], [vI (nI 0)], h) rfl ?_
  exact R_ret (some (vI (nI 0))) h rfl ⟨rfl, rfl⟩
theorem t_C_addPart_t {d g n p k a q c t : Nat} {h : HP} {s : Nat → Int32} (C : CO h g s n p k) (F : WF s n p k) (ha : a < 1000) (hq : q < 1000) (hc : c < 1000) (ht : t < 1000) (h1 : a < n) (h2 : q < p) (h3 : c < k) (h4 : t ≤ 5) {u : Nat} (hu : s (33 + c) = nI u) (hu6 : u ≤ 6) (hx : kd s a q = nI c ∨ cn s a (nI c) p < u) : MT (d + 2) mC_addPart [vR g 0, vI (nI a), vI (nI q), vI (nI c), vI (nI t)] h (fun r h' => r = some (vI (nI 1)) ∧ h' = hset (hset h g 5 (a * 5 + q) (nI c)) g 6 (a * 5 + q) (nI t)) := by
  have h8 := F.2.1.1
  have h5 := F.2.1.2.1
  have h6 := F.2.1.2.2
  refine R_s 5 (6, [(0, vR g 0), (1, vI (nI a)), (2, vI (nI q)), (3, vI (nI c)), (4, vI (nI t))], [vI (nI t), vI (nI c), vI (nI q), vI (nI a), vR g 0], h) rfl ?_
  refine R_calli mC_isPart [vR g 0, vI (nI a), vI (nI q), vI (nI c), vI (nI t)] [] (bI (inb (nI a) n && inb (nI q) p && inb (nI c) k && inb (nI t) 6)) h rfl (t_C_isPart C.1.1 C.1.2.1 C.1.2.2.1 h8 h5 h6) ?_
  refine R_top (nI 1) (by rw [inb_n h1 (by omega), inb_n h2 (by omega), inb_n h3 (by omega), inb_n (show t < 6 by omega) (by omega)]; rfl) ?_
  refine R_s 1 (cond (if0 .eq (nI 1)) 22 12, [(0, vR g 0), (1, vI (nI a)), (2, vI (nI q)), (3, vI (nI c)), (4, vI (nI t))], [], h) rfl ?_
  refine R_bf rfl ?_
  refine R_s 4 (16, [(0, vR g 0), (1, vI (nI a)), (2, vI (nI q)), (3, vI (nI c)), (4, vI (nI t))], [vI (nI c), vI (nI q), vI (nI a), vR g 0], h) rfl ?_
  refine R_calli mC_hasUnitFor [vR g 0, vI (nI a), vI (nI q), vI (nI c)] [] (bI (decide (kd s a q = nI c) || decide (cn s a (nI c) p < u))) h rfl (t_C_hasUnitFor C h5 h6 (by omega) (by omega) h3 hu hu6) ?_
  refine R_top (nI 1) (by rcases hx with z | z <;> rw [decide_eq_true z] <;> first | rfl | (rw [Bool.or_true]; rfl)) ?_
  refine R_s 1 (cond (if0 .ne (nI 1)) 24 22, [(0, vR g 0), (1, vI (nI a)), (2, vI (nI q)), (3, vI (nI c)), (4, vI (nI t))], [], h) rfl ?_
  refine R_bt rfl ?_
  refine R_s 5 (30, [(0, vR g 0), (1, vI (nI a)), (2, vI (nI q)), (3, vI (nI c)), (4, vI (nI t))], [vI (nI t), vI (nI c), vI (nI q), vI (nI a), vR g 0], h) rfl ?_
  refine R_callv mC_givePart [vR g 0, vI (nI a), vI (nI q), vI (nI c), vI (nI t)] [] (hset (hset h g 5 (a * 5 + q) (nI c)) g 6 (a * 5 + q) (nI t)) rfl (t_C_givePart (by omega) (by omega)) ?_
  refine R_hp (fun h1 eh1 => ?_)
  refine R_s 1 (34, [(0, vR g 0), (1, vI (nI a)), (2, vI (nI q)), (3, vI (nI c)), (4, vI (nI t))], [vI (nI 1)], h1) rfl ?_
  exact R_ret (some (vI (nI 1))) h1 rfl ⟨rfl, by rw [eh1]⟩
theorem t_C_addPart_f {d g n p k a q c t : Nat} {h : HP} {s : Nat → Int32} (C : CO h g s n p k) (F : WF s n p k) (ha : a < 1000) (hq : q < 1000) (hc : c < 1000) (ht : t < 1000) (h1 : ¬ (a < n ∧ q < p ∧ c < k ∧ t ≤ 5)) : MT (d + 2) mC_addPart [vR g 0, vI (nI a), vI (nI q), vI (nI c), vI (nI t)] h (fun r h' => r = some (vI (nI 0)) ∧ h' = h) := by
  have h8 := F.2.1.1
  have h5 := F.2.1.2.1
  have h6 := F.2.1.2.2
  refine R_s 5 (6, [(0, vR g 0), (1, vI (nI a)), (2, vI (nI q)), (3, vI (nI c)), (4, vI (nI t))], [vI (nI t), vI (nI c), vI (nI q), vI (nI a), vR g 0], h) rfl ?_
  refine R_calli mC_isPart [vR g 0, vI (nI a), vI (nI q), vI (nI c), vI (nI t)] [] (bI (inb (nI a) n && inb (nI q) p && inb (nI c) k && inb (nI t) 6)) h rfl (t_C_isPart C.1.1 C.1.2.1 C.1.2.2.1 h8 h5 h6) ?_
  refine R_top (nI 0) (by
    rcases (show n ≤ a ∨ p ≤ q ∨ k ≤ c ∨ 6 ≤ t by omega) with z | z | z | z
    · rw [inb_no z (by omega)]; rfl
    · rw [inb_no z (by omega), Bool.and_false]; rfl
    · rw [inb_no z (by omega), Bool.and_false]; rfl
    · rw [inb_no z (by omega), Bool.and_false]; rfl) ?_
  refine R_s 1 (cond (if0 .eq (nI 0)) 22 12, [(0, vR g 0), (1, vI (nI a)), (2, vI (nI q)), (3, vI (nI c)), (4, vI (nI t))], [], h) rfl ?_
  refine R_bt rfl ?_
  refine R_s 1 (23, [(0, vR g 0), (1, vI (nI a)), (2, vI (nI q)), (3, vI (nI c)), (4, vI (nI t))], [vI (nI 0)], h) rfl ?_
  exact R_ret (some (vI (nI 0))) h rfl ⟨rfl, rfl⟩
theorem t_C_addPart_u {d g n p k a q c t : Nat} {h : HP} {s : Nat → Int32} (C : CO h g s n p k) (F : WF s n p k) (ha : a < 1000) (hq : q < 1000) (hc : c < 1000) (ht : t < 1000) (h1 : a < n) (h2 : q < p) (h3 : c < k) (h4 : t ≤ 5) {u : Nat} (hu : s (33 + c) = nI u) (hu6 : u ≤ 6) (hx : ¬ (kd s a q = nI c ∨ cn s a (nI c) p < u)) : MT (d + 2) mC_addPart [vR g 0, vI (nI a), vI (nI q), vI (nI c), vI (nI t)] h (fun r h' => r = some (vI (nI 0)) ∧ h' = h) := by
  have h8 := F.2.1.1
  have h5 := F.2.1.2.1
  have h6 := F.2.1.2.2
  refine R_s 5 (6, [(0, vR g 0), (1, vI (nI a)), (2, vI (nI q)), (3, vI (nI c)), (4, vI (nI t))], [vI (nI t), vI (nI c), vI (nI q), vI (nI a), vR g 0], h) rfl ?_
  refine R_calli mC_isPart [vR g 0, vI (nI a), vI (nI q), vI (nI c), vI (nI t)] [] (bI (inb (nI a) n && inb (nI q) p && inb (nI c) k && inb (nI t) 6)) h rfl (t_C_isPart C.1.1 C.1.2.1 C.1.2.2.1 h8 h5 h6) ?_
  refine R_top (nI 1) (by rw [inb_n h1 (by omega), inb_n h2 (by omega), inb_n h3 (by omega), inb_n (show t < 6 by omega) (by omega)]; rfl) ?_
  refine R_s 1 (cond (if0 .eq (nI 1)) 22 12, [(0, vR g 0), (1, vI (nI a)), (2, vI (nI q)), (3, vI (nI c)), (4, vI (nI t))], [], h) rfl ?_
  refine R_bf rfl ?_
  refine R_s 4 (16, [(0, vR g 0), (1, vI (nI a)), (2, vI (nI q)), (3, vI (nI c)), (4, vI (nI t))], [vI (nI c), vI (nI q), vI (nI a), vR g 0], h) rfl ?_
  refine R_calli mC_hasUnitFor [vR g 0, vI (nI a), vI (nI q), vI (nI c)] [] (bI (decide (kd s a q = nI c) || decide (cn s a (nI c) p < u))) h rfl (t_C_hasUnitFor C h5 h6 (by omega) (by omega) h3 hu hu6) ?_
  refine R_top (nI 0) (by rw [decide_eq_false (fun z => hx (Or.inl z)), decide_eq_false (fun z => hx (Or.inr z))]; rfl) ?_
  refine R_s 1 (cond (if0 .ne (nI 0)) 24 22, [(0, vR g 0), (1, vI (nI a)), (2, vI (nI q)), (3, vI (nI c)), (4, vI (nI t))], [], h) rfl ?_
  refine R_bf rfl ?_
  refine R_s 1 (23, [(0, vR g 0), (1, vI (nI a)), (2, vI (nI q)), (3, vI (nI c)), (4, vI (nI t))], [vI (nI 0)], h) rfl ?_
  exact R_ret (some (vI (nI 0))) h rfl ⟨rfl, rfl⟩
theorem ite_sp {α : Type} : True := trivial
/-- an order with the song at f moved to t -/
def mvo (o : Nat → Int32) (f t : Nat) : Nat → Int32 := fun j => if j = t then o f else if f ≤ j ∧ j < t then o (j + 1) else if t < j ∧ j ≤ f then o (j - 1) else o j
def mv1 (o : Nat → Int32) (f i : Nat) : Nat → Int32 := fun j => if f ≤ j ∧ j < i then o (j + 1) else o j
def mv2 (o : Nat → Int32) (f t i : Nat) : Nat → Int32 := fun j => if i < j ∧ j ≤ f then o (j - 1) else mv1 o f t j
def OO (h h' : HP) (g c : Nat) (o : Nat → Int32) (B : Nat) : Prop := (∀ j, j < 8 → h' g c (B + j) = o j) ∧ (∀ g' j', ¬ (g' = g ∧ j' = c) → h' g' j' = h g' j') ∧ (∀ x, (x < B ∨ B + 8 ≤ x) → h' g c x = h g c x)
theorem OO.st {h h' : HP} {g c B i : Nat} {o o' : Nat → Int32} {v : Int32} (I : OO h h' g c o B) (hi : i < 8) (hv : v = o' i) (ho : ∀ j, j < 8 → ¬ j = i → o' j = o j) : OO h (hset h' g c (B + i) v) g c o' B := by
  refine ⟨fun j hj => ?_, fun g' j' e => ?_, fun x hx => ?_⟩
  · rw [hs_same]
    by_cases q : j = i
    · rw [q, up_same, hv]
    · rw [up_ne (by omega), ho j hj q]; exact I.1 j hj
  · rw [hs_ne e]; exact I.2.1 g' j' e
  · rw [hs_same, up_ne (by omega)]; exact I.2.2 x hx
theorem mv_12 {o : Nat → Int32} {f t i j : Nat} (h1 : f ≤ i) (h2 : i ≤ t ∨ i = f) (h3 : t ≤ i) : mv1 o f i j = mv2 o f t f j := by
  unfold mv2 mv1
  repeat' split
  all_goals first | rfl | (exfalso; omega)
theorem mv_1a {o : Nat → Int32} {f i : Nat} (h1 : f ≤ i) : mv1 o f (i + 1) i = o (i + 1) := by
  unfold mv1
  rw [if_pos (by omega)]
theorem mv_1b {o : Nat → Int32} {f i j : Nat} (h : ¬ j = i) : mv1 o f (i + 1) j = mv1 o f i j := by
  unfold mv1
  repeat' split
  all_goals first | rfl | (exfalso; omega)
theorem mv_2a {o : Nat → Int32} {f t i : Nat} (h : i + 1 ≤ f) : mv2 o f t i (i + 1) = o i := by
  unfold mv2
  rw [if_pos (by omega), Nat.add_sub_cancel]
theorem mv_2b {o : Nat → Int32} {f t i j : Nat} (h : ¬ j = i + 1) : mv2 o f t i j = mv2 o f t (i + 1) j := by
  unfold mv2
  repeat' split
  all_goals first | rfl | (exfalso; omega)
theorem mv_ob {o : Nat → Int32} {f t i j : Nat} (h : ¬ j = t) (h1 : i ≤ t) (h2 : t ≤ i ∨ i = f) (h3 : i ≤ f) : mvo o f t j = mv2 o f t i j := by
  unfold mvo mv2 mv1
  repeat' split
  all_goals first | rfl | (exfalso; omega)
theorem mv_oa {o : Nat → Int32} {f t : Nat} : mvo o f t t = o f := by
  unfold mvo
  rw [if_pos rfl]
theorem t_C_shiftOrder {d g f t : Nat} {h : HP} (hf : f < 8) (ht : t < 8) : MT d mC_shiftOrder [vR g 0, vI (nI f), vI (nI t)] h (fun r h' => r = none ∧ OO h h' g 8 (mvo (h g 8) f t) 0) := by
  refine R_s 3 (5, [(0, vR g 0), (1, vI (nI f)), (2, vI (nI t))], [vI (nI f), vR g 8], h) rfl ?_
  refine R_ld g 8 f 8 rfl rfl (by omega) (by decide) ?_
  refine R_s 3 (10, [(4, vI (nI f)), (3, vI (h g 8 f)), (0, vR g 0), (1, vI (nI f)), (2, vI (nI t))], [], h) rfl ?_
  have z0 : ∀ (hh : HP) (j : Nat), hh g 8 (0 + j) = hh g 8 j := fun hh j => by rw [Nat.zero_add]
  suffices ∀ m i hh, f ≤ i → (i ≤ t ∨ i = f) → t ≤ i + m → OO h hh g 8 (mv1 (h g 8) f i) 0 → R d mC_shiftOrder (10, [(4, vI (nI i)), (3, vI (h g 8 f)), (0, vR g 0), (1, vI (nI f)), (2, vI (nI t))], [], hh) (fun r h' => r = none ∧ OO h h' g 8 (mvo (h g 8) f t) 0) from this t f h (by omega) (by omega) (by omega) ⟨fun j hj => by rw [Nat.zero_add]; unfold mv1; rw [if_neg (by omega)], fun _ _ _ => rfl, fun _ _ => rfl⟩
  intro m
  induction m with
  | zero =>
    intro i hh hfi hit hm I
    refine R_s 3 (cond (if2 .ge (nI i) (nI t)) 38 16, [(4, vI (nI i)), (3, vI (h g 8 f)), (0, vR g 0), (1, vI (nI f)), (2, vI (nI t))], [], hh) rfl ?_
    refine R_bp (t ≤ i) (i2_ge (by omega) (by omega)) (fun c1 => ?_) (fun c1 => ?_)
    · have I2 : OO h hh g 8 (mv2 (h g 8) f t f) 0 := ⟨fun j hj => (I.1 j hj).trans (mv_12 hfi hit c1), I.2.1, I.2.2⟩
      refine R_s 2 (41, [(4, vI (nI f)), (3, vI (h g 8 f)), (0, vR g 0), (1, vI (nI f)), (2, vI (nI t))], [], hh) rfl ?_
      clear I hm
      suffices ∀ m i hh, i ≤ f → i ≤ t + m → (t ≤ i ∨ i = f) → OO h hh g 8 (mv2 (h g 8) f t i) 0 → R d mC_shiftOrder (41, [(4, vI (nI i)), (3, vI (h g 8 f)), (0, vR g 0), (1, vI (nI f)), (2, vI (nI t))], [], hh) (fun r h' => r = none ∧ OO h h' g 8 (mvo (h g 8) f t) 0) from this f f hh (by omega) (by omega) (Or.inr rfl) I2
      intro m2
      induction m2 with
      | zero =>
        intro i hh hi hm ho J
        refine R_s 3 (cond (if2 .le (nI i) (nI t)) 69 47, [(4, vI (nI i)), (3, vI (h g 8 f)), (0, vR g 0), (1, vI (nI f)), (2, vI (nI t))], [], hh) rfl ?_
        refine R_bp (i ≤ t) (i2_le (by omega) (by omega)) (fun c2 => ?_) (fun c2 => ?_)
        · refine R_s 4 (75, [(4, vI (nI i)), (3, vI (h g 8 f)), (0, vR g 0), (1, vI (nI f)), (2, vI (nI t))], [vI (h g 8 f), vI (nI t), vR g 8], hh) rfl ?_
          refine R_st g 8 t 8 (h g 8 f) rfl rfl (by omega) (by decide) (fun h1 eh1 => ?_)
          exact R_ret none h1 rfl ⟨rfl, by rw [eh1, show hset hh g 8 t (h g 8 f) = hset hh g 8 (0 + t) (h g 8 f) by rw [Nat.zero_add]]; exact J.st ht mv_oa.symm (fun j hj hne => mv_ob hne c2 ho hi)⟩
        · exact absurd c2 (by omega)
      | succ m2 ih2 =>
        intro i hh hi hm ho J
        refine R_s 3 (cond (if2 .le (nI i) (nI t)) 69 47, [(4, vI (nI i)), (3, vI (h g 8 f)), (0, vR g 0), (1, vI (nI f)), (2, vI (nI t))], [], hh) rfl ?_
        refine R_bp (i ≤ t) (i2_le (by omega) (by omega)) (fun c2 => ?_) (fun c2 => ?_)
        · refine R_s 4 (75, [(4, vI (nI i)), (3, vI (h g 8 f)), (0, vR g 0), (1, vI (nI f)), (2, vI (nI t))], [vI (h g 8 f), vI (nI t), vR g 8], hh) rfl ?_
          refine R_st g 8 t 8 (h g 8 f) rfl rfl (by omega) (by decide) (fun h2 eh2 => ?_)
          exact R_ret none h2 rfl ⟨rfl, by rw [eh2, show hset hh g 8 t (h g 8 f) = hset hh g 8 (0 + t) (h g 8 f) by rw [Nat.zero_add]]; exact J.st ht mv_oa.symm (fun j hj hne => mv_ob hne c2 ho hi)⟩
        · obtain ⟨i, rfl⟩ : ∃ y, i = y + 1 := ⟨i - 1, by omega⟩
          refine R_s 7 (60, [(4, vI (nI (i + 1))), (3, vI (h g 8 f)), (0, vR g 0), (1, vI (nI f)), (2, vI (nI t))], [vI (nI 1), vI (nI (i + 1)), vR g 8, vI (nI (i + 1)), vR g 8], hh) rfl ?_
          refine R_sub (i + 1) 1 rfl (by omega) ?_
          refine R_ld g 8 ((i + 1) - 1) 8 rfl rfl (by omega) (by decide) ?_
          refine R_top (h g 8 i) (by rw [Nat.add_sub_cancel, ← z0 hh i, J.1 i (by omega)]; unfold mv2 mv1; rw [if_neg (by omega), if_neg (by omega)]) ?_
          refine R_st g 8 (i + 1) 8 (h g 8 i) rfl rfl (by omega) (by decide) (fun h3 eh3 => ?_)
          refine R_s 1 (66, [(4, vI (nI (i + 1) + Int32.ofInt (-1))), (3, vI (h g 8 f)), (0, vR g 0), (1, vI (nI f)), (2, vI (nI t))], [], h3) rfl ?_
          refine R_lv (lv' := [(4, vI (nI i)), (3, vI (h g 8 f)), (0, vR g 0), (1, vI (nI f)), (2, vI (nI t))]) (by rw [show nI (i + 1) + Int32.ofInt (-1) = nI i from pk_m1 _]) ?_
          refine R_s 1 (41, [(4, vI (nI i)), (3, vI (h g 8 f)), (0, vR g 0), (1, vI (nI f)), (2, vI (nI t))], [], h3) rfl ?_
          exact ih2 i _ (by omega) (by omega) (by omega) (by rw [eh3, show hset hh g 8 (i + 1) (h g 8 i) = hset hh g 8 (0 + (i + 1)) (h g 8 i) by rw [Nat.zero_add]]; exact J.st (by omega) (mv_2a hi).symm (fun j hj hne => mv_2b hne))
    · exact absurd c1 (by omega)
  | succ m ih =>
    intro i hh hfi hit hm I
    refine R_s 3 (cond (if2 .ge (nI i) (nI t)) 38 16, [(4, vI (nI i)), (3, vI (h g 8 f)), (0, vR g 0), (1, vI (nI f)), (2, vI (nI t))], [], hh) rfl ?_
    refine R_bp (t ≤ i) (i2_ge (by omega) (by omega)) (fun c1 => ?_) (fun c1 => ?_)
    · have I2 : OO h hh g 8 (mv2 (h g 8) f t f) 0 := ⟨fun j hj => (I.1 j hj).trans (mv_12 hfi hit c1), I.2.1, I.2.2⟩
      refine R_s 2 (41, [(4, vI (nI f)), (3, vI (h g 8 f)), (0, vR g 0), (1, vI (nI f)), (2, vI (nI t))], [], hh) rfl ?_
      clear I hm ih
      suffices ∀ m i hh, i ≤ f → i ≤ t + m → (t ≤ i ∨ i = f) → OO h hh g 8 (mv2 (h g 8) f t i) 0 → R d mC_shiftOrder (41, [(4, vI (nI i)), (3, vI (h g 8 f)), (0, vR g 0), (1, vI (nI f)), (2, vI (nI t))], [], hh) (fun r h' => r = none ∧ OO h h' g 8 (mvo (h g 8) f t) 0) from this f f hh (by omega) (by omega) (Or.inr rfl) I2
      intro m2
      induction m2 with
      | zero =>
        intro i hh hi hm ho J
        refine R_s 3 (cond (if2 .le (nI i) (nI t)) 69 47, [(4, vI (nI i)), (3, vI (h g 8 f)), (0, vR g 0), (1, vI (nI f)), (2, vI (nI t))], [], hh) rfl ?_
        refine R_bp (i ≤ t) (i2_le (by omega) (by omega)) (fun c2 => ?_) (fun c2 => ?_)
        · refine R_s 4 (75, [(4, vI (nI i)), (3, vI (h g 8 f)), (0, vR g 0), (1, vI (nI f)), (2, vI (nI t))], [vI (h g 8 f), vI (nI t), vR g 8], hh) rfl ?_
          refine R_st g 8 t 8 (h g 8 f) rfl rfl (by omega) (by decide) (fun h4 eh4 => ?_)
          exact R_ret none h4 rfl ⟨rfl, by rw [eh4, show hset hh g 8 t (h g 8 f) = hset hh g 8 (0 + t) (h g 8 f) by rw [Nat.zero_add]]; exact J.st ht mv_oa.symm (fun j hj hne => mv_ob hne c2 ho hi)⟩
        · exact absurd c2 (by omega)
      | succ m2 ih2 =>
        intro i hh hi hm ho J
        refine R_s 3 (cond (if2 .le (nI i) (nI t)) 69 47, [(4, vI (nI i)), (3, vI (h g 8 f)), (0, vR g 0), (1, vI (nI f)), (2, vI (nI t))], [], hh) rfl ?_
        refine R_bp (i ≤ t) (i2_le (by omega) (by omega)) (fun c2 => ?_) (fun c2 => ?_)
        · refine R_s 4 (75, [(4, vI (nI i)), (3, vI (h g 8 f)), (0, vR g 0), (1, vI (nI f)), (2, vI (nI t))], [vI (h g 8 f), vI (nI t), vR g 8], hh) rfl ?_
          refine R_st g 8 t 8 (h g 8 f) rfl rfl (by omega) (by decide) (fun h5 eh5 => ?_)
          exact R_ret none h5 rfl ⟨rfl, by rw [eh5, show hset hh g 8 t (h g 8 f) = hset hh g 8 (0 + t) (h g 8 f) by rw [Nat.zero_add]]; exact J.st ht mv_oa.symm (fun j hj hne => mv_ob hne c2 ho hi)⟩
        · obtain ⟨i, rfl⟩ : ∃ y, i = y + 1 := ⟨i - 1, by omega⟩
          refine R_s 7 (60, [(4, vI (nI (i + 1))), (3, vI (h g 8 f)), (0, vR g 0), (1, vI (nI f)), (2, vI (nI t))], [vI (nI 1), vI (nI (i + 1)), vR g 8, vI (nI (i + 1)), vR g 8], hh) rfl ?_
          refine R_sub (i + 1) 1 rfl (by omega) ?_
          refine R_ld g 8 ((i + 1) - 1) 8 rfl rfl (by omega) (by decide) ?_
          refine R_top (h g 8 i) (by rw [Nat.add_sub_cancel, ← z0 hh i, J.1 i (by omega)]; unfold mv2 mv1; rw [if_neg (by omega), if_neg (by omega)]) ?_
          refine R_st g 8 (i + 1) 8 (h g 8 i) rfl rfl (by omega) (by decide) (fun h6 eh6 => ?_)
          refine R_s 1 (66, [(4, vI (nI (i + 1) + Int32.ofInt (-1))), (3, vI (h g 8 f)), (0, vR g 0), (1, vI (nI f)), (2, vI (nI t))], [], h6) rfl ?_
          refine R_lv (lv' := [(4, vI (nI i)), (3, vI (h g 8 f)), (0, vR g 0), (1, vI (nI f)), (2, vI (nI t))]) (by rw [show nI (i + 1) + Int32.ofInt (-1) = nI i from pk_m1 _]) ?_
          refine R_s 1 (41, [(4, vI (nI i)), (3, vI (h g 8 f)), (0, vR g 0), (1, vI (nI f)), (2, vI (nI t))], [], h6) rfl ?_
          exact ih2 i _ (by omega) (by omega) (by omega) (by rw [eh6, show hset hh g 8 (i + 1) (h g 8 i) = hset hh g 8 (0 + (i + 1)) (h g 8 i) by rw [Nat.zero_add]]; exact J.st (by omega) (mv_2a hi).symm (fun j hj hne => mv_2b hne))
    · refine R_s 7 (29, [(4, vI (nI i)), (3, vI (h g 8 f)), (0, vR g 0), (1, vI (nI f)), (2, vI (nI t))], [vI (nI 1), vI (nI i), vR g 8, vI (nI i), vR g 8], hh) rfl ?_
      refine R_add i 1 rfl ?_
      refine R_ld g 8 (i + 1) 8 rfl rfl (by omega) (by decide) ?_
      refine R_top (h g 8 (i + 1)) (by rw [← z0 hh (i + 1), I.1 (i + 1) (by omega)]; unfold mv1; rw [if_neg (by omega)]) ?_
      refine R_st g 8 i 8 (h g 8 (i + 1)) rfl rfl (by omega) (by decide) (fun h7 eh7 => ?_)
      refine R_s 1 (35, [(4, vI (nI i + Int32.ofInt 1)), (3, vI (h g 8 f)), (0, vR g 0), (1, vI (nI f)), (2, vI (nI t))], [], h7) rfl ?_
      refine R_lv (lv' := [(4, vI (nI (i + 1))), (3, vI (h g 8 f)), (0, vR g 0), (1, vI (nI f)), (2, vI (nI t))]) (by rw [show nI i + Int32.ofInt 1 = nI (i + 1) from nI_add _ _]) ?_
      refine R_s 1 (10, [(4, vI (nI (i + 1))), (3, vI (h g 8 f)), (0, vR g 0), (1, vI (nI f)), (2, vI (nI t))], [], h7) rfl ?_
      exact ih (i + 1) _ (by omega) (by omega) (by omega) (by rw [eh7, show hset hh g 8 i (h g 8 (i + 1)) = hset hh g 8 (0 + i) (h g 8 (i + 1)) by rw [Nat.zero_add]]; exact I.st (by omega) (mv_1a hfi).symm (fun j hj hne => mv_1b hne))
