def TXM (h : HP) (ch : Nat → Nat) (len : Nat) : Prop := h 8 20 5 = nI len ∧ len ≤ 300 ∧ ∀ j, j < len → h 8 24 j = nI (ch j) ∧ 32 ≤ ch j ∧ ch j ≤ 126
/-- the reference holds the state -/
def MI (h : HP) (A : AS) : Prop := MS 21 h A.1.1 ∧ (h 8 20 3 = nI A.2.1.length ∧ ∀ j z, A.2.1[j]? = some z → ∀ i, i < 125 → h 8 23 (125 * (A.2.1.length - 1 - j) + i) = z.1 i) ∧ TXM h A.2.2.1 A.2.2.2
set_option maxRecDepth 100000 in
theorem t_M_songCount {d : Nat} {h : HP} {A : AS} (V : VA A) (I : MI h A) : MT (d) mM_songCount [vR 8 20] h (fun r h' => r = some (vI (oCount A)) ∧ MI h' A) := by
  obtain ⟨⟨s, n, p, k⟩, kp, ch, len⟩ := A
  have M : MS 21 h s := I.1
  have F : WF s n p k := V.1.1
  have O : WO s n := V.1.2.1.1
  have hn1 : 1 ≤ n := V.1.2.2.1
  have hp1 : 1 ≤ p := V.1.2.2.2.1
  have hk1 : 1 ≤ k := V.1.2.2.2.2
  have h8 := F.2.1.1
  have h5 := F.2.1.2.1
  have h6 := F.2.1.2.2
  refine R_s 3 (5, [(0, vR 8 20)], [vI (nI 0), vR 8 21], h) rfl ?_
  refine R_ld 8 21 0 125 rfl rfl (by omega) (by decide) ?_
  refine R_top (nI n) ((M 0 (by decide)).trans F.1.1) ?_
  exact R_ret (some (vI (nI n))) h rfl ⟨rfl, I⟩
set_option maxRecDepth 100000 in
theorem t_M_ofPart0 {d : Nat} {h : HP} {A : AS} {x y : Int32} (V : VA A) (I : MI h A) : MT (d + 2) mM_ofPart [vR 8 20, vI x, vI y, vI (nI 0)] h (fun r h' => r = some (vI (oKind A x y)) ∧ MI h' A) := by
  obtain ⟨⟨s, n, p, k⟩, kp, ch, len⟩ := A
  have M : MS 21 h s := I.1
  have F : WF s n p k := V.1.1
  have O : WO s n := V.1.2.1.1
  have hn1 : 1 ≤ n := V.1.2.2.1
  have hp1 : 1 ≤ p := V.1.2.2.2.1
  have hk1 : 1 ≤ k := V.1.2.2.2.2
  have h8 := F.2.1.1
  have h5 := F.2.1.2.1
  have h6 := F.2.1.2.2
  refine R_s 2 (2, [(0, vR 8 20), (1, vI x), (2, vI y), (3, vI (nI 0))], [vI x, vR 8 20], h) rfl ?_
  refine R_calli mM_isSong [vR 8 20, vI x] [] (bI (inb x n)) h rfl (t_M_isSong ((M 0 (by decide)).trans F.1.1) h8) ?_
  refine R_s 1 (cond (if0 .eq (bI (inb x n))) 16 8, [(0, vR 8 20), (1, vI x), (2, vI y), (3, vI (nI 0))], [], h) rfl ?_
  refine R_bp ((inb x n) = false) (x0_eq.trans bI_eq) (fun ca => ?_) (fun ca => ?_)
  · refine R_s 1 (17, [(0, vR 8 20), (1, vI x), (2, vI y), (3, vI (nI 0))], [vI (-1)], h) rfl ?_
    exact R_ret (some (vI (-1))) h rfl ⟨by unfold oKind; dsimp only; rw [sel1_f ca], I⟩
  · obtain ⟨a, ha, rfl⟩ := inb_ex (by omega) (tf ca)
    refine R_s 2 (10, [(0, vR 8 20), (1, vI (nI a)), (2, vI y), (3, vI (nI 0))], [vI y, vR 8 20], h) rfl ?_
    refine R_calli mM_isPlayer [vR 8 20, vI y] [] (bI (inb y p)) h rfl (t_M_isPlayer ((M 26 (by decide)).trans F.1.2.1) (by omega)) ?_
    refine R_s 1 (cond (if0 .ne (bI (inb y p))) 18 16, [(0, vR 8 20), (1, vI (nI a)), (2, vI y), (3, vI (nI 0))], [], h) rfl ?_
    refine R_bp ((inb y p) = true) (x0_ne.trans bI_ne) (fun cb => ?_) (fun cb => ?_)
    · have cb := bool_t cb
      obtain ⟨b, hb, rfl⟩ := inb_ex (by omega) (tf cb)
      refine R_s 4 (24, [(0, vR 8 20), (1, vI (nI a)), (2, vI (nI b)), (3, vI (nI 0))], [vI (nI b), vI (nI a), vR 8 21], h) rfl ?_
      refine R_calli mM_at [vI (nI a), vI (nI b)] [vR 8 21] (nI (45 + 2 * (a * 5 + b))) h rfl t_M_at ?_
      refine R_ld 8 21 (45 + 2 * (a * 5 + b)) 125 rfl rfl (by omega) (by decide) ?_
      refine R_top (kd s a b) (M _ (by omega)) ?_
      refine R_s 2 (cond (if2 .ne (kd s a b) (-1)) 37 32, [(0, vR 8 20), (1, vI (nI a)), (2, vI (nI b)), (3, vI (nI 0))], [], h) rfl ?_
      refine R_bp (¬ (kd s a b) = (-1)) x2_ne (fun c1 => ?_) (fun c1 => ?_)
      · refine R_s 4 (43, [(0, vR 8 20), (1, vI (nI a)), (2, vI (nI b)), (3, vI (nI 0))], [vI (nI b), vI (nI a), vR 8 21], h) rfl ?_
        refine R_calli mM_at [vI (nI a), vI (nI b)] [vR 8 21] (nI (45 + 2 * (a * 5 + b))) h rfl t_M_at ?_
        refine R_s 1 (47, [(0, vR 8 20), (1, vI (nI a)), (2, vI (nI b)), (3, vI (nI 0))], [vI (nI 0), vI (nI (45 + 2 * (a * 5 + b))), vR 8 21], h) rfl ?_
        refine R_add (45 + 2 * (a * 5 + b)) 0 rfl ?_
        refine R_ld 8 21 ((45 + 2 * (a * 5 + b)) + 0) 125 rfl rfl (by omega) (by decide) ?_
        refine R_top (kd s a b) (M _ (by omega)) ?_
        exact R_ret (some (vI (kd s a b))) h rfl ⟨by unfold oKind; dsimp only; rw [sel1_t ha (by omega), sel1_t hb (by omega), if_neg c1], I⟩
      · refine R_s 2 (49, [(0, vR 8 20), (1, vI (nI a)), (2, vI (nI b)), (3, vI (nI 0))], [vI (-4)], h) rfl ?_
        exact R_ret (some (vI (-4))) h rfl ⟨by unfold oKind; dsimp only; rw [sel1_t ha (by omega), sel1_t hb (by omega), if_pos (Classical.not_not.mp c1)], I⟩
    · have cb := bool_f cb
      refine R_s 1 (17, [(0, vR 8 20), (1, vI (nI a)), (2, vI y), (3, vI (nI 0))], [vI (-1)], h) rfl ?_
      exact R_ret (some (vI (-1))) h rfl ⟨by unfold oKind; dsimp only; rw [sel1_t ha (by omega), sel1_f cb], I⟩
set_option maxRecDepth 100000 in
theorem t_M_kindOf {d : Nat} {h : HP} {A : AS} {x y : Int32} (V : VA A) (I : MI h A) : MT (d + 3) mM_kindOf [vR 8 20, vI x, vI y] h (fun r h' => r = some (vI (oKind A x y)) ∧ MI h' A) := by
  refine R_s 4 (4, [(0, vR 8 20), (1, vI x), (2, vI y)], [vI (nI 0), vI y, vI x, vR 8 20], h) rfl ?_
  refine R_call mM_ofPart [vR 8 20, vI x, vI y, vI (nI 0)] [] rfl (t_M_ofPart0 V I) (fun r h1 e1 => ?_)
  obtain ⟨rfl, I1⟩ := e1
  show R _ mM_kindOf (7, [(0, vR 8 20), (1, vI x), (2, vI y)], [vI (oKind A x y)], h1) _
  exact R_ret (some (vI (oKind A x y))) h1 rfl ⟨rfl, I1⟩
set_option maxRecDepth 100000 in
theorem t_M_ofPart1 {d : Nat} {h : HP} {A : AS} {x y : Int32} (V : VA A) (I : MI h A) : MT (d + 2) mM_ofPart [vR 8 20, vI x, vI y, vI (nI 1)] h (fun r h' => r = some (vI (oTun A x y)) ∧ MI h' A) := by
  obtain ⟨⟨s, n, p, k⟩, kp, ch, len⟩ := A
  have M : MS 21 h s := I.1
  have F : WF s n p k := V.1.1
  have O : WO s n := V.1.2.1.1
  have hn1 : 1 ≤ n := V.1.2.2.1
  have hp1 : 1 ≤ p := V.1.2.2.2.1
  have hk1 : 1 ≤ k := V.1.2.2.2.2
  have h8 := F.2.1.1
  have h5 := F.2.1.2.1
  have h6 := F.2.1.2.2
  refine R_s 2 (2, [(0, vR 8 20), (1, vI x), (2, vI y), (3, vI (nI 1))], [vI x, vR 8 20], h) rfl ?_
  refine R_calli mM_isSong [vR 8 20, vI x] [] (bI (inb x n)) h rfl (t_M_isSong ((M 0 (by decide)).trans F.1.1) h8) ?_
  refine R_s 1 (cond (if0 .eq (bI (inb x n))) 16 8, [(0, vR 8 20), (1, vI x), (2, vI y), (3, vI (nI 1))], [], h) rfl ?_
  refine R_bp ((inb x n) = false) (x0_eq.trans bI_eq) (fun ca => ?_) (fun ca => ?_)
  · refine R_s 1 (17, [(0, vR 8 20), (1, vI x), (2, vI y), (3, vI (nI 1))], [vI (-1)], h) rfl ?_
    exact R_ret (some (vI (-1))) h rfl ⟨by unfold oTun; dsimp only; rw [sel1_f ca], I⟩
  · obtain ⟨a, ha, rfl⟩ := inb_ex (by omega) (tf ca)
    refine R_s 2 (10, [(0, vR 8 20), (1, vI (nI a)), (2, vI y), (3, vI (nI 1))], [vI y, vR 8 20], h) rfl ?_
    refine R_calli mM_isPlayer [vR 8 20, vI y] [] (bI (inb y p)) h rfl (t_M_isPlayer ((M 26 (by decide)).trans F.1.2.1) (by omega)) ?_
    refine R_s 1 (cond (if0 .ne (bI (inb y p))) 18 16, [(0, vR 8 20), (1, vI (nI a)), (2, vI y), (3, vI (nI 1))], [], h) rfl ?_
    refine R_bp ((inb y p) = true) (x0_ne.trans bI_ne) (fun cb => ?_) (fun cb => ?_)
    · have cb := bool_t cb
      obtain ⟨b, hb, rfl⟩ := inb_ex (by omega) (tf cb)
      refine R_s 4 (24, [(0, vR 8 20), (1, vI (nI a)), (2, vI (nI b)), (3, vI (nI 1))], [vI (nI b), vI (nI a), vR 8 21], h) rfl ?_
      refine R_calli mM_at [vI (nI a), vI (nI b)] [vR 8 21] (nI (45 + 2 * (a * 5 + b))) h rfl t_M_at ?_
      refine R_ld 8 21 (45 + 2 * (a * 5 + b)) 125 rfl rfl (by omega) (by decide) ?_
      refine R_top (kd s a b) (M _ (by omega)) ?_
      refine R_s 2 (cond (if2 .ne (kd s a b) (-1)) 37 32, [(0, vR 8 20), (1, vI (nI a)), (2, vI (nI b)), (3, vI (nI 1))], [], h) rfl ?_
      refine R_bp (¬ (kd s a b) = (-1)) x2_ne (fun c1 => ?_) (fun c1 => ?_)
      · refine R_s 4 (43, [(0, vR 8 20), (1, vI (nI a)), (2, vI (nI b)), (3, vI (nI 1))], [vI (nI b), vI (nI a), vR 8 21], h) rfl ?_
        refine R_calli mM_at [vI (nI a), vI (nI b)] [vR 8 21] (nI (45 + 2 * (a * 5 + b))) h rfl t_M_at ?_
        refine R_s 1 (47, [(0, vR 8 20), (1, vI (nI a)), (2, vI (nI b)), (3, vI (nI 1))], [vI (nI 1), vI (nI (45 + 2 * (a * 5 + b))), vR 8 21], h) rfl ?_
        refine R_add (45 + 2 * (a * 5 + b)) 1 rfl ?_
        refine R_ld 8 21 ((45 + 2 * (a * 5 + b)) + 1) 125 rfl rfl (by omega) (by decide) ?_
        refine R_top (tn s a b) ((M _ (by omega)).trans (by unfold tn; rw [show 45 + 2 * (a * 5 + b) + 1 = 46 + 2 * (a * 5 + b) by omega])) ?_
        exact R_ret (some (vI (tn s a b))) h rfl ⟨by unfold oTun; dsimp only; rw [sel1_t ha (by omega), sel1_t hb (by omega), if_neg c1], I⟩
      · refine R_s 2 (49, [(0, vR 8 20), (1, vI (nI a)), (2, vI (nI b)), (3, vI (nI 1))], [vI (-4)], h) rfl ?_
        exact R_ret (some (vI (-4))) h rfl ⟨by unfold oTun; dsimp only; rw [sel1_t ha (by omega), sel1_t hb (by omega), if_pos (Classical.not_not.mp c1)], I⟩
    · have cb := bool_f cb
      refine R_s 1 (17, [(0, vR 8 20), (1, vI (nI a)), (2, vI y), (3, vI (nI 1))], [vI (-1)], h) rfl ?_
      exact R_ret (some (vI (-1))) h rfl ⟨by unfold oTun; dsimp only; rw [sel1_t ha (by omega), sel1_f cb], I⟩
set_option maxRecDepth 100000 in
theorem t_M_tuningOf {d : Nat} {h : HP} {A : AS} {x y : Int32} (V : VA A) (I : MI h A) : MT (d + 3) mM_tuningOf [vR 8 20, vI x, vI y] h (fun r h' => r = some (vI (oTun A x y)) ∧ MI h' A) := by
  refine R_s 4 (4, [(0, vR 8 20), (1, vI x), (2, vI y)], [vI (nI 1), vI y, vI x, vR 8 20], h) rfl ?_
  refine R_call mM_ofPart [vR 8 20, vI x, vI y, vI (nI 1)] [] rfl (t_M_ofPart1 V I) (fun r h1 e1 => ?_)
  obtain ⟨rfl, I1⟩ := e1
  show R _ mM_tuningOf (7, [(0, vR 8 20), (1, vI x), (2, vI y)], [vI (oTun A x y)], h1) _
  exact R_ret (some (vI (oTun A x y))) h1 rfl ⟨rfl, I1⟩
set_option maxRecDepth 100000 in
theorem t_M_spareUnits {d : Nat} {h : HP} {A : AS} {x y : Int32} (V : VA A) (I : MI h A) : MT (d + 2) mM_spareUnits [vR 8 20, vI x, vI y] h (fun r h' => r = some (vI (oSpare A x y)) ∧ MI h' A) := by
  obtain ⟨⟨s, n, p, k⟩, kp, ch, len⟩ := A
  have M : MS 21 h s := I.1
  have F : WF s n p k := V.1.1
  have O : WO s n := V.1.2.1.1
  have hn1 : 1 ≤ n := V.1.2.2.1
  have hp1 : 1 ≤ p := V.1.2.2.2.1
  have hk1 : 1 ≤ k := V.1.2.2.2.2
  have h8 := F.2.1.1
  have h5 := F.2.1.2.1
  have h6 := F.2.1.2.2
  refine R_s 2 (2, [(0, vR 8 20), (1, vI x), (2, vI y)], [vI x, vR 8 20], h) rfl ?_
  refine R_calli mM_isSong [vR 8 20, vI x] [] (bI (inb x n)) h rfl (t_M_isSong ((M 0 (by decide)).trans F.1.1) h8) ?_
  refine R_s 1 (cond (if0 .eq (bI (inb x n))) 39 8, [(0, vR 8 20), (1, vI x), (2, vI y)], [], h) rfl ?_
  refine R_bp ((inb x n) = false) (x0_eq.trans bI_eq) (fun ca => ?_) (fun ca => ?_)
  · refine R_s 1 (40, [(0, vR 8 20), (1, vI x), (2, vI y)], [vI (-1)], h) rfl ?_
    exact R_ret (some (vI (-1))) h rfl ⟨by unfold oSpare; dsimp only; rw [sel1_f ca], I⟩
  · obtain ⟨a, ha, rfl⟩ := inb_ex (by omega) (tf ca)
    refine R_s 2 (10, [(0, vR 8 20), (1, vI (nI a)), (2, vI y)], [vI y, vR 8 20], h) rfl ?_
    refine R_calli mM_isKind [vR 8 20, vI y] [] (bI (inb y k)) h rfl (t_M_isKind ((M 32 (by decide)).trans F.1.2.2) (by omega)) ?_
    refine R_s 1 (cond (if0 .eq (bI (inb y k))) 39 16, [(0, vR 8 20), (1, vI (nI a)), (2, vI y)], [], h) rfl ?_
    refine R_bp ((inb y k) = false) (x0_eq.trans bI_eq) (fun cb => ?_) (fun cb => ?_)
    · refine R_s 1 (40, [(0, vR 8 20), (1, vI (nI a)), (2, vI y)], [vI (-1)], h) rfl ?_
      exact R_ret (some (vI (-1))) h rfl ⟨by unfold oSpare; dsimp only; rw [sel1_t ha (by omega), sel1_f cb], I⟩
    · obtain ⟨b, hb, rfl⟩ := inb_ex (by omega) (tf cb)
      refine R_s 4 (23, [(0, vR 8 20), (1, vI (nI a)), (2, vI (nI b))], [vI (nI b), vI (nI 33), vR 8 21], h) rfl ?_
      refine R_add 33 b rfl ?_
      refine R_ld 8 21 (33 + b) 125 rfl rfl (by omega) (by decide) ?_
      refine R_top (s (33 + b)) (M _ (by omega)) ?_
      refine R_s 5 (32, [(0, vR 8 20), (1, vI (nI a)), (2, vI (nI b))], [vI (-1), vI (nI b), vI (nI a), vR 8 21, vI (s (33 + b))], h) rfl ?_
      refine R_calli mM_others [vR 8 21, vI (nI a), vI (nI b), vI (-1)] [vI (s (33 + b))] (nI (otm s a (nI b) (-1) p)) h rfl (t_M_others21 M F.1.2.1 h5 (by omega)) ?_
      refine R_top (nI (cn s a (nI b) p)) (by rw [otm_cn p h5]) ?_
      refine R_s 2 (40, [(0, vR 8 20), (1, vI (nI a)), (2, vI (nI b))], [vI ((s (33 + b)) - (nI (cn s a (nI b) p)))], h) rfl ?_
      exact R_ret (some (vI ((s (33 + b)) - (nI (cn s a (nI b) p))))) h rfl ⟨by unfold oSpare; dsimp only; rw [sel1_t ha (by omega), sel1_t hb (by omega)], I⟩
set_option maxRecDepth 100000 in
theorem t_M_changeOf {d : Nat} {h : HP} {A : AS} {q x y : Int32} (V : VA A) (I : MI h A) : MT (d + 3) mM_changeOf [vR 8 20, vI q, vI x, vI y] h (fun r h' => r = some (vI (oChange A q x y)) ∧ MI h' A) := by
  obtain ⟨⟨s, n, p, k⟩, kp, ch, len⟩ := A
  have M : MS 21 h s := I.1
  have F : WF s n p k := V.1.1
  have O : WO s n := V.1.2.1.1
  have hn1 : 1 ≤ n := V.1.2.2.1
  have hp1 : 1 ≤ p := V.1.2.2.2.1
  have hk1 : 1 ≤ k := V.1.2.2.2.2
  have h8 := F.2.1.1
  have h5 := F.2.1.2.1
  have h6 := F.2.1.2.2
  refine R_s 2 (2, [(0, vR 8 20), (1, vI q), (2, vI x), (3, vI y)], [vI q, vR 8 20], h) rfl ?_
  refine R_calli mM_isPlayer [vR 8 20, vI q] [] (bI (inb q p)) h rfl (t_M_isPlayer ((M 26 (by decide)).trans F.1.2.1) (by omega)) ?_
  refine R_s 1 (cond (if0 .eq (bI (inb q p))) 28 8, [(0, vR 8 20), (1, vI q), (2, vI x), (3, vI y)], [], h) rfl ?_
  refine R_bp ((inb q p) = false) (x0_eq.trans bI_eq) (fun cq0 => ?_) (fun cq0 => ?_)
  · refine R_s 1 (29, [(0, vR 8 20), (1, vI q), (2, vI x), (3, vI y)], [vI (-1)], h) rfl ?_
    exact R_ret (some (vI (-1))) h rfl ⟨by unfold oChange; dsimp only; rw [sel1_f cq0], I⟩
  · obtain ⟨q0, hq0, rfl⟩ := inb_ex (by omega) (tf cq0)
    refine R_s 3 (11, [(0, vR 8 20), (1, vI (nI q0)), (2, vI x), (3, vI y)], [vI y, vI x, vR 8 20], h) rfl ?_
    refine R_calli mM_areTwo [vR 8 20, vI x, vI y] [] (bI (inb x n && inb y n && !(decide (x = y)))) h rfl (t_M_areTwo ((M 0 (by decide)).trans F.1.1) h8) ?_
    rcases two_c (x := x) (y := y) h8 with ⟨e2, a, b, ha, hb, hab, rfl, rfl⟩ | ⟨e2, hf⟩
    · rw [e2]
      show R _ mM_changeOf (14, [(0, vR 8 20), (1, vI (nI q0)), (2, vI (nI a)), (3, vI (nI b))], [vI (nI 1)], h) _
      refine R_s 1 (cond (if0 .eq (nI 1)) 28 17, [(0, vR 8 20), (1, vI (nI q0)), (2, vI (nI a)), (3, vI (nI b))], [], h) rfl ?_
      refine R_bf rfl ?_
      refine R_s 5 (22, [(0, vR 8 20), (1, vI (nI q0)), (2, vI (nI a)), (3, vI (nI b))], [vI (-1), vI (nI b), vI (nI a), vI (nI q0), vR 8 20], h) rfl ?_
      refine R_calli mM_change [vR 8 20, vI (nI q0), vI (nI a), vI (nI b), vI (-1)] [] (nI (chg s (-1) p a b q0)) h rfl (t_M_change (by omega) (by omega) (by omega) M F) ?_
      refine R_s 1 (29, [(0, vR 8 20), (1, vI (nI q0)), (2, vI (nI a)), (3, vI (nI b))], [vI (nI (chg s (-1) p a b q0))], h) rfl ?_
      exact R_ret (some (vI (nI (chg s (-1) p a b q0)))) h rfl ⟨by unfold oChange; dsimp only; rw [sel1_t hq0 (by omega), sel1_t ha (by omega), sel1_t hb (by omega), if_neg hab], I⟩
    · rw [e2]
      show R _ mM_changeOf (14, [(0, vR 8 20), (1, vI (nI q0)), (2, vI x), (3, vI y)], [vI (nI 0)], h) _
      refine R_s 1 (cond (if0 .eq (nI 0)) 28 17, [(0, vR 8 20), (1, vI (nI q0)), (2, vI x), (3, vI y)], [], h) rfl ?_
      refine R_bt rfl ?_
      refine R_s 1 (29, [(0, vR 8 20), (1, vI (nI q0)), (2, vI x), (3, vI y)], [vI (-1)], h) rfl ?_
      exact R_ret (some (vI (-1))) h rfl ⟨by unfold oChange; dsimp only; rw [sel1_t hq0 (by omega), hf], I⟩
set_option maxRecDepth 100000 in
theorem t_M_changeCost {d : Nat} {h : HP} {A : AS} {q x y : Int32} (V : VA A) (I : MI h A) : MT (d + 4) mM_changeCost [vR 8 20, vI q, vI x, vI y] h (fun r h' => r = some (vI (oCost A q x y)) ∧ MI h' A) := by
  obtain ⟨⟨s, n, p, k⟩, kp, ch, len⟩ := A
  have M : MS 21 h s := I.1
  have F : WF s n p k := V.1.1
  have O : WO s n := V.1.2.1.1
  have hn1 : 1 ≤ n := V.1.2.2.1
  have hp1 : 1 ≤ p := V.1.2.2.2.1
  have hk1 : 1 ≤ k := V.1.2.2.2.2
  have h8 := F.2.1.1
  have h5 := F.2.1.2.1
  have h6 := F.2.1.2.2
  refine R_s 2 (2, [(0, vR 8 20), (1, vI q), (2, vI x), (3, vI y)], [vI q, vR 8 20], h) rfl ?_
  refine R_calli mM_isPlayer [vR 8 20, vI q] [] (bI (inb q p)) h rfl (t_M_isPlayer ((M 26 (by decide)).trans F.1.2.1) (by omega)) ?_
  refine R_s 1 (cond (if0 .eq (bI (inb q p))) 28 8, [(0, vR 8 20), (1, vI q), (2, vI x), (3, vI y)], [], h) rfl ?_
  refine R_bp ((inb q p) = false) (x0_eq.trans bI_eq) (fun cq0 => ?_) (fun cq0 => ?_)
  · refine R_s 1 (29, [(0, vR 8 20), (1, vI q), (2, vI x), (3, vI y)], [vI (-1)], h) rfl ?_
    exact R_ret (some (vI (-1))) h rfl ⟨by unfold oCost; dsimp only; rw [sel1_f cq0], I⟩
  · obtain ⟨q0, hq0, rfl⟩ := inb_ex (by omega) (tf cq0)
    refine R_s 3 (11, [(0, vR 8 20), (1, vI (nI q0)), (2, vI x), (3, vI y)], [vI y, vI x, vR 8 20], h) rfl ?_
    refine R_calli mM_areTwo [vR 8 20, vI x, vI y] [] (bI (inb x n && inb y n && !(decide (x = y)))) h rfl (t_M_areTwo ((M 0 (by decide)).trans F.1.1) h8) ?_
    rcases two_c (x := x) (y := y) h8 with ⟨e2, a, b, ha, hb, hab, rfl, rfl⟩ | ⟨e2, hf⟩
    · rw [e2]
      show R _ mM_changeCost (14, [(0, vR 8 20), (1, vI (nI q0)), (2, vI (nI a)), (3, vI (nI b))], [vI (nI 1)], h) _
      refine R_s 1 (cond (if0 .eq (nI 1)) 28 17, [(0, vR 8 20), (1, vI (nI q0)), (2, vI (nI a)), (3, vI (nI b))], [], h) rfl ?_
      refine R_bf rfl ?_
      refine R_s 5 (22, [(0, vR 8 20), (1, vI (nI q0)), (2, vI (nI a)), (3, vI (nI b))], [vI (-1), vI (nI b), vI (nI a), vI (nI q0), vR 8 20], h) rfl ?_
      refine R_calli mM_costOf [vR 8 20, vI (nI q0), vI (nI a), vI (nI b), vI (-1)] [] (nI (cof s (-1) p a b q0)) h rfl (t_M_costOf (by omega) (by omega) (by omega) M F) ?_
      refine R_s 1 (29, [(0, vR 8 20), (1, vI (nI q0)), (2, vI (nI a)), (3, vI (nI b))], [vI (nI (cof s (-1) p a b q0))], h) rfl ?_
      exact R_ret (some (vI (nI (cof s (-1) p a b q0)))) h rfl ⟨by unfold oCost; dsimp only; rw [sel1_t hq0 (by omega), sel1_t ha (by omega), sel1_t hb (by omega), if_neg hab], I⟩
    · rw [e2]
      show R _ mM_changeCost (14, [(0, vR 8 20), (1, vI (nI q0)), (2, vI x), (3, vI y)], [vI (nI 0)], h) _
      refine R_s 1 (cond (if0 .eq (nI 0)) 28 17, [(0, vR 8 20), (1, vI (nI q0)), (2, vI x), (3, vI y)], [], h) rfl ?_
      refine R_bt rfl ?_
      refine R_s 1 (29, [(0, vR 8 20), (1, vI (nI q0)), (2, vI x), (3, vI y)], [vI (-1)], h) rfl ?_
      exact R_ret (some (vI (-1))) h rfl ⟨by unfold oCost; dsimp only; rw [sel1_t hq0 (by omega), hf], I⟩
set_option maxRecDepth 100000 in
theorem t_M_changeoverCost {d : Nat} {h : HP} {A : AS} {x y : Int32} (V : VA A) (I : MI h A) : MT (d + 5) mM_changeoverCost [vR 8 20, vI x, vI y] h (fun r h' => r = some (vI (oOver A x y)) ∧ MI h' A) := by
  obtain ⟨⟨s, n, p, k⟩, kp, ch, len⟩ := A
  have M : MS 21 h s := I.1
  have F : WF s n p k := V.1.1
  have O : WO s n := V.1.2.1.1
  have hn1 : 1 ≤ n := V.1.2.2.1
  have hp1 : 1 ≤ p := V.1.2.2.2.1
  have hk1 : 1 ≤ k := V.1.2.2.2.2
  have h8 := F.2.1.1
  have h5 := F.2.1.2.1
  have h6 := F.2.1.2.2
  refine R_s 3 (3, [(0, vR 8 20), (1, vI x), (2, vI y)], [vI y, vI x, vR 8 20], h) rfl ?_
  refine R_calli mM_areTwo [vR 8 20, vI x, vI y] [] (bI (inb x n && inb y n && !(decide (x = y)))) h rfl (t_M_areTwo ((M 0 (by decide)).trans F.1.1) h8) ?_
  rcases two_c (x := x) (y := y) h8 with ⟨e2, a, b, ha, hb, hab, rfl, rfl⟩ | ⟨e2, hf⟩
  · rw [e2]
    show R _ mM_changeoverCost (6, [(0, vR 8 20), (1, vI (nI a)), (2, vI (nI b))], [vI (nI 1)], h) _
    refine R_s 1 (cond (if0 .eq (nI 1)) 19 9, [(0, vR 8 20), (1, vI (nI a)), (2, vI (nI b))], [], h) rfl ?_
    refine R_bf rfl ?_
    refine R_s 4 (13, [(0, vR 8 20), (1, vI (nI a)), (2, vI (nI b))], [vI (-1), vI (nI b), vI (nI a), vR 8 20], h) rfl ?_
    refine R_calli mM_between [vR 8 20, vI (nI a), vI (nI b), vI (-1)] [] (nI (btw s (-1) p a b p)) h rfl (t_M_between (by omega) (by omega) M F) ?_
    refine R_s 1 (20, [(0, vR 8 20), (1, vI (nI a)), (2, vI (nI b))], [vI (nI (btw s (-1) p a b p))], h) rfl ?_
    exact R_ret (some (vI (nI (btw s (-1) p a b p)))) h rfl ⟨by unfold oOver; dsimp only; rw [sel1_t ha (by omega), sel1_t hb (by omega), if_neg hab], I⟩
  · rw [e2]
    show R _ mM_changeoverCost (6, [(0, vR 8 20), (1, vI x), (2, vI y)], [vI (nI 0)], h) _
    refine R_s 1 (cond (if0 .eq (nI 0)) 19 9, [(0, vR 8 20), (1, vI x), (2, vI y)], [], h) rfl ?_
    refine R_bt rfl ?_
    refine R_s 1 (20, [(0, vR 8 20), (1, vI x), (2, vI y)], [vI (-1)], h) rfl ?_
    exact R_ret (some (vI (-1))) h rfl ⟨by unfold oOver; dsimp only; rw [hf], I⟩
set_option maxRecDepth 100000 in
theorem t_M_songAt {d : Nat} {h : HP} {A : AS} {x : Int32} (V : VA A) (I : MI h A) : MT (d + 2) mM_songAt [vR 8 20, vI x] h (fun r h' => r = some (vI (oSongAt A x)) ∧ MI h' A) := by
  obtain ⟨⟨s, n, p, k⟩, kp, ch, len⟩ := A
  have M : MS 21 h s := I.1
  have F : WF s n p k := V.1.1
  have O : WO s n := V.1.2.1.1
  have hn1 : 1 ≤ n := V.1.2.2.1
  have hp1 : 1 ≤ p := V.1.2.2.2.1
  have hk1 : 1 ≤ k := V.1.2.2.2.2
  have h8 := F.2.1.1
  have h5 := F.2.1.2.1
  have h6 := F.2.1.2.2
  refine R_s 2 (2, [(0, vR 8 20), (1, vI x)], [vI x, vR 8 20], h) rfl ?_
  refine R_calli mM_isPosition [vR 8 20, vI x] [] (bI (inb x n)) h rfl (t_M_isPosition ((M 0 (by decide)).trans F.1.1) h8) ?_
  refine R_s 1 (cond (if0 .eq (bI (inb x n))) 20 8, [(0, vR 8 20), (1, vI x)], [], h) rfl ?_
  refine R_bp ((inb x n) = false) (x0_eq.trans bI_eq) (fun ca => ?_) (fun ca => ?_)
  · refine R_s 1 (21, [(0, vR 8 20), (1, vI x)], [vI (-1)], h) rfl ?_
    exact R_ret (some (vI (-1))) h rfl ⟨by unfold oSongAt; dsimp only; rw [sel1_f ca], I⟩
  · obtain ⟨a, ha, rfl⟩ := inb_ex (by omega) (tf ca)
    refine R_s 4 (15, [(0, vR 8 20), (1, vI (nI a))], [vI (nI a), vI (nI 18), vR 8 21], h) rfl ?_
    refine R_add 18 a rfl ?_
    refine R_ld 8 21 (18 + a) 125 rfl rfl (by omega) (by decide) ?_
    refine R_top (s (18 + a)) (M _ (by omega)) ?_
    refine R_s 1 (21, [(0, vR 8 20), (1, vI (nI a))], [vI (s (18 + a))], h) rfl ?_
    exact R_ret (some (vI (s (18 + a)))) h rfl ⟨by unfold oSongAt; dsimp only; rw [sel1_t ha (by omega)], I⟩
set_option maxRecDepth 100000 in
theorem t_M_step {d n p k : Nat} {h : HP} {s : Nat → Int32} {j : Nat} (hj : j + 1 < n) (O : WO s n) (M : MS 21 h s) (F : WF s n p k) : MT (d + 5) mM_step [vR 8 20, vI (nI j)] h (fun r h' => r = some (vI (nI (stq (s, n, p, k) j))) ∧ h' = h) := by
  have h8 := F.2.1.1
  have h5 := F.2.1.2.1
  have h6 := F.2.1.2.2
  obtain ⟨a, ha, ea⟩ := O.2.1 j (by omega)
  obtain ⟨b, hb, eb⟩ := O.2.1 (j + 1) (by omega)
  refine R_s 5 (8, [(0, vR 8 20), (1, vI (nI j))], [vI (nI j), vI (nI 18), vR 8 21, vR 8 20], h) rfl ?_
  refine R_add 18 j rfl ?_
  refine R_ld 8 21 (18 + j) 125 rfl rfl (by omega) (by decide) ?_
  refine R_top (nI a) ((M _ (by omega)).trans ea) ?_
  refine R_s 4 (17, [(0, vR 8 20), (1, vI (nI j))], [vI (nI j), vI (nI 18), vR 8 21, vI (nI a), vR 8 20], h) rfl ?_
  refine R_add 18 j rfl ?_
  refine R_s 1 (19, [(0, vR 8 20), (1, vI (nI j))], [vI (nI 1), vI (nI (18 + j)), vR 8 21, vI (nI a), vR 8 20], h) rfl ?_
  refine R_add (18 + j) 1 rfl ?_
  refine R_ld 8 21 ((18 + j) + 1) 125 rfl rfl (by omega) (by decide) ?_
  refine R_top (nI b) ((M _ (by omega)).trans eb) ?_
  refine R_s 1 (22, [(0, vR 8 20), (1, vI (nI j))], [vI (-1), vI (nI b), vI (nI a), vR 8 20], h) rfl ?_
  refine R_calli mM_between [vR 8 20, vI (nI a), vI (nI b), vI (-1)] [] (nI (btw s (-1) p a b p)) h rfl (t_M_between (by omega) (by omega) M F) ?_
  exact R_ret (some (vI (nI (btw s (-1) p a b p)))) h rfl ⟨by unfold stq; dsimp only; rw [ea, eb, nI_cl (by omega), nI_cl (by omega)], rfl⟩
set_option maxRecDepth 100000 in
theorem t_M_orderCost {d : Nat} {h : HP} {A : AS} (V : VA A) (I : MI h A) : MT (d + 6) mM_orderCost [vR 8 20] h (fun r h' => r = some (vI (oOrder A)) ∧ MI h' A) := by
  obtain ⟨⟨s, n, p, k⟩, kp, ch, len⟩ := A
  have M : MS 21 h s := I.1
  have F : WF s n p k := V.1.1
  have O : WO s n := V.1.2.1.1
  have hn1 : 1 ≤ n := V.1.2.2.1
  have hp1 : 1 ≤ p := V.1.2.2.2.1
  have hk1 : 1 ≤ k := V.1.2.2.2.2
  have h8 := F.2.1.1
  have h5 := F.2.1.2.1
  have h6 := F.2.1.2.2
  refine R_s 4 (4, [(2, vI (nI 0)), (1, vI (nI 0)), (0, vR 8 20)], [], h) rfl ?_
  suffices ∀ m (j c : Nat) (hm : j + 1 + m = n) (hc : c = ocs (s, n, p, k) j), R (d + 6) mM_orderCost (4, [(2, vI (nI j)), (1, vI (nI c)), (0, vR 8 20)], [], h) _ from this (n - 1) 0 0 (by omega) rfl
  intro m
  induction m with
  | zero =>
    intro j c hm hc
    refine R_s 2 (6, [(2, vI (nI j)), (1, vI (nI c)), (0, vR 8 20)], [vI (nI 1), vI (nI j)], h) rfl ?_
    refine R_add j 1 rfl ?_
    refine R_s 3 (12, [(2, vI (nI j)), (1, vI (nI c)), (0, vR 8 20)], [vI (nI 0), vR 8 21, vI (nI (j + 1))], h) rfl ?_
    refine R_ld 8 21 0 125 rfl rfl (by omega) (by decide) ?_
    refine R_top (nI n) ((M 0 (by decide)).trans F.1.1) ?_
    refine R_s 1 (cond (if2 .ge (nI (j + 1)) (nI n)) 30 16, [(2, vI (nI j)), (1, vI (nI c)), (0, vR 8 20)], [], h) rfl ?_
    refine R_bp (n ≤ (j + 1)) (i2_ge (by omega) (by omega)) (fun c1 => ?_) (fun c1 => ?_)
    · refine R_s 1 (31, [(2, vI (nI j)), (1, vI (nI c)), (0, vR 8 20)], [vI (nI c)], h) rfl ?_
      exact R_ret (some (vI (nI c))) h rfl ⟨by unfold oOrder; dsimp only; rw [hc, show j = n - 1 by omega], I⟩
    · exact absurd hm (by omega)
  | succ m ih =>
    intro j c hm hc
    refine R_s 2 (6, [(2, vI (nI j)), (1, vI (nI c)), (0, vR 8 20)], [vI (nI 1), vI (nI j)], h) rfl ?_
    refine R_add j 1 rfl ?_
    refine R_s 3 (12, [(2, vI (nI j)), (1, vI (nI c)), (0, vR 8 20)], [vI (nI 0), vR 8 21, vI (nI (j + 1))], h) rfl ?_
    refine R_ld 8 21 0 125 rfl rfl (by omega) (by decide) ?_
    refine R_top (nI n) ((M 0 (by decide)).trans F.1.1) ?_
    refine R_s 1 (cond (if2 .ge (nI (j + 1)) (nI n)) 30 16, [(2, vI (nI j)), (1, vI (nI c)), (0, vR 8 20)], [], h) rfl ?_
    refine R_bp (n ≤ (j + 1)) (i2_ge (by omega) (by omega)) (fun c1 => ?_) (fun c1 => ?_)
    · refine R_s 1 (31, [(2, vI (nI j)), (1, vI (nI c)), (0, vR 8 20)], [vI (nI c)], h) rfl ?_
      exact R_ret (some (vI (nI c))) h rfl ⟨by unfold oOrder; dsimp only; rw [hc, show j = n - 1 by omega], I⟩
    · refine R_s 3 (19, [(2, vI (nI j)), (1, vI (nI c)), (0, vR 8 20)], [vI (nI j), vR 8 20, vI (nI c)], h) rfl ?_
      refine R_calli mM_step [vR 8 20, vI (nI j)] [vI (nI c)] (nI (stq (s, n, p, k) j)) h rfl (t_M_step (by omega) O M F) ?_
      refine R_add c (stq (s, n, p, k) j) rfl ?_
      refine R_s 2 (27, [(2, vI (nI j + Int32.ofInt 1)), (1, vI (nI (c + (stq (s, n, p, k) j)))), (0, vR 8 20)], [], h) rfl ?_
      refine R_lv (lv' := [(2, vI (nI (j + 1))), (1, vI (nI (c + (stq (s, n, p, k) j)))), (0, vR 8 20)]) (by rw [show nI j + Int32.ofInt 1 = nI (j + 1) from nI_add _ _]) ?_
      refine R_s 1 (4, [(2, vI (nI (j + 1))), (1, vI (nI (c + (stq (s, n, p, k) j)))), (0, vR 8 20)], [], h) rfl ?_
      exact ih (j + 1) _ (by omega) (by rw [hc]; rfl)
theorem drs_lt {z : ST} : ∀ j q, drs z j = some q → q.2 < j := by
  intro j
  induction j with
  | zero => intro q h; cases h
  | succ j ih =>
    intro q h
    unfold drs at h
    cases e : drs z j with
    | none => rw [e] at h; cases h; show j < j + 1; omega
    | some q0 =>
      rw [e] at h
      dsimp only at h
      have := ih q0 e
      split at h
      · cases h; show j < j + 1; omega
      · cases h; omega
def drc : Option (Nat × Nat) → Int32 × Int32
  | none => (-1, -4)
  | some q => (nI q.1, nI q.2)
def drb (o : Option (Nat × Nat)) : Prop := ∀ q, o = some q → q.1 ≤ 35
theorem drs_gt {o : Option (Nat × Nat)} {v : Nat} (h : drb o) (hv : v ≤ 35) : if2 .le (nI v) (drc o).1 = true ↔ ∃ q, o = some q ∧ v ≤ q.1 := by
  cases o with
  | none =>
    have e : if2 .le (nI v) (-1) = false := by
      have h : ∀ v, v < 36 → if2 .le (nI v) (-1) = false := by decide +kernel
      exact h v (by omega)
    show if2 .le (nI v) (-1) = true ↔ _
    rw [e]
    exact ⟨fun q => (by cases q), fun ⟨q, h, _⟩ => (by cases h)⟩
  | some q =>
    have := h q rfl
    show if2 .le (nI v) (nI q.1) = true ↔ _
    rw [i2_le (by omega) (by omega)]
    exact ⟨fun z => ⟨q, rfl, z⟩, fun ⟨q', e, z⟩ => by cases e; exact z⟩
theorem drs_no {z : ST} {j : Nat} (h : ¬ ∃ q, drs z j = some q ∧ stq z j ≤ q.1) : drs z (j + 1) = some (stq z j, j) := by
  unfold drs
  cases e : drs z j with
  | none => rfl
  | some q => dsimp only; rw [if_pos (Nat.lt_of_not_le (fun y => h ⟨q, e, y⟩))]
theorem drs_yes {z : ST} {j : Nat} (h : ∃ q, drs z j = some q ∧ stq z j ≤ q.1) : drs z (j + 1) = drs z j := by
  obtain ⟨q, e, y⟩ := h
  rw [drs, e]
  dsimp only
  rw [if_neg (by omega)]
theorem drb_s {s : Nat → Int32} {n p k : Nat} (F : WF s n p k) (O : WO s n) : ∀ j, j + 1 ≤ n → drb (drs (s, n, p, k) j) := by
  intro j
  induction j with
  | zero => intro _ q h; cases h
  | succ j ih =>
    intro hj
    by_cases h : ∃ q, drs (s, n, p, k) j = some q ∧ stq (s, n, p, k) j ≤ q.1
    · rw [drs_yes h]; exact ih (by omega)
    · rw [drs_no h]
      intro q e
      cases e
      exact stq_le F O (by omega)
set_option maxRecDepth 100000 in
theorem t_M_dearestChangeover {d : Nat} {h : HP} {A : AS} (V : VA A) (I : MI h A) : MT (d + 6) mM_dearestChangeover [vR 8 20] h (fun r h' => r = some (vI (oDear A)) ∧ MI h' A) := by
  obtain ⟨⟨s, n, p, k⟩, kp, ch, len⟩ := A
  have M : MS 21 h s := I.1
  have F : WF s n p k := V.1.1
  have O : WO s n := V.1.2.1.1
  have hn1 : 1 ≤ n := V.1.2.2.1
  have hp1 : 1 ≤ p := V.1.2.2.2.1
  have hk1 : 1 ≤ k := V.1.2.2.2.2
  have h8 := F.2.1.1
  have h5 := F.2.1.2.1
  have h6 := F.2.1.2.2
  refine R_s 6 (7, [(3, vI (nI 0)), (2, vI (-4)), (1, vI (-1)), (0, vR 8 20)], [], h) rfl ?_
  suffices ∀ m (j : Nat) (hm : j + 1 + m = n), R (d + 6) mM_dearestChangeover (7, [(3, vI (nI j)), (2, vI ((drc (drs (s, n, p, k) j)).2)), (1, vI ((drc (drs (s, n, p, k) j)).1)), (0, vR 8 20)], [], h) _ from this (n - 1) 0 (by omega)
  intro m
  induction m with
  | zero =>
    intro j hm
    refine R_s 2 (9, [(3, vI (nI j)), (2, vI ((drc (drs (s, n, p, k) j)).2)), (1, vI ((drc (drs (s, n, p, k) j)).1)), (0, vR 8 20)], [vI (nI 1), vI (nI j)], h) rfl ?_
    refine R_add j 1 rfl ?_
    refine R_s 3 (15, [(3, vI (nI j)), (2, vI ((drc (drs (s, n, p, k) j)).2)), (1, vI ((drc (drs (s, n, p, k) j)).1)), (0, vR 8 20)], [vI (nI 0), vR 8 21, vI (nI (j + 1))], h) rfl ?_
    refine R_ld 8 21 0 125 rfl rfl (by omega) (by decide) ?_
    refine R_top (nI n) ((M 0 (by decide)).trans F.1.1) ?_
    refine R_s 1 (cond (if2 .ge (nI (j + 1)) (nI n)) 59 19, [(3, vI (nI j)), (2, vI ((drc (drs (s, n, p, k) j)).2)), (1, vI ((drc (drs (s, n, p, k) j)).1)), (0, vR 8 20)], [], h) rfl ?_
    refine R_bp (n ≤ (j + 1)) (i2_ge (by omega) (by omega)) (fun c1 => ?_) (fun c1 => ?_)
    · refine R_s 1 (60, [(3, vI (nI j)), (2, vI ((drc (drs (s, n, p, k) j)).2)), (1, vI ((drc (drs (s, n, p, k) j)).1)), (0, vR 8 20)], [vI ((drc (drs (s, n, p, k) j)).2)], h) rfl ?_
      exact R_ret (some (vI ((drc (drs (s, n, p, k) j)).2))) h rfl ⟨by unfold oDear; dsimp only; rw [show j = n - 1 by omega]; cases drs (s, n, p, k) (n - 1) <;> rfl, I⟩
    · exact absurd hm (by omega)
  | succ m ih =>
    intro j hm
    refine R_s 2 (9, [(3, vI (nI j)), (2, vI ((drc (drs (s, n, p, k) j)).2)), (1, vI ((drc (drs (s, n, p, k) j)).1)), (0, vR 8 20)], [vI (nI 1), vI (nI j)], h) rfl ?_
    refine R_add j 1 rfl ?_
    refine R_s 3 (15, [(3, vI (nI j)), (2, vI ((drc (drs (s, n, p, k) j)).2)), (1, vI ((drc (drs (s, n, p, k) j)).1)), (0, vR 8 20)], [vI (nI 0), vR 8 21, vI (nI (j + 1))], h) rfl ?_
    refine R_ld 8 21 0 125 rfl rfl (by omega) (by decide) ?_
    refine R_top (nI n) ((M 0 (by decide)).trans F.1.1) ?_
    refine R_s 1 (cond (if2 .ge (nI (j + 1)) (nI n)) 59 19, [(3, vI (nI j)), (2, vI ((drc (drs (s, n, p, k) j)).2)), (1, vI ((drc (drs (s, n, p, k) j)).1)), (0, vR 8 20)], [], h) rfl ?_
    refine R_bp (n ≤ (j + 1)) (i2_ge (by omega) (by omega)) (fun c1 => ?_) (fun c1 => ?_)
    · refine R_s 1 (60, [(3, vI (nI j)), (2, vI ((drc (drs (s, n, p, k) j)).2)), (1, vI ((drc (drs (s, n, p, k) j)).1)), (0, vR 8 20)], [vI ((drc (drs (s, n, p, k) j)).2)], h) rfl ?_
      exact R_ret (some (vI ((drc (drs (s, n, p, k) j)).2))) h rfl ⟨by unfold oDear; dsimp only; rw [show j = n - 1 by omega]; cases drs (s, n, p, k) (n - 1) <;> rfl, I⟩
    · have hb := drb_s F O j (by omega)
      have hs := stq_le F O (show j + 1 < n by omega)
      refine R_s 2 (21, [(3, vI (nI j)), (2, vI ((drc (drs (s, n, p, k) j)).2)), (1, vI ((drc (drs (s, n, p, k) j)).1)), (0, vR 8 20)], [vI (nI j), vR 8 20], h) rfl ?_
      refine R_calli mM_step [vR 8 20, vI (nI j)] [] (nI (stq (s, n, p, k) j)) h rfl (t_M_step (by omega) O M F) ?_
      refine R_s 2 (cond (if2 .le (nI (stq (s, n, p, k) j)) ((drc (drs (s, n, p, k) j)).1)) 32 28, [(3, vI (nI j)), (2, vI ((drc (drs (s, n, p, k) j)).2)), (1, vI ((drc (drs (s, n, p, k) j)).1)), (0, vR 8 20)], [], h) rfl ?_
      refine R_bp (∃ q, drs (s, n, p, k) j = some q ∧ stq (s, n, p, k) j ≤ q.1) (drs_gt hb hs) (fun c2 => ?_) (fun c2 => ?_)
      · refine R_s 4 (36, [(2, vI ((drc (drs (s, n, p, k) j)).2)), (3, vI (nI j)), (1, vI ((drc (drs (s, n, p, k) j)).1)), (0, vR 8 20)], [vI (nI j), vR 8 20], h) rfl ?_
        refine R_calli mM_step [vR 8 20, vI (nI j)] [] (nI (stq (s, n, p, k) j)) h rfl (t_M_step (by omega) O M F) ?_
        refine R_s 2 (cond (if2 .le (nI (stq (s, n, p, k) j)) ((drc (drs (s, n, p, k) j)).1)) 51 43, [(2, vI ((drc (drs (s, n, p, k) j)).2)), (3, vI (nI j)), (1, vI ((drc (drs (s, n, p, k) j)).1)), (0, vR 8 20)], [], h) rfl ?_
        refine R_bt ((drs_gt hb hs).mpr c2) ?_
        refine R_s 3 (56, [(3, vI (nI j + Int32.ofInt 1)), (1, vI ((drc (drs (s, n, p, k) j)).1)), (2, vI ((drc (drs (s, n, p, k) j)).2)), (0, vR 8 20)], [], h) rfl ?_
        refine R_lv (lv' := [(3, vI (nI (j + 1))), (1, vI ((drc (drs (s, n, p, k) j)).1)), (2, vI ((drc (drs (s, n, p, k) j)).2)), (0, vR 8 20)]) (by rw [show nI j + Int32.ofInt 1 = nI (j + 1) from nI_add _ _]) ?_
        refine R_s 1 (7, [(3, vI (nI (j + 1))), (1, vI ((drc (drs (s, n, p, k) j)).1)), (2, vI ((drc (drs (s, n, p, k) j)).2)), (0, vR 8 20)], [], h) rfl ?_
        refine R_fg (lv' := [(3, vI (nI (j + 1))), (2, vI ((drc (drs (s, n, p, k) j)).2)), (1, vI ((drc (drs (s, n, p, k) j)).1)), (0, vR 8 20)]) [0, 2, 1, 3] rfl [3, 1, 2, 0] rfl (by decide) ?_
        have hi := ih (j + 1) (by omega)
        rw [drs_yes c2] at hi
        exact hi
      · refine R_s 5 (36, [(2, vI (nI j)), (3, vI (nI j)), (1, vI ((drc (drs (s, n, p, k) j)).1)), (0, vR 8 20)], [vI (nI j), vR 8 20], h) rfl ?_
        refine R_calli mM_step [vR 8 20, vI (nI j)] [] (nI (stq (s, n, p, k) j)) h rfl (t_M_step (by omega) O M F) ?_
        refine R_s 2 (cond (if2 .le (nI (stq (s, n, p, k) j)) ((drc (drs (s, n, p, k) j)).1)) 51 43, [(2, vI (nI j)), (3, vI (nI j)), (1, vI ((drc (drs (s, n, p, k) j)).1)), (0, vR 8 20)], [], h) rfl ?_
        refine R_bf (by cases q : if2 .le (nI (stq (s, n, p, k) j)) (drc (drs (s, n, p, k) j)).1 with
          | false => rfl
          | true => exact absurd ((drs_gt hb hs).mp q) c2) ?_
        refine R_s 2 (45, [(2, vI (nI j)), (3, vI (nI j)), (1, vI ((drc (drs (s, n, p, k) j)).1)), (0, vR 8 20)], [vI (nI j), vR 8 20], h) rfl ?_
        refine R_calli mM_step [vR 8 20, vI (nI j)] [] (nI (stq (s, n, p, k) j)) h rfl (t_M_step (by omega) O M F) ?_
        refine R_s 3 (56, [(3, vI (nI j + Int32.ofInt 1)), (1, vI (nI (stq (s, n, p, k) j))), (2, vI (nI j)), (0, vR 8 20)], [], h) rfl ?_
        refine R_lv (lv' := [(3, vI (nI (j + 1))), (1, vI (nI (stq (s, n, p, k) j))), (2, vI (nI j)), (0, vR 8 20)]) (by rw [show nI j + Int32.ofInt 1 = nI (j + 1) from nI_add _ _]) ?_
        refine R_s 1 (7, [(3, vI (nI (j + 1))), (1, vI (nI (stq (s, n, p, k) j))), (2, vI (nI j)), (0, vR 8 20)], [], h) rfl ?_
        refine R_fg (lv' := [(3, vI (nI (j + 1))), (2, vI (nI j)), (1, vI (nI (stq (s, n, p, k) j))), (0, vR 8 20)]) [0, 2, 1, 3] rfl [3, 1, 2, 0] rfl (by decide) ?_
        have hi := ih (j + 1) (by omega)
        rw [drs_no c2] at hi
        exact hi
