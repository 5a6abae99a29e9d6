set_option maxRecDepth 100000 in
theorem t_S_songCount {d : Nat} {h : HP} {A : AS} (V : VA A) (I : CI h A) : MT (d) mS_songCount [vR 7 9] h (fun r h' => r = some (vI (oCount A)) ∧ CI h' A) := by
  obtain ⟨⟨s, n, p, k⟩, kp, ch, len⟩ := A
  have C : CO h 0 s n p k := I.1
  have F : WF s n p k := V.1.1
  have O : WO s n := V.1.2.1.1
  have hn1 : 1 ≤ n := V.1.2.2.1
  have hp1 : 1 ≤ p := V.1.2.2.2.1
  have hk1 : 1 ≤ k := V.1.2.2.2.2
  have h8 : n ≤ 8 := F.2.1.1
  have h5 : p ≤ 5 := F.2.1.2.1
  have h6 : k ≤ 6 := F.2.1.2.2
  refine R_s 3 (7, [(0, vR 7 9)], [vI (h 0 0 0)], h) rfl ?_
  refine R_top (nI n) C.1.1 ?_
  exact R_ret (some (vI (nI n))) h rfl ⟨rfl, I⟩
set_option maxRecDepth 100000 in
theorem t_S_kindOf {d : Nat} {h : HP} {A : AS} {x y : Int32} (V : VA A) (I : CI h A) : MT (d + 1) mS_kindOf [vR 7 9, vI x, vI y] h (fun r h' => r = some (vI (oKind A x y)) ∧ CI h' A) := by
  obtain ⟨⟨s, n, p, k⟩, kp, ch, len⟩ := A
  have C : CO h 0 s n p k := I.1
  have F : WF s n p k := V.1.1
  have O : WO s n := V.1.2.1.1
  have hn1 : 1 ≤ n := V.1.2.2.1
  have hp1 : 1 ≤ p := V.1.2.2.2.1
  have hk1 : 1 ≤ k := V.1.2.2.2.2
  have h8 : n ≤ 8 := F.2.1.1
  have h5 : p ≤ 5 := F.2.1.2.1
  have h6 : k ≤ 6 := F.2.1.2.2
  refine R_s 3 (5, [(0, vR 7 9), (1, vI x), (2, vI y)], [vI x, vR 0 0], h) rfl ?_
  refine R_calli mC_isSong [vR 0 0, vI x] [] (bI (inb x n)) h rfl (t_C_isSong C.1.1 h8) ?_
  refine R_s 1 (cond (if0 .eq (bI (inb x n))) 22 11, [(0, vR 7 9), (1, vI x), (2, vI y)], [], h) rfl ?_
  refine R_bp (inb x n = false) (x0_eq.trans bI_eq) (fun ca => ?_) (fun ca => ?_)
  · refine R_s 1 (23, [(0, vR 7 9), (1, vI x), (2, vI y)], [vI (-1)], h) rfl ?_
    exact R_ret (some (vI (-1))) h rfl ⟨by unfold oKind; dsimp only; rw [sel1_f ca], I⟩
  · obtain ⟨a, ha, rfl⟩ := inb_ex (by omega) (tf ca)
    refine R_s 3 (16, [(0, vR 7 9), (1, vI (nI a)), (2, vI y)], [vI y, vR 0 0], h) rfl ?_
    refine R_calli mC_isPlayer [vR 0 0, vI y] [] (bI (inb y p)) h rfl (t_C_isPlayer C.1.2.1 (by omega)) ?_
    refine R_s 1 (cond (if0 .ne (bI (inb y p))) 24 22, [(0, vR 7 9), (1, vI (nI a)), (2, vI y)], [], h) rfl ?_
    refine R_bp (inb y p = true) (x0_ne.trans bI_ne) (fun cb => ?_) (fun cb => ?_)
    · obtain ⟨b, hb, rfl⟩ := inb_ex (by omega) cb
      refine R_s 4 (30, [(0, vR 7 9), (1, vI (nI a)), (2, vI (nI b))], [vI (nI b), vI (nI a), vR 0 0], h) rfl ?_
      refine R_calli mC_kindPlayed [vR 0 0, vI (nI a), vI (nI b)] [] (kd s a b) h rfl (t_C_kindPlayed C (by omega) (by omega)) ?_
      refine R_s 4 (cond (if2 .ne (kd s a b) (-1)) 44 39, [(3, vI (kd s a b)), (0, vR 7 9), (1, vI (nI a)), (2, vI (nI b))], [], h) rfl ?_
      refine R_bp (¬ (kd s a b) = (-1)) x2_ne (fun c1 => ?_) (fun c1 => ?_)
      · refine R_s 1 (45, [(3, vI (kd s a b)), (0, vR 7 9), (1, vI (nI a)), (2, vI (nI b))], [vI (kd s a b)], h) rfl ?_
        exact R_ret (some (vI (kd s a b))) h rfl ⟨by unfold oKind; dsimp only; rw [sel1_t ha (by omega), sel1_t hb (by omega), if_neg c1], I⟩
      · refine R_s 2 (45, [(3, vI (kd s a b)), (0, vR 7 9), (1, vI (nI a)), (2, vI (nI b))], [vI (-4)], h) rfl ?_
        exact R_ret (some (vI (-4))) h rfl ⟨by unfold oKind; dsimp only; rw [sel1_t ha (by omega), sel1_t hb (by omega), if_pos (Classical.not_not.mp c1)], I⟩
    · have cb : inb y p = false := by cases q9 : inb y p with
        | false => rfl
        | true => exact absurd q9 cb
      refine R_s 1 (23, [(0, vR 7 9), (1, vI (nI a)), (2, vI y)], [vI (-1)], h) rfl ?_
      exact R_ret (some (vI (-1))) h rfl ⟨by unfold oKind; dsimp only; rw [sel1_t ha (by omega), sel1_f cb], I⟩
theorem kd_neg {s : Nat → Int32} {n p k a b : Nat} (F : WF s n p k) (ha : a < n) (hb : b < p) (h : ¬ kd s a b = -1) : ∃ c, c < k ∧ kd s a b = nI c := ((F.2.2.2.2.2.1 a (by have := F.2.1.1; omega) b (by have := F.2.1.2.1; omega)).resolve_left h).1
theorem oTun_f {A : AS} {x y : Int32} (q : inb x A.1.2.1 = false ∨ inb y A.1.2.2.1 = false) : oTun A x y = -1 := by
  unfold oTun
  rcases q with q | q
  · rw [sel1_f q]
  · unfold sel1
    rw [q]
    cases inb x A.1.2.1 <;> rfl
/-- the three ways of a part's answer -/
theorem oKind_c {z : ST} {kp : List ST} {ch : Nat → Nat} {len : Nat} {x y : Int32} (F : WF z.1 z.2.1 z.2.2.1 z.2.2.2) : (oKind (z, kp, ch, len) x y = -1 ∧ (inb x z.2.1 = false ∨ inb y z.2.2.1 = false)) ∨ (∃ a b, a < z.2.1 ∧ b < z.2.2.1 ∧ x = nI a ∧ y = nI b ∧ ((kd z.1 a b = -1 ∧ oKind (z, kp, ch, len) x y = -4) ∨ (∃ c, c < z.2.2.2 ∧ kd z.1 a b = nI c ∧ oKind (z, kp, ch, len) x y = nI c))) := by
  have h8 := F.2.1.1
  have h5 := F.2.1.2.1
  cases hx : inb x z.2.1 with
  | false => exact Or.inl ⟨by unfold oKind; rw [sel1_f hx], Or.inl rfl⟩
  | true =>
    obtain ⟨a, ha, rfl⟩ := inb_ex (by omega) hx
    cases hy : inb y z.2.2.1 with
    | false => exact Or.inl ⟨by unfold oKind; rw [sel1_t ha (by omega), sel1_f hy], Or.inr rfl⟩
    | true =>
      obtain ⟨b, hb, rfl⟩ := inb_ex (by omega) hy
      refine Or.inr ⟨a, b, ha, hb, rfl, rfl, ?_⟩
      have e : oKind (z, kp, ch, len) (nI a) (nI b) = if kd z.1 a b = -1 then -4 else kd z.1 a b := by unfold oKind; rw [sel1_t ha (by omega), sel1_t hb (by omega)]
      by_cases q : kd z.1 a b = -1
      · exact Or.inl ⟨q, by rw [e, if_pos q]⟩
      · obtain ⟨c, hc, ec⟩ := kd_neg F ha hb q
        exact Or.inr ⟨c, hc, ec, by rw [e, if_neg q, ec]⟩
set_option maxRecDepth 100000 in
theorem t_S_tuningOf {d : Nat} {h : HP} {A : AS} {x y : Int32} (V : VA A) (I : CI h A) : MT (d + 2) mS_tuningOf [vR 7 9, vI x, vI y] h (fun r h' => r = some (vI (oTun A x y)) ∧ CI h' A) := by
  obtain ⟨⟨s, n, p, k⟩, kp, ch, len⟩ := A
  have C : CO h 0 s n p k := I.1
  have F : WF s n p k := V.1.1
  have O : WO s n := V.1.2.1.1
  have hn1 : 1 ≤ n := V.1.2.2.1
  have hp1 : 1 ≤ p := V.1.2.2.2.1
  have hk1 : 1 ≤ k := V.1.2.2.2.2
  have h8 : n ≤ 8 := F.2.1.1
  have h5 : p ≤ 5 := F.2.1.2.1
  have h6 : k ≤ 6 := F.2.1.2.2
  refine R_s 3 (3, [(0, vR 7 9), (1, vI x), (2, vI y)], [vI y, vI x, vR 7 9], h) rfl ?_
  refine R_call mS_kindOf [vR 7 9, vI x, vI y] [] rfl (t_S_kindOf V I) (fun r h1 e1 => ?_)
  obtain ⟨rfl, I1⟩ := e1
  have C1 : CO h1 0 s n p k := I1.1
  rcases oKind_c (z := (s, n, p, k)) (kp := kp) (ch := ch) (len := len) (x := x) (y := y) F with ⟨e, q⟩ | ⟨a, b, ha, hb, rfl, rfl, ⟨q, e⟩ | ⟨c, hc, ec, e⟩⟩
  · rw [e]
    show R (d + 2) mS_tuningOf (6, [(0, vR 7 9), (1, vI x), (2, vI y)], [vI (-1)], h1) _
    refine R_s 3 (cond (if0 .ge (-1)) 15 11, [(3, vI (-1)), (0, vR 7 9), (1, vI x), (2, vI y)], [], h1) rfl ?_
    refine R_bf (by decide) ?_
    refine R_s 2 (24, [(3, vI (-1)), (0, vR 7 9), (1, vI x), (2, vI y)], [vI (-1)], h1) rfl ?_
    exact R_ret (some (vI (-1))) h1 rfl ⟨by rw [oTun_f q], I1⟩
  · rw [e]
    have ha8 : a < n := ha
    have hb5 : b < p := hb
    show R (d + 2) mS_tuningOf (6, [(0, vR 7 9), (1, vI (nI a)), (2, vI (nI b))], [vI (-4)], h1) _
    refine R_s 3 (cond (if0 .ge (-4)) 15 11, [(3, vI (-4)), (0, vR 7 9), (1, vI (nI a)), (2, vI (nI b))], [], h1) rfl ?_
    refine R_bf (by decide) ?_
    refine R_s 2 (24, [(3, vI (-4)), (0, vR 7 9), (1, vI (nI a)), (2, vI (nI b))], [vI (-4)], h1) rfl ?_
    exact R_ret (some (vI (-4))) h1 rfl ⟨by unfold oTun; dsimp only; rw [sel1_t ha8 (by omega), sel1_t hb5 (by omega), if_pos q], I1⟩
  · rw [e]
    show R (d + 2) mS_tuningOf (6, [(0, vR 7 9), (1, vI (nI a)), (2, vI (nI b))], [vI (nI c)], h1) _
    have hcb : c < k := hc
    refine R_s 3 (cond (if0 .ge (nI c)) 15 11, [(3, vI (nI c)), (0, vR 7 9), (1, vI (nI a)), (2, vI (nI b))], [], h1) rfl ?_
    refine R_bt (by unfold if0; exact decide_eq_true (nI_pos' (by omega))) ?_
    refine R_s 4 (21, [(3, vI (nI c)), (0, vR 7 9), (1, vI (nI a)), (2, vI (nI b))], [vI (nI b), vI (nI a), vR 0 0], h1) rfl ?_
    have hk : ¬ kd s a b = -1 := by rw [show kd s a b = nI c from ec]; exact nI_ne_m1 (by omega)
    have ha8 : a < n := ha
    have hb5 : b < p := hb
    refine R_calli mC_tuningPlayed [vR 0 0, vI (nI a), vI (nI b)] [] (tn s a b) h1 rfl (t_C_tuningPlayed C1 (by omega) (by omega) hk) ?_
    exact R_ret (some (vI (tn s a b))) h1 rfl ⟨by unfold oTun; dsimp only; rw [sel1_t ha8 (by omega), sel1_t hb5 (by omega), if_neg hk], I1⟩
set_option maxRecDepth 100000 in
theorem t_S_spareUnits {d : Nat} {h : HP} {A : AS} {x y : Int32} (V : VA A) (I : CI h A) : MT (d + 1) mS_spareUnits [vR 7 9, vI x, vI y] h (fun r h' => r = some (vI (oSpare A x y)) ∧ CI h' A) := by
  obtain ⟨⟨s, n, p, k⟩, kp, ch, len⟩ := A
  have C : CO h 0 s n p k := I.1
  have F : WF s n p k := V.1.1
  have O : WO s n := V.1.2.1.1
  have hn1 : 1 ≤ n := V.1.2.2.1
  have hp1 : 1 ≤ p := V.1.2.2.2.1
  have hk1 : 1 ≤ k := V.1.2.2.2.2
  have h8 : n ≤ 8 := F.2.1.1
  have h5 : p ≤ 5 := F.2.1.2.1
  have h6 : k ≤ 6 := F.2.1.2.2
  refine R_s 3 (5, [(0, vR 7 9), (1, vI x), (2, vI y)], [vI x, vR 0 0], h) rfl ?_
  refine R_calli mC_isSong [vR 0 0, vI x] [] (bI (inb x n)) h rfl (t_C_isSong C.1.1 h8) ?_
  refine R_s 1 (cond (if0 .eq (bI (inb x n))) 22 11, [(0, vR 7 9), (1, vI x), (2, vI y)], [], h) rfl ?_
  refine R_bp (inb x n = false) (x0_eq.trans bI_eq) (fun ca => ?_) (fun ca => ?_)
  · refine R_s 1 (23, [(0, vR 7 9), (1, vI x), (2, vI y)], [vI (-1)], h) rfl ?_
    exact R_ret (some (vI (-1))) h rfl ⟨by unfold oSpare; dsimp only; rw [sel1_f ca], I⟩
  · obtain ⟨a, ha, rfl⟩ := inb_ex (by omega) (tf ca)
    refine R_s 3 (16, [(0, vR 7 9), (1, vI (nI a)), (2, vI y)], [vI y, vR 0 0], h) rfl ?_
    refine R_calli mC_isKind [vR 0 0, vI y] [] (bI (inb y k)) h rfl (t_C_isKind C.1.2.2.1 (by omega)) ?_
    refine R_s 1 (cond (if0 .ne (bI (inb y k))) 24 22, [(0, vR 7 9), (1, vI (nI a)), (2, vI y)], [], h) rfl ?_
    refine R_bp (inb y k = true) (x0_ne.trans bI_ne) (fun cb => ?_) (fun cb => ?_)
    · obtain ⟨b, hb, rfl⟩ := inb_ex (by omega) cb
      refine R_s 4 (32, [(0, vR 7 9), (1, vI (nI a)), (2, vI (nI b))], [vI (nI b), vR 0 3], h) rfl ?_
      refine R_ld 0 3 b 6 rfl rfl (by omega) (by decide) ?_
      refine R_top (s (33 + b)) (C.2.2.2.1 b hb).1 ?_
      refine R_s 4 (39, [(0, vR 7 9), (1, vI (nI a)), (2, vI (nI b))], [vI (nI b), vI (nI a), vR 0 0, vI (s (33 + b))], h) rfl ?_
      refine R_calli mC_playersOn [vR 0 0, vI (nI a), vI (nI b)] [vI (s (33 + b))] (nI (cn s a (nI b) p)) h rfl (t_C_playersOn C h5 (by omega)) ?_
      refine R_s 1 (43, [(0, vR 7 9), (1, vI (nI a)), (2, vI (nI b))], [vI ((s (33 + b)) - (nI (cn s a (nI b) p)))], h) rfl ?_
      exact R_ret (some (vI ((s (33 + b)) - (nI (cn s a (nI b) p))))) h rfl ⟨by unfold oSpare; dsimp only; rw [sel1_t ha (by omega), sel1_t hb (by omega)], I⟩
    · have cb : inb y k = false := by cases q9 : inb y k with
        | false => rfl
        | true => exact absurd q9 cb
      refine R_s 1 (23, [(0, vR 7 9), (1, vI (nI a)), (2, vI y)], [vI (-1)], h) rfl ?_
      exact R_ret (some (vI (-1))) h rfl ⟨by unfold oSpare; dsimp only; rw [sel1_t ha (by omega), sel1_f cb], I⟩
theorem two_c {x y : Int32} {n : Nat} (hn : n ≤ 8) : ((inb x n && inb y n && !(decide (x = y))) = true ∧ ∃ a b, a < n ∧ b < n ∧ ¬ a = b ∧ x = nI a ∧ y = nI b) ∨ ((inb x n && inb y n && !(decide (x = y))) = false ∧ ∀ f : Nat → Nat → Int32, sel1 x n (fun a => sel1 y n (fun b => if a = b then -1 else f a b) (-1)) (-1) = -1) := by
  cases hx : inb x n with
  | false => exact Or.inr ⟨rfl, fun f => sel1_f hx⟩
  | true =>
    obtain ⟨a, ha, rfl⟩ := inb_ex (by omega) hx
    cases hy : inb y n with
    | false => exact Or.inr ⟨rfl, fun f => by rw [sel1_t ha (by omega), sel1_f hy]⟩
    | true =>
      obtain ⟨b, hb, rfl⟩ := inb_ex (by omega) hy
      by_cases e : a = b
      · exact Or.inr ⟨by rw [e]; simp, fun f => by rw [sel1_t ha (by omega), sel1_t hb (by omega), if_pos e]⟩
      · refine Or.inl ⟨?_, a, b, ha, hb, e, rfl, rfl⟩
        rw [decide_eq_false (fun q => e ((nI_eq (by omega) (by omega)).mp q))]
        rfl
set_option maxRecDepth 100000 in
theorem t_S_changeOf {d : Nat} {h : HP} {A : AS} {q x y : Int32} (V : VA A) (I : CI h A) : MT (d + 2) mS_changeOf [vR 7 9, vI q, vI x, vI y] h (fun r h' => r = some (vI (oChange A q x y)) ∧ CI h' A) := by
  obtain ⟨⟨s, n, p, k⟩, kp, ch, len⟩ := A
  have C : CO h 0 s n p k := I.1
  have F : WF s n p k := V.1.1
  have O : WO s n := V.1.2.1.1
  have hn1 : 1 ≤ n := V.1.2.2.1
  have hp1 : 1 ≤ p := V.1.2.2.2.1
  have hk1 : 1 ≤ k := V.1.2.2.2.2
  have h8 : n ≤ 8 := F.2.1.1
  have h5 : p ≤ 5 := F.2.1.2.1
  have h6 : k ≤ 6 := F.2.1.2.2
  refine R_s 3 (5, [(0, vR 7 9), (1, vI q), (2, vI x), (3, vI y)], [vI q, vR 0 0], h) rfl ?_
  refine R_calli mC_isPlayer [vR 0 0, vI q] [] (bI (inb q p)) h rfl (t_C_isPlayer C.1.2.1 (by omega)) ?_
  refine R_s 1 (cond (if0 .eq (bI (inb q p))) 23 11, [(0, vR 7 9), (1, vI q), (2, vI x), (3, vI y)], [], h) rfl ?_
  refine R_bp (inb q p = false) (x0_eq.trans bI_eq) (fun cq0 => ?_) (fun cq0 => ?_)
  · refine R_s 1 (24, [(0, vR 7 9), (1, vI q), (2, vI x), (3, vI y)], [vI (-1)], h) rfl ?_
    exact R_ret (some (vI (-1))) h rfl ⟨by unfold oChange; dsimp only; rw [sel1_f cq0], I⟩
  · obtain ⟨q0, hq0, rfl⟩ := inb_ex (by omega) (tf cq0)
    refine R_s 4 (17, [(0, vR 7 9), (1, vI (nI q0)), (2, vI x), (3, vI y)], [vI y, vI x, vR 0 0], h) rfl ?_
    refine R_calli mC_areTwoSongs [vR 0 0, vI x, vI y] [] (bI (inb x n && inb y n && !(decide (x = y)))) h rfl (t_C_areTwoSongs C.1.1 h8) ?_
    rcases two_c (x := x) (y := y) h8 with ⟨e2, a, b, ha, hb, hab, rfl, rfl⟩ | ⟨e2, hf⟩
    · rw [e2]
      show R _ mS_changeOf (20, [(0, vR 7 9), (1, vI (nI q0)), (2, vI (nI a)), (3, vI (nI b))], [vI (nI 1)], h) _
      refine R_s 1 (cond (if0 .ne (nI 1)) 25 23, [(0, vR 7 9), (1, vI (nI q0)), (2, vI (nI a)), (3, vI (nI b))], [], h) rfl ?_
      refine R_bt rfl ?_
      refine R_s 5 (32, [(0, vR 7 9), (1, vI (nI q0)), (2, vI (nI a)), (3, vI (nI b))], [vI (nI b), vI (nI a), vI (nI q0), vR 0 0], h) rfl ?_
      refine R_calli mC_change [vR 0 0, vI (nI q0), vI (nI a), vI (nI b)] [] (nI (chg s (-1) p a b q0)) h rfl (t_C_change C F (by omega) (by omega) (by omega)) ?_
      exact R_ret (some (vI (nI (chg s (-1) p a b q0)))) h rfl ⟨by unfold oChange; dsimp only; rw [sel1_t hq0 (by omega), sel1_t ha (by omega), sel1_t hb (by omega), if_neg hab], I⟩
    · rw [e2]
      show R _ mS_changeOf (20, [(0, vR 7 9), (1, vI (nI q0)), (2, vI x), (3, vI y)], [vI (nI 0)], h) _
      refine R_s 1 (cond (if0 .ne (nI 0)) 25 23, [(0, vR 7 9), (1, vI (nI q0)), (2, vI x), (3, vI y)], [], h) rfl ?_
      refine R_bf rfl ?_
      refine R_s 1 (24, [(0, vR 7 9), (1, vI (nI q0)), (2, vI x), (3, vI y)], [vI (-1)], h) rfl ?_
      exact R_ret (some (vI (-1))) h rfl ⟨by unfold oChange; dsimp only; rw [sel1_t hq0 (by omega), hf], I⟩
set_option maxRecDepth 100000 in
theorem t_S_changeCost {d : Nat} {h : HP} {A : AS} {q x y : Int32} (V : VA A) (I : CI h A) : MT (d + 3) mS_changeCost [vR 7 9, vI q, vI x, vI y] h (fun r h' => r = some (vI (oCost A q x y)) ∧ CI h' A) := by
  obtain ⟨⟨s, n, p, k⟩, kp, ch, len⟩ := A
  have C : CO h 0 s n p k := I.1
  have F : WF s n p k := V.1.1
  have O : WO s n := V.1.2.1.1
  have hn1 : 1 ≤ n := V.1.2.2.1
  have hp1 : 1 ≤ p := V.1.2.2.2.1
  have hk1 : 1 ≤ k := V.1.2.2.2.2
  have h8 : n ≤ 8 := F.2.1.1
  have h5 : p ≤ 5 := F.2.1.2.1
  have h6 : k ≤ 6 := F.2.1.2.2
  refine R_s 3 (5, [(0, vR 7 9), (1, vI q), (2, vI x), (3, vI y)], [vI q, vR 0 0], h) rfl ?_
  refine R_calli mC_isPlayer [vR 0 0, vI q] [] (bI (inb q p)) h rfl (t_C_isPlayer C.1.2.1 (by omega)) ?_
  refine R_s 1 (cond (if0 .eq (bI (inb q p))) 23 11, [(0, vR 7 9), (1, vI q), (2, vI x), (3, vI y)], [], h) rfl ?_
  refine R_bp (inb q p = false) (x0_eq.trans bI_eq) (fun cq0 => ?_) (fun cq0 => ?_)
  · refine R_s 1 (24, [(0, vR 7 9), (1, vI q), (2, vI x), (3, vI y)], [vI (-1)], h) rfl ?_
    exact R_ret (some (vI (-1))) h rfl ⟨by unfold oCost; dsimp only; rw [sel1_f cq0], I⟩
  · obtain ⟨q0, hq0, rfl⟩ := inb_ex (by omega) (tf cq0)
    refine R_s 4 (17, [(0, vR 7 9), (1, vI (nI q0)), (2, vI x), (3, vI y)], [vI y, vI x, vR 0 0], h) rfl ?_
    refine R_calli mC_areTwoSongs [vR 0 0, vI x, vI y] [] (bI (inb x n && inb y n && !(decide (x = y)))) h rfl (t_C_areTwoSongs C.1.1 h8) ?_
    rcases two_c (x := x) (y := y) h8 with ⟨e2, a, b, ha, hb, hab, rfl, rfl⟩ | ⟨e2, hf⟩
    · rw [e2]
      show R _ mS_changeCost (20, [(0, vR 7 9), (1, vI (nI q0)), (2, vI (nI a)), (3, vI (nI b))], [vI (nI 1)], h) _
      refine R_s 1 (cond (if0 .ne (nI 1)) 25 23, [(0, vR 7 9), (1, vI (nI q0)), (2, vI (nI a)), (3, vI (nI b))], [], h) rfl ?_
      refine R_bt rfl ?_
      refine R_s 5 (32, [(0, vR 7 9), (1, vI (nI q0)), (2, vI (nI a)), (3, vI (nI b))], [vI (nI b), vI (nI a), vI (nI q0), vR 0 0], h) rfl ?_
      refine R_calli mC_costOfChange [vR 0 0, vI (nI q0), vI (nI a), vI (nI b)] [] (nI (cof s (-1) p a b q0)) h rfl (t_C_costOfChange C F (by omega) (by omega) (by omega)) ?_
      exact R_ret (some (vI (nI (cof s (-1) p a b q0)))) h rfl ⟨by unfold oCost; dsimp only; rw [sel1_t hq0 (by omega), sel1_t ha (by omega), sel1_t hb (by omega), if_neg hab], I⟩
    · rw [e2]
      show R _ mS_changeCost (20, [(0, vR 7 9), (1, vI (nI q0)), (2, vI x), (3, vI y)], [vI (nI 0)], h) _
      refine R_s 1 (cond (if0 .ne (nI 0)) 25 23, [(0, vR 7 9), (1, vI (nI q0)), (2, vI x), (3, vI y)], [], h) rfl ?_
      refine R_bf rfl ?_
      refine R_s 1 (24, [(0, vR 7 9), (1, vI (nI q0)), (2, vI x), (3, vI y)], [vI (-1)], h) rfl ?_
      exact R_ret (some (vI (-1))) h rfl ⟨by unfold oCost; dsimp only; rw [sel1_t hq0 (by omega), hf], I⟩
set_option maxRecDepth 100000 in
theorem t_S_changeoverCost {d : Nat} {h : HP} {A : AS} {x y : Int32} (V : VA A) (I : CI h A) : MT (d + 4) mS_changeoverCost [vR 7 9, vI x, vI y] h (fun r h' => r = some (vI (oOver A x y)) ∧ CI h' A) := by
  obtain ⟨⟨s, n, p, k⟩, kp, ch, len⟩ := A
  have C : CO h 0 s n p k := I.1
  have F : WF s n p k := V.1.1
  have O : WO s n := V.1.2.1.1
  have hn1 : 1 ≤ n := V.1.2.2.1
  have hp1 : 1 ≤ p := V.1.2.2.2.1
  have hk1 : 1 ≤ k := V.1.2.2.2.2
  have h8 : n ≤ 8 := F.2.1.1
  have h5 : p ≤ 5 := F.2.1.2.1
  have h6 : k ≤ 6 := F.2.1.2.2
  refine R_s 4 (6, [(0, vR 7 9), (1, vI x), (2, vI y)], [vI y, vI x, vR 0 0], h) rfl ?_
  refine R_calli mC_areTwoSongs [vR 0 0, vI x, vI y] [] (bI (inb x n && inb y n && !(decide (x = y)))) h rfl (t_C_areTwoSongs C.1.1 h8) ?_
  rcases two_c (x := x) (y := y) h8 with ⟨e2, a, b, ha, hb, hab, rfl, rfl⟩ | ⟨e2, hf⟩
  · rw [e2]
    show R _ mS_changeoverCost (9, [(0, vR 7 9), (1, vI (nI a)), (2, vI (nI b))], [vI (nI 1)], h) _
    refine R_s 1 (cond (if0 .ne (nI 1)) 14 12, [(0, vR 7 9), (1, vI (nI a)), (2, vI (nI b))], [], h) rfl ?_
    refine R_bt rfl ?_
    refine R_s 4 (20, [(0, vR 7 9), (1, vI (nI a)), (2, vI (nI b))], [vI (nI b), vI (nI a), vR 0 0], h) rfl ?_
    refine R_calli mC_costOfChangeover [vR 0 0, vI (nI a), vI (nI b)] [] (nI (btw s (-1) p a b p)) h rfl (t_C_costOfChangeover C F (by omega) (by omega)) ?_
    exact R_ret (some (vI (nI (btw s (-1) p a b p)))) h rfl ⟨by unfold oOver; dsimp only; rw [sel1_t ha (by omega), sel1_t hb (by omega), if_neg hab], I⟩
  · rw [e2]
    show R _ mS_changeoverCost (9, [(0, vR 7 9), (1, vI x), (2, vI y)], [vI (nI 0)], h) _
    refine R_s 1 (cond (if0 .ne (nI 0)) 14 12, [(0, vR 7 9), (1, vI x), (2, vI y)], [], h) rfl ?_
    refine R_bf rfl ?_
    refine R_s 1 (13, [(0, vR 7 9), (1, vI x), (2, vI y)], [vI (-1)], h) rfl ?_
    exact R_ret (some (vI (-1))) h rfl ⟨by unfold oOver; dsimp only; rw [hf], I⟩
set_option maxRecDepth 100000 in
theorem t_S_songAt {d : Nat} {h : HP} {A : AS} {x : Int32} (V : VA A) (I : CI h A) : MT (d + 1) mS_songAt [vR 7 9, vI x] h (fun r h' => r = some (vI (oSongAt A x)) ∧ CI h' A) := by
  obtain ⟨⟨s, n, p, k⟩, kp, ch, len⟩ := A
  have C : CO h 0 s n p k := I.1
  have F : WF s n p k := V.1.1
  have O : WO s n := V.1.2.1.1
  have hn1 : 1 ≤ n := V.1.2.2.1
  have hp1 : 1 ≤ p := V.1.2.2.2.1
  have hk1 : 1 ≤ k := V.1.2.2.2.2
  have h8 : n ≤ 8 := F.2.1.1
  have h5 : p ≤ 5 := F.2.1.2.1
  have h6 : k ≤ 6 := F.2.1.2.2
  refine R_s 3 (5, [(0, vR 7 9), (1, vI x)], [vI x, vR 0 0], h) rfl ?_
  refine R_calli mC_isSong [vR 0 0, vI x] [] (bI (inb x n)) h rfl (t_C_isSong C.1.1 h8) ?_
  refine R_s 1 (cond (if0 .eq (bI (inb x n))) 23 11, [(0, vR 7 9), (1, vI x)], [], h) rfl ?_
  refine R_bp (inb x n = false) (x0_eq.trans bI_eq) (fun ca => ?_) (fun ca => ?_)
  · refine R_s 1 (24, [(0, vR 7 9), (1, vI x)], [vI (-1)], h) rfl ?_
    exact R_ret (some (vI (-1))) h rfl ⟨by unfold oSongAt; dsimp only; rw [sel1_f ca], I⟩
  · obtain ⟨a, ha, rfl⟩ := inb_ex (by omega) (tf ca)
    refine R_s 4 (19, [(0, vR 7 9), (1, vI (nI a))], [vI (nI a), vR 0 8], h) rfl ?_
    refine R_ld 0 8 a 8 rfl rfl (by omega) (by decide) ?_
    refine R_top (s (18 + a)) (C.2.2.2.2.2.2 a (by omega)).2 ?_
    refine R_s 1 (24, [(0, vR 7 9), (1, vI (nI a))], [vI (s (18 + a))], h) rfl ?_
    exact R_ret (some (vI (s (18 + a)))) h rfl ⟨by unfold oSongAt; dsimp only; rw [sel1_t ha (by omega)], I⟩
theorem stq_ok {s : Nat → Int32} {n p k j a b : Nat} (ea : s (18 + j) = nI a) (eb : s (18 + (j + 1)) = nI b) (ha : a < 8) (hb : b < 8) : stq (s, n, p, k) j = btw s (-1) p a b p := by
  unfold stq
  dsimp only
  rw [ea, eb, nI_cl (by omega), nI_cl (by omega)]
theorem stq_le {s : Nat → Int32} {n p k j : Nat} (F : WF s n p k) (O : WO s n) (hj : j + 1 < n) : stq (s, n, p, k) j ≤ 35 := by
  obtain ⟨a, ha, ea⟩ := O.2.1 j (by omega)
  obtain ⟨b, hb, eb⟩ := O.2.1 (j + 1) hj
  have h8 := F.2.1.1
  have h5 := F.2.1.2.1
  rw [stq_ok ea eb (by omega) (by omega)]
  have := btw_le (m := -1) F (show a < 8 by omega) (show b < 8 by omega) p h5
  omega
set_option maxRecDepth 100000 in
theorem t_S_orderCost {d : Nat} {h : HP} {A : AS} (V : VA A) (I : CI h A) : MT (d + 5) mS_orderCost [vR 7 9] h (fun r h' => r = some (vI (oOrder A)) ∧ CI h' A) := by
  obtain ⟨⟨s, n, p, k⟩, kp, ch, len⟩ := A
  have C : CO h 0 s n p k := I.1
  have F : WF s n p k := V.1.1
  have O : WO s n := V.1.2.1.1
  have hn1 : 1 ≤ n := V.1.2.2.1
  have hp1 : 1 ≤ p := V.1.2.2.2.1
  have hk1 : 1 ≤ k := V.1.2.2.2.2
  have h8 : n ≤ 8 := F.2.1.1
  have h5 : p ≤ 5 := F.2.1.2.1
  have h6 : k ≤ 6 := F.2.1.2.2
  refine R_s 4 (4, [(2, vI (nI 0)), (1, vI (nI 0)), (0, vR 7 9)], [], h) rfl ?_
  suffices ∀ m j c, j + m = n - 1 → c = ocs (s, n, p, k) j → R (d + 5) mS_orderCost (4, [(2, vI (nI j)), (1, vI (nI c)), (0, vR 7 9)], [], h) (fun r h' => r = some (vI (oOrder ((s, n, p, k), kp, ch, len))) ∧ CI h' ((s, n, p, k), kp, ch, len)) from this (n - 1) 0 0 (by omega) rfl
  intro m
  induction m with
  | zero =>
    intro j c hm hc
    refine R_s 4 (12, [(2, vI (nI j)), (1, vI (nI c)), (0, vR 7 9)], [vI (h 0 0 0), vI (nI j)], h) rfl ?_
    refine R_top (nI n) C.1.1 ?_
    refine R_s 1 (13, [(2, vI (nI j)), (1, vI (nI c)), (0, vR 7 9)], [vI (nI 1), vI (nI n), vI (nI j)], h) rfl ?_
    refine R_sub n 1 rfl hn1 ?_
    refine R_s 1 (cond (if2 .ge (nI j) (nI (n - 1))) 34 17, [(2, vI (nI j)), (1, vI (nI c)), (0, vR 7 9)], [], h) rfl ?_
    refine R_bp ((n - 1) ≤ j) (i2_ge (by omega) (by omega)) (fun c1 => ?_) (fun c1 => ?_)
    · refine R_s 1 (35, [(2, vI (nI j)), (1, vI (nI c)), (0, vR 7 9)], [vI (nI c)], h) rfl ?_
      exact R_ret (some (vI (nI c))) h rfl ⟨by unfold oOrder; dsimp only; rw [hc, show j = n - 1 by omega], I⟩
    · exact absurd hm (by omega)
  | succ m ih =>
    intro j c hm hc
    refine R_s 4 (12, [(2, vI (nI j)), (1, vI (nI c)), (0, vR 7 9)], [vI (h 0 0 0), vI (nI j)], h) rfl ?_
    refine R_top (nI n) C.1.1 ?_
    refine R_s 1 (13, [(2, vI (nI j)), (1, vI (nI c)), (0, vR 7 9)], [vI (nI 1), vI (nI n), vI (nI j)], h) rfl ?_
    refine R_sub n 1 rfl hn1 ?_
    refine R_s 1 (cond (if2 .ge (nI j) (nI (n - 1))) 34 17, [(2, vI (nI j)), (1, vI (nI c)), (0, vR 7 9)], [], h) rfl ?_
    refine R_bp ((n - 1) ≤ j) (i2_ge (by omega) (by omega)) (fun c1 => ?_) (fun c1 => ?_)
    · refine R_s 1 (35, [(2, vI (nI j)), (1, vI (nI c)), (0, vR 7 9)], [vI (nI c)], h) rfl ?_
      exact R_ret (some (vI (nI c))) h rfl ⟨by unfold oOrder; dsimp only; rw [hc, show j = n - 1 by omega], I⟩
    · obtain ⟨a, ha, ea⟩ := O.2.1 j (by omega)
      obtain ⟨b, hb, eb⟩ := O.2.1 (j + 1) (by omega)
      refine R_s 4 (23, [(2, vI (nI j)), (1, vI (nI c)), (0, vR 7 9)], [vI (nI j), vR 0 0, vI (nI c)], h) rfl ?_
      refine R_calli mC_costAfter [vR 0 0, vI (nI j)] [vI (nI c)] (nI (btw s (-1) p a b p)) h rfl (t_C_costAfter C F (by omega) (by omega) (by omega) ea eb) ?_
      refine R_add c (btw s (-1) p a b p) rfl ?_
      refine R_s 2 (31, [(2, vI (nI j + Int32.ofInt 1)), (1, vI (nI (c + (btw s (-1) p a b p)))), (0, vR 7 9)], [], h) rfl ?_
      refine R_lv (lv' := [(2, vI (nI (j + 1))), (1, vI (nI (c + (btw s (-1) p a b p)))), (0, vR 7 9)]) (by rw [show nI j + Int32.ofInt 1 = nI (j + 1) from nI_add _ _]) ?_
      refine R_s 1 (4, [(2, vI (nI (j + 1))), (1, vI (nI (c + (btw s (-1) p a b p)))), (0, vR 7 9)], [], h) rfl ?_
      exact ih (j + 1) _ (by omega) (by rw [hc, ← stq_ok (n := n) (k := k) ea eb (by omega) (by omega)]; rfl)
theorem alw_f {z : ST} {j : Nat} : ∀ {n : Nat}, j < n → zB z (z.1 (18 + j)).toNatClampNeg j = false → alw z n = false := by
  intro n
  induction n with
  | zero => intro h; omega
  | succ n ih =>
    intro h e
    show (alw z n && zB z (z.1 (18 + n)).toNatClampNeg n) = false
    by_cases q : j = n
    · rw [← q, e, Bool.and_false]
    · rw [ih (by omega) e]; rfl
set_option maxRecDepth 100000 in
theorem t_S_isAllowed {d : Nat} {h : HP} {A : AS} (V : VA A) (I : CI h A) : MT (d + 2) mS_isAllowed [vR 7 9] h (fun r h' => r = some (vI (oAllowed A)) ∧ CI h' A) := by
  obtain ⟨⟨s, n, p, k⟩, kp, ch, len⟩ := A
  have C : CO h 0 s n p k := I.1
  have F : WF s n p k := V.1.1
  have O : WO s n := V.1.2.1.1
  have hn1 : 1 ≤ n := V.1.2.2.1
  have hp1 : 1 ≤ p := V.1.2.2.2.1
  have hk1 : 1 ≤ k := V.1.2.2.2.2
  have h8 : n ≤ 8 := F.2.1.1
  have h5 : p ≤ 5 := F.2.1.2.1
  have h6 : k ≤ 6 := F.2.1.2.2
  obtain ⟨he, hen, he8⟩ := en_ok (z := (s, n, p, k)) F
  refine R_s 2 (2, [(1, vI (nI 0)), (0, vR 7 9)], [], h) rfl ?_
  suffices ∀ m j, j + m = n → alw (s, n, p, k) j = true → R (d + 2) mS_isAllowed (2, [(1, vI (nI j)), (0, vR 7 9)], [], h) (fun r h' => r = some (vI (oAllowed ((s, n, p, k), kp, ch, len))) ∧ CI h' ((s, n, p, k), kp, ch, len)) from this n 0 (by omega) rfl
  intro m
  induction m with
  | zero =>
    intro j hm hc
    refine R_s 4 (10, [(1, vI (nI j)), (0, vR 7 9)], [vI (h 0 0 0), vI (nI j)], h) rfl ?_
    refine R_top (nI n) C.1.1 ?_
    refine R_s 1 (cond (if2 .ge (nI j) (nI n)) 41 13, [(1, vI (nI j)), (0, vR 7 9)], [], h) rfl ?_
    refine R_bp (n ≤ j) (i2_ge (by omega) (by omega)) (fun c1 => ?_) (fun c1 => ?_)
    · refine R_s 1 (42, [(1, vI (nI j)), (0, vR 7 9)], [vI (nI 1)], h) rfl ?_
      exact R_ret (some (vI (nI 1))) h rfl ⟨by unfold oAllowed; dsimp only; rw [show alw (s, n, p, k) n = true from (congrArg (alw (s, n, p, k)) (show n = j by omega)).trans hc]; rfl, I⟩
    · exact absurd hm (by omega)
  | succ m ih =>
    intro j hm hc
    refine R_s 4 (10, [(1, vI (nI j)), (0, vR 7 9)], [vI (h 0 0 0), vI (nI j)], h) rfl ?_
    refine R_top (nI n) C.1.1 ?_
    refine R_s 1 (cond (if2 .ge (nI j) (nI n)) 41 13, [(1, vI (nI j)), (0, vR 7 9)], [], h) rfl ?_
    refine R_bp (n ≤ j) (i2_ge (by omega) (by omega)) (fun c1 => ?_) (fun c1 => ?_)
    · refine R_s 1 (42, [(1, vI (nI j)), (0, vR 7 9)], [vI (nI 1)], h) rfl ?_
      exact R_ret (some (vI (nI 1))) h rfl ⟨by unfold oAllowed; dsimp only; rw [show alw (s, n, p, k) n = true from (congrArg (alw (s, n, p, k)) (show n = j by omega)).trans hc]; rfl, I⟩
    · obtain ⟨a, ha, ea⟩ := O.2.1 j (by omega)
      have hz : zB (s, n, p, k) (s (18 + j)).toNatClampNeg j = msb s (en (s, n, p, k)) n a j := by rw [ea, nI_cl (by omega)]; rfl
      refine R_s 6 (25, [(1, vI (nI j)), (0, vR 7 9)], [vI (nI j), vR 0 8, vR 0 0], h) rfl ?_
      refine R_ld 0 8 j 8 rfl rfl (by omega) (by decide) ?_
      refine R_top (nI a) ((C.2.2.2.2.2.2 j (by omega)).2.trans ea) ?_
      refine R_s 1 (27, [(1, vI (nI j)), (0, vR 7 9)], [vI (nI j), vI (nI a), vR 0 0], h) rfl ?_
      refine R_calli mC_mayStandAt [vR 0 0, vI (nI a), vI (nI j)] [] (bI (msb s (en (s, n, p, k)) n a j)) h rfl (t_C_mayStandAt C h8 he hen (by omega) (by omega)) ?_
      refine R_s 1 (cond (if0 .ne (bI (msb s (en (s, n, p, k)) n a j))) 35 33, [(1, vI (nI j)), (0, vR 7 9)], [], h) rfl ?_
      refine R_bp (msb s (en (s, n, p, k)) n a j = true) (x0_ne.trans bI_ne) (fun c2 => ?_) (fun c2 => ?_)
      · refine R_s 1 (38, [(1, vI (nI j + Int32.ofInt 1)), (0, vR 7 9)], [], h) rfl ?_
        refine R_lv (lv' := [(1, vI (nI (j + 1))), (0, vR 7 9)]) (by rw [show nI j + Int32.ofInt 1 = nI (j + 1) from nI_add _ _]) ?_
        refine R_s 1 (2, [(1, vI (nI (j + 1))), (0, vR 7 9)], [], h) rfl ?_
        exact ih (j + 1) (by omega) (by show (_ && _) = true; rw [hc, hz, c2]; rfl)
      · refine R_s 1 (34, [(1, vI (nI j)), (0, vR 7 9)], [vI (nI 0)], h) rfl ?_
        exact R_ret (some (vI (nI 0))) h rfl ⟨by unfold oAllowed; dsimp only; rw [alw_f (j := j) (by omega) (by rw [hz]; simpa using c2)]; rfl, I⟩
theorem m1_le {c : Nat} (h : c < 2147483648) : ¬ nI c ≤ -1 := by
  intro q
  have h1 := Int32.le_iff_toInt_le.mp q
  rw [nI_toInt h] at h1
  have h2 : (-1 : Int32).toInt = -1 := by decide
  omega
def drI (o : Option (Nat × Nat)) : Int32 × Int32 := match o with
  | none => (-4, -1)
  | some q => (nI q.2, nI q.1)
theorem drs_le {s : Nat → Int32} {n p k : Nat} (F : WF s n p k) (O : WO s n) : ∀ j, j + 1 ≤ n → ∀ q, drs (s, n, p, k) j = some q → q.1 ≤ 35 ∧ q.2 ≤ 8 := by
  intro j
  induction j with
  | zero => intro _ q h; cases h
  | succ j ih =>
    intro hj q h
    have h1 := stq_le F O (show j + 1 < n by omega)
    have h8 := F.2.1.1
    unfold drs at h
    cases hd : drs (s, n, p, k) j with
    | none => rw [hd] at h; cases h; exact ⟨h1, by show j ≤ 8; omega⟩
    | some q0 =>
      rw [hd] at h
      dsimp only at h
      split at h
      · cases h; exact ⟨h1, by show j ≤ 8; omega⟩
      · cases h; exact ih (by omega) _ hd
set_option maxRecDepth 100000 in
theorem t_S_dearestChangeover {d : Nat} {h : HP} {A : AS} (V : VA A) (I : CI h A) : MT (d + 5) mS_dearestChangeover [vR 7 9] h (fun r h' => r = some (vI (oDear A)) ∧ CI h' A) := by
  obtain ⟨⟨s, n, p, k⟩, kp, ch, len⟩ := A
  have C : CO h 0 s n p k := I.1
  have F : WF s n p k := V.1.1
  have O : WO s n := V.1.2.1.1
  have hn1 : 1 ≤ n := V.1.2.2.1
  have hp1 : 1 ≤ p := V.1.2.2.2.1
  have hk1 : 1 ≤ k := V.1.2.2.2.2
  have h8 : n ≤ 8 := F.2.1.1
  have h5 : p ≤ 5 := F.2.1.2.1
  have h6 : k ≤ 6 := F.2.1.2.2
  refine R_s 6 (7, [(3, vI (nI 0)), (2, vI (-1)), (1, vI (-4)), (0, vR 7 9)], [], h) rfl ?_
  suffices ∀ m j o, j + m = n - 1 → drs (s, n, p, k) j = o → R (d + 5) mS_dearestChangeover (7, [(3, vI (nI j)), (2, vI (drI o).2), (1, vI (drI o).1), (0, vR 7 9)], [], h) (fun r h' => r = some (vI (oDear ((s, n, p, k), kp, ch, len))) ∧ CI h' ((s, n, p, k), kp, ch, len)) from this (n - 1) 0 none (by omega) rfl
  intro m
  induction m with
  | zero =>
    intro j o hm ho
    refine R_s 4 (15, [(3, vI (nI j)), (2, vI ((drI o).2)), (1, vI ((drI o).1)), (0, vR 7 9)], [vI (h 0 0 0), vI (nI j)], h) rfl ?_
    refine R_top (nI n) C.1.1 ?_
    refine R_s 1 (16, [(3, vI (nI j)), (2, vI ((drI o).2)), (1, vI ((drI o).1)), (0, vR 7 9)], [vI (nI 1), vI (nI n), vI (nI j)], h) rfl ?_
    refine R_sub n 1 rfl hn1 ?_
    refine R_s 1 (cond (if2 .ge (nI j) (nI (n - 1))) 47 20, [(3, vI (nI j)), (2, vI ((drI o).2)), (1, vI ((drI o).1)), (0, vR 7 9)], [], h) rfl ?_
    refine R_bp ((n - 1) ≤ j) (i2_ge (by omega) (by omega)) (fun c1 => ?_) (fun c1 => ?_)
    · refine R_s 1 (48, [(3, vI (nI j)), (2, vI ((drI o).2)), (1, vI ((drI o).1)), (0, vR 7 9)], [vI ((drI o).1)], h) rfl ?_
      exact R_ret (some (vI ((drI o).1))) h rfl ⟨by unfold oDear; dsimp only; rw [← show j = n - 1 by omega, ho]; cases o <;> rfl, I⟩
    · exact absurd hm (by omega)
  | succ m ih =>
    intro j o hm ho
    refine R_s 4 (15, [(3, vI (nI j)), (2, vI ((drI o).2)), (1, vI ((drI o).1)), (0, vR 7 9)], [vI (h 0 0 0), vI (nI j)], h) rfl ?_
    refine R_top (nI n) C.1.1 ?_
    refine R_s 1 (16, [(3, vI (nI j)), (2, vI ((drI o).2)), (1, vI ((drI o).1)), (0, vR 7 9)], [vI (nI 1), vI (nI n), vI (nI j)], h) rfl ?_
    refine R_sub n 1 rfl hn1 ?_
    refine R_s 1 (cond (if2 .ge (nI j) (nI (n - 1))) 47 20, [(3, vI (nI j)), (2, vI ((drI o).2)), (1, vI ((drI o).1)), (0, vR 7 9)], [], h) rfl ?_
    refine R_bp ((n - 1) ≤ j) (i2_ge (by omega) (by omega)) (fun c1 => ?_) (fun c1 => ?_)
    · refine R_s 1 (48, [(3, vI (nI j)), (2, vI ((drI o).2)), (1, vI ((drI o).1)), (0, vR 7 9)], [vI ((drI o).1)], h) rfl ?_
      exact R_ret (some (vI ((drI o).1))) h rfl ⟨by unfold oDear; dsimp only; rw [← show j = n - 1 by omega, ho]; cases o <;> rfl, I⟩
    · obtain ⟨a, ha, ea⟩ := O.2.1 j (by omega)
      obtain ⟨b, hb, eb⟩ := O.2.1 (j + 1) (by omega)
      have hst := stq_ok (n := n) (p := p) (k := k) ea eb (show a < 8 by omega) (show b < 8 by omega)
      have hsl := stq_le F O (show j + 1 < n by omega)
      refine R_s 3 (25, [(3, vI (nI j)), (2, vI ((drI o).2)), (1, vI ((drI o).1)), (0, vR 7 9)], [vI (nI j), vR 0 0], h) rfl ?_
      refine R_calli mC_costAfter [vR 0 0, vI (nI j)] [] (nI (btw s (-1) p a b p)) h rfl (t_C_costAfter C F (by omega) (by omega) (by omega) ea eb) ?_
      refine R_top (nI (stq (s, n, p, k) j)) (by rw [hst]) ?_
      cases o with
      | none =>
        show R _ mS_dearestChangeover (28, [(3, vI (nI j)), (2, vI (-1)), (1, vI (-4)), (0, vR 7 9)], [vI (nI (stq (s, n, p, k) j))], h) _
        refine R_s 4 (cond (if2 .le (nI (stq (s, n, p, k) j)) (-1)) 41 36, [(4, vI (nI (stq (s, n, p, k) j))), (3, vI (nI j)), (2, vI (-1)), (1, vI (-4)), (0, vR 7 9)], [], h) rfl ?_
        refine R_bf (by unfold if2; exact decide_eq_false (fun q => m1_le (by omega) q)) ?_
        refine R_s 5 (44, [(3, vI (nI j + Int32.ofInt 1)), (1, vI (nI j)), (2, vI (nI (stq (s, n, p, k) j))), (4, vI (nI (stq (s, n, p, k) j))), (0, vR 7 9)], [], h) rfl ?_
        refine R_lv (lv' := [(3, vI (nI (j + 1))), (1, vI (nI j)), (2, vI (nI (stq (s, n, p, k) j))), (4, vI (nI (stq (s, n, p, k) j))), (0, vR 7 9)]) (by rw [show nI j + Int32.ofInt 1 = nI (j + 1) from nI_add _ _]) ?_
        refine R_s 1 (7, [(3, vI (nI (j + 1))), (1, vI (nI j)), (2, vI (nI (stq (s, n, p, k) j))), (4, vI (nI (stq (s, n, p, k) j))), (0, vR 7 9)], [], h) rfl ?_
        refine R_fg (lv' := [(3, vI (nI (j + 1))), (2, vI (nI (stq (s, n, p, k) j))), (1, vI (nI j)), (0, vR 7 9)]) [0, 2, 1, 4] rfl [3, 1, 2, 4, 0] rfl (by decide) ?_
        exact ih (j + 1) (some (stq (s, n, p, k) j, j)) (by omega) (by rw [drs, ho])
      | some q =>
        have hq := drs_le F O j (by omega) q ho
        show R _ mS_dearestChangeover (28, [(3, vI (nI j)), (2, vI (nI (q.1))), (1, vI (nI (q.2))), (0, vR 7 9)], [vI (nI (stq (s, n, p, k) j))], h) _
        refine R_s 4 (cond (if2 .le (nI (stq (s, n, p, k) j)) (nI (q.1))) 41 36, [(4, vI (nI (stq (s, n, p, k) j))), (3, vI (nI j)), (2, vI (nI (q.1))), (1, vI (nI (q.2))), (0, vR 7 9)], [], h) rfl ?_
        refine R_bp ((stq (s, n, p, k) j) ≤ (q.1)) (i2_le (by omega) (by omega)) (fun c2 => ?_) (fun c2 => ?_)
        · refine R_s 1 (44, [(3, vI (nI j + Int32.ofInt 1)), (4, vI (nI (stq (s, n, p, k) j))), (2, vI (nI (q.1))), (1, vI (nI (q.2))), (0, vR 7 9)], [], h) rfl ?_
          refine R_lv (lv' := [(3, vI (nI (j + 1))), (4, vI (nI (stq (s, n, p, k) j))), (2, vI (nI (q.1))), (1, vI (nI (q.2))), (0, vR 7 9)]) (by rw [show nI j + Int32.ofInt 1 = nI (j + 1) from nI_add _ _]) ?_
          refine R_s 1 (7, [(3, vI (nI (j + 1))), (4, vI (nI (stq (s, n, p, k) j))), (2, vI (nI (q.1))), (1, vI (nI (q.2))), (0, vR 7 9)], [], h) rfl ?_
          refine R_fg (lv' := [(3, vI (nI (j + 1))), (2, vI (nI (q.1))), (1, vI (nI (q.2))), (0, vR 7 9)]) [0, 2, 3, 4] rfl [3, 4, 2, 1, 0] rfl (by decide) ?_
          exact ih (j + 1) (some q) (by omega) (by rw [drs, ho]; dsimp only; rw [if_neg (by omega)])
        · refine R_s 5 (44, [(3, vI (nI j + Int32.ofInt 1)), (1, vI (nI j)), (2, vI (nI (stq (s, n, p, k) j))), (4, vI (nI (stq (s, n, p, k) j))), (0, vR 7 9)], [], h) rfl ?_
          refine R_lv (lv' := [(3, vI (nI (j + 1))), (1, vI (nI j)), (2, vI (nI (stq (s, n, p, k) j))), (4, vI (nI (stq (s, n, p, k) j))), (0, vR 7 9)]) (by rw [show nI j + Int32.ofInt 1 = nI (j + 1) from nI_add _ _]) ?_
          refine R_s 1 (7, [(3, vI (nI (j + 1))), (1, vI (nI j)), (2, vI (nI (stq (s, n, p, k) j))), (4, vI (nI (stq (s, n, p, k) j))), (0, vR 7 9)], [], h) rfl ?_
          refine R_fg (lv' := [(3, vI (nI (j + 1))), (2, vI (nI (stq (s, n, p, k) j))), (1, vI (nI j)), (0, vR 7 9)]) [0, 2, 1, 4] rfl [3, 1, 2, 4, 0] rfl (by decide) ?_
          exact ih (j + 1) (some (stq (s, n, p, k) j, j)) (by omega) (by rw [drs, ho]; dsimp only; rw [if_pos (by omega)])
