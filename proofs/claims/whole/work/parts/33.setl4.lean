theorem part_c {A : AS} {x y w t : Int32} (F : WF A.1.1 A.1.2.1 A.1.2.2.1 A.1.2.2.2) : ((inb x A.1.2.1 && inb y A.1.2.2.1 && inb w A.1.2.2.2 && inb t 6) = true ∧ ∃ a b c v, a < A.1.2.1 ∧ b < A.1.2.2.1 ∧ c < A.1.2.2.2 ∧ v < 6 ∧ x = nI a ∧ y = nI b ∧ w = nI c ∧ t = nI v) ∨ ((inb x A.1.2.1 && inb y A.1.2.2.1 && inb w A.1.2.2.2 && inb t 6) = false ∧ oSetPart A x y w t = (-1, A)) := by
  have h8 := F.2.1.1
  have h5 := F.2.1.2.1
  have h6 := F.2.1.2.2
  unfold oSetPart
  cases hx : inb x A.1.2.1 with
  | false => exact Or.inr ⟨rfl, by rw [sel1_f hx]⟩
  | true =>
    obtain ⟨a, ha, rfl⟩ := inb_ex (by omega) hx
    cases hy : inb y A.1.2.2.1 with
    | false => exact Or.inr ⟨rfl, by rw [sel1_t ha (by omega), sel1_f hy]⟩
    | true =>
      obtain ⟨b, hb, rfl⟩ := inb_ex (by omega) hy
      cases hw : inb w A.1.2.2.2 with
      | false => exact Or.inr ⟨rfl, by rw [sel1_t ha (by omega), sel1_t hb (by omega), sel1_f hw]⟩
      | true =>
        obtain ⟨c, hc, rfl⟩ := inb_ex (by omega) hw
        cases ht : inb t 6 with
        | false => exact Or.inr ⟨rfl, by rw [sel1_t ha (by omega), sel1_t hb (by omega), sel1_t hc (by omega), sel1_f ht]⟩
        | true =>
          obtain ⟨v, hv, rfl⟩ := inb_ex (by decide) ht
          exact Or.inl ⟨rfl, a, b, c, v, ha, hb, hc, hv, rfl, rfl, rfl, rfl⟩
theorem cn_part {s : Nat → Int32} {p a b c : Nat} {v : Int32} (hb : b < p) (h5 : p ≤ 5) : cn (upd (upd s (45 + 2 * (a * 5 + b)) (nI c)) (46 + 2 * (a * 5 + b)) v) a (nI c) p = oth s a (nI c) b p + 1 := by
  have o1 := oth_cn (upd (upd s (45 + 2 * (a * 5 + b)) (nI c)) (46 + 2 * (a * 5 + b)) v) a (nI c) b p
  rw [oth_congr (s := s) p (fun i _ hib => by rw [kd_part, if_neg (by omega)]), kd_part, if_pos rfl, if_pos ⟨hb, rfl⟩] at o1
  exact o1
set_option maxRecDepth 100000 in
theorem t_S_setPart {d : Nat} {h : HP} {A : AS} {x y w t : Int32} (V : VA A) (I : CI h A) : MT (d + 4) mS_setPart [vR 7 9, vI x, vI y, vI w, vI t] h (fun r h' => r = some (vI (oSetPart A x y w t).1) ∧ CI h' (oSetPart A x y w t).2) := by
  obtain ⟨⟨s, n, p, k⟩, kp, ch, len⟩ := A
  have C : CO h 0 s n p k := I.1
  have F : WF s n p k := V.1.1
  have O : WO s n := V.1.2.1.1
  have hn1 : 1 ≤ n := V.1.2.2.1
  have hp1 : 1 ≤ p := V.1.2.2.2.1
  have hk1 : 1 ≤ k := V.1.2.2.2.2
  have h8 : n ≤ 8 := F.2.1.1
  have h5 : p ≤ 5 := F.2.1.2.1
  have h6 : k ≤ 6 := F.2.1.2.2
  refine R_s 6 (9, [(0, vR 7 9), (1, vI x), (2, vI y), (3, vI w), (4, vI t)], [vI t, vI w, vI y, vI x, vR 0 0], h) rfl ?_
  refine R_calli mC_isPart [vR 0 0, vI x, vI y, vI w, vI t] [] (bI (inb x n && inb y p && inb w k && inb t 6)) h rfl (t_C_isPart C.1.1 C.1.2.1 C.1.2.2.1 h8 h5 h6) ?_
  rcases part_c (A := ((s, n, p, k), kp, ch, len)) (x := x) (y := y) (w := w) (t := t) F with ⟨e2, a, b, c, v, ha, hb, hc, hv, rfl, rfl, rfl, rfl⟩ | ⟨e2, hf⟩
  · have ha : a < n := ha
    have hb : b < p := hb
    have hc : c < k := hc
    dsimp only at e2
    rw [e2]
    show R _ mS_setPart (12, [(0, vR 7 9), (1, vI (nI a)), (2, vI (nI b)), (3, vI (nI c)), (4, vI (nI v))], [vI (nI 1)], h) _
    refine R_s 1 (cond (if0 .ne (nI 1)) 17 15, [(0, vR 7 9), (1, vI (nI a)), (2, vI (nI b)), (3, vI (nI c)), (4, vI (nI v))], [], h) rfl ?_
    refine R_bt rfl ?_
    obtain ⟨u, hu, hu6⟩ := F.2.2.2.2.1 c hc
    have hmp := may_part F ha hb hc hu hu6
    have hun : (s (33 + c)).toNatClampNeg = u := by rw [hu, nI_cl (by omega)]
    have hsp : oSetPart ((s, n, p, k), kp, ch, len) (nI a) (nI b) (nI c) (nI v) = if oth s a (nI c) b p < u then (nI (oth s a (nI c) b p + 1), ed ((s, n, p, k), kp, ch, len) (upd (upd s (45 + 2 * (a * 5 + b)) (nI c)) (46 + 2 * (a * 5 + b)) (nI v), n, p, k)) else (-2, ((s, n, p, k), kp, ch, len)) := by unfold oSetPart; dsimp only; rw [sel1_t ha (by omega), sel1_t hb (by omega), sel1_t hc (by omega), sel1_t hv (by omega), hun]
    refine R_s 5 (24, [(0, vR 7 9), (1, vI (nI a)), (2, vI (nI b)), (3, vI (nI c)), (4, vI (nI v))], [vI (nI c), vI (nI b), vI (nI a), vR 0 0], h) rfl ?_
    refine R_calli mC_hasUnitFor [vR 0 0, vI (nI a), vI (nI b), vI (nI c)] [] (bI (decide (kd s a b = nI c) || decide (cn s a (nI c) p < u))) h rfl (t_C_hasUnitFor C h5 h6 (by omega) (by omega) hc hu hu6) ?_
    refine R_s 1 (cond (if0 .ne (bI (decide (kd s a b = nI c) || decide (cn s a (nI c) p < u)))) 33 30, [(0, vR 7 9), (1, vI (nI a)), (2, vI (nI b)), (3, vI (nI c)), (4, vI (nI v))], [], h) rfl ?_
    refine R_bp ((decide (kd s a b = nI c) || decide (cn s a (nI c) p < u)) = true) (x0_ne.trans bI_ne) (fun c1 => ?_) (fun c1 => ?_)
    · have q5 : oth s a (nI c) b p < u := hmp.mp (by simpa using c1)
      rw [hsp, if_pos q5]
      refine R_s 1 (34, [(0, vR 7 9), (1, vI (nI a)), (2, vI (nI b)), (3, vI (nI c)), (4, vI (nI v))], [vR 7 9], h) rfl ?_
      refine R_call mS_beginEdit [vR 7 9] [] rfl (t_S_beginEdit V I) (fun r h1 e1 => ?_)
      obtain ⟨rfl, I1, f1, k1⟩ := e1
      have C1 : CO h1 0 s n p k := I1.1
      show R _ mS_setPart (37, [(0, vR 7 9), (1, vI (nI a)), (2, vI (nI b)), (3, vI (nI c)), (4, vI (nI v))], [], h1) _
      refine R_s 6 (46, [(0, vR 7 9), (1, vI (nI a)), (2, vI (nI b)), (3, vI (nI c)), (4, vI (nI v))], [vI (nI v), vI (nI c), vI (nI b), vI (nI a), vR 0 0], h1) rfl ?_
      refine R_callv mC_givePart [vR 0 0, vI (nI a), vI (nI b), vI (nI c), vI (nI v)] [] (hset (hset h1 0 5 (a * 5 + b) (nI c)) 0 6 (a * 5 + b) (nI v)) rfl (t_C_givePart (by omega) (by omega)) ?_
      refine R_hp (fun h2 eh2 => ?_)
      have C2 : CO h2 0 (upd (upd s (45 + 2 * (a * 5 + b)) (nI c)) (46 + 2 * (a * 5 + b)) (nI v)) n p k := by rw [eh2]; exact co_part h8 h5 h6 (by omega) C1
      refine R_s 4 (55, [(0, vR 7 9), (1, vI (nI a)), (2, vI (nI b)), (3, vI (nI c)), (4, vI (nI v))], [vI (nI c), vI (nI a), vR 0 0], h2) rfl ?_
      refine R_calli mC_playersOn [vR 0 0, vI (nI a), vI (nI c)] [] (nI (cn (upd (upd s (45 + 2 * (a * 5 + b)) (nI c)) (46 + 2 * (a * 5 + b)) (nI v)) a (nI c) p)) h2 rfl (t_C_playersOn C2 h5 (by omega)) ?_
      refine R_top (nI (oth s a (nI c) b p + 1)) (by rw [cn_part hb h5]) ?_
      exact R_ret (some (vI (nI (oth s a (nI c) b p + 1)))) h2 rfl ⟨rfl, I1.mod f1 C2 (fun g' j' q => by rw [eh2, hs_ne (by omega), hs_ne (by omega)])⟩
    · have q5 : ¬ oth s a (nI c) b p < u := fun q => c1 (by simpa using hmp.mpr q)
      rw [hsp, if_neg q5]
      refine R_s 1 (32, [(0, vR 7 9), (1, vI (nI a)), (2, vI (nI b)), (3, vI (nI c)), (4, vI (nI v))], [vI (-2)], h) rfl ?_
      exact R_ret (some (vI (-2))) h rfl ⟨rfl, I⟩
  · dsimp only at e2
    rw [hf, e2]
    show R _ mS_setPart (12, [(0, vR 7 9), (1, vI x), (2, vI y), (3, vI w), (4, vI t)], [vI (nI 0)], h) _
    refine R_s 1 (cond (if0 .ne (nI 0)) 17 15, [(0, vR 7 9), (1, vI x), (2, vI y), (3, vI w), (4, vI t)], [], h) rfl ?_
    refine R_bf rfl ?_
    refine R_s 1 (16, [(0, vR 7 9), (1, vI x), (2, vI y), (3, vI w), (4, vI t)], [vI (-1)], h) rfl ?_
    exact R_ret (some (vI (-1))) h rfl ⟨rfl, I⟩
theorem oRem_f {A : AS} {x y : Int32} (q : inb x A.1.2.1 = false ∨ inb y A.1.2.2.1 = false) : oRemove A x y = (-1, A) := by
  unfold oRemove
  rcases q with q | q
  · rw [sel1_f q]
  · unfold sel1
    rw [q]
    cases inb x A.1.2.1 <;> rfl
set_option maxRecDepth 100000 in
theorem t_S_removePart {d : Nat} {h : HP} {A : AS} {x y : Int32} (V : VA A) (I : CI h A) : MT (d + 4) mS_removePart [vR 7 9, vI x, vI y] h (fun r h' => r = some (vI (oRemove A x y).1) ∧ CI h' (oRemove A x y).2) := by
  obtain ⟨⟨s, n, p, k⟩, kp, ch, len⟩ := A
  have C : CO h 0 s n p k := I.1
  have F : WF s n p k := V.1.1
  have O : WO s n := V.1.2.1.1
  have hn1 : 1 ≤ n := V.1.2.2.1
  have hp1 : 1 ≤ p := V.1.2.2.2.1
  have hk1 : 1 ≤ k := V.1.2.2.2.2
  have h8 : n ≤ 8 := F.2.1.1
  have h5 : p ≤ 5 := F.2.1.2.1
  have h6 : k ≤ 6 := F.2.1.2.2
  refine R_s 3 (3, [(0, vR 7 9), (1, vI x), (2, vI y)], [vI y, vI x, vR 7 9], h) rfl ?_
  refine R_call mS_kindOf [vR 7 9, vI x, vI y] [] rfl (t_S_kindOf V I) (fun r h0 e0 => ?_)
  obtain ⟨rfl, I0⟩ := e0
  clear I
  have I := I0
  have C : CO h0 0 s n p k := I.1
  rcases oKind_c (z := (s, n, p, k)) (kp := kp) (ch := ch) (len := len) (x := x) (y := y) F with ⟨e, q⟩ | ⟨a, b, ha, hb, rfl, rfl, ⟨q, e⟩ | ⟨c, hc, ec, e⟩⟩
  · rw [e]
    show R _ mS_removePart (6, [(0, vR 7 9), (1, vI x), (2, vI y)], [vI (-1)], h0) _
    refine R_s 3 (cond (if0 .ge (-1)) 13 11, [(3, vI (-1)), (0, vR 7 9), (1, vI x), (2, vI y)], [], h0) rfl ?_
    refine R_bf (by decide) ?_
    refine R_s 1 (12, [(3, vI (-1)), (0, vR 7 9), (1, vI x), (2, vI y)], [vI (-1)], h0) rfl ?_
    exact R_ret (some (vI (-1))) h0 rfl ⟨by rw [oRem_f q], by rw [oRem_f q]; exact I⟩
  · rw [e]
    have ha : a < n := ha
    have hb : b < p := hb
    show R _ mS_removePart (6, [(0, vR 7 9), (1, vI (nI a)), (2, vI (nI b))], [vI (-4)], h0) _
    refine R_s 3 (cond (if0 .ge (-4)) 13 11, [(3, vI (-4)), (0, vR 7 9), (1, vI (nI a)), (2, vI (nI b))], [], h0) rfl ?_
    refine R_bf (by decide) ?_
    refine R_s 1 (12, [(3, vI (-4)), (0, vR 7 9), (1, vI (nI a)), (2, vI (nI b))], [vI (-4)], h0) rfl ?_
    exact R_ret (some (vI (-4))) h0 rfl ⟨by unfold oRemove; dsimp only; rw [sel1_t ha (by omega), sel1_t hb (by omega), if_pos q], by unfold oRemove; dsimp only; rw [sel1_t ha (by omega), sel1_t hb (by omega), if_pos q]; exact I⟩
  · rw [e]
    have ha : a < n := ha
    have hb : b < p := hb
    show R _ mS_removePart (6, [(0, vR 7 9), (1, vI (nI a)), (2, vI (nI b))], [vI (nI c)], h0) _
    have hc : c < k := hc
    have ec : kd s a b = nI c := ec
    have hk : ¬ kd s a b = -1 := by rw [ec]; exact nI_ne_m1 (by omega)
    rw [show oRemove ((s, n, p, k), kp, ch, len) (nI a) (nI b) = (nI c, ed ((s, n, p, k), kp, ch, len) (upd s (45 + 2 * (a * 5 + b)) (-1), n, p, k)) by unfold oRemove; dsimp only; rw [sel1_t ha (by omega), sel1_t hb (by omega), if_neg hk, ec]]
    refine R_s 3 (cond (if0 .ge (nI c)) 13 11, [(3, vI (nI c)), (0, vR 7 9), (1, vI (nI a)), (2, vI (nI b))], [], h0) rfl ?_
    refine R_bt (by unfold if0; exact decide_eq_true (nI_pos' (by omega))) ?_
    refine R_s 1 (14, [(3, vI (nI c)), (0, vR 7 9), (1, vI (nI a)), (2, vI (nI b))], [vR 7 9], h0) rfl ?_
    refine R_call mS_beginEdit [vR 7 9] [] rfl (t_S_beginEdit V I) (fun r h1 e1 => ?_)
    obtain ⟨rfl, I1, f1, k1⟩ := e1
    have C1 : CO h1 0 s n p k := I1.1
    show R _ mS_removePart (17, [(3, vI (nI c)), (0, vR 7 9), (1, vI (nI a)), (2, vI (nI b))], [], h1) _
    refine R_s 6 (25, [(3, vI (nI c)), (0, vR 7 9), (1, vI (nI a)), (2, vI (nI b))], [vI (nI 0), vI (-1), vI (nI b), vI (nI a), vR 0 0], h1) rfl ?_
    refine R_callv mC_givePart [vR 0 0, vI (nI a), vI (nI b), vI (-1), vI (nI 0)] [] (hset (hset h1 0 5 (a * 5 + b) (-1)) 0 6 (a * 5 + b) (nI 0)) rfl (t_C_givePart (by omega) (by omega)) ?_
    refine R_hp (fun h2 eh2 => ?_)
    refine R_s 1 (29, [(3, vI (nI c)), (0, vR 7 9), (1, vI (nI a)), (2, vI (nI b))], [vI (nI c)], h2) rfl ?_
    exact R_ret (some (vI (nI c))) h2 rfl ⟨rfl, I1.mod f1 (by rw [eh2]; exact co_unpart h8 h5 h6 (by omega) C1) (fun g' j' q => by rw [eh2, hs_ne (by omega), hs_ne (by omega)])⟩
set_option maxRecDepth 100000 in
theorem t_S_setUnits {d : Nat} {h : HP} {A : AS} {x y : Int32} (V : VA A) (I : CI h A) : MT (d + 4) mS_setUnits [vR 7 9, vI x, vI y] h (fun r h' => r = some (vI (oUnits A x y).1) ∧ CI h' (oUnits A x y).2) := by
  obtain ⟨⟨s, n, p, k⟩, kp, ch, len⟩ := A
  have C : CO h 0 s n p k := I.1
  have F : WF s n p k := V.1.1
  have O : WO s n := V.1.2.1.1
  have hn1 : 1 ≤ n := V.1.2.2.1
  have hp1 : 1 ≤ p := V.1.2.2.2.1
  have hk1 : 1 ≤ k := V.1.2.2.2.2
  have h8 : n ≤ 8 := F.2.1.1
  have h5 : p ≤ 5 := F.2.1.2.1
  have h6 : k ≤ 6 := F.2.1.2.2
  refine R_s 3 (5, [(0, vR 7 9), (1, vI x), (2, vI y)], [vI x, vR 0 0], h) rfl ?_
  refine R_calli mC_isKind [vR 0 0, vI x] [] (bI (inb x k)) h rfl (t_C_isKind C.1.2.2.1 (by omega)) ?_
  refine R_s 1 (cond (if0 .eq (bI (inb x k))) 21 11, [(0, vR 7 9), (1, vI x), (2, vI y)], [], h) rfl ?_
  refine R_bp (inb x k = false) (x0_eq.trans bI_eq) (fun ca => ?_) (fun ca => ?_)
  · refine R_s 1 (22, [(0, vR 7 9), (1, vI x), (2, vI y)], [vI (-1)], h) rfl ?_
    exact R_ret (some (vI (-1))) h rfl ⟨by unfold oUnits; dsimp only; rw [sel1_f ca], by unfold oUnits; dsimp only; rw [sel1_f ca]; exact I⟩
  · obtain ⟨a, ha, rfl⟩ := inb_ex (by omega) (tf ca)
    cases hy : inb y 6 with
    | false =>
      rw [show oUnits ((s, n, p, k), kp, ch, len) (nI a) y = (-1, ((s, n, p, k), kp, ch, len)) by unfold oUnits; dsimp only; rw [sel1_t ha (by omega), sel1_f hy]]
      refine R_s 3 (cond (if2 .lt y (nI 1)) 21 16, [(0, vR 7 9), (1, vI (nI a)), (2, vI y)], [], h) rfl ?_
      refine R_bp (y < (nI 1)) x2_lt (fun c1 => ?_) (fun c1 => ?_)
      · refine R_s 1 (22, [(0, vR 7 9), (1, vI (nI a)), (2, vI y)], [vI (-1)], h) rfl ?_
        exact R_ret (some (vI (-1))) h rfl ⟨rfl, I⟩
      · refine R_s 3 (cond (if2 .le y (nI 5)) 23 21, [(0, vR 7 9), (1, vI (nI a)), (2, vI y)], [], h) rfl ?_
        refine R_bp (y ≤ (nI 5)) x2_le (fun c2 => ?_) (fun c2 => ?_)
        · rw [inb_of (a := 1) (m := 5) rfl (by decide) c1 c2 (by decide)] at hy
          cases hy
        · refine R_s 1 (22, [(0, vR 7 9), (1, vI (nI a)), (2, vI y)], [vI (-1)], h) rfl ?_
          exact R_ret (some (vI (-1))) h rfl ⟨rfl, I⟩
    | true =>
      obtain ⟨u, hu, rfl⟩ := inb_ex (by decide) hy
      rw [show oUnits ((s, n, p, k), kp, ch, len) (nI a) (nI u) = if u < 1 then (-1, ((s, n, p, k), kp, ch, len)) else if u < mx s (nI a) p n then (-2, ((s, n, p, k), kp, ch, len)) else (s (33 + a), ed ((s, n, p, k), kp, ch, len) (upd s (33 + a) (nI u), n, p, k)) by unfold oUnits; dsimp only; rw [sel1_t ha (by omega), sel1_t hu (by omega)]]
      have hmx := mx_le s (nI a) p n
      refine R_s 3 (cond (if2 .lt (nI u) (nI 1)) 21 16, [(0, vR 7 9), (1, vI (nI a)), (2, vI (nI u))], [], h) rfl ?_
      refine R_bp (u < 1) (i2_lt (by omega) (by omega)) (fun c1 => ?_) (fun c1 => ?_)
      · refine R_s 1 (22, [(0, vR 7 9), (1, vI (nI a)), (2, vI (nI u))], [vI (-1)], h) rfl ?_
        exact R_ret (some (vI (-1))) h rfl ⟨by rw [if_pos c1], by rw [if_pos c1]; exact I⟩
      · rw [if_neg c1]
        refine R_s 3 (cond (if2 .le (nI u) (nI 5)) 23 21, [(0, vR 7 9), (1, vI (nI a)), (2, vI (nI u))], [], h) rfl ?_
        refine R_bt ((i2_le (by omega) (by omega)).mpr (by omega)) ?_
        refine R_s 3 (28, [(0, vR 7 9), (1, vI (nI a)), (2, vI (nI u))], [vI (nI a), vR 0 0], h) rfl ?_
        refine R_calli mC_mostPlayersOn [vR 0 0, vI (nI a)] [] (nI (mx s (nI a) p n)) h rfl (t_C_mostPlayersOn C h8 h5) ?_
        refine R_s 2 (cond (if2 .le (nI (mx s (nI a) p n)) (nI u)) 38 35, [(0, vR 7 9), (1, vI (nI a)), (2, vI (nI u))], [], h) rfl ?_
        refine R_bp ((mx s (nI a) p n) ≤ u) (i2_le (by omega) (by omega)) (fun c2 => ?_) (fun c2 => ?_)
        · rw [if_neg (by omega)]
          refine R_s 4 (46, [(0, vR 7 9), (1, vI (nI a)), (2, vI (nI u))], [vI (nI a), vR 0 3], h) rfl ?_
          refine R_ld 0 3 a 6 rfl rfl (by omega) (by decide) ?_
          refine R_top (s (33 + a)) (C.2.2.2.1 a ha).1 ?_
          refine R_s 2 (49, [(3, vI (s (33 + a))), (0, vR 7 9), (1, vI (nI a)), (2, vI (nI u))], [vR 7 9], h) rfl ?_
          refine R_call mS_beginEdit [vR 7 9] [] rfl (t_S_beginEdit V I) (fun r h1 e1 => ?_)
          obtain ⟨rfl, I1, f1, k1⟩ := e1
          have C1 : CO h1 0 s n p k := I1.1
          show R _ mS_setUnits (52, [(3, vI (s (33 + a))), (0, vR 7 9), (1, vI (nI a)), (2, vI (nI u))], [], h1) _
          refine R_s 5 (61, [(3, vI (s (33 + a))), (0, vR 7 9), (1, vI (nI a)), (2, vI (nI u))], [vI (nI u), vI (nI a), vR 0 3], h1) rfl ?_
          refine R_st 0 3 a 6 (nI u) rfl rfl (by omega) (by decide) (fun h2 eh2 => ?_)
          refine R_s 1 (63, [(3, vI (s (33 + a))), (0, vR 7 9), (1, vI (nI a)), (2, vI (nI u))], [vI (s (33 + a))], h2) rfl ?_
          exact R_ret (some (vI (s (33 + a)))) h2 rfl ⟨rfl, I1.mod f1 (by rw [eh2]; exact co_unit h8 h5 h6 (by omega) C1) (fun g' j' q => by rw [eh2, hs_ne (by omega)])⟩
        · refine R_s 1 (37, [(0, vR 7 9), (1, vI (nI a)), (2, vI (nI u))], [vI (-2)], h) rfl ?_
          exact R_ret (some (vI (-2))) h rfl ⟨by rw [if_pos (by omega)], by rw [if_pos (by omega)]; exact I⟩
theorem spn_c {s : Nat → Int32} {y : Int32} : ∀ m a, (spn s y m a = -1 ∧ ∀ b, a ≤ b → b < a + m → ¬ s (10 + b) = y) ∨ (∃ b, a ≤ b ∧ b < a + m ∧ spn s y m a = nI b ∧ s (10 + b) = y) := by
  intro m
  induction m with
  | zero => intro a; exact Or.inl ⟨rfl, fun b h1 h2 => by omega⟩
  | succ m ih =>
    intro a
    by_cases e : s (10 + a) = y
    · exact Or.inr ⟨a, Nat.le_refl _, by omega, by unfold spn; rw [if_pos e], e⟩
    · have e2 : spn s y (m + 1) a = spn s y m (a + 1) := by rw [spn, if_neg e]
      rw [e2]
      rcases ih (a + 1) with ⟨h1, h2⟩ | ⟨b, h1, h2, h3, h4⟩
      · refine Or.inl ⟨h1, fun b q1 q2 => ?_⟩
        by_cases z : b = a
        · rw [z]; exact e
        · exact h2 b (by omega) (by omega)
      · exact Or.inr ⟨b, by omega, by omega, h3, h4⟩
theorem pbo_f {s : Nat → Int32} {a : Nat} {y : Int32} : ∀ n, (∀ b, b < n → ¬ b = a → ¬ s (10 + b) = y) → pbo s a y n = false := by
  intro n
  induction n with
  | zero => intro _; rfl
  | succ n ih =>
    intro h
    show (pbo s a y n || (!(decide (n = a)) && decide (s (10 + n) = y))) = false
    rw [ih (fun b hb => h b (by omega))]
    by_cases e : n = a
    · rw [decide_eq_true e]; rfl
    · rw [decide_eq_false (h n (by omega) e), Bool.and_false]; rfl
theorem pbo_t {s : Nat → Int32} {a b : Nat} {y : Int32} : ∀ n, b < n → ¬ b = a → s (10 + b) = y → pbo s a y n = true := by
  intro n
  induction n with
  | zero => intro h; omega
  | succ n ih =>
    intro h1 h2 h3
    show (pbo s a y n || (!(decide (n = a)) && decide (s (10 + n) = y))) = true
    by_cases e : b = n
    · subst e
      rw [decide_eq_true h3, decide_eq_false h2, Bool.not_false, Bool.and_true, Bool.or_true]
    · rw [ih (by omega) h2 h3, Bool.true_or]
set_option maxRecDepth 100000 in
theorem t_S_pin {d : Nat} {h : HP} {A : AS} {x y : Int32} (V : VA A) (I : CI h A) : MT (d + 4) mS_pin [vR 7 9, vI x, vI y] h (fun r h' => r = some (vI (oPin A x y).1) ∧ CI h' (oPin A x y).2) := by
  obtain ⟨⟨s, n, p, k⟩, kp, ch, len⟩ := A
  have C : CO h 0 s n p k := I.1
  have F : WF s n p k := V.1.1
  have O : WO s n := V.1.2.1.1
  have hn1 : 1 ≤ n := V.1.2.2.1
  have hp1 : 1 ≤ p := V.1.2.2.2.1
  have hk1 : 1 ≤ k := V.1.2.2.2.2
  have h8 : n ≤ 8 := F.2.1.1
  have h5 : p ≤ 5 := F.2.1.2.1
  have h6 : k ≤ 6 := F.2.1.2.2
  have U : WU s n := V.1.2.1.2
  refine R_s 3 (5, [(0, vR 7 9), (1, vI x), (2, vI y)], [vI x, vR 0 0], h) rfl ?_
  refine R_calli mC_isSong [vR 0 0, vI x] [] (bI (inb x n)) h rfl (t_C_isSong C.1.1 h8) ?_
  refine R_s 1 (cond (if0 .eq (bI (inb x n))) 22 11, [(0, vR 7 9), (1, vI x), (2, vI y)], [], h) rfl ?_
  refine R_bp (inb x n = false) (x0_eq.trans bI_eq) (fun ca => ?_) (fun ca => ?_)
  · refine R_s 1 (23, [(0, vR 7 9), (1, vI x), (2, vI y)], [vI (-1)], h) rfl ?_
    exact R_ret (some (vI (-1))) h rfl ⟨by unfold oPin; dsimp only; rw [sel1_f ca], by unfold oPin; dsimp only; rw [sel1_f ca]; exact I⟩
  · obtain ⟨a, ha, rfl⟩ := inb_ex (by omega) (tf ca)
    refine R_s 3 (16, [(0, vR 7 9), (1, vI (nI a)), (2, vI y)], [vI y, vR 0 0], h) rfl ?_
    refine R_calli mC_isSong [vR 0 0, vI y] [] (bI (inb y n)) h rfl (t_C_isSong C.1.1 h8) ?_
    refine R_s 1 (cond (if0 .ne (bI (inb y n))) 24 22, [(0, vR 7 9), (1, vI (nI a)), (2, vI y)], [], h) rfl ?_
    refine R_bp (inb y n = true) (x0_ne.trans bI_ne) (fun cb => ?_) (fun cb => ?_)
    · obtain ⟨b, hb, rfl⟩ := inb_ex (by omega) cb
      rw [show oPin ((s, n, p, k), kp, ch, len) (nI a) (nI b) = if pbo s a (nI b) n = true then (-2, ((s, n, p, k), kp, ch, len)) else (nI (pinc (upd s (10 + a) (nI b)) n), ed ((s, n, p, k), kp, ch, len) (upd s (10 + a) (nI b), n, p, k)) by unfold oPin; dsimp only; rw [sel1_t ha (by omega), sel1_t hb (by omega)]]
      refine R_s 3 (29, [(0, vR 7 9), (1, vI (nI a)), (2, vI (nI b))], [vI (nI b), vR 0 0], h) rfl ?_
      refine R_calli mC_songPinnedAt [vR 0 0, vI (nI b)] [] (spn s (nI b) n 0) h rfl (t_C_songPinnedAt C h8) ?_
      rcases spn_c (s := s) (y := nI b) n 0 with ⟨e1, e2⟩ | ⟨c, e1, e2, e3, e4⟩
      · rw [e1]
        rw [if_neg (by rw [pbo_f n (fun b9 q1 _ => e2 b9 (by omega) (by omega))]; decide)]
        show R _ mS_pin (32, [(0, vR 7 9), (1, vI (nI a)), (2, vI (nI b))], [vI (-1)], h) _
        refine R_s 4 (cond (if2 .eq (-1) (-1)) 46 38, [(3, vI (-1)), (0, vR 7 9), (1, vI (nI a)), (2, vI (nI b))], [], h) rfl ?_
        refine R_bt (by decide) ?_
        refine R_s 1 (47, [(3, vI (-1)), (0, vR 7 9), (1, vI (nI a)), (2, vI (nI b))], [vR 7 9], h) rfl ?_
        refine R_call mS_beginEdit [vR 7 9] [] rfl (t_S_beginEdit V I) (fun r h1 e1 => ?_)
        obtain ⟨rfl, I1, f1, k1⟩ := e1
        have C1 : CO h1 0 s n p k := I1.1
        show R _ mS_pin (50, [(3, vI (-1)), (0, vR 7 9), (1, vI (nI a)), (2, vI (nI b))], [], h1) _
        refine R_s 5 (59, [(3, vI (-1)), (0, vR 7 9), (1, vI (nI a)), (2, vI (nI b))], [vI (nI b), vI (nI a), vR 0 7], h1) rfl ?_
        refine R_st 0 7 a 8 (nI b) rfl rfl (by omega) (by decide) (fun h2 eh2 => ?_)
        have C2 : CO h2 0 (upd s (10 + a) (nI b)) n p k := by rw [eh2]; exact co_pin h8 h5 h6 (by omega) C1
        refine R_s 2 (64, [(3, vI (-1)), (0, vR 7 9), (1, vI (nI a)), (2, vI (nI b))], [vR 0 0], h2) rfl ?_
        refine R_calli mC_pinCount [vR 0 0] [] (nI (pinc (upd s (10 + a) (nI b)) n)) h2 rfl (t_C_pinCount C2 h8) ?_
        exact R_ret (some (vI (nI (pinc (upd s (10 + a) (nI b)) n)))) h2 rfl ⟨rfl, I1.mod f1 C2 (fun g' j' q => by rw [eh2, hs_ne (by omega)])⟩
      · rw [e3]
        show R _ mS_pin (32, [(0, vR 7 9), (1, vI (nI a)), (2, vI (nI b))], [vI (nI c)], h) _
        refine R_s 4 (cond (if2 .eq (nI c) (-1)) 46 38, [(3, vI (nI c)), (0, vR 7 9), (1, vI (nI a)), (2, vI (nI b))], [], h) rfl ?_
        refine R_bf (e2_m1 (by omega)) ?_
        refine R_s 3 (cond (if2 .eq (nI c) (nI a)) 46 43, [(3, vI (nI c)), (0, vR 7 9), (1, vI (nI a)), (2, vI (nI b))], [], h) rfl ?_
        refine R_bp (c = a) (i2_eq (by omega) (by omega)) (fun c1 => ?_) (fun c1 => ?_)
        · rw [if_neg (by rw [pbo_f n (fun b9 q1 q2 q3 => q2 (by rw [← c1]; exact U b9 c q1 (by omega) (by rw [q3, e4]) (by rw [q3]; exact nI_ne_m1 (by omega))))]; decide)]
          refine R_s 1 (47, [(3, vI (nI c)), (0, vR 7 9), (1, vI (nI a)), (2, vI (nI b))], [vR 7 9], h) rfl ?_
          refine R_call mS_beginEdit [vR 7 9] [] rfl (t_S_beginEdit V I) (fun r h1 e1 => ?_)
          obtain ⟨rfl, I1, f1, k1⟩ := e1
          have C1 : CO h1 0 s n p k := I1.1
          show R _ mS_pin (50, [(3, vI (nI c)), (0, vR 7 9), (1, vI (nI a)), (2, vI (nI b))], [], h1) _
          refine R_s 5 (59, [(3, vI (nI c)), (0, vR 7 9), (1, vI (nI a)), (2, vI (nI b))], [vI (nI b), vI (nI a), vR 0 7], h1) rfl ?_
          refine R_st 0 7 a 8 (nI b) rfl rfl (by omega) (by decide) (fun h2 eh2 => ?_)
          have C2 : CO h2 0 (upd s (10 + a) (nI b)) n p k := by rw [eh2]; exact co_pin h8 h5 h6 (by omega) C1
          refine R_s 2 (64, [(3, vI (nI c)), (0, vR 7 9), (1, vI (nI a)), (2, vI (nI b))], [vR 0 0], h2) rfl ?_
          refine R_calli mC_pinCount [vR 0 0] [] (nI (pinc (upd s (10 + a) (nI b)) n)) h2 rfl (t_C_pinCount C2 h8) ?_
          exact R_ret (some (vI (nI (pinc (upd s (10 + a) (nI b)) n)))) h2 rfl ⟨rfl, I1.mod f1 C2 (fun g' j' q => by rw [eh2, hs_ne (by omega)])⟩
        · rw [if_pos (pbo_t n (show c < n by omega) c1 e4)]
          refine R_s 1 (45, [(3, vI (nI c)), (0, vR 7 9), (1, vI (nI a)), (2, vI (nI b))], [vI (-2)], h) rfl ?_
          exact R_ret (some (vI (-2))) h rfl ⟨rfl, I⟩
    · have cb : inb y n = false := by cases q9 : inb y n with
        | false => rfl
        | true => exact absurd q9 cb
      refine R_s 1 (23, [(0, vR 7 9), (1, vI (nI a)), (2, vI y)], [vI (-1)], h) rfl ?_
      exact R_ret (some (vI (-1))) h rfl ⟨by unfold oPin; dsimp only; rw [sel1_t ha (by omega), sel1_f cb], by unfold oPin; dsimp only; rw [sel1_t ha (by omega), sel1_f cb]; exact I⟩
set_option maxRecDepth 100000 in
theorem t_S_unpin {d : Nat} {h : HP} {A : AS} {x : Int32} (V : VA A) (I : CI h A) : MT (d + 4) mS_unpin [vR 7 9, vI x] h (fun r h' => r = some (vI (oUnpin A x).1) ∧ CI h' (oUnpin A x).2) := by
  obtain ⟨⟨s, n, p, k⟩, kp, ch, len⟩ := A
  have C : CO h 0 s n p k := I.1
  have F : WF s n p k := V.1.1
  have O : WO s n := V.1.2.1.1
  have hn1 : 1 ≤ n := V.1.2.2.1
  have hp1 : 1 ≤ p := V.1.2.2.2.1
  have hk1 : 1 ≤ k := V.1.2.2.2.2
  have h8 : n ≤ 8 := F.2.1.1
  have h5 : p ≤ 5 := F.2.1.2.1
  have h6 : k ≤ 6 := F.2.1.2.2
  refine R_s 3 (5, [(0, vR 7 9), (1, vI x)], [vI x, vR 0 0], h) rfl ?_
  refine R_calli mC_isSong [vR 0 0, vI x] [] (bI (inb x n)) h rfl (t_C_isSong C.1.1 h8) ?_
  refine R_s 1 (cond (if0 .ne (bI (inb x n))) 13 11, [(0, vR 7 9), (1, vI x)], [], h) rfl ?_
  refine R_bp (inb x n = true) (x0_ne.trans bI_ne) (fun ca => ?_) (fun ca => ?_)
  · obtain ⟨a, ha, rfl⟩ := inb_ex (by omega) ca
    rw [show oUnpin ((s, n, p, k), kp, ch, len) (nI a) = if s (10 + a) = -1 then (-4, ((s, n, p, k), kp, ch, len)) else (s (10 + a), ed ((s, n, p, k), kp, ch, len) (upd s (10 + a) (-1), n, p, k)) by unfold oUnpin; dsimp only; rw [sel1_t ha (by omega)]]
    refine R_s 4 (21, [(0, vR 7 9), (1, vI (nI a))], [vI (nI a), vR 0 7], h) rfl ?_
    refine R_ld 0 7 a 8 rfl rfl (by omega) (by decide) ?_
    refine R_top (s (10 + a)) (C.2.2.2.2.2.2 a (by omega)).1 ?_
    refine R_s 4 (cond (if2 .ne (s (10 + a)) (-1)) 31 28, [(2, vI (s (10 + a))), (0, vR 7 9), (1, vI (nI a))], [], h) rfl ?_
    refine R_bp (¬ (s (10 + a)) = (-1)) x2_ne (fun c1 => ?_) (fun c1 => ?_)
    · rw [if_neg c1]
      refine R_s 1 (32, [(2, vI (s (10 + a))), (0, vR 7 9), (1, vI (nI a))], [vR 7 9], h) rfl ?_
      refine R_call mS_beginEdit [vR 7 9] [] rfl (t_S_beginEdit V I) (fun r h1 e1 => ?_)
      obtain ⟨rfl, I1, f1, k1⟩ := e1
      have C1 : CO h1 0 s n p k := I1.1
      show R _ mS_unpin (35, [(2, vI (s (10 + a))), (0, vR 7 9), (1, vI (nI a))], [], h1) _
      refine R_s 5 (44, [(2, vI (s (10 + a))), (0, vR 7 9), (1, vI (nI a))], [vI (-1), vI (nI a), vR 0 7], h1) rfl ?_
      refine R_st 0 7 a 8 (-1) rfl rfl (by omega) (by decide) (fun h2 eh2 => ?_)
      refine R_s 1 (46, [(2, vI (s (10 + a))), (0, vR 7 9), (1, vI (nI a))], [vI (s (10 + a))], h2) rfl ?_
      exact R_ret (some (vI (s (10 + a)))) h2 rfl ⟨rfl, I1.mod f1 (by rw [eh2]; exact co_pin h8 h5 h6 (by omega) C1) (fun g' j' q => by rw [eh2, hs_ne (by omega)])⟩
    · rw [if_pos (Classical.not_not.mp c1)]
      refine R_s 1 (30, [(2, vI (s (10 + a))), (0, vR 7 9), (1, vI (nI a))], [vI (-4)], h) rfl ?_
      exact R_ret (some (vI (-4))) h rfl ⟨rfl, I⟩
  · have ca : inb x n = false := by cases q9 : inb x n with
      | false => rfl
      | true => exact absurd q9 ca
    refine R_s 1 (12, [(0, vR 7 9), (1, vI x)], [vI (-1)], h) rfl ?_
    exact R_ret (some (vI (-1))) h rfl ⟨by unfold oUnpin; dsimp only; rw [sel1_f ca], by unfold oUnpin; dsimp only; rw [sel1_f ca]; exact I⟩
theorem sbt_ok : ∀ e, e < 256 → ∀ a, a < 8 → ∀ v, v < 2 → ((nI e &&& ((nI 1 <<< (nI a &&& 31)) ^^^ (-1))) ||| (nI v <<< (nI a &&& 31))) = nI (sbt e a v) := by decide +kernel
set_option maxRecDepth 100000 in
theorem t_S_setEncore {d : Nat} {h : HP} {A : AS} {x y : Int32} (V : VA A) (I : CI h A) : MT (d + 4) mS_setEncore [vR 7 9, vI x, vI y] h (fun r h' => r = some (vI (oEnc A x y).1) ∧ CI h' (oEnc A x y).2) := by
  obtain ⟨⟨s, n, p, k⟩, kp, ch, len⟩ := A
  have C : CO h 0 s n p k := I.1
  have F : WF s n p k := V.1.1
  have O : WO s n := V.1.2.1.1
  have hn1 : 1 ≤ n := V.1.2.2.1
  have hp1 : 1 ≤ p := V.1.2.2.2.1
  have hk1 : 1 ≤ k := V.1.2.2.2.2
  have h8 : n ≤ 8 := F.2.1.1
  have h5 : p ≤ 5 := F.2.1.2.1
  have h6 : k ≤ 6 := F.2.1.2.2
  obtain ⟨he, hen, he8⟩ := en_ok (z := (s, n, p, k)) F
  have he : s 9 = nI (en (s, n, p, k)) := he
  refine R_s 3 (5, [(0, vR 7 9), (1, vI x), (2, vI y)], [vI x, vR 0 0], h) rfl ?_
  refine R_calli mC_isSong [vR 0 0, vI x] [] (bI (inb x n)) h rfl (t_C_isSong C.1.1 h8) ?_
  refine R_s 1 (cond (if0 .eq (bI (inb x n))) 20 11, [(0, vR 7 9), (1, vI x), (2, vI y)], [], h) rfl ?_
  refine R_bp (inb x n = false) (x0_eq.trans bI_eq) (fun ca => ?_) (fun ca => ?_)
  · refine R_s 1 (21, [(0, vR 7 9), (1, vI x), (2, vI y)], [vI (-1)], h) rfl ?_
    exact R_ret (some (vI (-1))) h rfl ⟨by unfold oEnc; dsimp only; rw [sel1_f ca], by unfold oEnc; dsimp only; rw [sel1_f ca]; exact I⟩
  · obtain ⟨a, ha, rfl⟩ := inb_ex (by omega) (tf ca)
    cases hy : inb y 2 with
    | false =>
      rw [show oEnc ((s, n, p, k), kp, ch, len) (nI a) y = (-1, ((s, n, p, k), kp, ch, len)) by unfold oEnc; dsimp only; rw [sel1_t ha (by omega), sel1_f hy]]
      refine R_s 2 (cond (if0 .lt y) 20 15, [(0, vR 7 9), (1, vI (nI a)), (2, vI y)], [], h) rfl ?_
      refine R_bp (y < 0) x0_lt (fun c1 => ?_) (fun c1 => ?_)
      · refine R_s 1 (21, [(0, vR 7 9), (1, vI (nI a)), (2, vI y)], [vI (-1)], h) rfl ?_
        exact R_ret (some (vI (-1))) h rfl ⟨rfl, I⟩
      · refine R_s 3 (cond (if2 .le y (nI 1)) 22 20, [(0, vR 7 9), (1, vI (nI a)), (2, vI y)], [], h) rfl ?_
        refine R_bp (y ≤ (nI 1)) x2_le (fun c2 => ?_) (fun c2 => ?_)
        · rw [inb_of (a := 0) (m := 1) rfl (by decide) c1 c2 (by decide)] at hy
          cases hy
        · refine R_s 1 (21, [(0, vR 7 9), (1, vI (nI a)), (2, vI y)], [vI (-1)], h) rfl ?_
          exact R_ret (some (vI (-1))) h rfl ⟨rfl, I⟩
    | true =>
      obtain ⟨v, hv, rfl⟩ := inb_ex (by decide) hy
      rw [show oEnc ((s, n, p, k), kp, ch, len) (nI a) (nI v) = (nI (if (en (s, n, p, k)).testBit a then 1 else 0), ed ((s, n, p, k), kp, ch, len) (upd s 9 (nI (sbt (en (s, n, p, k)) a v)), n, p, k)) by unfold oEnc; dsimp only; rw [sel1_t ha (by omega), sel1_t hv (by omega)]]
      refine R_s 2 (cond (if0 .lt (nI v)) 20 15, [(0, vR 7 9), (1, vI (nI a)), (2, vI (nI v))], [], h) rfl ?_
      refine R_bf (by unfold if0; exact decide_eq_false (nI_pos (by omega))) ?_
      refine R_s 3 (cond (if2 .le (nI v) (nI 1)) 22 20, [(0, vR 7 9), (1, vI (nI a)), (2, vI (nI v))], [], h) rfl ?_
      refine R_bt ((i2_le (by omega) (by omega)).mpr (by omega)) ?_
      refine R_s 3 (27, [(0, vR 7 9), (1, vI (nI a)), (2, vI (nI v))], [vI (nI a), vR 0 0], h) rfl ?_
      refine R_calli mC_isEncore [vR 0 0, vI (nI a)] [] (bI ((en (s, n, p, k)).testBit a)) h rfl (t_C_isEncore (C.1.2.2.2.trans he) he8 (by omega)) ?_
      refine R_s 1 (cond (if0 .eq (bI ((en (s, n, p, k)).testBit a))) 37 33, [(0, vR 7 9), (1, vI (nI a)), (2, vI (nI v))], [], h) rfl ?_
      refine R_bp ((en (s, n, p, k)).testBit a = false) (x0_eq.trans bI_eq) (fun c1 => ?_) (fun c1 => ?_)
      · rw [c1]
        refine R_s 3 (40, [(3, vI (nI 0)), (0, vR 7 9), (1, vI (nI a)), (2, vI (nI v))], [vR 7 9], h) rfl ?_
        refine R_call mS_beginEdit [vR 7 9] [] rfl (t_S_beginEdit V I) (fun r h1 e1 => ?_)
        obtain ⟨rfl, I1, f1, k1⟩ := e1
        have C1 : CO h1 0 s n p k := I1.1
        show R _ mS_setEncore (43, [(3, vI (nI 0)), (0, vR 7 9), (1, vI (nI a)), (2, vI (nI v))], [], h1) _
        refine R_s 5 (54, [(3, vI (nI 0)), (0, vR 7 9), (1, vI (nI a)), (2, vI (nI v))], [vI (h1 0 0 3), vR 0 0], h1) rfl ?_
        refine R_top (nI (en (s, n, p, k))) (C1.1.2.2.2.trans he) ?_
        refine R_s 10 (64, [(3, vI (nI 0)), (0, vR 7 9), (1, vI (nI a)), (2, vI (nI v))], [vI (((nI (en (s, n, p, k))) &&& (((nI 1) <<< ((nI a) &&& 31)) ^^^ (-1))) ||| ((nI v) <<< ((nI a) &&& 31))), vR 0 0], h1) rfl ?_
        refine R_top (nI (sbt (en (s, n, p, k)) a v)) (sbt_ok _ he8 a (by omega) v hv) ?_
        refine R_s 1 (67, [(3, vI (nI 0)), (0, vR 7 9), (1, vI (nI a)), (2, vI (nI v))], [], (hset h1 0 0 3 (nI (sbt (en (s, n, p, k)) a v)))) rfl ?_
        refine R_hp (fun h2 eh2 => ?_)
        refine R_s 1 (68, [(3, vI (nI 0)), (0, vR 7 9), (1, vI (nI a)), (2, vI (nI v))], [vI (nI 0)], h2) rfl ?_
        exact R_ret (some (vI (nI 0))) h2 rfl ⟨rfl, I1.mod f1 (by rw [eh2]; exact co_enc h8 h5 h6 C1) (fun g' j' q => by rw [eh2, hs_ne (by omega)])⟩
      · rw [tf c1]
        refine R_s 4 (40, [(3, vI (nI 1)), (0, vR 7 9), (1, vI (nI a)), (2, vI (nI v))], [vR 7 9], h) rfl ?_
        refine R_call mS_beginEdit [vR 7 9] [] rfl (t_S_beginEdit V I) (fun r h1 e1 => ?_)
        obtain ⟨rfl, I1, f1, k1⟩ := e1
        have C1 : CO h1 0 s n p k := I1.1
        show R _ mS_setEncore (43, [(3, vI (nI 1)), (0, vR 7 9), (1, vI (nI a)), (2, vI (nI v))], [], h1) _
        refine R_s 5 (54, [(3, vI (nI 1)), (0, vR 7 9), (1, vI (nI a)), (2, vI (nI v))], [vI (h1 0 0 3), vR 0 0], h1) rfl ?_
        refine R_top (nI (en (s, n, p, k))) (C1.1.2.2.2.trans he) ?_
        refine R_s 10 (64, [(3, vI (nI 1)), (0, vR 7 9), (1, vI (nI a)), (2, vI (nI v))], [vI (((nI (en (s, n, p, k))) &&& (((nI 1) <<< ((nI a) &&& 31)) ^^^ (-1))) ||| ((nI v) <<< ((nI a) &&& 31))), vR 0 0], h1) rfl ?_
        refine R_top (nI (sbt (en (s, n, p, k)) a v)) (sbt_ok _ he8 a (by omega) v hv) ?_
        refine R_s 1 (67, [(3, vI (nI 1)), (0, vR 7 9), (1, vI (nI a)), (2, vI (nI v))], [], (hset h1 0 0 3 (nI (sbt (en (s, n, p, k)) a v)))) rfl ?_
        refine R_hp (fun h2 eh2 => ?_)
        refine R_s 1 (68, [(3, vI (nI 1)), (0, vR 7 9), (1, vI (nI a)), (2, vI (nI v))], [vI (nI 1)], h2) rfl ?_
        exact R_ret (some (vI (nI 1))) h2 rfl ⟨rfl, I1.mod f1 (by rw [eh2]; exact co_enc h8 h5 h6 C1) (fun g' j' q => by rw [eh2, hs_ne (by omega)])⟩
theorem mvo_congr {o o' : Nat → Int32} {f t j : Nat} (h : ∀ i, i < 8 → o i = o' i) (hf : f < 8) (ht : t < 8) (hj : j < 8) : mvo o f t j = mvo o' f t j := by
  unfold mvo
  split
  · exact h f hf
  · split
    · exact h _ (by omega)
    · split
      · exact h _ (by omega)
      · exact h j hj
set_option maxRecDepth 100000 in
theorem t_S_moveSong {d : Nat} {h : HP} {A : AS} {x y : Int32} (V : VA A) (I : CI h A) : MT (d + 4) mS_moveSong [vR 7 9, vI x, vI y] h (fun r h' => r = some (vI (oMove A x y).1) ∧ CI h' (oMove A x y).2) := by
  obtain ⟨⟨s, n, p, k⟩, kp, ch, len⟩ := A
  have C : CO h 0 s n p k := I.1
  have F : WF s n p k := V.1.1
  have O : WO s n := V.1.2.1.1
  have hn1 : 1 ≤ n := V.1.2.2.1
  have hp1 : 1 ≤ p := V.1.2.2.2.1
  have hk1 : 1 ≤ k := V.1.2.2.2.2
  have h8 : n ≤ 8 := F.2.1.1
  have h5 : p ≤ 5 := F.2.1.2.1
  have h6 : k ≤ 6 := F.2.1.2.2
  refine R_s 3 (5, [(0, vR 7 9), (1, vI x), (2, vI y)], [vI x, vR 0 0], h) rfl ?_
  refine R_calli mC_isSong [vR 0 0, vI x] [] (bI (inb x n)) h rfl (t_C_isSong C.1.1 h8) ?_
  refine R_s 1 (cond (if0 .eq (bI (inb x n))) 22 11, [(0, vR 7 9), (1, vI x), (2, vI y)], [], h) rfl ?_
  refine R_bp (inb x n = false) (x0_eq.trans bI_eq) (fun ca => ?_) (fun ca => ?_)
  · refine R_s 1 (23, [(0, vR 7 9), (1, vI x), (2, vI y)], [vI (-1)], h) rfl ?_
    exact R_ret (some (vI (-1))) h rfl ⟨by unfold oMove; dsimp only; rw [sel1_f ca], by unfold oMove; dsimp only; rw [sel1_f ca]; exact I⟩
  · obtain ⟨a, ha, rfl⟩ := inb_ex (by omega) (tf ca)
    refine R_s 3 (16, [(0, vR 7 9), (1, vI (nI a)), (2, vI y)], [vI y, vR 0 0], h) rfl ?_
    refine R_calli mC_isSong [vR 0 0, vI y] [] (bI (inb y n)) h rfl (t_C_isSong C.1.1 h8) ?_
    refine R_s 1 (cond (if0 .ne (bI (inb y n))) 24 22, [(0, vR 7 9), (1, vI (nI a)), (2, vI y)], [], h) rfl ?_
    refine R_bp (inb y n = true) (x0_ne.trans bI_ne) (fun cb => ?_) (fun cb => ?_)
    · obtain ⟨b, hb, rfl⟩ := inb_ex (by omega) cb
      rw [show oMove ((s, n, p, k), kp, ch, len) (nI a) (nI b) = (s (18 + a), ed ((s, n, p, k), kp, ch, len) (ord s (mvo (fun j => s (18 + j)) a b), n, p, k)) by unfold oMove; dsimp only; rw [sel1_t ha (by omega), sel1_t hb (by omega)]]
      refine R_s 1 (25, [(0, vR 7 9), (1, vI (nI a)), (2, vI (nI b))], [vR 7 9], h) rfl ?_
      refine R_call mS_beginEdit [vR 7 9] [] rfl (t_S_beginEdit V I) (fun r h1 e1 => ?_)
      obtain ⟨rfl, I1, f1, k1⟩ := e1
      have C1 : CO h1 0 s n p k := I1.1
      show R _ mS_moveSong (28, [(0, vR 7 9), (1, vI (nI a)), (2, vI (nI b))], [], h1) _
      refine R_s 4 (34, [(0, vR 7 9), (1, vI (nI a)), (2, vI (nI b))], [vI (nI b), vI (nI a), vR 0 0], h1) rfl ?_
      refine R_call mC_shiftOrder [vR 0 0, vI (nI a), vI (nI b)] [] rfl (t_C_shiftOrder (by omega) (by omega)) (fun r h2 e2 => ?_)
      obtain ⟨rfl, J⟩ := e2
      show R _ mS_moveSong (37, [(0, vR 7 9), (1, vI (nI a)), (2, vI (nI b))], [], h2) _
      have hmv : ∀ j, j < 8 → h2 0 8 j = mvo (fun j => s (18 + j)) a b j := fun j hj => by
        rw [← Nat.zero_add j, J.1 j hj, Nat.zero_add]
        exact mvo_congr (fun i hi => (C1.2.2.2.2.2.2 i hi).2) (by omega) (by omega) hj
      refine R_s 4 (45, [(0, vR 7 9), (1, vI (nI a)), (2, vI (nI b))], [vI (nI b), vR 0 8], h2) rfl ?_
      refine R_ld 0 8 b 8 rfl rfl (by omega) (by decide) ?_
      refine R_top (s (18 + a)) (by rw [hmv b (by omega), mv_oa]) ?_
      exact R_ret (some (vI (s (18 + a)))) h2 rfl ⟨rfl, I1.mod f1 (co_ord h8 h5 h6 C1 (fun j q => J.2.1 0 j (by omega)) hmv) (fun g' j' q => J.2.1 g' j' (by omega))⟩
    · have cb : inb y n = false := by cases q9 : inb y n with
        | false => rfl
        | true => exact absurd q9 cb
      refine R_s 1 (23, [(0, vR 7 9), (1, vI (nI a)), (2, vI y)], [vI (-1)], h) rfl ?_
      exact R_ret (some (vI (-1))) h rfl ⟨by unfold oMove; dsimp only; rw [sel1_t ha (by omega), sel1_f cb], by unfold oMove; dsimp only; rw [sel1_t ha (by omega), sel1_f cb]; exact I⟩
set_option maxRecDepth 100000 in
theorem t_S_beginEdit2 {d n9 : Nat} {h : HP} {A : AS} {W9 : Nat → Nat → Nat} {B9 : Nat → Nat → Bool} (V : VA A) (I : CI h A) (T9 : TF h n9 W9 B9) : MT (d + 3) mS_beginEdit [vR 7 9] h (fun r h' => r = none ∧ CI h' (ed A A.1) ∧ h' 7 9 5 = nI 0 ∧ (∀ j, h' 0 j = h 0 j) ∧ TF h' n9 W9 B9) := by
  obtain ⟨⟨s, n, p, k⟩, kp, ch, len⟩ := A
  have C : CO h 0 s n p k := I.1
  have F : WF s n p k := V.1.1
  have O : WO s n := V.1.2.1.1
  have hn1 : 1 ≤ n := V.1.2.2.1
  have hp1 : 1 ≤ p := V.1.2.2.2.1
  have hk1 : 1 ≤ k := V.1.2.2.2.2
  have h8 : n ≤ 8 := F.2.1.1
  have h5 : p ≤ 5 := F.2.1.2.1
  have h6 : k ≤ 6 := F.2.1.2.2
  obtain ⟨-, ⟨i, i1, i2, i3, i4⟩, T, -⟩ := id I
  have hkl : kp.length ≤ 5 := V.2.2
  refine R_s 4 (8, [(0, vR 7 9)], [vR 0 0, vR 7 13], h) rfl ?_
  refine R_call mH_keep [vR 7 13, vR 0 0] [] rfl (t_H_keep i2 i1 i3 hkl C h8 h5 h6) (fun r h1 e1 => ?_)
  obtain ⟨rfl, C1, F1, g1, g2⟩ := e1
  show R _ mS_beginEdit (11, [(0, vR 7 9)], [], h1) _
  refine R_s 3 (16, [(0, vR 7 9)], [], (hset h1 7 9 5 (nI 0))) rfl ?_
  refine R_hp (fun h2 eh2 => ?_)
  have e2 : ∀ g' j', ¬ (g' = 7 ∧ j' = 9) → h2 g' j' = h1 g' j' := fun g' j' q => by rw [eh2, hs_ne q]
  have h0 : ∀ j, h2 0 j = h 0 j := fun j => by rw [e2 0 j (by omega)]; exact F1 0 j (by omega) (by omega)
  refine R_ret none h2 rfl ⟨rfl, ⟨C.mv' h0, ⟨(i + 1) % 5, Nat.mod_lt _ (by decide), by rw [e2 7 13 (by omega)]; exact g1, by rw [e2 7 13 (by omega), g2]; show _ = nI (((s, n, p, k) :: kp).take 5).length; rw [take5_len hkl], fun j z hj => ?_⟩, ⟨by rw [e2 7 10 (by omega), F1 7 10 (by omega) (by omega)]; exact T.1, T.2.1, fun j hj => by rw [e2 7 11 (by omega), F1 7 11 (by omega) (by omega)]; exact T.2.2 j hj⟩, Or.inl (by rw [eh2, hs_same, up_same])⟩, by rw [eh2, hs_same, up_same], h0, T9.mv (fun j a b => by rw [e2 7 j (by omega)]; exact F1 7 j (by omega) (by omega))⟩
  obtain ⟨hj5, ⟨rfl, rfl⟩ | ⟨j', rfl, hj'⟩⟩ := take5 hj
  · rw [mod5a i i1]; exact co_frame C1 (fun c => e2 _ c (by omega))
  · obtain ⟨m1, m2⟩ := mod5b i i1 j' (by omega)
    rw [m1]
    exact (i4 j' z hj').mv (fun c => by rw [e2 _ c (by omega)]; exact F1 _ c (by omega) (by omega))
set_option maxRecDepth 100000 in
theorem t_S_adoptBest {d : Nat} {h : HP} {A : AS} (V : VA A) (I : CI h A) : MT (d + 6) mS_adoptBest [vR 7 9] h (fun r h' => r = some (vI (oAdopt A).1) ∧ CI h' (oAdopt A).2) := by
  obtain ⟨⟨s, n, p, k⟩, kp, ch, len⟩ := A
  have C : CO h 0 s n p k := I.1
  have F : WF s n p k := V.1.1
  have O : WO s n := V.1.2.1.1
  have hn1 : 1 ≤ n := V.1.2.2.1
  have hp1 : 1 ≤ p := V.1.2.2.2.1
  have hk1 : 1 ≤ k := V.1.2.2.2.2
  have h8 : n ≤ 8 := F.2.1.1
  have h5 : p ≤ 5 := F.2.1.2.1
  have h6 : k ≤ 6 := F.2.1.2.2
  refine R_s 1 (1, [(0, vR 7 9)], [vR 7 9], h) rfl ?_
  refine R_call mS_presentTable [vR 7 9] [] rfl (t_S_presentTable V I) (fun r h0 e0 => ?_)
  obtain ⟨rfl, I0, T0⟩ := e0
  clear I
  have I := I0
  show R _ mS_adoptBest (4, [(0, vR 7 9)], [vR 7 15], h0) _
  refine R_calli mO_leastCost [vR 7 15] [] (enc (zG (s, n, p, k)).1) h0 rfl (t_O_leastCost T0) ?_
  cases hg : (zG (s, n, p, k)).1 with
  | none =>
    rw [show oAdopt ((s, n, p, k), kp, ch, len) = (-4, ((s, n, p, k), kp, ch, len)) by unfold oAdopt; dsimp only; rw [hg]]
    refine R_s 4 (cond (if2 .ne (enc none) (-1)) 16 13, [(1, vI (enc none)), (0, vR 7 9)], [], h0) rfl ?_
    refine R_bf (by decide) ?_
    refine R_s 1 (15, [(1, vI (enc none)), (0, vR 7 9)], [vI (-4)], h0) rfl ?_
    exact R_ret (some (vI (-4))) h0 rfl ⟨rfl, I⟩
  | some c =>
    have hc280 : c ≤ 280 := GT_le h8 (Wc_le F) hg
    rw [show oAdopt ((s, n, p, k), kp, ch, len) = (nI c, ed ((s, n, p, k), kp, ch, len) (ord s (fun j => if j < n then enc (zS (s, n, p, k) j) else s (18 + j)), n, p, k)) by unfold oAdopt; dsimp only; rw [hg]]
    refine R_top (nI c) rfl ?_
    refine R_s 4 (cond (if2 .ne (nI c) (-1)) 16 13, [(1, vI (nI c)), (0, vR 7 9)], [], h0) rfl ?_
    refine R_bt (by unfold if2; exact decide_eq_true (nI_ne_m1 (by omega))) ?_
    refine R_s 1 (17, [(1, vI (nI c)), (0, vR 7 9)], [vR 7 9], h0) rfl ?_
    refine R_call mS_beginEdit [vR 7 9] [] rfl (t_S_beginEdit2 V I T0) (fun r h1 e1 => ?_)
    obtain ⟨rfl, I1, f1, k1, T1⟩ := e1
    have C1 : CO h1 0 s n p k := I1.1
    show R _ mS_adoptBest (20, [(1, vI (nI c)), (0, vR 7 9)], [], h1) _
    refine R_s 5 (31, [(1, vI (nI c)), (0, vR 7 9)], [vR 0 8, vR 7 15], h1) rfl ?_
    refine R_call mO_copyBestOrder [vR 7 15, vR 0 8] [] rfl (t_O_copyBestOrder T1 (Wc_le F) h8) (fun r h2 e2 => ?_)
    obtain ⟨rfl, J1, J2, J3⟩ := e2
    show R _ mS_adoptBest (34, [(1, vI (nI c)), (0, vR 7 9)], [], h2) _
    refine R_s 1 (35, [(1, vI (nI c)), (0, vR 7 9)], [vI (nI c)], h2) rfl ?_
    refine R_ret (some (vI (nI c))) h2 rfl ⟨rfl, I1.mod f1 (co_ord (o := fun j => if j < n then enc (zS (s, n, p, k) j) else s (18 + j)) h8 h5 h6 C1 (fun j q => J3 0 j (by omega)) (fun j hj => ?_)) (fun g' j' q => J3 g' j' (by omega))⟩
    by_cases q : j < n
    · rw [if_pos q]; exact J1 j q
    · rw [if_neg q, J2 j (show n ≤ j by omega)]; exact (C1.2.2.2.2.2.2 j hj).2
