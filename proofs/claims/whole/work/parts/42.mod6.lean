theorem inb_64 {x : Int32} {b : Int64} {n : Nat} (hn : n ≤ 160) (hb : b = (nI n - nI 1).toInt64) : (decide ((0 : Int64) ≤ x.toInt64) && decide (x.toInt64 ≤ b)) = inb x n := by rw [hb]; exact inb_in hn
theorem in_160 {x : Int32} : (decide ((0 : Int64) ≤ x.toInt64) && decide (x.toInt64 ≤ 160)) = inb x 161 := by
  rw [show (0 : Int64) = (0 : Int32).toInt64 by decide, show (160 : Int64) = (nI 160).toInt64 by decide, w_in]
  have h0 : (0 : Int32).toInt = 0 := by decide
  have h1 : (nI 160).toInt = 160 := by decide
  have h2 : (nI 161).toInt = 161 := by decide
  by_cases a : x < 0
  · rw [inb_lo a, decide_eq_false (fun q => by have := Int32.lt_iff_toInt_lt.mp a; have := Int32.le_iff_toInt_le.mp q; omega)]; rfl
  · have a' : ¬ x.toInt < (0 : Int32).toInt := fun q => a (Int32.lt_iff_toInt_lt.mpr q)
    by_cases b : nI 161 ≤ x
    · rw [inb_hi (by omega) b, decide_eq_false (p := x ≤ _) (fun q => by have := Int32.le_iff_toInt_le.mp b; have := Int32.le_iff_toInt_le.mp q; omega)]; simp
    · have b' : ¬ (nI 161).toInt ≤ x.toInt := fun q => b (Int32.le_iff_toInt_le.mpr q)
      rw [inb_mid (by omega) a b, decide_eq_true (Int32.le_iff_toInt_le.mpr (by omega)), decide_eq_true (Int32.le_iff_toInt_le.mpr (by omega))]
      rfl
theorem in_15 {x : Int32} {a b : Nat} (ha : a ≤ b) (hb : b ≤ 160) : (decide ((nI a).toInt64 ≤ x.toInt64) && decide (x.toInt64 ≤ (nI b).toInt64)) = sel1 x (b + 1) (fun u => decide (a ≤ u)) false := by
  rw [w_in]
  have h1 : (nI a).toInt = a := nI_toInt (by omega)
  have h2 : (nI b).toInt = b := nI_toInt (by omega)
  cases hx : inb x (b + 1) with
  | false =>
    rw [sel1_f hx]
    by_cases p : nI a ≤ x ∧ x ≤ nI b
    · have p1 := Int32.le_iff_toInt_le.mp p.1
      have p2 := Int32.le_iff_toInt_le.mp p.2
      have h0 : (0 : Int32).toInt = 0 := by decide
      rw [inb_mid (by omega) (fun q => by have := Int32.lt_iff_toInt_lt.mp q; omega) (fun q => by have q := Int32.le_iff_toInt_le.mp q; rw [nI_toInt (by omega)] at q; omega)] at hx
      cases hx
    · by_cases p1 : nI a ≤ x
      · rw [decide_eq_false (p := x ≤ nI b) (fun q => p ⟨p1, q⟩), Bool.and_false]
      · rw [decide_eq_false p1]; rfl
  | true =>
    obtain ⟨u, hu, rfl⟩ := inb_ex (by omega) hx
    rw [sel1_t hu (by omega), decide_eq_true (p := nI u ≤ nI b) (nI_le (by omega) (by omega)), Bool.and_true]
    by_cases q : a ≤ u
    · rw [decide_eq_true q, decide_eq_true (nI_le q (by omega))]
    · rw [decide_eq_false q, decide_eq_false (fun z => q ((nI_leI (by omega) (by omega)).mp z))]
set_option maxRecDepth 100000 in
theorem t_M_encoresWithin {d : Nat} {h : HP} {A : AS} {x : Int32} (V : VA A) (I : MI h A) : MT (d + 1) mM_encoresWithin [vR 8 20, vI x] h (fun r h' => r = some (vI (oWithin A x)) ∧ MI h' A) := by
  obtain ⟨⟨s, n, p, k⟩, kp, ch, len⟩ := A
  have M : MS 21 h s := I.1
  have F : WF s n p k := V.1.1
  have O : WO s n := V.1.2.1.1
  have hn1 : 1 ≤ n := V.1.2.2.1
  have hp1 : 1 ≤ p := V.1.2.2.2.1
  have hk1 : 1 ≤ k := V.1.2.2.2.2
  have h8 := F.2.1.1
  have h5 := F.2.1.2.1
  have h6 := F.2.1.2.2
  obtain ⟨e1, e2, e8⟩ := en_ok (z := (s, n, p, k)) F
  dsimp only at e1 e2
  have p8 := pw_le h8
  have p1 := Nat.pow_pos (n := n) (show 0 < 2 by decide)
  refine R_s 4 (6, [(0, vR 8 20), (1, vI x)], [vL 160, vL 0, vL ((x).toInt64)], h) rfl ?_
  refine R_calli mM_in [vL ((x).toInt64), vL 0, vL 160] [] (bI (decide ((0 : Int64) ≤ x.toInt64) && decide (x.toInt64 ≤ 160))) h rfl t_M_in ?_
  refine R_top (bI (inb x 161)) (by rw [in_160]) ?_
  refine R_s 1 (cond (if0 .ne (bI (inb x 161))) 14 12, [(0, vR 8 20), (1, vI x)], [], h) rfl ?_
  refine R_bp (inb x 161 = true) (x0_ne.trans bI_ne) (fun ca => ?_) (fun ca => ?_)
  · obtain ⟨t0, ht0, et0⟩ := inb_ex (by omega) ca
    have hO : oWithin ((s, n, p, k), kp, ch, len) x = nI (ewi (s, n, p, k) x (2 ^ n)).1 := by unfold oWithin; rw [et0, sel1_t ht0 (by omega)]
    rw [hO]
    refine R_s 6 (21, [(4, vI (nI 1)), (3, vI (nI 0)), (2, vI (nI 0)), (0, vR 8 20), (1, vI x)], [], h) rfl ?_
    have hlt := fun S => ewi_lt (z := (s, n, p, k)) (t := x) S
    suffices ∀ m (S : Nat) (hm : S + m = 2 ^ n) (hS : 1 ≤ S), R (d + 1) mM_encoresWithin (21, [(4, vI (nI S)), (3, vI ((ewi (s, n, p, k) x S).2)), (2, vI (nI ((ewi (s, n, p, k) x S).1))), (0, vR 8 20), (1, vI x)], [], h) _ from this (2 ^ n - 1) 1 (by omega) (by omega)
    intro m
    induction m with
    | zero =>
      intro S hm hS
      refine R_s 2 (24, [(4, vI (nI S)), (3, vI ((ewi (s, n, p, k) x S).2)), (2, vI (nI ((ewi (s, n, p, k) x S).1))), (0, vR 8 20), (1, vI x)], [vR 8 20, vI (nI S)], h) rfl ?_
      refine R_calli mM_all [vR 8 20] [vI (nI S)] (nI (2 ^ n - 1)) h rfl (t_M_all M F) ?_
      refine R_s 1 (cond (if2 .gt (nI S) (nI (2 ^ n - 1))) 151 30, [(4, vI (nI S)), (3, vI ((ewi (s, n, p, k) x S).2)), (2, vI (nI ((ewi (s, n, p, k) x S).1))), (0, vR 8 20), (1, vI x)], [], h) rfl ?_
      refine R_bp ((2 ^ n - 1) < S) (i2_gt (by omega) (by omega)) (fun c1 => ?_) (fun c1 => ?_)
      · refine R_s 1 (152, [(4, vI (nI S)), (3, vI ((ewi (s, n, p, k) x S).2)), (2, vI (nI ((ewi (s, n, p, k) x S).1))), (0, vR 8 20), (1, vI x)], [vI (nI ((ewi (s, n, p, k) x S).1))], h) rfl ?_
        exact R_ret (some (vI (nI ((ewi (s, n, p, k) x S).1)))) h rfl ⟨by rw [show S = 2 ^ n by omega], I⟩
      · exact absurd hm (by omega)
    | succ m ih =>
      intro S hm hS
      refine R_s 2 (24, [(4, vI (nI S)), (3, vI ((ewi (s, n, p, k) x S).2)), (2, vI (nI ((ewi (s, n, p, k) x S).1))), (0, vR 8 20), (1, vI x)], [vR 8 20, vI (nI S)], h) rfl ?_
      refine R_calli mM_all [vR 8 20] [vI (nI S)] (nI (2 ^ n - 1)) h rfl (t_M_all M F) ?_
      refine R_s 1 (cond (if2 .gt (nI S) (nI (2 ^ n - 1))) 151 30, [(4, vI (nI S)), (3, vI ((ewi (s, n, p, k) x S).2)), (2, vI (nI ((ewi (s, n, p, k) x S).1))), (0, vR 8 20), (1, vI x)], [], h) rfl ?_
      refine R_bp ((2 ^ n - 1) < S) (i2_gt (by omega) (by omega)) (fun c1 => ?_) (fun c1 => ?_)
      · refine R_s 1 (152, [(4, vI (nI S)), (3, vI ((ewi (s, n, p, k) x S).2)), (2, vI (nI ((ewi (s, n, p, k) x S).1))), (0, vR 8 20), (1, vI x)], [vI (nI ((ewi (s, n, p, k) x S).1))], h) rfl ?_
        exact R_ret (some (vI (nI ((ewi (s, n, p, k) x S).1)))) h rfl ⟨by rw [show S = 2 ^ n by omega], I⟩
      · refine R_s 4 (36, [(6, vI (nI 0)), (5, vI (nI 0)), (4, vI (nI S)), (3, vI ((ewi (s, n, p, k) x S).2)), (2, vI (nI ((ewi (s, n, p, k) x S).1))), (0, vR 8 20), (1, vI x)], [], h) rfl ?_
        suffices ∀ m2 (a : Nat) (hm2 : a + m2 = n), R (d + 1) mM_encoresWithin (36, [(6, vI (nI a)), (5, vI (ptm s S a)), (4, vI (nI S)), (3, vI ((ewi (s, n, p, k) x S).2)), (2, vI (nI ((ewi (s, n, p, k) x S).1))), (0, vR 8 20), (1, vI x)], [], h) _ from this n 0 (by omega)
        intro m2
        induction m2 with
        | zero =>
          intro a hm2
          refine R_s 4 (43, [(6, vI (nI a)), (5, vI (ptm s S a)), (4, vI (nI S)), (3, vI ((ewi (s, n, p, k) x S).2)), (2, vI (nI ((ewi (s, n, p, k) x S).1))), (0, vR 8 20), (1, vI x)], [vI (nI 0), vR 8 21, vI (nI a)], h) rfl ?_
          refine R_ld 8 21 0 125 rfl rfl (by omega) (by decide) ?_
          refine R_top (nI n) ((M 0 (by decide)).trans F.1.1) ?_
          refine R_s 1 (cond (if2 .ge (nI a) (nI n)) 82 47, [(6, vI (nI a)), (5, vI (ptm s S a)), (4, vI (nI S)), (3, vI ((ewi (s, n, p, k) x S).2)), (2, vI (nI ((ewi (s, n, p, k) x S).1))), (0, vR 8 20), (1, vI x)], [], h) rfl ?_
          refine R_bp (n ≤ a) (i2_ge (by omega) (by omega)) (fun c2 => ?_) (fun c2 => ?_)
          · have ea : a = n := by omega
            rw [ea]
            have hb : (ewi (s, n, p, k) x S).1 < 256 := by have := hlt S; omega
            have hnx : ewi (s, n, p, k) x (S + 1) = if (S &&& en (s, n, p, k) = S) ∧ ptm s S n ≤ x ∧ ((ewi (s, n, p, k) x S).2 < ptm s S n ∨ (ptm s S n = (ewi (s, n, p, k) x S).2 ∧ pop (ewi (s, n, p, k) x S).1 < pop S)) then (S, ptm s S n) else ewi (s, n, p, k) x S := by
              obtain ⟨S0, rfl⟩ : ∃ S0, S = S0 + 1 := ⟨S - 1, by omega⟩
              rfl
            refine R_s 4 (90, [(6, vI (nI n)), (5, vI (ptm s S n)), (4, vI (nI S)), (3, vI ((ewi (s, n, p, k) x S).2)), (2, vI (nI ((ewi (s, n, p, k) x S).1))), (0, vR 8 20), (1, vI x)], [vI (nI 9), vR 8 21, vI (nI S)], h) rfl ?_
            refine R_ld 8 21 9 125 rfl rfl (by omega) (by decide) ?_
            refine R_top (nI (en (s, n, p, k))) ((M 9 (by decide)).trans e1) ?_
            refine R_s 4 (cond (if0 .ne ((nI S) &&& ((nI (en (s, n, p, k))) ^^^ (-1)))) 107 97, [(6, vI (nI n)), (5, vI (ptm s S n)), (4, vI (nI S)), (3, vI ((ewi (s, n, p, k) x S).2)), (2, vI (nI ((ewi (s, n, p, k) x S).1))), (0, vR 8 20), (1, vI x)], [], h) rfl ?_
            refine R_bp (¬ (S &&& en (s, n, p, k) = S)) (x0_ne.trans (not_congr (msk_ok (by omega) e8))) (fun c3 => ?_) (fun c3 => ?_)
            · refine R_s 4 (cond (if0 .eq (nI 0)) 145 115, [(6, vI (nI 0)), (5, vI (ptm s S n)), (4, vI (nI S)), (3, vI ((ewi (s, n, p, k) x S).2)), (2, vI (nI ((ewi (s, n, p, k) x S).1))), (0, vR 8 20), (1, vI x)], [], h) rfl ?_
              refine R_bt rfl ?_
              refine R_s 1 (148, [(4, vI (nI S + Int32.ofInt 1)), (6, vI (nI 0)), (5, vI (ptm s S n)), (3, vI ((ewi (s, n, p, k) x S).2)), (2, vI (nI ((ewi (s, n, p, k) x S).1))), (0, vR 8 20), (1, vI x)], [], h) rfl ?_
              refine R_lv (lv' := [(4, vI (nI (S + 1))), (6, vI (nI 0)), (5, vI (ptm s S n)), (3, vI ((ewi (s, n, p, k) x S).2)), (2, vI (nI ((ewi (s, n, p, k) x S).1))), (0, vR 8 20), (1, vI x)]) (by rw [show nI S + Int32.ofInt 1 = nI (S + 1) from nI_add _ _]) ?_
              refine R_s 1 (21, [(4, vI (nI (S + 1))), (6, vI (nI 0)), (5, vI (ptm s S n)), (3, vI ((ewi (s, n, p, k) x S).2)), (2, vI (nI ((ewi (s, n, p, k) x S).1))), (0, vR 8 20), (1, vI x)], [], h) rfl ?_
              refine R_fg (lv' := [(4, vI (nI (S + 1))), (3, vI ((ewi (s, n, p, k) x S).2)), (2, vI (nI ((ewi (s, n, p, k) x S).1))), (0, vR 8 20), (1, vI x)]) [0, 3, 4, 5, 6] rfl [4, 6, 5, 3, 2, 0, 1] rfl (by decide) ?_
              have hi := ih (S + 1) (by omega) (by omega)
              rw [hnx, if_neg (fun q => c3 q.1)] at hi
              exact hi
            · have c3 := Classical.not_not.mp c3
              refine R_s 3 (cond (if2 .gt (ptm s S n) x) 107 103, [(6, vI (nI n)), (5, vI (ptm s S n)), (4, vI (nI S)), (3, vI ((ewi (s, n, p, k) x S).2)), (2, vI (nI ((ewi (s, n, p, k) x S).1))), (0, vR 8 20), (1, vI x)], [], h) rfl ?_
              refine R_bp (x < (ptm s S n)) x2_gt (fun c4 => ?_) (fun c4 => ?_)
              · refine R_s 4 (cond (if0 .eq (nI 0)) 145 115, [(6, vI (nI 0)), (5, vI (ptm s S n)), (4, vI (nI S)), (3, vI ((ewi (s, n, p, k) x S).2)), (2, vI (nI ((ewi (s, n, p, k) x S).1))), (0, vR 8 20), (1, vI x)], [], h) rfl ?_
                refine R_bt rfl ?_
                refine R_s 1 (148, [(4, vI (nI S + Int32.ofInt 1)), (6, vI (nI 0)), (5, vI (ptm s S n)), (3, vI ((ewi (s, n, p, k) x S).2)), (2, vI (nI ((ewi (s, n, p, k) x S).1))), (0, vR 8 20), (1, vI x)], [], h) rfl ?_
                refine R_lv (lv' := [(4, vI (nI (S + 1))), (6, vI (nI 0)), (5, vI (ptm s S n)), (3, vI ((ewi (s, n, p, k) x S).2)), (2, vI (nI ((ewi (s, n, p, k) x S).1))), (0, vR 8 20), (1, vI x)]) (by rw [show nI S + Int32.ofInt 1 = nI (S + 1) from nI_add _ _]) ?_
                refine R_s 1 (21, [(4, vI (nI (S + 1))), (6, vI (nI 0)), (5, vI (ptm s S n)), (3, vI ((ewi (s, n, p, k) x S).2)), (2, vI (nI ((ewi (s, n, p, k) x S).1))), (0, vR 8 20), (1, vI x)], [], h) rfl ?_
                refine R_fg (lv' := [(4, vI (nI (S + 1))), (3, vI ((ewi (s, n, p, k) x S).2)), (2, vI (nI ((ewi (s, n, p, k) x S).1))), (0, vR 8 20), (1, vI x)]) [0, 3, 4, 5, 6] rfl [4, 6, 5, 3, 2, 0, 1] rfl (by decide) ?_
                have hi := ih (S + 1) (by omega) (by omega)
                rw [hnx, if_neg (fun q => by have h1 := Int32.le_iff_toInt_le.mp q.2.1; have h2 := Int32.lt_iff_toInt_lt.mp c4; omega)] at hi
                exact hi
              · have c4 : ptm s S n ≤ x := Int32.le_iff_toInt_le.mpr (by have h2 : ¬ x.toInt < (ptm s S n).toInt := fun q => c4 (Int32.lt_iff_toInt_lt.mpr q); omega)
                refine R_s 5 (cond (if0 .eq (nI 1)) 145 115, [(6, vI (nI 1)), (5, vI (ptm s S n)), (4, vI (nI S)), (3, vI ((ewi (s, n, p, k) x S).2)), (2, vI (nI ((ewi (s, n, p, k) x S).1))), (0, vR 8 20), (1, vI x)], [], h) rfl ?_
                refine R_bf rfl ?_
                refine R_s 3 (cond (if2 .gt (ptm s S n) ((ewi (s, n, p, k) x S).2)) 139 121, [(6, vI (nI 1)), (5, vI (ptm s S n)), (4, vI (nI S)), (3, vI ((ewi (s, n, p, k) x S).2)), (2, vI (nI ((ewi (s, n, p, k) x S).1))), (0, vR 8 20), (1, vI x)], [], h) rfl ?_
                refine R_bp (((ewi (s, n, p, k) x S).2) < (ptm s S n)) x2_gt (fun c5 => ?_) (fun c5 => ?_)
                · refine R_s 5 (148, [(4, vI (nI S + Int32.ofInt 1)), (3, vI (ptm s S n)), (2, vI (nI S)), (6, vI (nI 1)), (5, vI (ptm s S n)), (0, vR 8 20), (1, vI x)], [], h) rfl ?_
                  refine R_lv (lv' := [(4, vI (nI (S + 1))), (3, vI (ptm s S n)), (2, vI (nI S)), (6, vI (nI 1)), (5, vI (ptm s S n)), (0, vR 8 20), (1, vI x)]) (by rw [show nI S + Int32.ofInt 1 = nI (S + 1) from nI_add _ _]) ?_
                  refine R_s 1 (21, [(4, vI (nI (S + 1))), (3, vI (ptm s S n)), (2, vI (nI S)), (6, vI (nI 1)), (5, vI (ptm s S n)), (0, vR 8 20), (1, vI x)], [], h) rfl ?_
                  refine R_fg (lv' := [(4, vI (nI (S + 1))), (3, vI (ptm s S n)), (2, vI (nI S)), (0, vR 8 20), (1, vI x)]) [0, 1, 2, 5, 6] rfl [4, 3, 2, 6, 5, 0, 1] rfl (by decide) ?_
                  have hi := ih (S + 1) (by omega) (by omega)
                  rw [hnx, if_pos ⟨c3, c4, Or.inl c5⟩] at hi
                  exact hi
                · refine R_s 3 (cond (if2 .ne (ptm s S n) ((ewi (s, n, p, k) x S).2)) 145 127, [(6, vI (nI 1)), (5, vI (ptm s S n)), (4, vI (nI S)), (3, vI ((ewi (s, n, p, k) x S).2)), (2, vI (nI ((ewi (s, n, p, k) x S).1))), (0, vR 8 20), (1, vI x)], [], h) rfl ?_
                  refine R_bp (¬ (ptm s S n) = ((ewi (s, n, p, k) x S).2)) x2_ne (fun c6 => ?_) (fun c6 => ?_)
                  · refine R_s 1 (148, [(4, vI (nI S + Int32.ofInt 1)), (6, vI (nI 1)), (5, vI (ptm s S n)), (3, vI ((ewi (s, n, p, k) x S).2)), (2, vI (nI ((ewi (s, n, p, k) x S).1))), (0, vR 8 20), (1, vI x)], [], h) rfl ?_
                    refine R_lv (lv' := [(4, vI (nI (S + 1))), (6, vI (nI 1)), (5, vI (ptm s S n)), (3, vI ((ewi (s, n, p, k) x S).2)), (2, vI (nI ((ewi (s, n, p, k) x S).1))), (0, vR 8 20), (1, vI x)]) (by rw [show nI S + Int32.ofInt 1 = nI (S + 1) from nI_add _ _]) ?_
                    refine R_s 1 (21, [(4, vI (nI (S + 1))), (6, vI (nI 1)), (5, vI (ptm s S n)), (3, vI ((ewi (s, n, p, k) x S).2)), (2, vI (nI ((ewi (s, n, p, k) x S).1))), (0, vR 8 20), (1, vI x)], [], h) rfl ?_
                    refine R_fg (lv' := [(4, vI (nI (S + 1))), (3, vI ((ewi (s, n, p, k) x S).2)), (2, vI (nI ((ewi (s, n, p, k) x S).1))), (0, vR 8 20), (1, vI x)]) [0, 3, 4, 5, 6] rfl [4, 6, 5, 3, 2, 0, 1] rfl (by decide) ?_
                    have hi := ih (S + 1) (by omega) (by omega)
                    rw [hnx, if_neg (fun q => q.2.2.elim c5 (fun z => c6 z.1))] at hi
                    exact hi
                  · have c6 := Classical.not_not.mp c6
                    refine R_s 1 (129, [(6, vI (nI 1)), (5, vI (ptm s S n)), (4, vI (nI S)), (3, vI ((ewi (s, n, p, k) x S).2)), (2, vI (nI ((ewi (s, n, p, k) x S).1))), (0, vR 8 20), (1, vI x)], [vI (nI S)], h) rfl ?_
                    refine R_calli mM_ones [vI (nI S)] [] (nI (pop S)) h rfl (t_M_ones (show S < 256 by omega)) ?_
                    refine R_s 1 (133, [(6, vI (nI 1)), (5, vI (ptm s S n)), (4, vI (nI S)), (3, vI ((ewi (s, n, p, k) x S).2)), (2, vI (nI ((ewi (s, n, p, k) x S).1))), (0, vR 8 20), (1, vI x)], [vI (nI ((ewi (s, n, p, k) x S).1)), vI (nI (pop S))], h) rfl ?_
                    refine R_calli mM_ones [vI (nI ((ewi (s, n, p, k) x S).1))] [vI (nI (pop S))] (nI (pop (ewi (s, n, p, k) x S).1)) h rfl (t_M_ones hb) ?_
                    have q1 := pop_le S
                    have q2 := pop_le (ewi (s, n, p, k) x S).1
                    refine R_s 1 (cond (if2 .le (nI (pop S)) (nI (pop (ewi (s, n, p, k) x S).1))) 145 139, [(6, vI (nI 1)), (5, vI (ptm s S n)), (4, vI (nI S)), (3, vI ((ewi (s, n, p, k) x S).2)), (2, vI (nI ((ewi (s, n, p, k) x S).1))), (0, vR 8 20), (1, vI x)], [], h) rfl ?_
                    refine R_bp ((pop S) ≤ (pop (ewi (s, n, p, k) x S).1)) (i2_le (by omega) (by omega)) (fun c7 => ?_) (fun c7 => ?_)
                    · refine R_s 1 (148, [(4, vI (nI S + Int32.ofInt 1)), (6, vI (nI 1)), (5, vI (ptm s S n)), (3, vI ((ewi (s, n, p, k) x S).2)), (2, vI (nI ((ewi (s, n, p, k) x S).1))), (0, vR 8 20), (1, vI x)], [], h) rfl ?_
                      refine R_lv (lv' := [(4, vI (nI (S + 1))), (6, vI (nI 1)), (5, vI (ptm s S n)), (3, vI ((ewi (s, n, p, k) x S).2)), (2, vI (nI ((ewi (s, n, p, k) x S).1))), (0, vR 8 20), (1, vI x)]) (by rw [show nI S + Int32.ofInt 1 = nI (S + 1) from nI_add _ _]) ?_
                      refine R_s 1 (21, [(4, vI (nI (S + 1))), (6, vI (nI 1)), (5, vI (ptm s S n)), (3, vI ((ewi (s, n, p, k) x S).2)), (2, vI (nI ((ewi (s, n, p, k) x S).1))), (0, vR 8 20), (1, vI x)], [], h) rfl ?_
                      refine R_fg (lv' := [(4, vI (nI (S + 1))), (3, vI ((ewi (s, n, p, k) x S).2)), (2, vI (nI ((ewi (s, n, p, k) x S).1))), (0, vR 8 20), (1, vI x)]) [0, 3, 4, 5, 6] rfl [4, 6, 5, 3, 2, 0, 1] rfl (by decide) ?_
                      have hi := ih (S + 1) (by omega) (by omega)
                      rw [hnx, if_neg (fun q => q.2.2.elim c5 (fun z => absurd z.2 (by omega)))] at hi
                      exact hi
                    · refine R_s 5 (148, [(4, vI (nI S + Int32.ofInt 1)), (3, vI (ptm s S n)), (2, vI (nI S)), (6, vI (nI 1)), (5, vI (ptm s S n)), (0, vR 8 20), (1, vI x)], [], h) rfl ?_
                      refine R_lv (lv' := [(4, vI (nI (S + 1))), (3, vI (ptm s S n)), (2, vI (nI S)), (6, vI (nI 1)), (5, vI (ptm s S n)), (0, vR 8 20), (1, vI x)]) (by rw [show nI S + Int32.ofInt 1 = nI (S + 1) from nI_add _ _]) ?_
                      refine R_s 1 (21, [(4, vI (nI (S + 1))), (3, vI (ptm s S n)), (2, vI (nI S)), (6, vI (nI 1)), (5, vI (ptm s S n)), (0, vR 8 20), (1, vI x)], [], h) rfl ?_
                      refine R_fg (lv' := [(4, vI (nI (S + 1))), (3, vI (ptm s S n)), (2, vI (nI S)), (0, vR 8 20), (1, vI x)]) [0, 1, 2, 5, 6] rfl [4, 3, 2, 6, 5, 0, 1] rfl (by decide) ?_
                      have hi := ih (S + 1) (by omega) (by omega)
                      rw [hnx, if_pos ⟨c3, c4, Or.inr ⟨c6, by omega⟩⟩] at hi
                      exact hi
          · exact absurd hm2 (by omega)
        | succ m2 ih2 =>
          intro a hm2
          refine R_s 4 (43, [(6, vI (nI a)), (5, vI (ptm s S a)), (4, vI (nI S)), (3, vI ((ewi (s, n, p, k) x S).2)), (2, vI (nI ((ewi (s, n, p, k) x S).1))), (0, vR 8 20), (1, vI x)], [vI (nI 0), vR 8 21, vI (nI a)], h) rfl ?_
          refine R_ld 8 21 0 125 rfl rfl (by omega) (by decide) ?_
          refine R_top (nI n) ((M 0 (by decide)).trans F.1.1) ?_
          refine R_s 1 (cond (if2 .ge (nI a) (nI n)) 82 47, [(6, vI (nI a)), (5, vI (ptm s S a)), (4, vI (nI S)), (3, vI ((ewi (s, n, p, k) x S).2)), (2, vI (nI ((ewi (s, n, p, k) x S).1))), (0, vR 8 20), (1, vI x)], [], h) rfl ?_
          refine R_bp (n ≤ a) (i2_ge (by omega) (by omega)) (fun c2 => ?_) (fun c2 => ?_)
          · have ea : a = n := by omega
            rw [ea]
            have hb : (ewi (s, n, p, k) x S).1 < 256 := by have := hlt S; omega
            have hnx : ewi (s, n, p, k) x (S + 1) = if (S &&& en (s, n, p, k) = S) ∧ ptm s S n ≤ x ∧ ((ewi (s, n, p, k) x S).2 < ptm s S n ∨ (ptm s S n = (ewi (s, n, p, k) x S).2 ∧ pop (ewi (s, n, p, k) x S).1 < pop S)) then (S, ptm s S n) else ewi (s, n, p, k) x S := by
              obtain ⟨S0, rfl⟩ : ∃ S0, S = S0 + 1 := ⟨S - 1, by omega⟩
              rfl
            refine R_s 4 (90, [(6, vI (nI n)), (5, vI (ptm s S n)), (4, vI (nI S)), (3, vI ((ewi (s, n, p, k) x S).2)), (2, vI (nI ((ewi (s, n, p, k) x S).1))), (0, vR 8 20), (1, vI x)], [vI (nI 9), vR 8 21, vI (nI S)], h) rfl ?_
            refine R_ld 8 21 9 125 rfl rfl (by omega) (by decide) ?_
            refine R_top (nI (en (s, n, p, k))) ((M 9 (by decide)).trans e1) ?_
            refine R_s 4 (cond (if0 .ne ((nI S) &&& ((nI (en (s, n, p, k))) ^^^ (-1)))) 107 97, [(6, vI (nI n)), (5, vI (ptm s S n)), (4, vI (nI S)), (3, vI ((ewi (s, n, p, k) x S).2)), (2, vI (nI ((ewi (s, n, p, k) x S).1))), (0, vR 8 20), (1, vI x)], [], h) rfl ?_
            refine R_bp (¬ (S &&& en (s, n, p, k) = S)) (x0_ne.trans (not_congr (msk_ok (by omega) e8))) (fun c3 => ?_) (fun c3 => ?_)
            · refine R_s 4 (cond (if0 .eq (nI 0)) 145 115, [(6, vI (nI 0)), (5, vI (ptm s S n)), (4, vI (nI S)), (3, vI ((ewi (s, n, p, k) x S).2)), (2, vI (nI ((ewi (s, n, p, k) x S).1))), (0, vR 8 20), (1, vI x)], [], h) rfl ?_
              refine R_bt rfl ?_
              refine R_s 1 (148, [(4, vI (nI S + Int32.ofInt 1)), (6, vI (nI 0)), (5, vI (ptm s S n)), (3, vI ((ewi (s, n, p, k) x S).2)), (2, vI (nI ((ewi (s, n, p, k) x S).1))), (0, vR 8 20), (1, vI x)], [], h) rfl ?_
              refine R_lv (lv' := [(4, vI (nI (S + 1))), (6, vI (nI 0)), (5, vI (ptm s S n)), (3, vI ((ewi (s, n, p, k) x S).2)), (2, vI (nI ((ewi (s, n, p, k) x S).1))), (0, vR 8 20), (1, vI x)]) (by rw [show nI S + Int32.ofInt 1 = nI (S + 1) from nI_add _ _]) ?_
              refine R_s 1 (21, [(4, vI (nI (S + 1))), (6, vI (nI 0)), (5, vI (ptm s S n)), (3, vI ((ewi (s, n, p, k) x S).2)), (2, vI (nI ((ewi (s, n, p, k) x S).1))), (0, vR 8 20), (1, vI x)], [], h) rfl ?_
              refine R_fg (lv' := [(4, vI (nI (S + 1))), (3, vI ((ewi (s, n, p, k) x S).2)), (2, vI (nI ((ewi (s, n, p, k) x S).1))), (0, vR 8 20), (1, vI x)]) [0, 3, 4, 5, 6] rfl [4, 6, 5, 3, 2, 0, 1] rfl (by decide) ?_
              have hi := ih (S + 1) (by omega) (by omega)
              rw [hnx, if_neg (fun q => c3 q.1)] at hi
              exact hi
            · have c3 := Classical.not_not.mp c3
              refine R_s 3 (cond (if2 .gt (ptm s S n) x) 107 103, [(6, vI (nI n)), (5, vI (ptm s S n)), (4, vI (nI S)), (3, vI ((ewi (s, n, p, k) x S).2)), (2, vI (nI ((ewi (s, n, p, k) x S).1))), (0, vR 8 20), (1, vI x)], [], h) rfl ?_
              refine R_bp (x < (ptm s S n)) x2_gt (fun c4 => ?_) (fun c4 => ?_)
              · refine R_s 4 (cond (if0 .eq (nI 0)) 145 115, [(6, vI (nI 0)), (5, vI (ptm s S n)), (4, vI (nI S)), (3, vI ((ewi (s, n, p, k) x S).2)), (2, vI (nI ((ewi (s, n, p, k) x S).1))), (0, vR 8 20), (1, vI x)], [], h) rfl ?_
                refine R_bt rfl ?_
                refine R_s 1 (148, [(4, vI (nI S + Int32.ofInt 1)), (6, vI (nI 0)), (5, vI (ptm s S n)), (3, vI ((ewi (s, n, p, k) x S).2)), (2, vI (nI ((ewi (s, n, p, k) x S).1))), (0, vR 8 20), (1, vI x)], [], h) rfl ?_
                refine R_lv (lv' := [(4, vI (nI (S + 1))), (6, vI (nI 0)), (5, vI (ptm s S n)), (3, vI ((ewi (s, n, p, k) x S).2)), (2, vI (nI ((ewi (s, n, p, k) x S).1))), (0, vR 8 20), (1, vI x)]) (by rw [show nI S + Int32.ofInt 1 = nI (S + 1) from nI_add _ _]) ?_
                refine R_s 1 (21, [(4, vI (nI (S + 1))), (6, vI (nI 0)), (5, vI (ptm s S n)), (3, vI ((ewi (s, n, p, k) x S).2)), (2, vI (nI ((ewi (s, n, p, k) x S).1))), (0, vR 8 20), (1, vI x)], [], h) rfl ?_
                refine R_fg (lv' := [(4, vI (nI (S + 1))), (3, vI ((ewi (s, n, p, k) x S).2)), (2, vI (nI ((ewi (s, n, p, k) x S).1))), (0, vR 8 20), (1, vI x)]) [0, 3, 4, 5, 6] rfl [4, 6, 5, 3, 2, 0, 1] rfl (by decide) ?_
                have hi := ih (S + 1) (by omega) (by omega)
                rw [hnx, if_neg (fun q => by have h1 := Int32.le_iff_toInt_le.mp q.2.1; have h2 := Int32.lt_iff_toInt_lt.mp c4; omega)] at hi
                exact hi
              · have c4 : ptm s S n ≤ x := Int32.le_iff_toInt_le.mpr (by have h2 : ¬ x.toInt < (ptm s S n).toInt := fun q => c4 (Int32.lt_iff_toInt_lt.mpr q); omega)
                refine R_s 5 (cond (if0 .eq (nI 1)) 145 115, [(6, vI (nI 1)), (5, vI (ptm s S n)), (4, vI (nI S)), (3, vI ((ewi (s, n, p, k) x S).2)), (2, vI (nI ((ewi (s, n, p, k) x S).1))), (0, vR 8 20), (1, vI x)], [], h) rfl ?_
                refine R_bf rfl ?_
                refine R_s 3 (cond (if2 .gt (ptm s S n) ((ewi (s, n, p, k) x S).2)) 139 121, [(6, vI (nI 1)), (5, vI (ptm s S n)), (4, vI (nI S)), (3, vI ((ewi (s, n, p, k) x S).2)), (2, vI (nI ((ewi (s, n, p, k) x S).1))), (0, vR 8 20), (1, vI x)], [], h) rfl ?_
                refine R_bp (((ewi (s, n, p, k) x S).2) < (ptm s S n)) x2_gt (fun c5 => ?_) (fun c5 => ?_)
                · refine R_s 5 (148, [(4, vI (nI S + Int32.ofInt 1)), (3, vI (ptm s S n)), (2, vI (nI S)), (6, vI (nI 1)), (5, vI (ptm s S n)), (0, vR 8 20), (1, vI x)], [], h) rfl ?_
                  refine R_lv (lv' := [(4, vI (nI (S + 1))), (3, vI (ptm s S n)), (2, vI (nI S)), (6, vI (nI 1)), (5, vI (ptm s S n)), (0, vR 8 20), (1, vI x)]) (by rw [show nI S + Int32.ofInt 1 = nI (S + 1) from nI_add _ _]) ?_
                  refine R_s 1 (21, [(4, vI (nI (S + 1))), (3, vI (ptm s S n)), (2, vI (nI S)), (6, vI (nI 1)), (5, vI (ptm s S n)), (0, vR 8 20), (1, vI x)], [], h) rfl ?_
                  refine R_fg (lv' := [(4, vI (nI (S + 1))), (3, vI (ptm s S n)), (2, vI (nI S)), (0, vR 8 20), (1, vI x)]) [0, 1, 2, 5, 6] rfl [4, 3, 2, 6, 5, 0, 1] rfl (by decide) ?_
                  have hi := ih (S + 1) (by omega) (by omega)
                  rw [hnx, if_pos ⟨c3, c4, Or.inl c5⟩] at hi
                  exact hi
                · refine R_s 3 (cond (if2 .ne (ptm s S n) ((ewi (s, n, p, k) x S).2)) 145 127, [(6, vI (nI 1)), (5, vI (ptm s S n)), (4, vI (nI S)), (3, vI ((ewi (s, n, p, k) x S).2)), (2, vI (nI ((ewi (s, n, p, k) x S).1))), (0, vR 8 20), (1, vI x)], [], h) rfl ?_
                  refine R_bp (¬ (ptm s S n) = ((ewi (s, n, p, k) x S).2)) x2_ne (fun c6 => ?_) (fun c6 => ?_)
                  · refine R_s 1 (148, [(4, vI (nI S + Int32.ofInt 1)), (6, vI (nI 1)), (5, vI (ptm s S n)), (3, vI ((ewi (s, n, p, k) x S).2)), (2, vI (nI ((ewi (s, n, p, k) x S).1))), (0, vR 8 20), (1, vI x)], [], h) rfl ?_
                    refine R_lv (lv' := [(4, vI (nI (S + 1))), (6, vI (nI 1)), (5, vI (ptm s S n)), (3, vI ((ewi (s, n, p, k) x S).2)), (2, vI (nI ((ewi (s, n, p, k) x S).1))), (0, vR 8 20), (1, vI x)]) (by rw [show nI S + Int32.ofInt 1 = nI (S + 1) from nI_add _ _]) ?_
                    refine R_s 1 (21, [(4, vI (nI (S + 1))), (6, vI (nI 1)), (5, vI (ptm s S n)), (3, vI ((ewi (s, n, p, k) x S).2)), (2, vI (nI ((ewi (s, n, p, k) x S).1))), (0, vR 8 20), (1, vI x)], [], h) rfl ?_
                    refine R_fg (lv' := [(4, vI (nI (S + 1))), (3, vI ((ewi (s, n, p, k) x S).2)), (2, vI (nI ((ewi (s, n, p, k) x S).1))), (0, vR 8 20), (1, vI x)]) [0, 3, 4, 5, 6] rfl [4, 6, 5, 3, 2, 0, 1] rfl (by decide) ?_
                    have hi := ih (S + 1) (by omega) (by omega)
                    rw [hnx, if_neg (fun q => q.2.2.elim c5 (fun z => c6 z.1))] at hi
                    exact hi
                  · have c6 := Classical.not_not.mp c6
                    refine R_s 1 (129, [(6, vI (nI 1)), (5, vI (ptm s S n)), (4, vI (nI S)), (3, vI ((ewi (s, n, p, k) x S).2)), (2, vI (nI ((ewi (s, n, p, k) x S).1))), (0, vR 8 20), (1, vI x)], [vI (nI S)], h) rfl ?_
                    refine R_calli mM_ones [vI (nI S)] [] (nI (pop S)) h rfl (t_M_ones (show S < 256 by omega)) ?_
                    refine R_s 1 (133, [(6, vI (nI 1)), (5, vI (ptm s S n)), (4, vI (nI S)), (3, vI ((ewi (s, n, p, k) x S).2)), (2, vI (nI ((ewi (s, n, p, k) x S).1))), (0, vR 8 20), (1, vI x)], [vI (nI ((ewi (s, n, p, k) x S).1)), vI (nI (pop S))], h) rfl ?_
                    refine R_calli mM_ones [vI (nI ((ewi (s, n, p, k) x S).1))] [vI (nI (pop S))] (nI (pop (ewi (s, n, p, k) x S).1)) h rfl (t_M_ones hb) ?_
                    have q1 := pop_le S
                    have q2 := pop_le (ewi (s, n, p, k) x S).1
                    refine R_s 1 (cond (if2 .le (nI (pop S)) (nI (pop (ewi (s, n, p, k) x S).1))) 145 139, [(6, vI (nI 1)), (5, vI (ptm s S n)), (4, vI (nI S)), (3, vI ((ewi (s, n, p, k) x S).2)), (2, vI (nI ((ewi (s, n, p, k) x S).1))), (0, vR 8 20), (1, vI x)], [], h) rfl ?_
                    refine R_bp ((pop S) ≤ (pop (ewi (s, n, p, k) x S).1)) (i2_le (by omega) (by omega)) (fun c7 => ?_) (fun c7 => ?_)
                    · refine R_s 1 (148, [(4, vI (nI S + Int32.ofInt 1)), (6, vI (nI 1)), (5, vI (ptm s S n)), (3, vI ((ewi (s, n, p, k) x S).2)), (2, vI (nI ((ewi (s, n, p, k) x S).1))), (0, vR 8 20), (1, vI x)], [], h) rfl ?_
                      refine R_lv (lv' := [(4, vI (nI (S + 1))), (6, vI (nI 1)), (5, vI (ptm s S n)), (3, vI ((ewi (s, n, p, k) x S).2)), (2, vI (nI ((ewi (s, n, p, k) x S).1))), (0, vR 8 20), (1, vI x)]) (by rw [show nI S + Int32.ofInt 1 = nI (S + 1) from nI_add _ _]) ?_
                      refine R_s 1 (21, [(4, vI (nI (S + 1))), (6, vI (nI 1)), (5, vI (ptm s S n)), (3, vI ((ewi (s, n, p, k) x S).2)), (2, vI (nI ((ewi (s, n, p, k) x S).1))), (0, vR 8 20), (1, vI x)], [], h) rfl ?_
                      refine R_fg (lv' := [(4, vI (nI (S + 1))), (3, vI ((ewi (s, n, p, k) x S).2)), (2, vI (nI ((ewi (s, n, p, k) x S).1))), (0, vR 8 20), (1, vI x)]) [0, 3, 4, 5, 6] rfl [4, 6, 5, 3, 2, 0, 1] rfl (by decide) ?_
                      have hi := ih (S + 1) (by omega) (by omega)
                      rw [hnx, if_neg (fun q => q.2.2.elim c5 (fun z => absurd z.2 (by omega)))] at hi
                      exact hi
                    · refine R_s 5 (148, [(4, vI (nI S + Int32.ofInt 1)), (3, vI (ptm s S n)), (2, vI (nI S)), (6, vI (nI 1)), (5, vI (ptm s S n)), (0, vR 8 20), (1, vI x)], [], h) rfl ?_
                      refine R_lv (lv' := [(4, vI (nI (S + 1))), (3, vI (ptm s S n)), (2, vI (nI S)), (6, vI (nI 1)), (5, vI (ptm s S n)), (0, vR 8 20), (1, vI x)]) (by rw [show nI S + Int32.ofInt 1 = nI (S + 1) from nI_add _ _]) ?_
                      refine R_s 1 (21, [(4, vI (nI (S + 1))), (3, vI (ptm s S n)), (2, vI (nI S)), (6, vI (nI 1)), (5, vI (ptm s S n)), (0, vR 8 20), (1, vI x)], [], h) rfl ?_
                      refine R_fg (lv' := [(4, vI (nI (S + 1))), (3, vI (ptm s S n)), (2, vI (nI S)), (0, vR 8 20), (1, vI x)]) [0, 1, 2, 5, 6] rfl [4, 3, 2, 6, 5, 0, 1] rfl (by decide) ?_
                      have hi := ih (S + 1) (by omega) (by omega)
                      rw [hnx, if_pos ⟨c3, c4, Or.inr ⟨c6, by omega⟩⟩] at hi
                      exact hi
          · refine R_s 6 (56, [(6, vI (nI a)), (5, vI (ptm s S a)), (4, vI (nI S)), (3, vI ((ewi (s, n, p, k) x S).2)), (2, vI (nI ((ewi (s, n, p, k) x S).1))), (0, vR 8 20), (1, vI x)], [vI (((nI S) >>> ((nI a) &&& 31)) &&& (nI 1)), vI (ptm s S a)], h) rfl ?_
            refine R_top (nI (if S.testBit a then 1 else 0)) (bit_sh S (by omega) a (by omega)) ?_
            refine R_s 2 (cond (if2 .ne (nI (if S.testBit a then 1 else 0)) (nI 1)) 72 60, [(6, vI (nI a)), (5, vI (ptm s S a)), (4, vI (nI S)), (3, vI ((ewi (s, n, p, k) x S).2)), (2, vI (nI ((ewi (s, n, p, k) x S).1))), (0, vR 8 20), (1, vI x)], [vI (ptm s S a)], h) rfl ?_
            refine R_bp (S.testBit a = false) i2_nb (fun c3 => ?_) (fun c3 => ?_)
            · refine R_s 4 (79, [(6, vI (nI a + Int32.ofInt 1)), (5, vI ((ptm s S a) + (nI 0))), (4, vI (nI S)), (3, vI ((ewi (s, n, p, k) x S).2)), (2, vI (nI ((ewi (s, n, p, k) x S).1))), (0, vR 8 20), (1, vI x)], [], h) rfl ?_
              refine R_lv (lv' := [(6, vI (nI (a + 1))), (5, vI ((ptm s S a) + (nI 0))), (4, vI (nI S)), (3, vI ((ewi (s, n, p, k) x S).2)), (2, vI (nI ((ewi (s, n, p, k) x S).1))), (0, vR 8 20), (1, vI x)]) (by rw [show nI a + Int32.ofInt 1 = nI (a + 1) from nI_add _ _]) ?_
              refine R_s 1 (36, [(6, vI (nI (a + 1))), (5, vI ((ptm s S a) + (nI 0))), (4, vI (nI S)), (3, vI ((ewi (s, n, p, k) x S).2)), (2, vI (nI ((ewi (s, n, p, k) x S).1))), (0, vR 8 20), (1, vI x)], [], h) rfl ?_
              refine R_lv (lv' := [(6, vI (nI (a + 1))), (5, vI (ptm s S (a + 1))), (4, vI (nI S)), (3, vI ((ewi (s, n, p, k) x S).2)), (2, vI (nI ((ewi (s, n, p, k) x S).1))), (0, vR 8 20), (1, vI x)]) (by rw [show ptm s S (a + 1) = ptm s S a by show (if S.testBit a then ptm s S a + s (1 + a) else ptm s S a) = _; rw [if_neg (by rw [c3]; decide)], show (nI 0) = 0 from rfl, Int32.add_zero]) ?_
              exact ih2 (a + 1) (by omega)
            · refine R_s 4 (67, [(6, vI (nI a)), (5, vI (ptm s S a)), (4, vI (nI S)), (3, vI ((ewi (s, n, p, k) x S).2)), (2, vI (nI ((ewi (s, n, p, k) x S).1))), (0, vR 8 20), (1, vI x)], [vI (nI a), vI (nI 1), vR 8 21, vI (ptm s S a)], h) rfl ?_
              refine R_add 1 a rfl ?_
              refine R_ld 8 21 (1 + a) 125 rfl rfl (by omega) (by decide) ?_
              refine R_top (s (1 + a)) (M _ (by omega)) ?_
              refine R_s 4 (79, [(6, vI (nI a + Int32.ofInt 1)), (5, vI ((ptm s S a) + (s (1 + a)))), (4, vI (nI S)), (3, vI ((ewi (s, n, p, k) x S).2)), (2, vI (nI ((ewi (s, n, p, k) x S).1))), (0, vR 8 20), (1, vI x)], [], h) rfl ?_
              refine R_lv (lv' := [(6, vI (nI (a + 1))), (5, vI ((ptm s S a) + (s (1 + a)))), (4, vI (nI S)), (3, vI ((ewi (s, n, p, k) x S).2)), (2, vI (nI ((ewi (s, n, p, k) x S).1))), (0, vR 8 20), (1, vI x)]) (by rw [show nI a + Int32.ofInt 1 = nI (a + 1) from nI_add _ _]) ?_
              refine R_s 1 (36, [(6, vI (nI (a + 1))), (5, vI ((ptm s S a) + (s (1 + a)))), (4, vI (nI S)), (3, vI ((ewi (s, n, p, k) x S).2)), (2, vI (nI ((ewi (s, n, p, k) x S).1))), (0, vR 8 20), (1, vI x)], [], h) rfl ?_
              refine R_lv (lv' := [(6, vI (nI (a + 1))), (5, vI (ptm s S (a + 1))), (4, vI (nI S)), (3, vI ((ewi (s, n, p, k) x S).2)), (2, vI (nI ((ewi (s, n, p, k) x S).1))), (0, vR 8 20), (1, vI x)]) (by rw [show ptm s S (a + 1) = ptm s S a + s (1 + a) by show (if S.testBit a then ptm s S a + s (1 + a) else ptm s S a) = _; rw [if_pos (tf c3)]]) ?_
              exact ih2 (a + 1) (by omega)
  · refine R_s 1 (13, [(0, vR 8 20), (1, vI x)], [vI (-1)], h) rfl ?_
    exact R_ret (some (vI (-1))) h rfl ⟨by unfold oWithin; rw [sel1_f (bool_f ca)], I⟩
theorem kp_get {l : List ST} {z w : ST} {j : Nat} (h : ((z :: l).take 5)[j]? = some w) : j < 5 ∧ ((j = 0 ∧ w = z) ∨ ∃ i, j = i + 1 ∧ l[i]? = some w) := take5 h
def KF (h h' : HP) : Prop := (∀ g' j', ¬ (g' = 8 ∧ (j' = 20 ∨ j' = 23)) → h' g' j' = h g' j') ∧ ∀ x, ¬ x = 3 → h' 8 20 x = h 8 20 x
theorem KF.rf {h : HP} : KF h h := ⟨fun _ _ _ => rfl, fun _ _ => rfl⟩
theorem KF.s {h h1 : HP} {x : Int32} (a : KF h h1) : KF h (hset h1 8 20 3 x) := ⟨fun g' j' e => by rw [hs_ne (by omega)]; exact a.1 g' j' e, fun y e => by rw [hs_same, up_ne e]; exact a.2 y e⟩
theorem KF.k {h h1 : HP} {i : Nat} {x : Int32} (a : KF h h1) : KF h (hset h1 8 23 i x) := ⟨fun g' j' e => by rw [hs_ne (by omega)]; exact a.1 g' j' e, fun y e => by rw [hs_ne (by omega)]; exact a.2 y e⟩
set_option maxRecDepth 100000 in
theorem t_M_keeps {d : Nat} {h : HP} {A : AS} (V : VA A) (I : MI h A) : MT d mM_keeps [vR 8 20] h (fun r h' => r = none ∧ MI h' (ed A A.1) ∧ KF h h') := by
  obtain ⟨⟨s, n, p, k⟩, kp, ch, len⟩ := A
  have M : MS 21 h s := I.1
  have F : WF s n p k := V.1.1
  have O : WO s n := V.1.2.1.1
  have hn1 : 1 ≤ n := V.1.2.2.1
  have hp1 : 1 ≤ p := V.1.2.2.2.1
  have hk1 : 1 ≤ k := V.1.2.2.2.2
  have h8 := F.2.1.1
  have h5 := F.2.1.2.1
  have h6 := F.2.1.2.2
  have hkl : kp.length ≤ 5 := V.2.2
  obtain ⟨-, ⟨k1, k2⟩, T⟩ := id I
  dsimp only at k1 k2
  have fin : ∀ (km : Nat) (hh : HP) (lv : List (Nat × AV)), lv = [(0, vR 8 20)] → km = min kp.length 4 → hh 8 20 3 = nI km → (∀ j z, j < km → kp[j]? = some z → ∀ i, i < 125 → hh 8 23 (125 * (km - 1 - j) + i) = z.1 i) → KF h hh → R d mM_keeps (48, lv, [], hh) (fun r h' => r = none ∧ MI h' (ed ((s, n, p, k), kp, ch, len) (s, n, p, k)) ∧ KF h h') := by
    intro km hh lv hlv hkm hk3 hkr hF
    subst hlv
    refine R_s 2 (50, [(1, vI (nI 0)), (0, vR 8 20)], [], hh) rfl ?_
    suffices ∀ m (i : Nat) (h9 : HP) (hm : i + m = 125) (a3 : h9 8 20 3 = nI km) (a1 : ∀ x, x < i → h9 8 23 (125 * km + x) = s x) (a2 : ∀ x, x < 125 * km → h9 8 23 x = hh 8 23 x) (aF : KF h h9), R d mM_keeps (50, [(1, vI (nI i)), (0, vR 8 20)], [], h9) _ from this 125 0 hh (by omega) hk3 (fun x hx => absurd hx (by omega)) (fun _ _ => rfl) hF
    intro m
    induction m with
    | zero =>
      intro i h9 hm a3 a1 a2 aF
      refine R_s 3 (cond (if2 .ge (nI i) (nI 125)) 82 56, [(1, vI (nI i)), (0, vR 8 20)], [], h9) rfl ?_
      refine R_bp (125 ≤ i) (i2_ge (by omega) (by omega)) (fun c1 => ?_) (fun c1 => ?_)
      · refine R_s 3 (87, [(1, vI (nI i)), (0, vR 8 20)], [vI (h9 8 20 3), vR 8 20], h9) rfl ?_
        refine R_top (nI km) a3 ?_
        refine R_s 1 (88, [(1, vI (nI i)), (0, vR 8 20)], [vI (nI 1), vI (nI km), vR 8 20], h9) rfl ?_
        refine R_add km 1 rfl ?_
        refine R_s 1 (92, [(1, vI (nI i)), (0, vR 8 20)], [], (hset h9 8 20 3 (nI (km + 1)))) rfl ?_
        refine R_hp (fun h1 eh1 => ?_)
        refine R_ret none h1 rfl ⟨rfl, ⟨fun i hi => ?_, ⟨?_, fun j z hj i hi => ?_⟩, ?_, T.2.1, fun j hj => ?_⟩, by rw [eh1]; exact aF.s⟩
        · rw [eh1, hs_ne (by omega), aF.1 8 21 (by omega)]; exact M i hi
        · rw [eh1, hs_same, up_same]; show _ = nI (((s, n, p, k) :: kp).take 5).length; rw [take5_len hkl, show min (kp.length + 1) 5 = km + 1 by omega]
        · have hlen : (((s, n, p, k) :: kp).take 5).length = km + 1 := by rw [take5_len hkl]; omega
          have hj2 : (((s, n, p, k) :: kp).take 5)[j]? = some z := hj
          show h1 8 23 (125 * ((((s, n, p, k) :: kp).take 5).length - 1 - j) + i) = z.1 i
          rw [hlen, eh1, hs_ne (by omega)]
          obtain ⟨j5, q | ⟨j0, q1, q2⟩⟩ := take5 hj2
          · obtain ⟨q1, q2⟩ := q; rw [q1, q2, show km + 1 - 1 - 0 = km by omega]; exact a1 i (by omega)
          · have hjl := (List.getElem?_eq_some_iff.mp hj2).1; rw [hlen] at hjl; rw [q1, show km + 1 - 1 - (j0 + 1) = km - 1 - j0 by omega, a2 _ (by omega)]; exact hkr j0 z (by omega) q2 i hi
        · rw [eh1, hs_same, up_ne (by omega), aF.2 5 (by omega)]; exact T.1
        · rw [eh1, hs_ne (by omega), aF.1 8 24 (by omega)]; exact T.2.2 j hj
      · exact absurd hm (by omega)
    | succ m ih =>
      intro i h9 hm a3 a1 a2 aF
      refine R_s 3 (cond (if2 .ge (nI i) (nI 125)) 82 56, [(1, vI (nI i)), (0, vR 8 20)], [], h9) rfl ?_
      refine R_bp (125 ≤ i) (i2_ge (by omega) (by omega)) (fun c1 => ?_) (fun c1 => ?_)
      · refine R_s 3 (87, [(1, vI (nI i)), (0, vR 8 20)], [vI (h9 8 20 3), vR 8 20], h9) rfl ?_
        refine R_top (nI km) a3 ?_
        refine R_s 1 (88, [(1, vI (nI i)), (0, vR 8 20)], [vI (nI 1), vI (nI km), vR 8 20], h9) rfl ?_
        refine R_add km 1 rfl ?_
        refine R_s 1 (92, [(1, vI (nI i)), (0, vR 8 20)], [], (hset h9 8 20 3 (nI (km + 1)))) rfl ?_
        refine R_hp (fun h2 eh2 => ?_)
        refine R_ret none h2 rfl ⟨rfl, ⟨fun i hi => ?_, ⟨?_, fun j z hj i hi => ?_⟩, ?_, T.2.1, fun j hj => ?_⟩, by rw [eh2]; exact aF.s⟩
        · rw [eh2, hs_ne (by omega), aF.1 8 21 (by omega)]; exact M i hi
        · rw [eh2, hs_same, up_same]; show _ = nI (((s, n, p, k) :: kp).take 5).length; rw [take5_len hkl, show min (kp.length + 1) 5 = km + 1 by omega]
        · have hlen : (((s, n, p, k) :: kp).take 5).length = km + 1 := by rw [take5_len hkl]; omega
          have hj2 : (((s, n, p, k) :: kp).take 5)[j]? = some z := hj
          show h2 8 23 (125 * ((((s, n, p, k) :: kp).take 5).length - 1 - j) + i) = z.1 i
          rw [hlen, eh2, hs_ne (by omega)]
          obtain ⟨j5, q | ⟨j0, q1, q2⟩⟩ := take5 hj2
          · obtain ⟨q1, q2⟩ := q; rw [q1, q2, show km + 1 - 1 - 0 = km by omega]; exact a1 i (by omega)
          · have hjl := (List.getElem?_eq_some_iff.mp hj2).1; rw [hlen] at hjl; rw [q1, show km + 1 - 1 - (j0 + 1) = km - 1 - j0 by omega, a2 _ (by omega)]; exact hkr j0 z (by omega) q2 i hi
        · rw [eh2, hs_same, up_ne (by omega), aF.2 5 (by omega)]; exact T.1
        · rw [eh2, hs_ne (by omega), aF.1 8 24 (by omega)]; exact T.2.2 j hj
      · refine R_s 5 (66, [(1, vI (nI i)), (0, vR 8 20)], [vI (h9 8 20 3), vI (nI 125), vR 8 23], h9) rfl ?_
        refine R_top (nI km) a3 ?_
        refine R_mul 125 km rfl ?_
        refine R_s 1 (68, [(1, vI (nI i)), (0, vR 8 20)], [vI (nI i), vI (nI (125 * km)), vR 8 23], h9) rfl ?_
        refine R_add (125 * km) i rfl ?_
        refine R_s 3 (74, [(1, vI (nI i)), (0, vR 8 20)], [vI (nI i), vR 8 21, vI (nI ((125 * km) + i)), vR 8 23], h9) rfl ?_
        refine R_ld 8 21 i 125 rfl rfl (by omega) (by decide) ?_
        refine R_top (s i) ((congrFun (aF.1 8 21 (by omega)) i).trans (M i (by omega))) ?_
        refine R_st 8 23 ((125 * km) + i) 625 (s i) rfl rfl (by omega) (by decide) (fun h3 eh3 => ?_)
        refine R_s 1 (79, [(1, vI (nI i + Int32.ofInt 1)), (0, vR 8 20)], [], h3) rfl ?_
        refine R_lv (lv' := [(1, vI (nI (i + 1))), (0, vR 8 20)]) (by rw [show nI i + Int32.ofInt 1 = nI (i + 1) from nI_add _ _]) ?_
        refine R_s 1 (50, [(1, vI (nI (i + 1))), (0, vR 8 20)], [], h3) rfl ?_
        refine ih (i + 1) h3 (by omega) (by rw [eh3, hs_ne (by omega)]; exact a3) (fun x hx => ?_) (fun x hx => ?_) (by rw [eh3]; exact aF.k)
        · rw [eh3, hs_same]; by_cases q : x = i
          · rw [q, up_same]
          · rw [up_ne (by omega)]; exact a1 x (by omega)
        · rw [eh3, hs_same, up_ne (by omega)]; exact a2 x hx
  refine R_s 2 (4, [(0, vR 8 20)], [vI (h 8 20 3)], h) rfl ?_
  refine R_top (nI (kp.length)) k1 ?_
  refine R_s 2 (cond (if2 .ne (nI (kp.length)) (nI 5)) 48 8, [(0, vR 8 20)], [], h) rfl ?_
  refine R_bp (¬ (kp.length) = 5) (i2_ne (by omega) (by omega)) (fun c0 => ?_) (fun c0 => ?_)
  · exact fin kp.length h _ rfl (by omega) k1 (fun j z _ hj => k2 j z hj) KF.rf
  · have c0 : kp.length = 5 := Classical.not_not.mp c0
    refine R_s 2 (10, [(1, vI (nI 0)), (0, vR 8 20)], [], h) rfl ?_
    suffices ∀ m (i : Nat) (h9 : HP) (hm : i + m = 500) (a3 : h9 8 20 3 = nI 5) (a1 : ∀ x, x < i → h9 8 23 x = h 8 23 (125 + x)) (a2 : ∀ x, i ≤ x → h9 8 23 x = h 8 23 x) (aF : KF h h9), R d mM_keeps (10, [(1, vI (nI i)), (0, vR 8 20)], [], h9) _ from this 500 0 h (by omega) (by rw [k1, c0]) (fun x hx => absurd hx (by omega)) (fun _ _ => rfl) KF.rf
    intro m
    induction m with
    | zero =>
      intro i h9 hm a3 a1 a2 aF
      refine R_s 3 (cond (if2 .ge (nI i) (nI 500)) 38 17, [(1, vI (nI i)), (0, vR 8 20)], [], h9) rfl ?_
      refine R_bp (500 ≤ i) (i2_ge (by omega) (by omega)) (fun c1 => ?_) (fun c1 => ?_)
      · refine R_s 3 (43, [(1, vI (nI i)), (0, vR 8 20)], [vI (h9 8 20 3), vR 8 20], h9) rfl ?_
        refine R_top (nI 5) a3 ?_
        refine R_s 3 (48, [(1, vI (nI i)), (0, vR 8 20)], [], (hset h9 8 20 3 (nI 5 - nI 1))) rfl ?_
        refine R_hp (fun h4 eh4 => ?_)
        refine R_fg (lv' := [(0, vR 8 20)]) [1] rfl [1, 0] rfl (by decide) ?_
        refine fin 4 h4 _ rfl (by omega) (by rw [eh4, hs_same, up_same]; rfl) (fun j z hj hz i hi => ?_) (by rw [eh4]; exact aF.s)
        have h1 := k2 j z hz i hi
        rw [c0] at h1
        rw [eh4, hs_ne (by omega), a1 _ (by omega), ← h1, show 125 + (125 * (4 - 1 - j) + i) = 125 * (5 - 1 - j) + i by omega]
      · exact absurd hm (by omega)
    | succ m ih =>
      intro i h9 hm a3 a1 a2 aF
      refine R_s 3 (cond (if2 .ge (nI i) (nI 500)) 38 17, [(1, vI (nI i)), (0, vR 8 20)], [], h9) rfl ?_
      refine R_bp (500 ≤ i) (i2_ge (by omega) (by omega)) (fun c1 => ?_) (fun c1 => ?_)
      · refine R_s 3 (43, [(1, vI (nI i)), (0, vR 8 20)], [vI (h9 8 20 3), vR 8 20], h9) rfl ?_
        refine R_top (nI 5) a3 ?_
        refine R_s 3 (48, [(1, vI (nI i)), (0, vR 8 20)], [], (hset h9 8 20 3 (nI 5 - nI 1))) rfl ?_
        refine R_hp (fun h5 eh5 => ?_)
        refine R_fg (lv' := [(0, vR 8 20)]) [1] rfl [1, 0] rfl (by decide) ?_
        refine fin 4 h5 _ rfl (by omega) (by rw [eh5, hs_same, up_same]; rfl) (fun j z hj hz i hi => ?_) (by rw [eh5]; exact aF.s)
        have h1 := k2 j z hz i hi
        rw [c0] at h1
        rw [eh5, hs_ne (by omega), a1 _ (by omega), ← h1, show 125 + (125 * (4 - 1 - j) + i) = 125 * (5 - 1 - j) + i by omega]
      · refine R_s 7 (29, [(1, vI (nI i)), (0, vR 8 20)], [vI (nI i), vI (nI 125), vR 8 23, vI (nI i), vR 8 23], h9) rfl ?_
        refine R_add 125 i rfl ?_
        refine R_ld 8 23 (125 + i) 625 rfl rfl (by omega) (by decide) ?_
        refine R_st 8 23 i 625 (h9 8 23 (125 + i)) rfl rfl (by omega) (by decide) (fun h6 eh6 => ?_)
        refine R_s 1 (35, [(1, vI (nI i + Int32.ofInt 1)), (0, vR 8 20)], [], h6) rfl ?_
        refine R_lv (lv' := [(1, vI (nI (i + 1))), (0, vR 8 20)]) (by rw [show nI i + Int32.ofInt 1 = nI (i + 1) from nI_add _ _]) ?_
        refine R_s 1 (10, [(1, vI (nI (i + 1))), (0, vR 8 20)], [], h6) rfl ?_
        refine ih (i + 1) h6 (by omega) (by rw [eh6, hs_ne (by omega)]; exact a3) (fun x hx => ?_) (fun x hx => ?_) (by rw [eh6]; exact aF.k)
        · rw [eh6, hs_same]; by_cases q : x = i
          · rw [q, up_same, a2 _ (by omega)]
          · rw [up_ne q]; exact a1 x (by omega)
        · rw [eh6, hs_same, up_ne (by omega)]; exact a2 x (by omega)
/-- another concert in the place of the present one -/
theorem MI.mod {h h2 : HP} {A : AS} {z : ST} (I : MI h A) (M : MS 21 h2 z.1) (e : ∀ g' j', ¬ (g' = 8 ∧ j' = 21) → h2 g' j' = h g' j') : MI h2 (z, A.2) := by
  obtain ⟨-, ⟨k1, k2⟩, T⟩ := I
  exact ⟨M, ⟨by rw [e 8 20 (by omega)]; exact k1, fun j z hj i hi => by rw [e 8 23 (by omega)]; exact k2 j z hj i hi⟩, by rw [e 8 20 (by omega)]; exact T.1, T.2.1, fun j hj => by rw [e 8 24 (by omega)]; exact T.2.2 j hj⟩
theorem MS.up {h : HP} {s : Nat → Int32} {i : Nat} {v : Int32} (M : MS 21 h s) : MS 21 (hset h 8 21 i v) (upd s i v) := by
  intro x hx
  rw [hs_same]
  by_cases q : x = i
  · rw [q, up_same, up_same]
  · rw [up_ne q, up_ne q]; exact M x hx
set_option maxRecDepth 100000 in
theorem t_M_undo {d : Nat} {h : HP} {A : AS} (V : VA A) (I : MI h A) : MT (d) mM_undo [vR 8 20] h (fun r h' => r = some (vI (oUndo A).1) ∧ MI h' (oUndo A).2) := by
  obtain ⟨⟨s, n, p, k⟩, kp, ch, len⟩ := A
  have M : MS 21 h s := I.1
  have F : WF s n p k := V.1.1
  have O : WO s n := V.1.2.1.1
  have hn1 : 1 ≤ n := V.1.2.2.1
  have hp1 : 1 ≤ p := V.1.2.2.2.1
  have hk1 : 1 ≤ k := V.1.2.2.2.2
  have h8 := F.2.1.1
  have h5 := F.2.1.2.1
  have h6 := F.2.1.2.2
  have hkl : kp.length ≤ 5 := V.2.2
  obtain ⟨-, ⟨k1, k2⟩, T⟩ := id I
  dsimp only at k1 k2
  cases kp with
  | nil =>
    refine R_s 2 (4, [(0, vR 8 20)], [vI (h 8 20 3)], h) rfl ?_
    refine R_top (nI 0) k1 ?_
    refine R_s 1 (cond (if0 .ne (nI 0)) 10 7, [(0, vR 8 20)], [], h) rfl ?_
    refine R_bf rfl ?_
    refine R_s 1 (9, [(0, vR 8 20)], [vI (-2)], h) rfl ?_
    exact R_ret (some (vI (-2))) h rfl ⟨rfl, I⟩
  | cons z0 kp =>
    have hkl : kp.length + 1 ≤ 5 := hkl
    refine R_s 2 (4, [(0, vR 8 20)], [vI (h 8 20 3)], h) rfl ?_
    refine R_top (nI (kp.length + 1)) k1 ?_
    refine R_s 1 (cond (if0 .ne (nI (kp.length + 1))) 10 7, [(0, vR 8 20)], [], h) rfl ?_
    refine R_bt (by unfold if0; exact decide_eq_true (fun q => absurd ((nI_eq (by omega) (by omega)).mp (q.trans nI_0.symm)) (by omega))) ?_
    refine R_s 3 (15, [(0, vR 8 20)], [vI (h 8 20 3), vR 8 20], h) rfl ?_
    refine R_top (nI (kp.length + 1)) k1 ?_
    refine R_s 1 (16, [(0, vR 8 20)], [vI (nI 1), vI (nI (kp.length + 1)), vR 8 20], h) rfl ?_
    refine R_sub (kp.length + 1) 1 rfl (by omega) ?_
    refine R_s 1 (20, [(0, vR 8 20)], [], (hset h 8 20 3 (nI ((kp.length + 1) - 1)))) rfl ?_
    refine R_hp (fun h1 eh1 => ?_)
    refine R_s 2 (22, [(1, vI (nI 0)), (0, vR 8 20)], [], h1) rfl ?_
    suffices ∀ m (i : Nat) (h9 : HP) (hm : i + m = 125) (a1 : ∀ x, x < i → h9 8 21 x = z0.1 x) (aF : ∀ g' j', ¬ (g' = 8 ∧ j' = 21) → h9 g' j' = h1 g' j'), R d mM_undo (22, [(1, vI (nI i)), (0, vR 8 20)], [], h9) _ from this 125 0 h1 (by omega) (fun x hx => absurd hx (by omega)) (fun _ _ _ => rfl)
    intro m
    induction m with
    | zero =>
      intro i h9 hm a1 aF
      refine R_s 3 (cond (if2 .ge (nI i) (nI 125)) 54 28, [(1, vI (nI i)), (0, vR 8 20)], [], h9) rfl ?_
      refine R_bp (125 ≤ i) (i2_ge (by omega) (by omega)) (fun c1 => ?_) (fun c1 => ?_)
      · refine R_s 2 (58, [(1, vI (nI i)), (0, vR 8 20)], [vI (h9 8 20 3)], h9) rfl ?_
        refine R_top (nI (kp.length)) ((congrFun (aF 8 20 (by omega)) 3).trans (by rw [eh1, hs_same, up_same]; rfl)) ?_
        refine R_ret (some (vI (nI kp.length))) h9 rfl ⟨rfl, ⟨fun i hi => a1 i (by omega), ⟨?_, fun j z hj i hi => ?_⟩, ?_, T.2.1, fun j hj => ?_⟩⟩
        · rw [aF 8 20 (by omega), eh1, hs_same, up_same]; rfl
        · have hjl := (List.getElem?_eq_some_iff.mp hj).1
          have h1 := k2 (j + 1) z hj i hi
          have h2 : kp.length + 1 - 1 - (j + 1) = kp.length - 1 - j := by omega
          rw [aF 8 23 (by omega), eh1, hs_ne (by omega)]
          show h 8 23 (125 * (kp.length - 1 - j) + i) = _
          rw [← h2]; exact h1
        · rw [aF 8 20 (by omega), eh1, hs_same, up_ne (by omega)]; exact T.1
        · rw [aF 8 24 (by omega), eh1, hs_ne (by omega)]; exact T.2.2 j hj
      · exact absurd hm (by omega)
    | succ m ih =>
      intro i h9 hm a1 aF
      refine R_s 3 (cond (if2 .ge (nI i) (nI 125)) 54 28, [(1, vI (nI i)), (0, vR 8 20)], [], h9) rfl ?_
      refine R_bp (125 ≤ i) (i2_ge (by omega) (by omega)) (fun c1 => ?_) (fun c1 => ?_)
      · refine R_s 2 (58, [(1, vI (nI i)), (0, vR 8 20)], [vI (h9 8 20 3)], h9) rfl ?_
        refine R_top (nI (kp.length)) ((congrFun (aF 8 20 (by omega)) 3).trans (by rw [eh1, hs_same, up_same]; rfl)) ?_
        refine R_ret (some (vI (nI kp.length))) h9 rfl ⟨rfl, ⟨fun i hi => a1 i (by omega), ⟨?_, fun j z hj i hi => ?_⟩, ?_, T.2.1, fun j hj => ?_⟩⟩
        · rw [aF 8 20 (by omega), eh1, hs_same, up_same]; rfl
        · have hjl := (List.getElem?_eq_some_iff.mp hj).1
          have h1 := k2 (j + 1) z hj i hi
          have h2 : kp.length + 1 - 1 - (j + 1) = kp.length - 1 - j := by omega
          rw [aF 8 23 (by omega), eh1, hs_ne (by omega)]
          show h 8 23 (125 * (kp.length - 1 - j) + i) = _
          rw [← h2]; exact h1
        · rw [aF 8 20 (by omega), eh1, hs_same, up_ne (by omega)]; exact T.1
        · rw [aF 8 24 (by omega), eh1, hs_ne (by omega)]; exact T.2.2 j hj
      · refine R_s 8 (43, [(1, vI (nI i)), (0, vR 8 20)], [vI (h9 8 20 3), vI (nI 125), vR 8 23, vI (nI i), vR 8 21], h9) rfl ?_
        refine R_top (nI (kp.length)) ((congrFun (aF 8 20 (by omega)) 3).trans (by rw [eh1, hs_same, up_same]; rfl)) ?_
        refine R_mul 125 (kp.length) rfl ?_
        refine R_s 1 (45, [(1, vI (nI i)), (0, vR 8 20)], [vI (nI i), vI (nI (125 * (kp.length))), vR 8 23, vI (nI i), vR 8 21], h9) rfl ?_
        refine R_add (125 * (kp.length)) i rfl ?_
        refine R_ld 8 23 ((125 * (kp.length)) + i) 625 rfl rfl (by omega) (by decide) ?_
        refine R_st 8 21 i 125 (h9 8 23 ((125 * (kp.length)) + i)) rfl rfl (by omega) (by decide) (fun h2 eh2 => ?_)
        refine R_s 1 (51, [(1, vI (nI i + Int32.ofInt 1)), (0, vR 8 20)], [], h2) rfl ?_
        refine R_lv (lv' := [(1, vI (nI (i + 1))), (0, vR 8 20)]) (by rw [show nI i + Int32.ofInt 1 = nI (i + 1) from nI_add _ _]) ?_
        refine R_s 1 (22, [(1, vI (nI (i + 1))), (0, vR 8 20)], [], h2) rfl ?_
        refine ih (i + 1) h2 (by omega) (fun x hx => ?_) (fun g' j' e => by rw [eh2, hs_ne e]; exact aF g' j' e)
        rw [eh2, hs_same]
        by_cases q : x = i
        · rw [q, up_same, aF 8 23 (by omega), eh1, hs_ne (by omega)]; exact k2 0 z0 rfl i (by omega)
        · rw [up_ne q]; exact a1 x (by omega)
