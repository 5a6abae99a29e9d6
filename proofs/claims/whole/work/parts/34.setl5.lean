/-- all kinds have at most five units -/
def WK (z : ST) : Prop := ∀ c, c < z.2.2.2 → ∀ u, z.1 (33 + c) = nI u → u < 2147483648 → u ≤ 5
/-- behind another table: nothing but the draft and the table's cells has changed -/
theorem CI.sav {h h' : HP} {A : AS} (I : CI h A) (e : ∀ g' j', ¬ g' = 1 → ¬ (g' = 7 ∧ j' = 9) → ¬ (g' = 7 ∧ 15 ≤ j' ∧ j' ≤ 19) → h' g' j' = h g' j') (f : h' 7 9 5 = nI 0) : CI h' A := by
  obtain ⟨C, ⟨i, i1, i2, i3, i4⟩, X, -⟩ := I
  exact ⟨C.mv (fun j => e 0 j (by omega) (by omega) (by omega)), ⟨i, i1, by rw [e 7 13 (by omega) (by omega) (by omega)]; exact i2, by rw [e 7 13 (by omega) (by omega) (by omega)]; exact i3, fun j z hj => (i4 j z hj).mv (fun c => e _ c (by omega) (by omega) (by omega))⟩, ⟨by rw [e 7 10 (by omega) (by omega) (by omega)]; exact X.1, X.2.1, fun j hj => by rw [e 7 11 (by omega) (by omega) (by omega)]; exact X.2.2 j hj⟩, Or.inl f⟩
theorem wf_more' {s : Nat → Int32} {n p k c : Nat} (F : WF s n p k) (K : WK (s, n, p, k)) (hc : c < k) : WF (upd s (33 + c) (s (33 + c) + 1)) n p k := by
  obtain ⟨u, hu, hu6⟩ := F.2.2.2.2.1 c hc
  have hu5 : u ≤ 5 := K c hc u hu (by omega)
  rw [hu, nI_1]
  refine wf_unit F hc (by omega) (fun a ha => ?_)
  have h1 := F.2.2.2.2.2.2 a ha c hc
  have h2 := cn_le s a (nI c) p
  have := F.2.1.2.1
  rw [hu] at h1
  have h3 := (nI_leI (by omega) (by omega)).mp h1
  omega
set_option maxRecDepth 100000 in
theorem t_S_savingByUnit {d : Nat} {h : HP} {A : AS} {x : Int32} (V : VA A) (K : WK A.1) (I : CI h A) : MT (d + 6) mS_savingByUnit [vR 7 9, vI x] h (fun r h' => r = some (vI (oSave A x)) ∧ CI h' A) := by
  obtain ⟨⟨s, n, p, k⟩, kp, ch, len⟩ := A
  have C : CO h 0 s n p k := I.1
  have F : WF s n p k := V.1.1
  have O : WO s n := V.1.2.1.1
  have hn1 : 1 ≤ n := V.1.2.2.1
  have hp1 : 1 ≤ p := V.1.2.2.2.1
  have hk1 : 1 ≤ k := V.1.2.2.2.2
  have h8 : n ≤ 8 := F.2.1.1
  have h5 : p ≤ 5 := F.2.1.2.1
  have h6 : k ≤ 6 := F.2.1.2.2
  obtain ⟨he, hen, he8⟩ := en_ok (z := (s, n, p, k)) F
  refine R_s 3 (5, [(0, vR 7 9), (1, vI x)], [vI x, vR 0 0], h) rfl ?_
  refine R_calli mC_isKind [vR 0 0, vI x] [] (bI (inb x k)) h rfl (t_C_isKind C.1.2.2.1 (by omega)) ?_
  refine R_s 1 (cond (if0 .ne (bI (inb x k))) 13 11, [(0, vR 7 9), (1, vI x)], [], h) rfl ?_
  refine R_bp (inb x k = true) (x0_ne.trans bI_ne) (fun ca => ?_) (fun ca => ?_)
  · obtain ⟨a, ha, rfl⟩ := inb_ex (by omega) ca
    obtain ⟨u, hu, hu6⟩ := F.2.2.2.2.1 a ha
    have hu5 : u ≤ 5 := K a ha u hu (by omega)
    refine R_s 1 (14, [(0, vR 7 9), (1, vI (nI a))], [vR 7 9], h) rfl ?_
    refine R_call mS_presentTable [vR 7 9] [] rfl (t_S_presentTable V I) (fun r h1 e1 => ?_)
    obtain ⟨rfl, I1, T1⟩ := e1
    show R _ mS_savingByUnit (17, [(0, vR 7 9), (1, vI (nI a))], [vR 7 15], h1) _
    refine R_calli mO_leastCost [vR 7 15] [] (enc (zG (s, n, p, k)).1) h1 rfl (t_O_leastCost T1) ?_
    cases hg : (zG (s, n, p, k)).1 with
    | none =>
      refine R_s 4 (cond (if2 .ne (enc none) (-1)) 29 26, [(2, vI (enc none)), (0, vR 7 9), (1, vI (nI a))], [], h1) rfl ?_
      refine R_bf (by decide) ?_
      refine R_s 1 (28, [(2, vI (enc none)), (0, vR 7 9), (1, vI (nI a))], [vI (-4)], h1) rfl ?_
      exact R_ret (some (vI (-4))) h1 rfl ⟨by unfold oSave; dsimp only; rw [sel1_t ha (by omega), hg], I1⟩
    | some v =>
      have hv280 : v ≤ 280 := GT_le h8 (Wc_le F) hg
      refine R_top (nI v) rfl ?_
      refine R_s 4 (cond (if2 .ne (nI v) (-1)) 29 26, [(2, vI (nI v)), (0, vR 7 9), (1, vI (nI a))], [], h1) rfl ?_
      refine R_bt (by unfold if2; exact decide_eq_true (nI_ne_m1 (by omega))) ?_
      have C1 : CO h1 0 s n p k := I1.1
      refine R_s 4 (37, [(2, vI (nI v)), (0, vR 7 9), (1, vI (nI a))], [vR 0 0, vR 1 0], h1) rfl ?_
      refine R_call mC_copyFrom [vR 1 0, vR 0 0] [] rfl (t_C_copyFrom (g := 1) (g2 := 0) (by omega) C1 h8 h5 h6) (fun r h2 e2 => ?_)
      obtain ⟨rfl, C2, F2⟩ := e2
      show R _ mS_savingByUnit (40, [(2, vI (nI v)), (0, vR 7 9), (1, vI (nI a))], [], h2) _
      refine R_s 5 (49, [(2, vI (nI v)), (0, vR 7 9), (1, vI (nI a))], [vI (nI a), vR 1 3, vI (nI a), vR 1 3], h2) rfl ?_
      refine R_ld 1 3 a 6 rfl rfl (by omega) (by decide) ?_
      refine R_top (nI u) ((C2.2.2.2.1 a ha).1.trans hu) ?_
      refine R_s 1 (51, [(2, vI (nI v)), (0, vR 7 9), (1, vI (nI a))], [vI (nI 1), vI (nI u), vI (nI a), vR 1 3], h2) rfl ?_
      refine R_add u 1 rfl ?_
      refine R_st 1 3 a 6 (nI (u + 1)) rfl rfl (by omega) (by decide) (fun h3 eh3 => ?_)
      refine R_s 3 (58, [(2, vI (nI v)), (0, vR 7 9), (1, vI (nI a))], [], (hset h3 7 9 5 (nI 0))) rfl ?_
      refine R_hp (fun h4 eh4 => ?_)
      have F3 : WF (upd s (33 + a) (nI (u + 1))) n p k := by have := wf_more' F K ha; rw [hu, nI_1] at this; exact this
      have C4 : CO h4 1 (upd s (33 + a) (nI (u + 1))) n p k := by
        have q : CO h3 1 (upd s (33 + a) (nI (u + 1))) n p k := by rw [eh3]; exact co_unit h8 h5 h6 (by omega) C2
        exact co_frame q (fun j => by rw [eh4, hs_ne (by omega)])
      have hzm : zm (s, n, p, k) a = (upd s (33 + a) (nI (u + 1)), n, p, k) := by unfold zm; dsimp only; rw [hu, nI_1]
      obtain ⟨he3, hen3, he38⟩ := en_ok (z := (upd s (33 + a) (nI (u + 1)), n, p, k)) F3
      refine R_s 4 (66, [(2, vI (nI v)), (0, vR 7 9), (1, vI (nI a))], [vR 1 0, vR 7 15], h4) rfl ?_
      refine R_call mO_load [vR 7 15, vR 1 0] [] rfl (t_O_load (show ¬ 1 = 7 by omega) C4 F3 he3 hen3) (fun r h5 e5 => ?_)
      obtain ⟨rfl, T5, F5⟩ := e5
      show R _ mS_savingByUnit (69, [(2, vI (nI v)), (0, vR 7 9), (1, vI (nI a))], [], h5) _
      refine R_s 2 (73, [(2, vI (nI v)), (0, vR 7 9), (1, vI (nI a))], [vR 7 15], h5) rfl ?_
      refine R_call mO_solve [vR 7 15] [] rfl (t_O_solve T5 (Wc_le F3) hn1 h8) (fun r h6 e6 => ?_)
      obtain ⟨rfl, T6, F6⟩ := e6
      show R _ mS_savingByUnit (76, [(2, vI (nI v)), (0, vR 7 9), (1, vI (nI a))], [], h6) _
      refine R_s 3 (81, [(2, vI (nI v)), (0, vR 7 9), (1, vI (nI a))], [vR 7 15, vI (nI v)], h6) rfl ?_
      refine R_calli mO_leastCost [vR 7 15] [vI (nI v)] (enc (zG (upd s (33 + a) (nI (u + 1)), n, p, k)).1) h6 rfl (t_O_leastCost T6) ?_
      refine R_s 1 (85, [(2, vI (nI v)), (0, vR 7 9), (1, vI (nI a))], [vI ((nI v) - (enc (zG (upd s (33 + a) (nI (u + 1)), n, p, k)).1))], h6) rfl ?_
      exact R_ret (some (vI ((nI v) - (enc (zG (upd s (33 + a) (nI (u + 1)), n, p, k)).1)))) h6 rfl ⟨by unfold oSave; dsimp only; rw [sel1_t ha (by omega), hg, hzm], I1.sav (fun g' j' q1 q2 q3 => by rw [F6 g' j' (by omega), F5 g' j' (by omega), eh4, hs_ne (by omega), eh3, hs_ne (by omega)]; exact F2 g' j' q1) (by rw [F6 7 9 (by omega), F5 7 9 (by omega), eh4, hs_same, up_same])⟩
  · have ca : inb x k = false := by cases q9 : inb x k with
      | false => rfl
      | true => exact absurd q9 ca
    refine R_s 1 (12, [(0, vR 7 9), (1, vI x)], [vI (-1)], h) rfl ?_
    exact R_ret (some (vI (-1))) h rfl ⟨by unfold oSave; dsimp only; rw [sel1_f ca], I⟩
theorem msk_ok {S e : Nat} (hS : S < 256) (he : e < 256) : (nI S &&& (nI e ^^^ (-1))) = 0 ↔ S &&& e = S := by
  have h : ∀ S, S < 256 → ∀ e, e < 256 → ((nI S &&& (nI e ^^^ (-1))) = 0 ↔ S &&& e = S) := by decide +kernel
  exact h S hS e he
theorem ewi_lt {z : ST} {t : Int32} : ∀ S, (ewi z t S).1 < S ∨ (ewi z t S).1 = 0 := by
  intro S
  induction S with
  | zero => exact Or.inr rfl
  | succ S ih =>
    cases S with
    | zero => exact Or.inr rfl
    | succ S =>
      unfold ewi
      split
      · left; show S + 1 < S + 2; omega
      · rcases ih with h | h
        · left; omega
        · right; exact h
theorem i2_gb {a b : Nat} (ha : a < 2147483648) (hb : b < 2147483648) : True := trivial
set_option maxRecDepth 100000 in
theorem t_S_encoresWithin {d : Nat} {h : HP} {A : AS} {x : Int32} (V : VA A) (I : CI h A) : MT (d + 1) mS_encoresWithin [vR 7 9, vI x] h (fun r h' => r = some (vI (oWithin A x)) ∧ CI h' A) := by
  obtain ⟨⟨s, n, p, k⟩, kp, ch, len⟩ := A
  have C : CO h 0 s n p k := I.1
  have F : WF s n p k := V.1.1
  have O : WO s n := V.1.2.1.1
  have hn1 : 1 ≤ n := V.1.2.2.1
  have hp1 : 1 ≤ p := V.1.2.2.2.1
  have hk1 : 1 ≤ k := V.1.2.2.2.2
  have h8 : n ≤ 8 := F.2.1.1
  have h5 : p ≤ 5 := F.2.1.2.1
  have h6 : k ≤ 6 := F.2.1.2.2
  obtain ⟨he, hen, he8⟩ := en_ok (z := (s, n, p, k)) F
  have he : s 9 = nI (en (s, n, p, k)) := he
  have hp256 := pw_le h8
  cases hx : inb x 161 with
  | false =>
    rw [show oWithin ((s, n, p, k), kp, ch, len) x = -1 from sel1_f hx]
    refine R_s 2 (cond (if0 .lt x) 11 4, [(0, vR 7 9), (1, vI x)], [], h) rfl ?_
    refine R_bp (x < 0) x0_lt (fun c1 => ?_) (fun c1 => ?_)
    · refine R_s 1 (12, [(0, vR 7 9), (1, vI x)], [vI (-1)], h) rfl ?_
      exact R_ret (some (vI (-1))) h rfl ⟨rfl, I⟩
    · refine R_s 3 (cond (if2 .le x (nI 160)) 13 11, [(0, vR 7 9), (1, vI x)], [], h) rfl ?_
      refine R_bp (x ≤ (nI 160)) x2_le (fun c2 => ?_) (fun c2 => ?_)
      · rw [inb_of (a := 0) (m := 160) rfl (by decide) c1 c2 (by decide)] at hx
        cases hx
      · refine R_s 1 (12, [(0, vR 7 9), (1, vI x)], [vI (-1)], h) rfl ?_
        exact R_ret (some (vI (-1))) h rfl ⟨rfl, I⟩
  | true =>
    have hxx : oWithin ((s, n, p, k), kp, ch, len) x = nI (ewi (s, n, p, k) x (2 ^ n)).1 := by unfold oWithin sel1; rw [hx]; rfl
    rw [hxx]
    have c0 : ¬ x < 0 := fun q => by rw [inb_lo q] at hx; cases hx
    have c160 : x ≤ nI 160 := by
      obtain ⟨t, ht, rfl⟩ := inb_ex (by decide) hx
      exact nI_le (by omega) (by decide)
    refine R_s 2 (cond (if0 .lt x) 11 4, [(0, vR 7 9), (1, vI x)], [], h) rfl ?_
    refine R_bf (by unfold if0; exact decide_eq_false c0) ?_
    refine R_s 3 (cond (if2 .le x (nI 160)) 13 11, [(0, vR 7 9), (1, vI x)], [], h) rfl ?_
    refine R_bt (by unfold if2; exact decide_eq_true c160) ?_
    refine R_s 6 (20, [(4, vI (nI 1)), (3, vI (nI 0)), (2, vI (nI 0)), (0, vR 7 9), (1, vI x)], [], h) rfl ?_
    suffices ∀ m S b m9, S + m = 2 ^ n → 1 ≤ S → ewi (s, n, p, k) x S = (b, m9) → R (d + 1) mS_encoresWithin (20, [(4, vI (nI S)), (3, vI m9), (2, vI (nI b)), (0, vR 7 9), (1, vI x)], [], h) (fun r h' => r = some (vI (nI (ewi (s, n, p, k) x (2 ^ n)).1)) ∧ CI h' ((s, n, p, k), kp, ch, len)) from this (2 ^ n - 1) 1 0 (nI 0) (by have := Nat.pow_pos (n := n) (show 0 < 2 by decide); omega) (by omega) rfl
    intro m
    induction m with
    | zero =>
      intro S b m9 hm hS1 hE
      refine R_s 5 (30, [(4, vI (nI S)), (3, vI m9), (2, vI (nI b)), (0, vR 7 9), (1, vI x)], [vI (h 0 0 0), vI (nI 1), vI (nI S)], h) rfl ?_
      refine R_top (nI n) C.1.1 ?_
      refine R_s 1 (31, [(4, vI (nI S)), (3, vI m9), (2, vI (nI b)), (0, vR 7 9), (1, vI x)], [vI ((nI 1) <<< ((nI n) &&& 31)), vI (nI S)], h) rfl ?_
      refine R_top (nI (2 ^ n)) (bit_all n (by omega)) ?_
      refine R_s 1 (cond (if2 .ge (nI S) (nI (2 ^ n))) 114 34, [(4, vI (nI S)), (3, vI m9), (2, vI (nI b)), (0, vR 7 9), (1, vI x)], [], h) rfl ?_
      refine R_bp ((2 ^ n) ≤ S) (i2_ge (by omega) (by omega)) (fun c1 => ?_) (fun c1 => ?_)
      · refine R_s 1 (115, [(4, vI (nI S)), (3, vI m9), (2, vI (nI b)), (0, vR 7 9), (1, vI x)], [vI (nI b)], h) rfl ?_
        exact R_ret (some (vI (nI b))) h rfl ⟨by rw [show 2 ^ n = S by omega, hE], I⟩
      · exact absurd hm (by omega)
    | succ m ih =>
      intro S b m9 hm hS1 hE
      refine R_s 5 (30, [(4, vI (nI S)), (3, vI m9), (2, vI (nI b)), (0, vR 7 9), (1, vI x)], [vI (h 0 0 0), vI (nI 1), vI (nI S)], h) rfl ?_
      refine R_top (nI n) C.1.1 ?_
      refine R_s 1 (31, [(4, vI (nI S)), (3, vI m9), (2, vI (nI b)), (0, vR 7 9), (1, vI x)], [vI ((nI 1) <<< ((nI n) &&& 31)), vI (nI S)], h) rfl ?_
      refine R_top (nI (2 ^ n)) (bit_all n (by omega)) ?_
      refine R_s 1 (cond (if2 .ge (nI S) (nI (2 ^ n))) 114 34, [(4, vI (nI S)), (3, vI m9), (2, vI (nI b)), (0, vR 7 9), (1, vI x)], [], h) rfl ?_
      refine R_bp ((2 ^ n) ≤ S) (i2_ge (by omega) (by omega)) (fun c1 => ?_) (fun c1 => ?_)
      · refine R_s 1 (115, [(4, vI (nI S)), (3, vI m9), (2, vI (nI b)), (0, vR 7 9), (1, vI x)], [vI (nI b)], h) rfl ?_
        exact R_ret (some (vI (nI b))) h rfl ⟨by rw [show 2 ^ n = S by omega, hE], I⟩
      · have hS8 : S < 256 := by omega
        have hb8 : b < 256 := by
          rcases ewi_lt (z := (s, n, p, k)) (t := x) S with q | q <;> (rw [hE] at q; dsimp only at q; omega)
        have hst : ewi (s, n, p, k) x (S + 1) = if (S &&& en (s, n, p, k) = S) ∧ ptm s S n ≤ x ∧ (m9 < ptm s S n ∨ (ptm s S n = m9 ∧ pop b < pop S)) then (S, ptm s S n) else (b, m9) := by
          obtain ⟨S, rfl⟩ : ∃ y, S = y + 1 := ⟨S - 1, by omega⟩
          rw [ewi, hE]
        have hpS := pop_le S
        have hpb := pop_le b
        refine R_s 4 (43, [(4, vI (nI S)), (3, vI m9), (2, vI (nI b)), (0, vR 7 9), (1, vI x)], [vI (h 0 0 3), vI (nI S)], h) rfl ?_
        refine R_top (nI (en (s, n, p, k))) (C.1.2.2.2.trans he) ?_
        refine R_s 4 (cond (if0 .ne ((nI S) &&& ((nI (en (s, n, p, k))) ^^^ (-1)))) 108 49, [(4, vI (nI S)), (3, vI m9), (2, vI (nI b)), (0, vR 7 9), (1, vI x)], [], h) rfl ?_
        refine R_bp (¬ (nI S &&& (nI (en (s, n, p, k)) ^^^ (-1))) = 0) x0_ne (fun c2 => ?_) (fun c2 => ?_)
        · refine R_s 1 (111, [(4, vI (nI S + Int32.ofInt 1)), (3, vI m9), (2, vI (nI b)), (0, vR 7 9), (1, vI x)], [], h) rfl ?_
          refine R_lv (lv' := [(4, vI (nI (S + 1))), (3, vI m9), (2, vI (nI b)), (0, vR 7 9), (1, vI x)]) (by rw [show nI S + Int32.ofInt 1 = nI (S + 1) from nI_add _ _]) ?_
          refine R_s 1 (20, [(4, vI (nI (S + 1))), (3, vI m9), (2, vI (nI b)), (0, vR 7 9), (1, vI x)], [], h) rfl ?_
          exact ih (S + 1) b m9 (by omega) (by omega) (by rw [hst, if_neg (fun q => c2 ((msk_ok hS8 he8).mpr q.1))])
        · have c2 := (msk_ok hS8 he8).mp (Classical.not_not.mp c2)
          refine R_s 3 (55, [(4, vI (nI S)), (3, vI m9), (2, vI (nI b)), (0, vR 7 9), (1, vI x)], [vI (nI S), vR 0 0], h) rfl ?_
          refine R_calli mC_playingTime [vR 0 0, vI (nI S)] [] (ptm s S n) h rfl (t_C_playingTime C h8 hS8) ?_
          refine R_s 2 (62, [(5, vI (ptm s S n)), (4, vI (nI S)), (3, vI m9), (2, vI (nI b)), (0, vR 7 9), (1, vI x)], [vI (nI S)], h) rfl ?_
          refine R_calli mI_bitCount [vI (nI S)] [] (nI (pop S)) h rfl (t_I_bitCount hS8) ?_
          refine R_s 1 (66, [(5, vI (ptm s S n)), (4, vI (nI S)), (3, vI m9), (2, vI (nI b)), (0, vR 7 9), (1, vI x)], [vI (nI b), vI (nI (pop S))], h) rfl ?_
          refine R_calli mI_bitCount [vI (nI b)] [vI (nI (pop S))] (nI (pop b)) h rfl (t_I_bitCount hb8) ?_
          refine R_s 1 (cond (if2 .le (nI (pop S)) (nI (pop b))) 76 72, [(5, vI (ptm s S n)), (4, vI (nI S)), (3, vI m9), (2, vI (nI b)), (0, vR 7 9), (1, vI x)], [], h) rfl ?_
          refine R_bp ((pop S) ≤ (pop b)) (i2_le (by omega) (by omega)) (fun c3 => ?_) (fun c3 => ?_)
          · refine R_s 5 (cond (if2 .gt (ptm s S n) x) 108 85, [(6, vI (nI 0)), (5, vI (ptm s S n)), (4, vI (nI S)), (3, vI m9), (2, vI (nI b)), (0, vR 7 9), (1, vI x)], [], h) rfl ?_
            refine R_bp (x < (ptm s S n)) x2_gt (fun c4 => ?_) (fun c4 => ?_)
            · refine R_s 1 (111, [(4, vI (nI S + Int32.ofInt 1)), (6, vI (nI 0)), (5, vI (ptm s S n)), (3, vI m9), (2, vI (nI b)), (0, vR 7 9), (1, vI x)], [], h) rfl ?_
              refine R_lv (lv' := [(4, vI (nI (S + 1))), (6, vI (nI 0)), (5, vI (ptm s S n)), (3, vI m9), (2, vI (nI b)), (0, vR 7 9), (1, vI x)]) (by rw [show nI S + Int32.ofInt 1 = nI (S + 1) from nI_add _ _]) ?_
              refine R_s 1 (20, [(4, vI (nI (S + 1))), (6, vI (nI 0)), (5, vI (ptm s S n)), (3, vI m9), (2, vI (nI b)), (0, vR 7 9), (1, vI x)], [], h) rfl ?_
              refine R_fg (lv' := [(4, vI (nI (S + 1))), (3, vI m9), (2, vI (nI b)), (0, vR 7 9), (1, vI x)]) [0, 3, 4, 5, 6] rfl [4, 6, 5, 3, 2, 0, 1] rfl (by decide) ?_
              exact ih (S + 1) b m9 (by omega) (by omega) (by rw [hst, if_neg (fun q => absurd q.2.1 (Int32.not_le.mpr c4))])
            · have c4 : ptm s S n ≤ x := Int32.not_lt.mp c4
              refine R_s 3 (cond (if2 .gt (ptm s S n) m9) 102 91, [(6, vI (nI 0)), (5, vI (ptm s S n)), (4, vI (nI S)), (3, vI m9), (2, vI (nI b)), (0, vR 7 9), (1, vI x)], [], h) rfl ?_
              refine R_bp (m9 < (ptm s S n)) x2_gt (fun c5 => ?_) (fun c5 => ?_)
              · refine R_s 5 (111, [(4, vI (nI S + Int32.ofInt 1)), (3, vI (ptm s S n)), (2, vI (nI S)), (6, vI (nI 0)), (5, vI (ptm s S n)), (0, vR 7 9), (1, vI x)], [], h) rfl ?_
                refine R_lv (lv' := [(4, vI (nI (S + 1))), (3, vI (ptm s S n)), (2, vI (nI S)), (6, vI (nI 0)), (5, vI (ptm s S n)), (0, vR 7 9), (1, vI x)]) (by rw [show nI S + Int32.ofInt 1 = nI (S + 1) from nI_add _ _]) ?_
                refine R_s 1 (20, [(4, vI (nI (S + 1))), (3, vI (ptm s S n)), (2, vI (nI S)), (6, vI (nI 0)), (5, vI (ptm s S n)), (0, vR 7 9), (1, vI x)], [], h) rfl ?_
                refine R_fg (lv' := [(4, vI (nI (S + 1))), (3, vI (ptm s S n)), (2, vI (nI S)), (0, vR 7 9), (1, vI x)]) [0, 1, 2, 5, 6] rfl [4, 3, 2, 6, 5, 0, 1] rfl (by decide) ?_
                exact ih (S + 1) S (ptm s S n) (by omega) (by omega) (by rw [hst, if_pos ⟨c2, c4, Or.inl c5⟩])
              · refine R_s 3 (cond (if2 .ne (ptm s S n) m9) 108 97, [(6, vI (nI 0)), (5, vI (ptm s S n)), (4, vI (nI S)), (3, vI m9), (2, vI (nI b)), (0, vR 7 9), (1, vI x)], [], h) rfl ?_
                refine R_bp (¬ (ptm s S n) = m9) x2_ne (fun c6 => ?_) (fun c6 => ?_)
                · refine R_s 1 (111, [(4, vI (nI S + Int32.ofInt 1)), (6, vI (nI 0)), (5, vI (ptm s S n)), (3, vI m9), (2, vI (nI b)), (0, vR 7 9), (1, vI x)], [], h) rfl ?_
                  refine R_lv (lv' := [(4, vI (nI (S + 1))), (6, vI (nI 0)), (5, vI (ptm s S n)), (3, vI m9), (2, vI (nI b)), (0, vR 7 9), (1, vI x)]) (by rw [show nI S + Int32.ofInt 1 = nI (S + 1) from nI_add _ _]) ?_
                  refine R_s 1 (20, [(4, vI (nI (S + 1))), (6, vI (nI 0)), (5, vI (ptm s S n)), (3, vI m9), (2, vI (nI b)), (0, vR 7 9), (1, vI x)], [], h) rfl ?_
                  refine R_fg (lv' := [(4, vI (nI (S + 1))), (3, vI m9), (2, vI (nI b)), (0, vR 7 9), (1, vI x)]) [0, 3, 4, 5, 6] rfl [4, 6, 5, 3, 2, 0, 1] rfl (by decide) ?_
                  exact ih (S + 1) b m9 (by omega) (by omega) (by rw [hst, if_neg (fun q => q.2.2.elim (fun z => c5 z) (fun z => c6 z.1))])
                · refine R_s 2 (cond (if0 .eq (nI 0)) 108 102, [(6, vI (nI 0)), (5, vI (ptm s S n)), (4, vI (nI S)), (3, vI m9), (2, vI (nI b)), (0, vR 7 9), (1, vI x)], [], h) rfl ?_
                  refine R_bt rfl ?_
                  refine R_s 1 (111, [(4, vI (nI S + Int32.ofInt 1)), (6, vI (nI 0)), (5, vI (ptm s S n)), (3, vI m9), (2, vI (nI b)), (0, vR 7 9), (1, vI x)], [], h) rfl ?_
                  refine R_lv (lv' := [(4, vI (nI (S + 1))), (6, vI (nI 0)), (5, vI (ptm s S n)), (3, vI m9), (2, vI (nI b)), (0, vR 7 9), (1, vI x)]) (by rw [show nI S + Int32.ofInt 1 = nI (S + 1) from nI_add _ _]) ?_
                  refine R_s 1 (20, [(4, vI (nI (S + 1))), (6, vI (nI 0)), (5, vI (ptm s S n)), (3, vI m9), (2, vI (nI b)), (0, vR 7 9), (1, vI x)], [], h) rfl ?_
                  refine R_fg (lv' := [(4, vI (nI (S + 1))), (3, vI m9), (2, vI (nI b)), (0, vR 7 9), (1, vI x)]) [0, 3, 4, 5, 6] rfl [4, 6, 5, 3, 2, 0, 1] rfl (by decide) ?_
                  exact ih (S + 1) b m9 (by omega) (by omega) (by rw [hst, if_neg (fun q => q.2.2.elim (fun z => c5 z) (fun z => by omega))])
          · refine R_s 6 (cond (if2 .gt (ptm s S n) x) 108 85, [(6, vI (nI 1)), (5, vI (ptm s S n)), (4, vI (nI S)), (3, vI m9), (2, vI (nI b)), (0, vR 7 9), (1, vI x)], [], h) rfl ?_
            refine R_bp (x < (ptm s S n)) x2_gt (fun c4 => ?_) (fun c4 => ?_)
            · refine R_s 1 (111, [(4, vI (nI S + Int32.ofInt 1)), (6, vI (nI 1)), (5, vI (ptm s S n)), (3, vI m9), (2, vI (nI b)), (0, vR 7 9), (1, vI x)], [], h) rfl ?_
              refine R_lv (lv' := [(4, vI (nI (S + 1))), (6, vI (nI 1)), (5, vI (ptm s S n)), (3, vI m9), (2, vI (nI b)), (0, vR 7 9), (1, vI x)]) (by rw [show nI S + Int32.ofInt 1 = nI (S + 1) from nI_add _ _]) ?_
              refine R_s 1 (20, [(4, vI (nI (S + 1))), (6, vI (nI 1)), (5, vI (ptm s S n)), (3, vI m9), (2, vI (nI b)), (0, vR 7 9), (1, vI x)], [], h) rfl ?_
              refine R_fg (lv' := [(4, vI (nI (S + 1))), (3, vI m9), (2, vI (nI b)), (0, vR 7 9), (1, vI x)]) [0, 3, 4, 5, 6] rfl [4, 6, 5, 3, 2, 0, 1] rfl (by decide) ?_
              exact ih (S + 1) b m9 (by omega) (by omega) (by rw [hst, if_neg (fun q => absurd q.2.1 (Int32.not_le.mpr c4))])
            · have c4 : ptm s S n ≤ x := Int32.not_lt.mp c4
              refine R_s 3 (cond (if2 .gt (ptm s S n) m9) 102 91, [(6, vI (nI 1)), (5, vI (ptm s S n)), (4, vI (nI S)), (3, vI m9), (2, vI (nI b)), (0, vR 7 9), (1, vI x)], [], h) rfl ?_
              refine R_bp (m9 < (ptm s S n)) x2_gt (fun c5 => ?_) (fun c5 => ?_)
              · refine R_s 5 (111, [(4, vI (nI S + Int32.ofInt 1)), (3, vI (ptm s S n)), (2, vI (nI S)), (6, vI (nI 1)), (5, vI (ptm s S n)), (0, vR 7 9), (1, vI x)], [], h) rfl ?_
                refine R_lv (lv' := [(4, vI (nI (S + 1))), (3, vI (ptm s S n)), (2, vI (nI S)), (6, vI (nI 1)), (5, vI (ptm s S n)), (0, vR 7 9), (1, vI x)]) (by rw [show nI S + Int32.ofInt 1 = nI (S + 1) from nI_add _ _]) ?_
                refine R_s 1 (20, [(4, vI (nI (S + 1))), (3, vI (ptm s S n)), (2, vI (nI S)), (6, vI (nI 1)), (5, vI (ptm s S n)), (0, vR 7 9), (1, vI x)], [], h) rfl ?_
                refine R_fg (lv' := [(4, vI (nI (S + 1))), (3, vI (ptm s S n)), (2, vI (nI S)), (0, vR 7 9), (1, vI x)]) [0, 1, 2, 5, 6] rfl [4, 3, 2, 6, 5, 0, 1] rfl (by decide) ?_
                exact ih (S + 1) S (ptm s S n) (by omega) (by omega) (by rw [hst, if_pos ⟨c2, c4, Or.inl c5⟩])
              · refine R_s 3 (cond (if2 .ne (ptm s S n) m9) 108 97, [(6, vI (nI 1)), (5, vI (ptm s S n)), (4, vI (nI S)), (3, vI m9), (2, vI (nI b)), (0, vR 7 9), (1, vI x)], [], h) rfl ?_
                refine R_bp (¬ (ptm s S n) = m9) x2_ne (fun c6 => ?_) (fun c6 => ?_)
                · refine R_s 1 (111, [(4, vI (nI S + Int32.ofInt 1)), (6, vI (nI 1)), (5, vI (ptm s S n)), (3, vI m9), (2, vI (nI b)), (0, vR 7 9), (1, vI x)], [], h) rfl ?_
                  refine R_lv (lv' := [(4, vI (nI (S + 1))), (6, vI (nI 1)), (5, vI (ptm s S n)), (3, vI m9), (2, vI (nI b)), (0, vR 7 9), (1, vI x)]) (by rw [show nI S + Int32.ofInt 1 = nI (S + 1) from nI_add _ _]) ?_
                  refine R_s 1 (20, [(4, vI (nI (S + 1))), (6, vI (nI 1)), (5, vI (ptm s S n)), (3, vI m9), (2, vI (nI b)), (0, vR 7 9), (1, vI x)], [], h) rfl ?_
                  refine R_fg (lv' := [(4, vI (nI (S + 1))), (3, vI m9), (2, vI (nI b)), (0, vR 7 9), (1, vI x)]) [0, 3, 4, 5, 6] rfl [4, 6, 5, 3, 2, 0, 1] rfl (by decide) ?_
                  exact ih (S + 1) b m9 (by omega) (by omega) (by rw [hst, if_neg (fun q => q.2.2.elim (fun z => c5 z) (fun z => c6 z.1))])
                · refine R_s 2 (cond (if0 .eq (nI 1)) 108 102, [(6, vI (nI 1)), (5, vI (ptm s S n)), (4, vI (nI S)), (3, vI m9), (2, vI (nI b)), (0, vR 7 9), (1, vI x)], [], h) rfl ?_
                  refine R_bf rfl ?_
                  refine R_s 5 (111, [(4, vI (nI S + Int32.ofInt 1)), (3, vI (ptm s S n)), (2, vI (nI S)), (6, vI (nI 1)), (5, vI (ptm s S n)), (0, vR 7 9), (1, vI x)], [], h) rfl ?_
                  refine R_lv (lv' := [(4, vI (nI (S + 1))), (3, vI (ptm s S n)), (2, vI (nI S)), (6, vI (nI 1)), (5, vI (ptm s S n)), (0, vR 7 9), (1, vI x)]) (by rw [show nI S + Int32.ofInt 1 = nI (S + 1) from nI_add _ _]) ?_
                  refine R_s 1 (20, [(4, vI (nI (S + 1))), (3, vI (ptm s S n)), (2, vI (nI S)), (6, vI (nI 1)), (5, vI (ptm s S n)), (0, vR 7 9), (1, vI x)], [], h) rfl ?_
                  refine R_fg (lv' := [(4, vI (nI (S + 1))), (3, vI (ptm s S n)), (2, vI (nI S)), (0, vR 7 9), (1, vI x)]) [0, 1, 2, 5, 6] rfl [4, 3, 2, 6, 5, 0, 1] rfl (by decide) ?_
                  exact ih (S + 1) S (ptm s S n) (by omega) (by omega) (by rw [hst, if_pos ⟨c2, c4, Or.inr ⟨Classical.not_not.mp c6, by omega⟩⟩])
