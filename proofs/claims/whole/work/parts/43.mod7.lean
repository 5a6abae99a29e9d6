theorem in_ch {x : Int32} : (decide ((32 : Int64) ≤ x.toInt64) && decide (x.toInt64 ≤ 126)) = sel1 x 127 (fun u => decide (32 ≤ u)) false := in_15 (a := 32) (b := 126) (by decide) (by decide)
theorem MI.tx {h h2 : HP} {A : AS} {ch : Nat → Nat} {len : Nat} (I : MI h A) (T : TXM h2 ch len) (e : ∀ g' j', ¬ (g' = 8 ∧ (j' = 20 ∨ j' = 24)) → h2 g' j' = h g' j') (e3 : h2 8 20 3 = h 8 20 3) : MI h2 (A.1, A.2.1, ch, len) := by
  obtain ⟨M, ⟨k1, k2⟩, -⟩ := I
  exact ⟨fun i hi => by rw [e 8 21 (by omega)]; exact M i hi, ⟨by rw [e3]; exact k1, fun j z hj i hi => by rw [e 8 23 (by omega)]; exact k2 j z hj i hi⟩, T⟩
set_option maxRecDepth 100000 in
theorem t_M_append {d : Nat} {h : HP} {A : AS} {x : Int32} (V : VA A) (I : MI h A) : MT (d + 1) mM_append [vR 8 20, vI x] h (fun r h' => r = some (vI (oAppend A x).1) ∧ MI h' (oAppend A x).2) := by
  obtain ⟨⟨s, n, p, k⟩, kp, ch, len⟩ := A
  have M : MS 21 h s := I.1
  have F : WF s n p k := V.1.1
  have O : WO s n := V.1.2.1.1
  have hn1 : 1 ≤ n := V.1.2.2.1
  have hp1 : 1 ≤ p := V.1.2.2.2.1
  have hk1 : 1 ≤ k := V.1.2.2.2.2
  have h8 := F.2.1.1
  have h5 := F.2.1.2.1
  have h6 := F.2.1.2.2
  obtain ⟨-, -, T⟩ := id I
  have hlen : len ≤ 300 := T.2.1
  refine R_s 4 (8, [(0, vR 8 20), (1, vI x)], [vL 126, vL 32, vL ((x).toInt64)], h) rfl ?_
  refine R_calli mM_in [vL ((x).toInt64), vL 32, vL 126] [] (bI (decide ((32 : Int64) ≤ x.toInt64) && decide (x.toInt64 ≤ 126))) h rfl t_M_in ?_
  refine R_top (bI (sel1 x 127 (fun u => decide (32 ≤ u)) false)) (by rw [in_ch]) ?_
  refine R_s 1 (cond (if0 .ne (bI (sel1 x 127 (fun u => decide (32 ≤ u)) false))) 16 14, [(0, vR 8 20), (1, vI x)], [], h) rfl ?_
  refine R_bp (sel1 x 127 (fun u => decide (32 ≤ u)) false = true) (x0_ne.trans bI_ne) (fun c1 => ?_) (fun c1 => ?_)
  · cases hx : inb x 127 with
    | false => rw [sel1_f hx] at c1; cases c1
    | true =>
      obtain ⟨c, hc, rfl⟩ := inb_ex (by decide) hx
      rw [sel1_t hc (by decide), decide_eq_true_eq] at c1
      rw [show oAppend ((s, n, p, k), kp, ch, len) (nI c) = _ from sel1_t hc (by decide)]
      dsimp only
      rw [if_neg (by omega)]
      refine R_s 2 (20, [(0, vR 8 20), (1, vI (nI c))], [vI (h 8 20 5)], h) rfl ?_
      refine R_top (nI len) T.1 ?_
      refine R_s 2 (cond (if2 .ne (nI len) (nI 300)) 29 26, [(0, vR 8 20), (1, vI (nI c))], [], h) rfl ?_
      refine R_bp (¬ len = 300) (i2_ne (by omega) (by omega)) (fun c2 => ?_) (fun c2 => ?_)
      · rw [if_neg c2]
        refine R_s 4 (37, [(0, vR 8 20), (1, vI (nI c))], [vI (h 8 20 5), vR 8 24], h) rfl ?_
        refine R_top (nI len) T.1 ?_
        refine R_s 1 (38, [(0, vR 8 20), (1, vI (nI c))], [vI (nI c), vI (nI len), vR 8 24], h) rfl ?_
        refine R_st 8 24 len 300 (nI c) rfl rfl (by omega) (by decide) (fun h1 eh1 => ?_)
        refine R_s 3 (44, [(0, vR 8 20), (1, vI (nI c))], [vI (h1 8 20 5), vR 8 20], h1) rfl ?_
        refine R_top (nI len) (by rw [eh1, hs_ne (by omega)]; exact T.1) ?_
        refine R_s 1 (45, [(0, vR 8 20), (1, vI (nI c))], [vI (nI 1), vI (nI len), vR 8 20], h1) rfl ?_
        refine R_add len 1 rfl ?_
        refine R_s 1 (49, [(0, vR 8 20), (1, vI (nI c))], [], (hset h1 8 20 5 (nI (len + 1)))) rfl ?_
        refine R_hp (fun h2 eh2 => ?_)
        refine R_s 2 (53, [(0, vR 8 20), (1, vI (nI c))], [vI (h2 8 20 5)], h2) rfl ?_
        refine R_top (nI (len + 1)) (by rw [eh2, hs_same, up_same]) ?_
        refine R_ret (some (vI (nI (len + 1)))) h2 rfl ⟨rfl, I.tx ⟨by rw [eh2, hs_same, up_same], by omega, fun j hj => ?_⟩ (fun g' j' q => by rw [eh2, hs_ne (by omega), eh1, hs_ne (by omega)]) (by rw [eh2, hs_same, up_ne (by omega), eh1, hs_ne (by omega)])⟩
        rw [eh2, hs_ne (by omega), eh1, hs_same]
        unfold upN
        by_cases q : j = len
        · rw [q, up_same, if_pos rfl]; exact ⟨rfl, by omega, by omega⟩
        · rw [up_ne q, if_neg q]; exact T.2.2 j (show j < len by omega)
      · rw [if_pos (Classical.not_not.mp c2)]
        refine R_s 1 (28, [(0, vR 8 20), (1, vI (nI c))], [vI (-3)], h) rfl ?_
        exact R_ret (some (vI (-3))) h rfl ⟨rfl, I⟩
  · have hO : oAppend ((s, n, p, k), kp, ch, len) x = (-1, ((s, n, p, k), kp, ch, len)) := by
      cases hx : inb x 127 with
      | false => exact sel1_f hx
      | true =>
        obtain ⟨c, hc, rfl⟩ := inb_ex (by decide) hx
        rw [sel1_t hc (by decide), decide_eq_true_eq] at c1
        rw [show oAppend ((s, n, p, k), kp, ch, len) (nI c) = _ from sel1_t hc (by decide)]
        dsimp only
        rw [if_pos (by omega)]
    rw [hO]
    refine R_s 1 (15, [(0, vR 8 20), (1, vI x)], [vI (-1)], h) rfl ?_
    exact R_ret (some (vI (-1))) h rfl ⟨rfl, I⟩
set_option maxRecDepth 100000 in
theorem t_M_clearText {d : Nat} {h : HP} {A : AS} (V : VA A) (I : MI h A) : MT (d) mM_clearText [vR 8 20] h (fun r h' => r = some (vI (oClear A).1) ∧ MI h' (oClear A).2) := by
  obtain ⟨⟨s, n, p, k⟩, kp, ch, len⟩ := A
  have M : MS 21 h s := I.1
  have F : WF s n p k := V.1.1
  have O : WO s n := V.1.2.1.1
  have hn1 : 1 ≤ n := V.1.2.2.1
  have hp1 : 1 ≤ p := V.1.2.2.2.1
  have hk1 : 1 ≤ k := V.1.2.2.2.2
  have h8 := F.2.1.1
  have h5 := F.2.1.2.1
  have h6 := F.2.1.2.2
  obtain ⟨-, -, T⟩ := id I
  refine R_s 2 (4, [(0, vR 8 20)], [vI (h 8 20 5)], h) rfl ?_
  refine R_top (nI len) T.1 ?_
  refine R_s 4 (10, [(1, vI (nI len)), (0, vR 8 20)], [], (hset h 8 20 5 (nI 0))) rfl ?_
  refine R_hp (fun h1 eh1 => ?_)
  refine R_s 1 (11, [(1, vI (nI len)), (0, vR 8 20)], [vI (nI len)], h1) rfl ?_
  exact R_ret (some (vI (nI len))) h1 rfl ⟨rfl, I.tx ⟨by rw [eh1, hs_same, up_same], Nat.zero_le _, fun j hj => absurd hj (by omega)⟩ (fun g' j' q => by rw [eh1, hs_ne (by omega)]) (by rw [eh1, hs_same, up_ne (by omega)])⟩
set_option maxRecDepth 100000 in
theorem t_M_setPart {d : Nat} {h : HP} {A : AS} {x y w t : Int32} (V : VA A) (I : MI h A) : MT (d + 2) mM_setPart [vR 8 20, vI x, vI y, vI w, vI t] h (fun r h' => r = some (vI (oSetPart A x y w t).1) ∧ MI h' (oSetPart A x y w t).2) := by
  obtain ⟨⟨s, n, p, k⟩, kp, ch, len⟩ := A
  have M : MS 21 h s := I.1
  have F : WF s n p k := V.1.1
  have O : WO s n := V.1.2.1.1
  have hn1 : 1 ≤ n := V.1.2.2.1
  have hp1 : 1 ≤ p := V.1.2.2.2.1
  have hk1 : 1 ≤ k := V.1.2.2.2.2
  have h8 := F.2.1.1
  have h5 := F.2.1.2.1
  have h6 := F.2.1.2.2
  refine R_s 2 (2, [(0, vR 8 20), (1, vI x), (2, vI y), (3, vI w), (4, vI t)], [vI x, vR 8 20], h) rfl ?_
  refine R_calli mM_isSong [vR 8 20, vI x] [] (bI (inb x n)) h rfl (t_M_isSong ((M 0 (by decide)).trans F.1.1) h8) ?_
  refine R_s 1 (cond (if0 .eq (bI (inb x n))) 37 8, [(0, vR 8 20), (1, vI x), (2, vI y), (3, vI w), (4, vI t)], [], h) rfl ?_
  refine R_bp ((inb x n) = false) (x0_eq.trans bI_eq) (fun ca => ?_) (fun ca => ?_)
  · rw [show oSetPart ((s, n, p, k), kp, ch, len) x y w t = (-1, ((s, n, p, k), kp, ch, len)) by unfold oSetPart; dsimp only; rw [sel1_f ca]]
    refine R_s 1 (38, [(0, vR 8 20), (1, vI x), (2, vI y), (3, vI w), (4, vI t)], [vI (-1)], h) rfl ?_
    exact R_ret (some (vI (-1))) h rfl ⟨rfl, I⟩
  · obtain ⟨a, ha, rfl⟩ := inb_ex (by omega) (tf ca)
    refine R_s 2 (10, [(0, vR 8 20), (1, vI (nI a)), (2, vI y), (3, vI w), (4, vI t)], [vI y, vR 8 20], h) rfl ?_
    refine R_calli mM_isPlayer [vR 8 20, vI y] [] (bI (inb y p)) h rfl (t_M_isPlayer ((M 26 (by decide)).trans F.1.2.1) (by omega)) ?_
    refine R_s 1 (cond (if0 .eq (bI (inb y p))) 37 16, [(0, vR 8 20), (1, vI (nI a)), (2, vI y), (3, vI w), (4, vI t)], [], h) rfl ?_
    refine R_bp ((inb y p) = false) (x0_eq.trans bI_eq) (fun cb => ?_) (fun cb => ?_)
    · rw [show oSetPart ((s, n, p, k), kp, ch, len) (nI a) y w t = (-1, ((s, n, p, k), kp, ch, len)) by unfold oSetPart; dsimp only; rw [sel1_t ha (by omega), sel1_f cb]]
      refine R_s 1 (38, [(0, vR 8 20), (1, vI (nI a)), (2, vI y), (3, vI w), (4, vI t)], [vI (-1)], h) rfl ?_
      exact R_ret (some (vI (-1))) h rfl ⟨rfl, I⟩
    · obtain ⟨b, hb, rfl⟩ := inb_ex (by omega) (tf cb)
      refine R_s 2 (18, [(0, vR 8 20), (1, vI (nI a)), (2, vI (nI b)), (3, vI w), (4, vI t)], [vI w, vR 8 20], h) rfl ?_
      refine R_calli mM_isKind [vR 8 20, vI w] [] (bI (inb w k)) h rfl (t_M_isKind ((M 32 (by decide)).trans F.1.2.2) (by omega)) ?_
      refine R_s 1 (cond (if0 .eq (bI (inb w k))) 37 24, [(0, vR 8 20), (1, vI (nI a)), (2, vI (nI b)), (3, vI w), (4, vI t)], [], h) rfl ?_
      refine R_bp ((inb w k) = false) (x0_eq.trans bI_eq) (fun cc => ?_) (fun cc => ?_)
      · rw [show oSetPart ((s, n, p, k), kp, ch, len) (nI a) (nI b) w t = (-1, ((s, n, p, k), kp, ch, len)) by unfold oSetPart; dsimp only; rw [sel1_t ha (by omega), sel1_t hb (by omega), sel1_f cc]]
        refine R_s 1 (38, [(0, vR 8 20), (1, vI (nI a)), (2, vI (nI b)), (3, vI w), (4, vI t)], [vI (-1)], h) rfl ?_
        exact R_ret (some (vI (-1))) h rfl ⟨rfl, I⟩
      · obtain ⟨c, hc, rfl⟩ := inb_ex (by omega) (tf cc)
        refine R_s 4 (31, [(0, vR 8 20), (1, vI (nI a)), (2, vI (nI b)), (3, vI (nI c)), (4, vI t)], [vL 5, vL 0, vL ((t).toInt64)], h) rfl ?_
        refine R_calli mM_in [vL ((t).toInt64), vL 0, vL 5] [] (bI (decide ((0 : Int64) ≤ t.toInt64) && decide (t.toInt64 ≤ 5))) h rfl t_M_in ?_
        refine R_top (bI (inb t 6)) (by rw [inb_64 (n := 6) (by decide) (by decide)]) ?_
        refine R_s 1 (cond (if0 .ne (bI (inb t 6))) 39 37, [(0, vR 8 20), (1, vI (nI a)), (2, vI (nI b)), (3, vI (nI c)), (4, vI t)], [], h) rfl ?_
        refine R_bp (inb t 6 = true) (x0_ne.trans bI_ne) (fun ce => ?_) (fun ce => ?_)
        · obtain ⟨e, he, rfl⟩ := inb_ex (by decide) ce
          unfold oSetPart
          dsimp only
          rw [sel1_t ha (by omega), sel1_t hb (by omega), sel1_t hc (by omega), sel1_t he (by omega)]
          obtain ⟨u, hu, hu6⟩ := F.2.2.2.2.1 c hc
          have hucl : (s (33 + c)).toNatClampNeg = u := by rw [hu, nI_cl (by omega)]
          have hol := oth_le s a (nI c) b p
          refine R_s 5 (46, [(0, vR 8 20), (1, vI (nI a)), (2, vI (nI b)), (3, vI (nI c)), (4, vI (nI e))], [vI (nI b), vI (nI c), vI (nI a), vR 8 21], h) rfl ?_
          refine R_calli mM_others [vR 8 21, vI (nI a), vI (nI c), vI (nI b)] [] (nI (otm s a (nI c) (nI b) p)) h rfl (t_M_others21 M F.1.2.1 h5 (by omega)) ?_
          refine R_top (nI (oth s a (nI c) b p)) (by rw [otm_oth (by omega) p h5]) ?_
          refine R_s 1 (50, [(0, vR 8 20), (1, vI (nI a)), (2, vI (nI b)), (3, vI (nI c)), (4, vI (nI e))], [vI (nI 1), vI (nI (oth s a (nI c) b p))], h) rfl ?_
          refine R_add (oth s a (nI c) b p) 1 rfl ?_
          refine R_s 6 (62, [(5, vI (nI ((oth s a (nI c) b p) + 1))), (0, vR 8 20), (1, vI (nI a)), (2, vI (nI b)), (3, vI (nI c)), (4, vI (nI e))], [vI (nI c), vI (nI 33), vR 8 21, vI (nI ((oth s a (nI c) b p) + 1))], h) rfl ?_
          refine R_add 33 c rfl ?_
          refine R_ld 8 21 (33 + c) 125 rfl rfl (by omega) (by decide) ?_
          refine R_top (nI u) ((M _ (by omega)).trans hu) ?_
          refine R_s 1 (cond (if2 .le (nI ((oth s a (nI c) b p) + 1)) (nI u)) 70 67, [(5, vI (nI ((oth s a (nI c) b p) + 1))), (0, vR 8 20), (1, vI (nI a)), (2, vI (nI b)), (3, vI (nI c)), (4, vI (nI e))], [], h) rfl ?_
          refine R_bp (((oth s a (nI c) b p) + 1) ≤ u) (i2_le (by omega) (by omega)) (fun c9 => ?_) (fun c9 => ?_)
          · rw [if_pos (show oth s a (nI c) b p < (s (33 + c)).toNatClampNeg by omega)]
            refine R_s 1 (71, [(5, vI (nI ((oth s a (nI c) b p) + 1))), (0, vR 8 20), (1, vI (nI a)), (2, vI (nI b)), (3, vI (nI c)), (4, vI (nI e))], [vR 8 20], h) rfl ?_
            refine R_call mM_keeps [vR 8 20] [] rfl (t_M_keeps V I) (fun r g1 e1 => ?_)
            obtain ⟨rfl, J, KF1⟩ := e1
            show R _ mM_setPart (74, [(5, vI (nI ((oth s a (nI c) b p) + 1))), (0, vR 8 20), (1, vI (nI a)), (2, vI (nI b)), (3, vI (nI c)), (4, vI (nI e))], [], g1) _
            have MJ : MS 21 g1 s := J.1
            refine R_s 6 (83, [(5, vI (nI ((oth s a (nI c) b p) + 1))), (0, vR 8 20), (1, vI (nI a)), (2, vI (nI b)), (3, vI (nI c)), (4, vI (nI e))], [vI (nI e), vI (nI c), vI (nI b), vI (nI a), vR 8 21], g1) rfl ?_
            refine R_callv mM_part [vR 8 21, vI (nI a), vI (nI b), vI (nI c), vI (nI e)] [] (hset (hset g1 8 21 (45 + 2 * (a * 5 + b)) (nI c)) 8 21 (46 + 2 * (a * 5 + b)) (nI e)) rfl (t_M_part21 (by omega) (by omega)) ?_
            refine R_hp (fun h1 eh1 => ?_)
            refine R_s 1 (88, [(5, vI (nI ((oth s a (nI c) b p) + 1))), (0, vR 8 20), (1, vI (nI a)), (2, vI (nI b)), (3, vI (nI c)), (4, vI (nI e))], [vI (nI ((oth s a (nI c) b p) + 1))], h1) rfl ?_
            exact R_ret (some (vI (nI ((oth s a (nI c) b p) + 1)))) h1 rfl ⟨rfl, MI.mod (z := (upd (upd s (45 + 2 * (a * 5 + b)) (nI c)) (46 + 2 * (a * 5 + b)) (nI e), n, p, k)) J (by rw [eh1]; exact MJ.up.up) (fun g' j' q => by rw [eh1, hs_ne q, hs_ne q])⟩
          · rw [if_neg (show ¬ oth s a (nI c) b p < (s (33 + c)).toNatClampNeg by omega)]
            refine R_s 1 (69, [(5, vI (nI ((oth s a (nI c) b p) + 1))), (0, vR 8 20), (1, vI (nI a)), (2, vI (nI b)), (3, vI (nI c)), (4, vI (nI e))], [vI (-2)], h) rfl ?_
            exact R_ret (some (vI (-2))) h rfl ⟨rfl, I⟩
        · have ce := bool_f ce
          rw [show oSetPart ((s, n, p, k), kp, ch, len) (nI a) (nI b) (nI c) t = (-1, ((s, n, p, k), kp, ch, len)) by unfold oSetPart; dsimp only; rw [sel1_t ha (by omega), sel1_t hb (by omega), sel1_t hc (by omega), sel1_f ce]]
          refine R_s 1 (38, [(0, vR 8 20), (1, vI (nI a)), (2, vI (nI b)), (3, vI (nI c)), (4, vI t)], [vI (-1)], h) rfl ?_
          exact R_ret (some (vI (-1))) h rfl ⟨rfl, I⟩
set_option maxRecDepth 100000 in
theorem t_M_removePart {d : Nat} {h : HP} {A : AS} {x y : Int32} (V : VA A) (I : MI h A) : MT (d + 2) mM_removePart [vR 8 20, vI x, vI y] h (fun r h' => r = some (vI (oRemove A x y).1) ∧ MI h' (oRemove A x y).2) := by
  obtain ⟨⟨s, n, p, k⟩, kp, ch, len⟩ := A
  have M : MS 21 h s := I.1
  have F : WF s n p k := V.1.1
  have O : WO s n := V.1.2.1.1
  have hn1 : 1 ≤ n := V.1.2.2.1
  have hp1 : 1 ≤ p := V.1.2.2.2.1
  have hk1 : 1 ≤ k := V.1.2.2.2.2
  have h8 := F.2.1.1
  have h5 := F.2.1.2.1
  have h6 := F.2.1.2.2
  refine R_s 2 (2, [(0, vR 8 20), (1, vI x), (2, vI y)], [vI x, vR 8 20], h) rfl ?_
  refine R_calli mM_isSong [vR 8 20, vI x] [] (bI (inb x n)) h rfl (t_M_isSong ((M 0 (by decide)).trans F.1.1) h8) ?_
  refine R_s 1 (cond (if0 .eq (bI (inb x n))) 16 8, [(0, vR 8 20), (1, vI x), (2, vI y)], [], h) rfl ?_
  refine R_bp ((inb x n) = false) (x0_eq.trans bI_eq) (fun ca => ?_) (fun ca => ?_)
  · rw [show oRemove ((s, n, p, k), kp, ch, len) x y = (-1, ((s, n, p, k), kp, ch, len)) by unfold oRemove; dsimp only; rw [sel1_f ca]]
    refine R_s 1 (17, [(0, vR 8 20), (1, vI x), (2, vI y)], [vI (-1)], h) rfl ?_
    exact R_ret (some (vI (-1))) h rfl ⟨rfl, I⟩
  · obtain ⟨a, ha, rfl⟩ := inb_ex (by omega) (tf ca)
    refine R_s 2 (10, [(0, vR 8 20), (1, vI (nI a)), (2, vI y)], [vI y, vR 8 20], h) rfl ?_
    refine R_calli mM_isPlayer [vR 8 20, vI y] [] (bI (inb y p)) h rfl (t_M_isPlayer ((M 26 (by decide)).trans F.1.2.1) (by omega)) ?_
    refine R_s 1 (cond (if0 .ne (bI (inb y p))) 18 16, [(0, vR 8 20), (1, vI (nI a)), (2, vI y)], [], h) rfl ?_
    refine R_bp ((inb y p) = true) (x0_ne.trans bI_ne) (fun cb => ?_) (fun cb => ?_)
    · have cb := bool_t cb
      obtain ⟨b, hb, rfl⟩ := inb_ex (by omega) (tf cb)
      unfold oRemove
      dsimp only
      rw [sel1_t ha (by omega), sel1_t hb (by omega)]
      refine R_s 4 (24, [(0, vR 8 20), (1, vI (nI a)), (2, vI (nI b))], [vI (nI b), vI (nI a), vR 8 21], h) rfl ?_
      refine R_calli mM_at [vI (nI a), vI (nI b)] [vR 8 21] (nI (45 + 2 * (a * 5 + b))) h rfl t_M_at ?_
      refine R_ld 8 21 (45 + 2 * (a * 5 + b)) 125 rfl rfl (by omega) (by decide) ?_
      refine R_top (kd s a b) (M _ (by omega)) ?_
      refine R_s 4 (cond (if2 .ne (kd s a b) (-1)) 37 34, [(3, vI (kd s a b)), (0, vR 8 20), (1, vI (nI a)), (2, vI (nI b))], [], h) rfl ?_
      refine R_bp (¬ (kd s a b) = (-1)) x2_ne (fun c1 => ?_) (fun c1 => ?_)
      · rw [if_neg c1]
        refine R_s 1 (38, [(3, vI (kd s a b)), (0, vR 8 20), (1, vI (nI a)), (2, vI (nI b))], [vR 8 20], h) rfl ?_
        refine R_call mM_keeps [vR 8 20] [] rfl (t_M_keeps V I) (fun r g1 e1 => ?_)
        obtain ⟨rfl, J, KF1⟩ := e1
        show R _ mM_removePart (41, [(3, vI (kd s a b)), (0, vR 8 20), (1, vI (nI a)), (2, vI (nI b))], [], g1) _
        have MJ : MS 21 g1 s := J.1
        refine R_s 4 (47, [(3, vI (kd s a b)), (0, vR 8 20), (1, vI (nI a)), (2, vI (nI b))], [vI (nI b), vI (nI a), vR 8 21], g1) rfl ?_
        refine R_calli mM_at [vI (nI a), vI (nI b)] [vR 8 21] (nI (45 + 2 * (a * 5 + b))) g1 rfl t_M_at ?_
        refine R_s 1 (51, [(3, vI (kd s a b)), (0, vR 8 20), (1, vI (nI a)), (2, vI (nI b))], [vI (-1), vI (nI (45 + 2 * (a * 5 + b))), vR 8 21], g1) rfl ?_
        refine R_st 8 21 (45 + 2 * (a * 5 + b)) 125 (-1) rfl rfl (by omega) (by decide) (fun h1 eh1 => ?_)
        refine R_s 1 (53, [(3, vI (kd s a b)), (0, vR 8 20), (1, vI (nI a)), (2, vI (nI b))], [vI (kd s a b)], h1) rfl ?_
        exact R_ret (some (vI (kd s a b))) h1 rfl ⟨rfl, MI.mod (z := (upd s (45 + 2 * (a * 5 + b)) (-1), n, p, k)) J (by rw [eh1]; exact MJ.up) (fun g' j' q => by rw [eh1, hs_ne q])⟩
      · rw [if_pos (Classical.not_not.mp c1)]
        refine R_s 1 (36, [(3, vI (kd s a b)), (0, vR 8 20), (1, vI (nI a)), (2, vI (nI b))], [vI (-4)], h) rfl ?_
        exact R_ret (some (vI (-4))) h rfl ⟨rfl, I⟩
    · have cb := bool_f cb
      rw [show oRemove ((s, n, p, k), kp, ch, len) (nI a) y = (-1, ((s, n, p, k), kp, ch, len)) by unfold oRemove; dsimp only; rw [sel1_t ha (by omega), sel1_f cb]]
      refine R_s 1 (17, [(0, vR 8 20), (1, vI (nI a)), (2, vI y)], [vI (-1)], h) rfl ?_
      exact R_ret (some (vI (-1))) h rfl ⟨rfl, I⟩
theorem mx_step {s : Nat → Int32} {y : Int32} {p a u : Nat} (h : ¬ u < mx s y p a) : u < mx s y p (a + 1) ↔ u < cn s a y p := by
  show u < (if mx s y p a < cn s a y p then cn s a y p else mx s y p a) ↔ _
  split <;> omega
theorem mx_mono {s : Nat → Int32} {y : Int32} {p u a : Nat} (h : u < mx s y p a) : ∀ i, u < mx s y p (a + i) := by
  intro i
  induction i with
  | zero => exact h
  | succ i ih =>
    show u < (if mx s y p (a + i) < cn s (a + i) y p then cn s (a + i) y p else mx s y p (a + i))
    split <;> omega
theorem in_u5 {x : Int32} : (decide ((1 : Int64) ≤ x.toInt64) && decide (x.toInt64 ≤ 5)) = sel1 x 6 (fun u => decide (1 ≤ u)) false := in_15 (a := 1) (b := 5) (by decide) (by decide)
set_option maxRecDepth 100000 in
theorem t_M_setUnits {d : Nat} {h : HP} {A : AS} {x y : Int32} (V : VA A) (I : MI h A) : MT (d + 2) mM_setUnits [vR 8 20, vI x, vI y] h (fun r h' => r = some (vI (oUnits A x y).1) ∧ MI h' (oUnits A x y).2) := by
  obtain ⟨⟨s, n, p, k⟩, kp, ch, len⟩ := A
  have M : MS 21 h s := I.1
  have F : WF s n p k := V.1.1
  have O : WO s n := V.1.2.1.1
  have hn1 : 1 ≤ n := V.1.2.2.1
  have hp1 : 1 ≤ p := V.1.2.2.2.1
  have hk1 : 1 ≤ k := V.1.2.2.2.2
  have h8 := F.2.1.1
  have h5 := F.2.1.2.1
  have h6 := F.2.1.2.2
  refine R_s 2 (2, [(0, vR 8 20), (1, vI x), (2, vI y)], [vI x, vR 8 20], h) rfl ?_
  refine R_calli mM_isKind [vR 8 20, vI x] [] (bI (inb x k)) h rfl (t_M_isKind ((M 32 (by decide)).trans F.1.2.2) (by omega)) ?_
  refine R_s 1 (cond (if0 .eq (bI (inb x k))) 20 8, [(0, vR 8 20), (1, vI x), (2, vI y)], [], h) rfl ?_
  refine R_bp ((inb x k) = false) (x0_eq.trans bI_eq) (fun ca => ?_) (fun ca => ?_)
  · rw [show oUnits ((s, n, p, k), kp, ch, len) x y = (-1, ((s, n, p, k), kp, ch, len)) by unfold oUnits; dsimp only; rw [sel1_f ca]]
    refine R_s 1 (21, [(0, vR 8 20), (1, vI x), (2, vI y)], [vI (-1)], h) rfl ?_
    exact R_ret (some (vI (-1))) h rfl ⟨rfl, I⟩
  · obtain ⟨a, ha, rfl⟩ := inb_ex (by omega) (tf ca)
    refine R_s 4 (14, [(0, vR 8 20), (1, vI (nI a)), (2, vI y)], [vL 5, vL 1, vL ((y).toInt64)], h) rfl ?_
    refine R_calli mM_in [vL ((y).toInt64), vL 1, vL 5] [] (bI (decide ((1 : Int64) ≤ y.toInt64) && decide (y.toInt64 ≤ 5))) h rfl t_M_in ?_
    refine R_top (bI (sel1 y 6 (fun u => decide (1 ≤ u)) false)) (by rw [in_u5]) ?_
    refine R_s 1 (cond (if0 .ne (bI (sel1 y 6 (fun u => decide (1 ≤ u)) false))) 22 20, [(0, vR 8 20), (1, vI (nI a)), (2, vI y)], [], h) rfl ?_
    refine R_bp (sel1 y 6 (fun u => decide (1 ≤ u)) false = true) (x0_ne.trans bI_ne) (fun c1 => ?_) (fun c1 => ?_)
    · cases hx : inb y 6 with
      | false => rw [sel1_f hx] at c1; cases c1
      | true =>
        obtain ⟨u, hu, rfl⟩ := inb_ex (by decide) hx
        rw [sel1_t hu (by decide), decide_eq_true_eq] at c1
        unfold oUnits
        dsimp only
        rw [sel1_t ha (by omega), sel1_t hu (by omega), if_neg (by omega)]
        refine R_s 2 (24, [(3, vI (nI 0)), (0, vR 8 20), (1, vI (nI a)), (2, vI (nI u))], [], h) rfl ?_
        suffices ∀ m (i : Nat) (hm : i + m = n) (hx1 : ¬ u < mx s (nI a) p i), R (d + 2) mM_setUnits (24, [(3, vI (nI i)), (0, vR 8 20), (1, vI (nI a)), (2, vI (nI u))], [], h) _ from this n 0 (by omega) (by show ¬ u < 0; omega)
        intro m
        induction m with
        | zero =>
          intro i hm hx1
          refine R_s 4 (30, [(3, vI (nI i)), (0, vR 8 20), (1, vI (nI a)), (2, vI (nI u))], [vI (nI 0), vR 8 21, vI (nI i)], h) rfl ?_
          refine R_ld 8 21 0 125 rfl rfl (by omega) (by decide) ?_
          refine R_top (nI n) ((M 0 (by decide)).trans F.1.1) ?_
          refine R_s 1 (cond (if2 .ge (nI i) (nI n)) 57 34, [(3, vI (nI i)), (0, vR 8 20), (1, vI (nI a)), (2, vI (nI u))], [], h) rfl ?_
          refine R_bp (n ≤ i) (i2_ge (by omega) (by omega)) (fun c2 => ?_) (fun c2 => ?_)
          · have hi : ¬ u < mx s (nI a) p n := by rw [show n = i by omega]; exact hx1
            rw [if_neg hi]
            refine R_s 1 (58, [(3, vI (nI i)), (0, vR 8 20), (1, vI (nI a)), (2, vI (nI u))], [vR 8 20], h) rfl ?_
            refine R_call mM_keeps [vR 8 20] [] rfl (t_M_keeps V I) (fun r g1 e1 => ?_)
            obtain ⟨rfl, J, KF1⟩ := e1
            show R _ mM_setUnits (61, [(3, vI (nI i)), (0, vR 8 20), (1, vI (nI a)), (2, vI (nI u))], [], g1) _
            have MJ : MS 21 g1 s := J.1
            refine R_s 4 (68, [(3, vI (nI i)), (0, vR 8 20), (1, vI (nI a)), (2, vI (nI u))], [vI (nI a), vI (nI 33), vR 8 21], g1) rfl ?_
            refine R_add 33 a rfl ?_
            refine R_ld 8 21 (33 + a) 125 rfl rfl (by omega) (by decide) ?_
            refine R_top (s (33 + a)) (MJ _ (by omega)) ?_
            refine R_s 5 (78, [(3, vI (s (33 + a))), (0, vR 8 20), (1, vI (nI a)), (2, vI (nI u))], [vI (nI a), vI (nI 33), vR 8 21], g1) rfl ?_
            refine R_add 33 a rfl ?_
            refine R_s 1 (80, [(3, vI (s (33 + a))), (0, vR 8 20), (1, vI (nI a)), (2, vI (nI u))], [vI (nI u), vI (nI (33 + a)), vR 8 21], g1) rfl ?_
            refine R_st 8 21 (33 + a) 125 (nI u) rfl rfl (by omega) (by decide) (fun h1 eh1 => ?_)
            refine R_s 1 (82, [(3, vI (s (33 + a))), (0, vR 8 20), (1, vI (nI a)), (2, vI (nI u))], [vI (s (33 + a))], h1) rfl ?_
            exact R_ret (some (vI (s (33 + a)))) h1 rfl ⟨rfl, MI.mod (z := (upd s (33 + a) (nI u), n, p, k)) J (by rw [eh1]; exact MJ.up) (fun g' j' q => by rw [eh1, hs_ne q])⟩
          · exact absurd hm (by omega)
        | succ m ih =>
          intro i hm hx1
          refine R_s 4 (30, [(3, vI (nI i)), (0, vR 8 20), (1, vI (nI a)), (2, vI (nI u))], [vI (nI 0), vR 8 21, vI (nI i)], h) rfl ?_
          refine R_ld 8 21 0 125 rfl rfl (by omega) (by decide) ?_
          refine R_top (nI n) ((M 0 (by decide)).trans F.1.1) ?_
          refine R_s 1 (cond (if2 .ge (nI i) (nI n)) 57 34, [(3, vI (nI i)), (0, vR 8 20), (1, vI (nI a)), (2, vI (nI u))], [], h) rfl ?_
          refine R_bp (n ≤ i) (i2_ge (by omega) (by omega)) (fun c2 => ?_) (fun c2 => ?_)
          · have hi : ¬ u < mx s (nI a) p n := by rw [show n = i by omega]; exact hx1
            rw [if_neg hi]
            refine R_s 1 (58, [(3, vI (nI i)), (0, vR 8 20), (1, vI (nI a)), (2, vI (nI u))], [vR 8 20], h) rfl ?_
            refine R_call mM_keeps [vR 8 20] [] rfl (t_M_keeps V I) (fun r g1 e1 => ?_)
            obtain ⟨rfl, J, KF1⟩ := e1
            show R _ mM_setUnits (61, [(3, vI (nI i)), (0, vR 8 20), (1, vI (nI a)), (2, vI (nI u))], [], g1) _
            have MJ : MS 21 g1 s := J.1
            refine R_s 4 (68, [(3, vI (nI i)), (0, vR 8 20), (1, vI (nI a)), (2, vI (nI u))], [vI (nI a), vI (nI 33), vR 8 21], g1) rfl ?_
            refine R_add 33 a rfl ?_
            refine R_ld 8 21 (33 + a) 125 rfl rfl (by omega) (by decide) ?_
            refine R_top (s (33 + a)) (MJ _ (by omega)) ?_
            refine R_s 5 (78, [(3, vI (s (33 + a))), (0, vR 8 20), (1, vI (nI a)), (2, vI (nI u))], [vI (nI a), vI (nI 33), vR 8 21], g1) rfl ?_
            refine R_add 33 a rfl ?_
            refine R_s 1 (80, [(3, vI (s (33 + a))), (0, vR 8 20), (1, vI (nI a)), (2, vI (nI u))], [vI (nI u), vI (nI (33 + a)), vR 8 21], g1) rfl ?_
            refine R_st 8 21 (33 + a) 125 (nI u) rfl rfl (by omega) (by decide) (fun h2 eh2 => ?_)
            refine R_s 1 (82, [(3, vI (s (33 + a))), (0, vR 8 20), (1, vI (nI a)), (2, vI (nI u))], [vI (s (33 + a))], h2) rfl ?_
            exact R_ret (some (vI (s (33 + a)))) h2 rfl ⟨rfl, MI.mod (z := (upd s (33 + a) (nI u), n, p, k)) J (by rw [eh2]; exact MJ.up) (fun g' j' q => by rw [eh2, hs_ne q])⟩
          · have hcl := cn_le s i (nI a) p
            refine R_s 5 (41, [(3, vI (nI i)), (0, vR 8 20), (1, vI (nI a)), (2, vI (nI u))], [vI (-1), vI (nI a), vI (nI i), vR 8 21], h) rfl ?_
            refine R_calli mM_others [vR 8 21, vI (nI i), vI (nI a), vI (-1)] [] (nI (otm s i (nI a) (-1) p)) h rfl (t_M_others21 M F.1.2.1 h5 (by omega)) ?_
            refine R_top (nI (cn s i (nI a) p)) (by rw [otm_cn p h5]) ?_
            refine R_s 2 (cond (if2 .le (nI (cn s i (nI a) p)) (nI u)) 51 48, [(3, vI (nI i)), (0, vR 8 20), (1, vI (nI a)), (2, vI (nI u))], [], h) rfl ?_
            refine R_bp ((cn s i (nI a) p) ≤ u) (i2_le (by omega) (by omega)) (fun c3 => ?_) (fun c3 => ?_)
            · refine R_s 1 (54, [(3, vI (nI i + Int32.ofInt 1)), (0, vR 8 20), (1, vI (nI a)), (2, vI (nI u))], [], h) rfl ?_
              refine R_lv (lv' := [(3, vI (nI (i + 1))), (0, vR 8 20), (1, vI (nI a)), (2, vI (nI u))]) (by rw [show nI i + Int32.ofInt 1 = nI (i + 1) from nI_add _ _]) ?_
              refine R_s 1 (24, [(3, vI (nI (i + 1))), (0, vR 8 20), (1, vI (nI a)), (2, vI (nI u))], [], h) rfl ?_
              exact ih (i + 1) (by omega) (fun q => by have := (mx_step hx1).mp q; omega)
            · have hi : u < mx s (nI a) p n := by have := mx_mono ((mx_step hx1).mpr (by omega)) (n - (i + 1)); rw [show i + 1 + (n - (i + 1)) = n by omega] at this; exact this
              rw [if_pos hi]
              refine R_s 1 (50, [(3, vI (nI i)), (0, vR 8 20), (1, vI (nI a)), (2, vI (nI u))], [vI (-2)], h) rfl ?_
              exact R_ret (some (vI (-2))) h rfl ⟨rfl, I⟩
    · have hO : oUnits ((s, n, p, k), kp, ch, len) (nI a) y = (-1, ((s, n, p, k), kp, ch, len)) := by
        unfold oUnits
        dsimp only
        rw [sel1_t ha (by omega)]
        cases hx : inb y 6 with
        | false => exact sel1_f hx
        | true =>
          obtain ⟨u, hu, rfl⟩ := inb_ex (by decide) hx
          rw [sel1_t hu (by decide), decide_eq_true_eq] at c1
          rw [sel1_t hu (by decide), if_pos (by omega)]
      rw [hO]
      refine R_s 1 (21, [(0, vR 8 20), (1, vI (nI a)), (2, vI y)], [vI (-1)], h) rfl ?_
      exact R_ret (some (vI (-1))) h rfl ⟨rfl, I⟩
theorem pbo_up {s : Nat → Int32} {a b : Nat} {y : Int32} (h : pbo s a y b = true) : ∀ i, pbo s a y (b + i) = true := by
  intro i
  induction i with
  | zero => exact h
  | succ i ih =>
    show (pbo s a y (b + i) || _) = true
    rw [ih]
    rfl
set_option maxRecDepth 100000 in
theorem t_M_pin {d : Nat} {h : HP} {A : AS} {x y : Int32} (V : VA A) (I : MI h A) : MT (d + 2) mM_pin [vR 8 20, vI x, vI y] h (fun r h' => r = some (vI (oPin A x y).1) ∧ MI h' (oPin A x y).2) := by
  obtain ⟨⟨s, n, p, k⟩, kp, ch, len⟩ := A
  have M : MS 21 h s := I.1
  have F : WF s n p k := V.1.1
  have O : WO s n := V.1.2.1.1
  have hn1 : 1 ≤ n := V.1.2.2.1
  have hp1 : 1 ≤ p := V.1.2.2.2.1
  have hk1 : 1 ≤ k := V.1.2.2.2.2
  have h8 := F.2.1.1
  have h5 := F.2.1.2.1
  have h6 := F.2.1.2.2
  refine R_s 2 (2, [(0, vR 8 20), (1, vI x), (2, vI y)], [vI x, vR 8 20], h) rfl ?_
  refine R_calli mM_isSong [vR 8 20, vI x] [] (bI (inb x n)) h rfl (t_M_isSong ((M 0 (by decide)).trans F.1.1) h8) ?_
  refine R_s 1 (cond (if0 .eq (bI (inb x n))) 16 8, [(0, vR 8 20), (1, vI x), (2, vI y)], [], h) rfl ?_
  refine R_bp ((inb x n) = false) (x0_eq.trans bI_eq) (fun ca => ?_) (fun ca => ?_)
  · rw [show oPin ((s, n, p, k), kp, ch, len) x y = (-1, ((s, n, p, k), kp, ch, len)) by unfold oPin; dsimp only; rw [sel1_f ca]]
    refine R_s 1 (17, [(0, vR 8 20), (1, vI x), (2, vI y)], [vI (-1)], h) rfl ?_
    exact R_ret (some (vI (-1))) h rfl ⟨rfl, I⟩
  · obtain ⟨a, ha, rfl⟩ := inb_ex (by omega) (tf ca)
    refine R_s 2 (10, [(0, vR 8 20), (1, vI (nI a)), (2, vI y)], [vI y, vR 8 20], h) rfl ?_
    refine R_calli mM_isPosition [vR 8 20, vI y] [] (bI (inb y n)) h rfl (t_M_isPosition ((M 0 (by decide)).trans F.1.1) h8) ?_
    refine R_s 1 (cond (if0 .ne (bI (inb y n))) 18 16, [(0, vR 8 20), (1, vI (nI a)), (2, vI y)], [], h) rfl ?_
    refine R_bp ((inb y n) = true) (x0_ne.trans bI_ne) (fun cj => ?_) (fun cj => ?_)
    · have cj := bool_t cj
      obtain ⟨j, hj, rfl⟩ := inb_ex (by omega) (tf cj)
      unfold oPin
      dsimp only
      rw [sel1_t ha (by omega), sel1_t hj (by omega)]
      refine R_s 2 (20, [(3, vI (nI 0)), (0, vR 8 20), (1, vI (nI a)), (2, vI (nI j))], [], h) rfl ?_
      suffices ∀ m (i : Nat) (hm : i + m = n) (hx1 : pbo s a (nI j) i = false), R (d + 2) mM_pin (20, [(3, vI (nI i)), (0, vR 8 20), (1, vI (nI a)), (2, vI (nI j))], [], h) _ from this n 0 (by omega) rfl
      intro m
      induction m with
      | zero =>
        intro i hm hx1
        refine R_s 4 (26, [(3, vI (nI i)), (0, vR 8 20), (1, vI (nI a)), (2, vI (nI j))], [vI (nI 0), vR 8 21, vI (nI i)], h) rfl ?_
        refine R_ld 8 21 0 125 rfl rfl (by omega) (by decide) ?_
        refine R_top (nI n) ((M 0 (by decide)).trans F.1.1) ?_
        refine R_s 1 (cond (if2 .ge (nI i) (nI n)) 57 30, [(3, vI (nI i)), (0, vR 8 20), (1, vI (nI a)), (2, vI (nI j))], [], h) rfl ?_
        refine R_bp (n ≤ i) (i2_ge (by omega) (by omega)) (fun c2 => ?_) (fun c2 => ?_)
        · have hi : pbo s a (nI j) n = false := by rw [show n = i by omega]; exact hx1
          rw [if_neg (by rw [hi]; decide)]
          refine R_s 1 (58, [(3, vI (nI i)), (0, vR 8 20), (1, vI (nI a)), (2, vI (nI j))], [vR 8 20], h) rfl ?_
          refine R_call mM_keeps [vR 8 20] [] rfl (t_M_keeps V I) (fun r g1 e1 => ?_)
          obtain ⟨rfl, J, KF1⟩ := e1
          show R _ mM_pin (61, [(3, vI (nI i)), (0, vR 8 20), (1, vI (nI a)), (2, vI (nI j))], [], g1) _
          have MJ : MS 21 g1 s := J.1
          refine R_s 4 (68, [(3, vI (nI i)), (0, vR 8 20), (1, vI (nI a)), (2, vI (nI j))], [vI (nI a), vI (nI 10), vR 8 21], g1) rfl ?_
          refine R_add 10 a rfl ?_
          refine R_s 1 (70, [(3, vI (nI i)), (0, vR 8 20), (1, vI (nI a)), (2, vI (nI j))], [vI (nI j), vI (nI (10 + a)), vR 8 21], g1) rfl ?_
          refine R_st 8 21 (10 + a) 125 (nI j) rfl rfl (by omega) (by decide) (fun h1 eh1 => ?_)
          have MK : MS 21 h1 (upd s (10 + a) (nI j)) := by rw [eh1]; exact MJ.up
          refine R_s 4 (76, [(4, vI (nI 0)), (3, vI (nI 0)), (0, vR 8 20), (1, vI (nI a)), (2, vI (nI j))], [], h1) rfl ?_
          refine R_fg (lv' := [(4, vI (nI 0)), (3, vI (nI 0)), (0, vR 8 20)]) [0, 1, 2] rfl [4, 3, 0, 1, 2] rfl (by decide) ?_
          suffices ∀ m2 (i2 c : Nat) (hm2 : i2 + m2 = n) (hcc : c = pinc (upd s (10 + a) (nI j)) i2), R (d + 2) mM_pin (76, [(4, vI (nI i2)), (3, vI (nI c)), (0, vR 8 20)], [], h1) _ from this n 0 0 (by omega) rfl
          intro m2
          induction m2 with
          | zero =>
            intro i2 c hm2 hcc
            refine R_s 4 (83, [(4, vI (nI i2)), (3, vI (nI c)), (0, vR 8 20)], [vI (nI 0), vR 8 21, vI (nI i2)], h1) rfl ?_
            refine R_ld 8 21 0 125 rfl rfl (by omega) (by decide) ?_
            refine R_top (nI n) ((MK 0 (by decide)).trans ((up_ne (by omega)).trans F.1.1)) ?_
            refine R_s 1 (cond (if2 .ge (nI i2) (nI n)) 115 87, [(4, vI (nI i2)), (3, vI (nI c)), (0, vR 8 20)], [], h1) rfl ?_
            refine R_bp (n ≤ i2) (i2_ge (by omega) (by omega)) (fun c4 => ?_) (fun c4 => ?_)
            · refine R_s 1 (116, [(4, vI (nI i2)), (3, vI (nI c)), (0, vR 8 20)], [vI (nI c)], h1) rfl ?_
              exact R_ret (some (vI (nI c))) h1 rfl ⟨by rw [hcc, show i2 = n by omega], MI.mod (z := (upd s (10 + a) (nI j), n, p, k)) J MK (fun g' j' q => by rw [eh1, hs_ne q])⟩
            · exact absurd hm2 (by omega)
          | succ m2 ih2 =>
            intro i2 c hm2 hcc
            refine R_s 4 (83, [(4, vI (nI i2)), (3, vI (nI c)), (0, vR 8 20)], [vI (nI 0), vR 8 21, vI (nI i2)], h1) rfl ?_
            refine R_ld 8 21 0 125 rfl rfl (by omega) (by decide) ?_
            refine R_top (nI n) ((MK 0 (by decide)).trans ((up_ne (by omega)).trans F.1.1)) ?_
            refine R_s 1 (cond (if2 .ge (nI i2) (nI n)) 115 87, [(4, vI (nI i2)), (3, vI (nI c)), (0, vR 8 20)], [], h1) rfl ?_
            refine R_bp (n ≤ i2) (i2_ge (by omega) (by omega)) (fun c4 => ?_) (fun c4 => ?_)
            · refine R_s 1 (116, [(4, vI (nI i2)), (3, vI (nI c)), (0, vR 8 20)], [vI (nI c)], h1) rfl ?_
              exact R_ret (some (vI (nI c))) h1 rfl ⟨by rw [hcc, show i2 = n by omega], MI.mod (z := (upd s (10 + a) (nI j), n, p, k)) J MK (fun g' j' q => by rw [eh1, hs_ne q])⟩
            · refine R_s 5 (96, [(4, vI (nI i2)), (3, vI (nI c)), (0, vR 8 20)], [vI (nI i2), vI (nI 10), vR 8 21, vI (nI c)], h1) rfl ?_
              refine R_add 10 i2 rfl ?_
              refine R_ld 8 21 (10 + i2) 125 rfl rfl (by omega) (by decide) ?_
              refine R_top (upd s (10 + a) (nI j) (10 + i2)) (MK _ (by omega)) ?_
              refine R_s 2 (cond (if2 .eq (upd s (10 + a) (nI j) (10 + i2)) (-1)) 106 102, [(4, vI (nI i2)), (3, vI (nI c)), (0, vR 8 20)], [vI (nI c)], h1) rfl ?_
              refine R_bp ((upd s (10 + a) (nI j) (10 + i2)) = (-1)) x2_eq (fun c5 => ?_) (fun c5 => ?_)
              · refine R_s 1 (107, [(4, vI (nI i2)), (3, vI (nI c)), (0, vR 8 20)], [vI (nI 0), vI (nI c)], h1) rfl ?_
                refine R_add c 0 rfl ?_
                refine R_s 2 (112, [(4, vI (nI i2 + Int32.ofInt 1)), (3, vI (nI (c + 0))), (0, vR 8 20)], [], h1) rfl ?_
                refine R_lv (lv' := [(4, vI (nI (i2 + 1))), (3, vI (nI (c + 0))), (0, vR 8 20)]) (by rw [show nI i2 + Int32.ofInt 1 = nI (i2 + 1) from nI_add _ _]) ?_
                refine R_s 1 (76, [(4, vI (nI (i2 + 1))), (3, vI (nI (c + 0))), (0, vR 8 20)], [], h1) rfl ?_
                exact ih2 (i2 + 1) c (by omega) (by rw [hcc]; show _ = pinc _ i2 + _; rw [if_pos c5]; rfl)
              · refine R_s 2 (107, [(4, vI (nI i2)), (3, vI (nI c)), (0, vR 8 20)], [vI (nI 1), vI (nI c)], h1) rfl ?_
                refine R_add c 1 rfl ?_
                refine R_s 2 (112, [(4, vI (nI i2 + Int32.ofInt 1)), (3, vI (nI (c + 1))), (0, vR 8 20)], [], h1) rfl ?_
                refine R_lv (lv' := [(4, vI (nI (i2 + 1))), (3, vI (nI (c + 1))), (0, vR 8 20)]) (by rw [show nI i2 + Int32.ofInt 1 = nI (i2 + 1) from nI_add _ _]) ?_
                refine R_s 1 (76, [(4, vI (nI (i2 + 1))), (3, vI (nI (c + 1))), (0, vR 8 20)], [], h1) rfl ?_
                exact ih2 (i2 + 1) (c + 1) (by omega) (by rw [hcc]; show _ = pinc _ i2 + _; rw [if_neg c5])
        · exact absurd hm (by omega)
      | succ m ih =>
        intro i hm hx1
        refine R_s 4 (26, [(3, vI (nI i)), (0, vR 8 20), (1, vI (nI a)), (2, vI (nI j))], [vI (nI 0), vR 8 21, vI (nI i)], h) rfl ?_
        refine R_ld 8 21 0 125 rfl rfl (by omega) (by decide) ?_
        refine R_top (nI n) ((M 0 (by decide)).trans F.1.1) ?_
        refine R_s 1 (cond (if2 .ge (nI i) (nI n)) 57 30, [(3, vI (nI i)), (0, vR 8 20), (1, vI (nI a)), (2, vI (nI j))], [], h) rfl ?_
        refine R_bp (n ≤ i) (i2_ge (by omega) (by omega)) (fun c2 => ?_) (fun c2 => ?_)
        · have hi : pbo s a (nI j) n = false := by rw [show n = i by omega]; exact hx1
          rw [if_neg (by rw [hi]; decide)]
          refine R_s 1 (58, [(3, vI (nI i)), (0, vR 8 20), (1, vI (nI a)), (2, vI (nI j))], [vR 8 20], h) rfl ?_
          refine R_call mM_keeps [vR 8 20] [] rfl (t_M_keeps V I) (fun r g1 e1 => ?_)
          obtain ⟨rfl, J, KF1⟩ := e1
          show R _ mM_pin (61, [(3, vI (nI i)), (0, vR 8 20), (1, vI (nI a)), (2, vI (nI j))], [], g1) _
          have MJ : MS 21 g1 s := J.1
          refine R_s 4 (68, [(3, vI (nI i)), (0, vR 8 20), (1, vI (nI a)), (2, vI (nI j))], [vI (nI a), vI (nI 10), vR 8 21], g1) rfl ?_
          refine R_add 10 a rfl ?_
          refine R_s 1 (70, [(3, vI (nI i)), (0, vR 8 20), (1, vI (nI a)), (2, vI (nI j))], [vI (nI j), vI (nI (10 + a)), vR 8 21], g1) rfl ?_
          refine R_st 8 21 (10 + a) 125 (nI j) rfl rfl (by omega) (by decide) (fun h2 eh2 => ?_)
          have MK : MS 21 h2 (upd s (10 + a) (nI j)) := by rw [eh2]; exact MJ.up
          refine R_s 4 (76, [(4, vI (nI 0)), (3, vI (nI 0)), (0, vR 8 20), (1, vI (nI a)), (2, vI (nI j))], [], h2) rfl ?_
          refine R_fg (lv' := [(4, vI (nI 0)), (3, vI (nI 0)), (0, vR 8 20)]) [0, 1, 2] rfl [4, 3, 0, 1, 2] rfl (by decide) ?_
          suffices ∀ m2 (i2 c : Nat) (hm2 : i2 + m2 = n) (hcc : c = pinc (upd s (10 + a) (nI j)) i2), R (d + 2) mM_pin (76, [(4, vI (nI i2)), (3, vI (nI c)), (0, vR 8 20)], [], h2) _ from this n 0 0 (by omega) rfl
          intro m2
          induction m2 with
          | zero =>
            intro i2 c hm2 hcc
            refine R_s 4 (83, [(4, vI (nI i2)), (3, vI (nI c)), (0, vR 8 20)], [vI (nI 0), vR 8 21, vI (nI i2)], h2) rfl ?_
            refine R_ld 8 21 0 125 rfl rfl (by omega) (by decide) ?_
            refine R_top (nI n) ((MK 0 (by decide)).trans ((up_ne (by omega)).trans F.1.1)) ?_
            refine R_s 1 (cond (if2 .ge (nI i2) (nI n)) 115 87, [(4, vI (nI i2)), (3, vI (nI c)), (0, vR 8 20)], [], h2) rfl ?_
            refine R_bp (n ≤ i2) (i2_ge (by omega) (by omega)) (fun c4 => ?_) (fun c4 => ?_)
            · refine R_s 1 (116, [(4, vI (nI i2)), (3, vI (nI c)), (0, vR 8 20)], [vI (nI c)], h2) rfl ?_
              exact R_ret (some (vI (nI c))) h2 rfl ⟨by rw [hcc, show i2 = n by omega], MI.mod (z := (upd s (10 + a) (nI j), n, p, k)) J MK (fun g' j' q => by rw [eh2, hs_ne q])⟩
            · exact absurd hm2 (by omega)
          | succ m2 ih2 =>
            intro i2 c hm2 hcc
            refine R_s 4 (83, [(4, vI (nI i2)), (3, vI (nI c)), (0, vR 8 20)], [vI (nI 0), vR 8 21, vI (nI i2)], h2) rfl ?_
            refine R_ld 8 21 0 125 rfl rfl (by omega) (by decide) ?_
            refine R_top (nI n) ((MK 0 (by decide)).trans ((up_ne (by omega)).trans F.1.1)) ?_
            refine R_s 1 (cond (if2 .ge (nI i2) (nI n)) 115 87, [(4, vI (nI i2)), (3, vI (nI c)), (0, vR 8 20)], [], h2) rfl ?_
            refine R_bp (n ≤ i2) (i2_ge (by omega) (by omega)) (fun c4 => ?_) (fun c4 => ?_)
            · refine R_s 1 (116, [(4, vI (nI i2)), (3, vI (nI c)), (0, vR 8 20)], [vI (nI c)], h2) rfl ?_
              exact R_ret (some (vI (nI c))) h2 rfl ⟨by rw [hcc, show i2 = n by omega], MI.mod (z := (upd s (10 + a) (nI j), n, p, k)) J MK (fun g' j' q => by rw [eh2, hs_ne q])⟩
            · refine R_s 5 (96, [(4, vI (nI i2)), (3, vI (nI c)), (0, vR 8 20)], [vI (nI i2), vI (nI 10), vR 8 21, vI (nI c)], h2) rfl ?_
              refine R_add 10 i2 rfl ?_
              refine R_ld 8 21 (10 + i2) 125 rfl rfl (by omega) (by decide) ?_
              refine R_top (upd s (10 + a) (nI j) (10 + i2)) (MK _ (by omega)) ?_
              refine R_s 2 (cond (if2 .eq (upd s (10 + a) (nI j) (10 + i2)) (-1)) 106 102, [(4, vI (nI i2)), (3, vI (nI c)), (0, vR 8 20)], [vI (nI c)], h2) rfl ?_
              refine R_bp ((upd s (10 + a) (nI j) (10 + i2)) = (-1)) x2_eq (fun c5 => ?_) (fun c5 => ?_)
              · refine R_s 1 (107, [(4, vI (nI i2)), (3, vI (nI c)), (0, vR 8 20)], [vI (nI 0), vI (nI c)], h2) rfl ?_
                refine R_add c 0 rfl ?_
                refine R_s 2 (112, [(4, vI (nI i2 + Int32.ofInt 1)), (3, vI (nI (c + 0))), (0, vR 8 20)], [], h2) rfl ?_
                refine R_lv (lv' := [(4, vI (nI (i2 + 1))), (3, vI (nI (c + 0))), (0, vR 8 20)]) (by rw [show nI i2 + Int32.ofInt 1 = nI (i2 + 1) from nI_add _ _]) ?_
                refine R_s 1 (76, [(4, vI (nI (i2 + 1))), (3, vI (nI (c + 0))), (0, vR 8 20)], [], h2) rfl ?_
                exact ih2 (i2 + 1) c (by omega) (by rw [hcc]; show _ = pinc _ i2 + _; rw [if_pos c5]; rfl)
              · refine R_s 2 (107, [(4, vI (nI i2)), (3, vI (nI c)), (0, vR 8 20)], [vI (nI 1), vI (nI c)], h2) rfl ?_
                refine R_add c 1 rfl ?_
                refine R_s 2 (112, [(4, vI (nI i2 + Int32.ofInt 1)), (3, vI (nI (c + 1))), (0, vR 8 20)], [], h2) rfl ?_
                refine R_lv (lv' := [(4, vI (nI (i2 + 1))), (3, vI (nI (c + 1))), (0, vR 8 20)]) (by rw [show nI i2 + Int32.ofInt 1 = nI (i2 + 1) from nI_add _ _]) ?_
                refine R_s 1 (76, [(4, vI (nI (i2 + 1))), (3, vI (nI (c + 1))), (0, vR 8 20)], [], h2) rfl ?_
                exact ih2 (i2 + 1) (c + 1) (by omega) (by rw [hcc]; show _ = pinc _ i2 + _; rw [if_neg c5])
        · refine R_s 3 (cond (if2 .eq (nI i) (nI a)) 51 35, [(3, vI (nI i)), (0, vR 8 20), (1, vI (nI a)), (2, vI (nI j))], [], h) rfl ?_
          refine R_bp (i = a) (i2_eq (by omega) (by omega)) (fun c3 => ?_) (fun c3 => ?_)
          · refine R_s 1 (54, [(3, vI (nI i + Int32.ofInt 1)), (0, vR 8 20), (1, vI (nI a)), (2, vI (nI j))], [], h) rfl ?_
            refine R_lv (lv' := [(3, vI (nI (i + 1))), (0, vR 8 20), (1, vI (nI a)), (2, vI (nI j))]) (by rw [show nI i + Int32.ofInt 1 = nI (i + 1) from nI_add _ _]) ?_
            refine R_s 1 (20, [(3, vI (nI (i + 1))), (0, vR 8 20), (1, vI (nI a)), (2, vI (nI j))], [], h) rfl ?_
            exact ih (i + 1) (by omega) (by show (pbo s a (nI j) i || (!(decide (i = a)) && decide (s (10 + i) = nI j))) = false; rw [hx1, decide_eq_true c3]; rfl)
          · refine R_s 4 (42, [(3, vI (nI i)), (0, vR 8 20), (1, vI (nI a)), (2, vI (nI j))], [vI (nI i), vI (nI 10), vR 8 21], h) rfl ?_
            refine R_add 10 i rfl ?_
            refine R_ld 8 21 (10 + i) 125 rfl rfl (by omega) (by decide) ?_
            refine R_top (s (10 + i)) (M _ (by omega)) ?_
            refine R_s 2 (cond (if2 .ne (s (10 + i)) (nI j)) 51 48, [(3, vI (nI i)), (0, vR 8 20), (1, vI (nI a)), (2, vI (nI j))], [], h) rfl ?_
            refine R_bp (¬ (s (10 + i)) = (nI j)) x2_ne (fun c4 => ?_) (fun c4 => ?_)
            · refine R_s 1 (54, [(3, vI (nI i + Int32.ofInt 1)), (0, vR 8 20), (1, vI (nI a)), (2, vI (nI j))], [], h) rfl ?_
              refine R_lv (lv' := [(3, vI (nI (i + 1))), (0, vR 8 20), (1, vI (nI a)), (2, vI (nI j))]) (by rw [show nI i + Int32.ofInt 1 = nI (i + 1) from nI_add _ _]) ?_
              refine R_s 1 (20, [(3, vI (nI (i + 1))), (0, vR 8 20), (1, vI (nI a)), (2, vI (nI j))], [], h) rfl ?_
              exact ih (i + 1) (by omega) (by show (pbo s a (nI j) i || (!(decide (i = a)) && decide (s (10 + i) = nI j))) = false; rw [hx1, decide_eq_false c4, Bool.and_false]; rfl)
            · have hi : pbo s a (nI j) n = true := by
                have h1 : pbo s a (nI j) (i + 1) = true := by show (pbo s a (nI j) i || (!(decide (i = a)) && decide (s (10 + i) = nI j))) = true; rw [hx1, decide_eq_false c3, decide_eq_true (Classical.not_not.mp c4)]; rfl
                have := pbo_up h1 (n - (i + 1))
                rw [show i + 1 + (n - (i + 1)) = n by omega] at this
                exact this
              rw [if_pos hi]
              refine R_s 1 (50, [(3, vI (nI i)), (0, vR 8 20), (1, vI (nI a)), (2, vI (nI j))], [vI (-2)], h) rfl ?_
              exact R_ret (some (vI (-2))) h rfl ⟨rfl, I⟩
    · have cj := bool_f cj
      rw [show oPin ((s, n, p, k), kp, ch, len) (nI a) y = (-1, ((s, n, p, k), kp, ch, len)) by unfold oPin; dsimp only; rw [sel1_t ha (by omega), sel1_f cj]]
      refine R_s 1 (17, [(0, vR 8 20), (1, vI (nI a)), (2, vI y)], [vI (-1)], h) rfl ?_
      exact R_ret (some (vI (-1))) h rfl ⟨rfl, I⟩
set_option maxRecDepth 100000 in
theorem t_M_unpin {d : Nat} {h : HP} {A : AS} {x : Int32} (V : VA A) (I : MI h A) : MT (d + 2) mM_unpin [vR 8 20, vI x] h (fun r h' => r = some (vI (oUnpin A x).1) ∧ MI h' (oUnpin A x).2) := by
  obtain ⟨⟨s, n, p, k⟩, kp, ch, len⟩ := A
  have M : MS 21 h s := I.1
  have F : WF s n p k := V.1.1
  have O : WO s n := V.1.2.1.1
  have hn1 : 1 ≤ n := V.1.2.2.1
  have hp1 : 1 ≤ p := V.1.2.2.2.1
  have hk1 : 1 ≤ k := V.1.2.2.2.2
  have h8 := F.2.1.1
  have h5 := F.2.1.2.1
  have h6 := F.2.1.2.2
  refine R_s 2 (2, [(0, vR 8 20), (1, vI x)], [vI x, vR 8 20], h) rfl ?_
  refine R_calli mM_isSong [vR 8 20, vI x] [] (bI (inb x n)) h rfl (t_M_isSong ((M 0 (by decide)).trans F.1.1) h8) ?_
  refine R_s 1 (cond (if0 .ne (bI (inb x n))) 10 8, [(0, vR 8 20), (1, vI x)], [], h) rfl ?_
  refine R_bp ((inb x n) = true) (x0_ne.trans bI_ne) (fun ca => ?_) (fun ca => ?_)
  · have ca := bool_t ca
    obtain ⟨a, ha, rfl⟩ := inb_ex (by omega) (tf ca)
    unfold oUnpin
    dsimp only
    rw [sel1_t ha (by omega)]
    refine R_s 4 (17, [(0, vR 8 20), (1, vI (nI a))], [vI (nI a), vI (nI 10), vR 8 21], h) rfl ?_
    refine R_add 10 a rfl ?_
    refine R_ld 8 21 (10 + a) 125 rfl rfl (by omega) (by decide) ?_
    refine R_top (s (10 + a)) (M _ (by omega)) ?_
    refine R_s 4 (cond (if2 .ne (s (10 + a)) (-1)) 28 25, [(2, vI (s (10 + a))), (0, vR 8 20), (1, vI (nI a))], [], h) rfl ?_
    refine R_bp (¬ (s (10 + a)) = (-1)) x2_ne (fun c1 => ?_) (fun c1 => ?_)
    · rw [if_neg c1]
      refine R_s 1 (29, [(2, vI (s (10 + a))), (0, vR 8 20), (1, vI (nI a))], [vR 8 20], h) rfl ?_
      refine R_call mM_keeps [vR 8 20] [] rfl (t_M_keeps V I) (fun r g1 e1 => ?_)
      obtain ⟨rfl, J, KF1⟩ := e1
      show R _ mM_unpin (32, [(2, vI (s (10 + a))), (0, vR 8 20), (1, vI (nI a))], [], g1) _
      have MJ : MS 21 g1 s := J.1
      refine R_s 4 (39, [(2, vI (s (10 + a))), (0, vR 8 20), (1, vI (nI a))], [vI (nI a), vI (nI 10), vR 8 21], g1) rfl ?_
      refine R_add 10 a rfl ?_
      refine R_s 1 (41, [(2, vI (s (10 + a))), (0, vR 8 20), (1, vI (nI a))], [vI (-1), vI (nI (10 + a)), vR 8 21], g1) rfl ?_
      refine R_st 8 21 (10 + a) 125 (-1) rfl rfl (by omega) (by decide) (fun h1 eh1 => ?_)
      refine R_s 1 (43, [(2, vI (s (10 + a))), (0, vR 8 20), (1, vI (nI a))], [vI (s (10 + a))], h1) rfl ?_
      exact R_ret (some (vI (s (10 + a)))) h1 rfl ⟨rfl, MI.mod (z := (upd s (10 + a) (-1), n, p, k)) J (by rw [eh1]; exact MJ.up) (fun g' j' q => by rw [eh1, hs_ne q])⟩
    · rw [if_pos (Classical.not_not.mp c1)]
      refine R_s 1 (27, [(2, vI (s (10 + a))), (0, vR 8 20), (1, vI (nI a))], [vI (-4)], h) rfl ?_
      exact R_ret (some (vI (-4))) h rfl ⟨rfl, I⟩
  · have ca := bool_f ca
    rw [show oUnpin ((s, n, p, k), kp, ch, len) x = (-1, ((s, n, p, k), kp, ch, len)) by unfold oUnpin; dsimp only; rw [sel1_f ca]]
    refine R_s 1 (9, [(0, vR 8 20), (1, vI x)], [vI (-1)], h) rfl ?_
    exact R_ret (some (vI (-1))) h rfl ⟨rfl, I⟩
theorem enc_k : ∀ e, e < 256 → ∀ a, a < 8 → ∀ v, v < 2 → (nI e &&& ((nI 1 <<< (nI a &&& 31)) ^^^ (-1))) ||| (nI v <<< (nI a &&& 31)) = nI (sbt e a v) := by decide +kernel
set_option maxRecDepth 100000 in
theorem t_M_setEncore {d : Nat} {h : HP} {A : AS} {x y : Int32} (V : VA A) (I : MI h A) : MT (d + 2) mM_setEncore [vR 8 20, vI x, vI y] h (fun r h' => r = some (vI (oEnc A x y).1) ∧ MI h' (oEnc A x y).2) := by
  obtain ⟨⟨s, n, p, k⟩, kp, ch, len⟩ := A
  have M : MS 21 h s := I.1
  have F : WF s n p k := V.1.1
  have O : WO s n := V.1.2.1.1
  have hn1 : 1 ≤ n := V.1.2.2.1
  have hp1 : 1 ≤ p := V.1.2.2.2.1
  have hk1 : 1 ≤ k := V.1.2.2.2.2
  have h8 := F.2.1.1
  have h5 := F.2.1.2.1
  have h6 := F.2.1.2.2
  obtain ⟨e1, e2, e8⟩ := en_ok (z := (s, n, p, k)) F
  dsimp only at e1 e2
  refine R_s 2 (2, [(0, vR 8 20), (1, vI x), (2, vI y)], [vI x, vR 8 20], h) rfl ?_
  refine R_calli mM_isSong [vR 8 20, vI x] [] (bI (inb x n)) h rfl (t_M_isSong ((M 0 (by decide)).trans F.1.1) h8) ?_
  refine R_s 1 (cond (if0 .eq (bI (inb x n))) 18 8, [(0, vR 8 20), (1, vI x), (2, vI y)], [], h) rfl ?_
  refine R_bp ((inb x n) = false) (x0_eq.trans bI_eq) (fun ca => ?_) (fun ca => ?_)
  · rw [show oEnc ((s, n, p, k), kp, ch, len) x y = (-1, ((s, n, p, k), kp, ch, len)) by unfold oEnc; dsimp only; rw [sel1_f ca]]
    refine R_s 1 (19, [(0, vR 8 20), (1, vI x), (2, vI y)], [vI (-1)], h) rfl ?_
    exact R_ret (some (vI (-1))) h rfl ⟨rfl, I⟩
  · obtain ⟨a, ha, rfl⟩ := inb_ex (by omega) (tf ca)
    refine R_s 4 (12, [(0, vR 8 20), (1, vI (nI a)), (2, vI y)], [vL 1, vL 0, vL ((y).toInt64)], h) rfl ?_
    refine R_calli mM_in [vL ((y).toInt64), vL 0, vL 1] [] (bI (decide ((0 : Int64) ≤ y.toInt64) && decide (y.toInt64 ≤ 1))) h rfl t_M_in ?_
    refine R_top (bI (inb y 2)) (by rw [inb_64 (n := 2) (by decide) (by decide)]) ?_
    refine R_s 1 (cond (if0 .ne (bI (inb y 2))) 20 18, [(0, vR 8 20), (1, vI (nI a)), (2, vI y)], [], h) rfl ?_
    refine R_bp (inb y 2 = true) (x0_ne.trans bI_ne) (fun cv => ?_) (fun cv => ?_)
    · obtain ⟨v, hv, rfl⟩ := inb_ex (by decide) cv
      unfold oEnc
      dsimp only
      rw [sel1_t ha (by omega), sel1_t hv (by omega)]
      refine R_s 1 (21, [(0, vR 8 20), (1, vI (nI a)), (2, vI (nI v))], [vR 8 20], h) rfl ?_
      refine R_call mM_keeps [vR 8 20] [] rfl (t_M_keeps V I) (fun r g1 e1 => ?_)
      obtain ⟨rfl, J, KF1⟩ := e1
      show R _ mM_setEncore (24, [(0, vR 8 20), (1, vI (nI a)), (2, vI (nI v))], [], g1) _
      have MJ : MS 21 g1 s := J.1
      refine R_s 3 (30, [(0, vR 8 20), (1, vI (nI a)), (2, vI (nI v))], [vI (nI 9), vR 8 21], g1) rfl ?_
      refine R_ld 8 21 9 125 rfl rfl (by omega) (by decide) ?_
      refine R_top (nI (en (s, n, p, k))) ((MJ 9 (by decide)).trans e1) ?_
      refine R_s 4 (35, [(0, vR 8 20), (1, vI (nI a)), (2, vI (nI v))], [vI (((nI (en (s, n, p, k))) >>> ((nI a) &&& 31)) &&& (nI 1))], g1) rfl ?_
      refine R_top (nI (if (en (s, n, p, k)).testBit a then 1 else 0)) (bit_sh _ e8 a (by omega)) ?_
      refine R_s 7 (48, [(3, vI (nI (if (en (s, n, p, k)).testBit a then 1 else 0))), (0, vR 8 20), (1, vI (nI a)), (2, vI (nI v))], [vI (nI 9), vR 8 21, vI (nI 9), vR 8 21], g1) rfl ?_
      refine R_ld 8 21 9 125 rfl rfl (by omega) (by decide) ?_
      refine R_top (nI (en (s, n, p, k))) ((MJ 9 (by decide)).trans e1) ?_
      refine R_s 10 (59, [(3, vI (nI (if (en (s, n, p, k)).testBit a then 1 else 0))), (0, vR 8 20), (1, vI (nI a)), (2, vI (nI v))], [vI (((nI (en (s, n, p, k))) &&& (((nI 1) <<< ((nI a) &&& 31)) ^^^ (-1))) ||| ((nI v) <<< ((nI a) &&& 31))), vI (nI 9), vR 8 21], g1) rfl ?_
      refine R_top (nI (sbt (en (s, n, p, k)) a v)) (enc_k _ e8 a (by omega) v (by omega)) ?_
      refine R_st 8 21 9 125 (nI (sbt (en (s, n, p, k)) a v)) rfl rfl (by omega) (by decide) (fun h1 eh1 => ?_)
      refine R_s 1 (61, [(3, vI (nI (if (en (s, n, p, k)).testBit a then 1 else 0))), (0, vR 8 20), (1, vI (nI a)), (2, vI (nI v))], [vI (nI (if (en (s, n, p, k)).testBit a then 1 else 0))], h1) rfl ?_
      exact R_ret (some (vI (nI (if (en (s, n, p, k)).testBit a then 1 else 0)))) h1 rfl ⟨rfl, MI.mod (z := (upd s 9 (nI (sbt (en (s, n, p, k)) a v)), n, p, k)) J (by rw [eh1]; exact MJ.up) (fun g' j' q => by rw [eh1, hs_ne q])⟩
    · have cv := bool_f cv
      rw [show oEnc ((s, n, p, k), kp, ch, len) (nI a) y = (-1, ((s, n, p, k), kp, ch, len)) by unfold oEnc; dsimp only; rw [sel1_t ha (by omega), sel1_f cv]]
      refine R_s 1 (19, [(0, vR 8 20), (1, vI (nI a)), (2, vI y)], [vI (-1)], h) rfl ?_
      exact R_ret (some (vI (-1))) h rfl ⟨rfl, I⟩
theorem MS.oo {h h' : HP} {s o : Nat → Int32} (M : MS 21 h s) (I : OO h h' 8 21 o 18) : MS 21 h' (ord s o) := by
  intro i hi
  unfold ord
  by_cases q : 18 ≤ i ∧ i < 26
  · rw [if_pos q]
    have := I.1 (i - 18) (by omega)
    rw [show 18 + (i - 18) = i by omega] at this
    exact this
  · rw [if_neg q, I.2.2 i (by omega)]
    exact M i hi
set_option maxRecDepth 100000 in
theorem t_M_moveSong {d : Nat} {h : HP} {A : AS} {x y : Int32} (V : VA A) (I : MI h A) : MT (d + 2) mM_moveSong [vR 8 20, vI x, vI y] h (fun r h' => r = some (vI (oMove A x y).1) ∧ MI h' (oMove A x y).2) := by
  obtain ⟨⟨s, n, p, k⟩, kp, ch, len⟩ := A
  have M : MS 21 h s := I.1
  have F : WF s n p k := V.1.1
  have O : WO s n := V.1.2.1.1
  have hn1 : 1 ≤ n := V.1.2.2.1
  have hp1 : 1 ≤ p := V.1.2.2.2.1
  have hk1 : 1 ≤ k := V.1.2.2.2.2
  have h8 := F.2.1.1
  have h5 := F.2.1.2.1
  have h6 := F.2.1.2.2
  refine R_s 2 (2, [(0, vR 8 20), (1, vI x), (2, vI y)], [vI x, vR 8 20], h) rfl ?_
  refine R_calli mM_isPosition [vR 8 20, vI x] [] (bI (inb x n)) h rfl (t_M_isPosition ((M 0 (by decide)).trans F.1.1) h8) ?_
  refine R_s 1 (cond (if0 .eq (bI (inb x n))) 16 8, [(0, vR 8 20), (1, vI x), (2, vI y)], [], h) rfl ?_
  refine R_bp ((inb x n) = false) (x0_eq.trans bI_eq) (fun cf => ?_) (fun cf => ?_)
  · rw [show oMove ((s, n, p, k), kp, ch, len) x y = (-1, ((s, n, p, k), kp, ch, len)) by unfold oMove; dsimp only; rw [sel1_f cf]]
    refine R_s 1 (17, [(0, vR 8 20), (1, vI x), (2, vI y)], [vI (-1)], h) rfl ?_
    exact R_ret (some (vI (-1))) h rfl ⟨rfl, I⟩
  · obtain ⟨f, hf, rfl⟩ := inb_ex (by omega) (tf cf)
    refine R_s 2 (10, [(0, vR 8 20), (1, vI (nI f)), (2, vI y)], [vI y, vR 8 20], h) rfl ?_
    refine R_calli mM_isPosition [vR 8 20, vI y] [] (bI (inb y n)) h rfl (t_M_isPosition ((M 0 (by decide)).trans F.1.1) h8) ?_
    refine R_s 1 (cond (if0 .ne (bI (inb y n))) 18 16, [(0, vR 8 20), (1, vI (nI f)), (2, vI y)], [], h) rfl ?_
    refine R_bp ((inb y n) = true) (x0_ne.trans bI_ne) (fun ct => ?_) (fun ct => ?_)
    · have ct := bool_t ct
      obtain ⟨t, ht, rfl⟩ := inb_ex (by omega) (tf ct)
      unfold oMove
      dsimp only
      rw [sel1_t hf (by omega), sel1_t ht (by omega)]
      refine R_s 1 (19, [(0, vR 8 20), (1, vI (nI f)), (2, vI (nI t))], [vR 8 20], h) rfl ?_
      refine R_call mM_keeps [vR 8 20] [] rfl (t_M_keeps V I) (fun r g1 e1 => ?_)
      obtain ⟨rfl, J, KF1⟩ := e1
      show R _ mM_moveSong (22, [(0, vR 8 20), (1, vI (nI f)), (2, vI (nI t))], [], g1) _
      have MJ : MS 21 g1 s := J.1
      refine R_s 4 (29, [(0, vR 8 20), (1, vI (nI f)), (2, vI (nI t))], [vI (nI f), vI (nI 18), vR 8 21], g1) rfl ?_
      refine R_add 18 f rfl ?_
      refine R_ld 8 21 (18 + f) 125 rfl rfl (by omega) (by decide) ?_
      refine R_top (s (18 + f)) (MJ _ (by omega)) ?_
      refine R_s 3 (35, [(4, vI (nI f)), (3, vI (s (18 + f))), (0, vR 8 20), (1, vI (nI f)), (2, vI (nI t))], [], g1) rfl ?_
      have O0 : OO g1 g1 8 21 (fun j => s (18 + j)) 18 := ⟨fun j hj => MJ _ (by omega), fun _ _ _ => rfl, fun _ _ => rfl⟩
      suffices ∀ m (i : Nat) (hh : HP) (hm : t ≤ i + m) (h1 : f ≤ i) (h2 : i ≤ t ∨ i = f) (Q : OO g1 hh 8 21 (mv1 (fun j => s (18 + j)) f i) 18), R (d + 2) mM_moveSong (35, [(4, vI (nI i)), (3, vI (s (18 + f))), (0, vR 8 20), (1, vI (nI f)), (2, vI (nI t))], [], hh) _ from this t f g1 (by omega) (Nat.le_refl _) (Or.inr rfl) ⟨fun j hj => (O0.1 j hj).trans (by unfold mv1; rw [if_neg (by omega)]), O0.2⟩
      intro m
      induction m with
      | zero =>
        intro i hh hm h1 h2 Q
        refine R_s 3 (cond (if2 .ge (nI i) (nI t)) 69 41, [(4, vI (nI i)), (3, vI (s (18 + f))), (0, vR 8 20), (1, vI (nI f)), (2, vI (nI t))], [], hh) rfl ?_
        refine R_bp (t ≤ i) (i2_ge (by omega) (by omega)) (fun c1 => ?_) (fun c1 => ?_)
        · refine R_s 2 (72, [(4, vI (nI f)), (3, vI (s (18 + f))), (0, vR 8 20), (1, vI (nI f)), (2, vI (nI t))], [], hh) rfl ?_
          have Q2 : OO g1 hh 8 21 (mv2 (fun j => s (18 + j)) f t f) 18 := ⟨fun j hj => (Q.1 j hj).trans (mv_12 h1 h2 (by omega)), Q.2⟩
          clear hm h1 h2 Q
          suffices ∀ m2 (i2 : Nat) (h9 : HP) (hm2 : i2 ≤ t + m2) (g1_ : i2 ≤ f) (g2_ : t ≤ i2 ∨ i2 = f) (Q9 : OO g1 h9 8 21 (mv2 (fun j => s (18 + j)) f t i2) 18), R (d + 2) mM_moveSong (72, [(4, vI (nI i2)), (3, vI (s (18 + f))), (0, vR 8 20), (1, vI (nI f)), (2, vI (nI t))], [], h9) _ from this f f hh (by omega) (Nat.le_refl _) (Or.inr rfl) Q2
          intro m2
          induction m2 with
          | zero =>
            intro i2 h9 hm2 g1_ g2_ Q9
            refine R_s 3 (cond (if2 .le (nI i2) (nI t)) 106 78, [(4, vI (nI i2)), (3, vI (s (18 + f))), (0, vR 8 20), (1, vI (nI f)), (2, vI (nI t))], [], h9) rfl ?_
            refine R_bp (i2 ≤ t) (i2_le (by omega) (by omega)) (fun c2 => ?_) (fun c2 => ?_)
            · refine R_s 4 (113, [(4, vI (nI i2)), (3, vI (s (18 + f))), (0, vR 8 20), (1, vI (nI f)), (2, vI (nI t))], [vI (nI t), vI (nI 18), vR 8 21], h9) rfl ?_
              refine R_add 18 t rfl ?_
              refine R_s 1 (115, [(4, vI (nI i2)), (3, vI (s (18 + f))), (0, vR 8 20), (1, vI (nI f)), (2, vI (nI t))], [vI (s (18 + f)), vI (nI (18 + t)), vR 8 21], h9) rfl ?_
              refine R_st 8 21 (18 + t) 125 (s (18 + f)) rfl rfl (by omega) (by decide) (fun h1 eh1 => ?_)
              refine R_s 1 (117, [(4, vI (nI i2)), (3, vI (s (18 + f))), (0, vR 8 20), (1, vI (nI f)), (2, vI (nI t))], [vI (s (18 + f))], h1) rfl ?_
              have Q3 := OO.st (v := s (18 + f)) (i := t) (o' := mvo (fun j => s (18 + j)) f t) Q9 (by omega) (mv_oa (o := fun j => s (18 + j)) (f := f) (t := t)).symm (fun j _ hne => mv_ob hne (by omega) (by omega) (by omega))
              rw [← eh1] at Q3
              exact R_ret (some (vI (s (18 + f)))) h1 rfl ⟨rfl, MI.mod (z := (ord s (mvo (fun j => s (18 + j)) f t), n, p, k)) J (MJ.oo Q3) Q3.2.1⟩
            · exact absurd hm2 (by omega)
          | succ m2 ih2 =>
            intro i2 h9 hm2 g1_ g2_ Q9
            refine R_s 3 (cond (if2 .le (nI i2) (nI t)) 106 78, [(4, vI (nI i2)), (3, vI (s (18 + f))), (0, vR 8 20), (1, vI (nI f)), (2, vI (nI t))], [], h9) rfl ?_
            refine R_bp (i2 ≤ t) (i2_le (by omega) (by omega)) (fun c2 => ?_) (fun c2 => ?_)
            · refine R_s 4 (113, [(4, vI (nI i2)), (3, vI (s (18 + f))), (0, vR 8 20), (1, vI (nI f)), (2, vI (nI t))], [vI (nI t), vI (nI 18), vR 8 21], h9) rfl ?_
              refine R_add 18 t rfl ?_
              refine R_s 1 (115, [(4, vI (nI i2)), (3, vI (s (18 + f))), (0, vR 8 20), (1, vI (nI f)), (2, vI (nI t))], [vI (s (18 + f)), vI (nI (18 + t)), vR 8 21], h9) rfl ?_
              refine R_st 8 21 (18 + t) 125 (s (18 + f)) rfl rfl (by omega) (by decide) (fun h2 eh2 => ?_)
              refine R_s 1 (117, [(4, vI (nI i2)), (3, vI (s (18 + f))), (0, vR 8 20), (1, vI (nI f)), (2, vI (nI t))], [vI (s (18 + f))], h2) rfl ?_
              have Q3 := OO.st (v := s (18 + f)) (i := t) (o' := mvo (fun j => s (18 + j)) f t) Q9 (by omega) (mv_oa (o := fun j => s (18 + j)) (f := f) (t := t)).symm (fun j _ hne => mv_ob hne (by omega) (by omega) (by omega))
              rw [← eh2] at Q3
              exact R_ret (some (vI (s (18 + f)))) h2 rfl ⟨rfl, MI.mod (z := (ord s (mvo (fun j => s (18 + j)) f t), n, p, k)) J (MJ.oo Q3) Q3.2.1⟩
            · obtain ⟨i0, rfl⟩ : ∃ i0, i2 = i0 + 1 := ⟨i2 - 1, by omega⟩
              refine R_s 4 (86, [(4, vI (nI (i0 + 1))), (3, vI (s (18 + f))), (0, vR 8 20), (1, vI (nI f)), (2, vI (nI t))], [vI (nI (i0 + 1)), vI (nI 18), vR 8 21], h9) rfl ?_
              refine R_add 18 (i0 + 1) rfl ?_
              refine R_s 4 (95, [(4, vI (nI (i0 + 1))), (3, vI (s (18 + f))), (0, vR 8 20), (1, vI (nI f)), (2, vI (nI t))], [vI (nI (i0 + 1)), vI (nI 18), vR 8 21, vI (nI (18 + (i0 + 1))), vR 8 21], h9) rfl ?_
              refine R_add 18 (i0 + 1) rfl ?_
              refine R_s 1 (97, [(4, vI (nI (i0 + 1))), (3, vI (s (18 + f))), (0, vR 8 20), (1, vI (nI f)), (2, vI (nI t))], [vI (nI 1), vI (nI (18 + (i0 + 1))), vR 8 21, vI (nI (18 + (i0 + 1))), vR 8 21], h9) rfl ?_
              refine R_sub (18 + (i0 + 1)) 1 rfl (by omega) ?_
              refine R_top (nI (18 + i0)) (by rw [show 18 + (i0 + 1) - 1 = 18 + i0 by omega]) ?_
              refine R_ld 8 21 (18 + i0) 125 rfl rfl (by omega) (by decide) ?_
              refine R_top (s (18 + i0)) ((Q9.1 i0 (by omega)).trans (by unfold mv2; rw [if_neg (by omega)]; unfold mv1; rw [if_neg (by omega)])) ?_
              refine R_st 8 21 (18 + (i0 + 1)) 125 (s (18 + i0)) rfl rfl (by omega) (by decide) (fun h3 eh3 => ?_)
              refine R_s 1 (103, [(4, vI (nI (i0 + 1) + Int32.ofInt (-1))), (3, vI (s (18 + f))), (0, vR 8 20), (1, vI (nI f)), (2, vI (nI t))], [], h3) rfl ?_
              refine R_lv (lv' := [(4, vI (nI i0)), (3, vI (s (18 + f))), (0, vR 8 20), (1, vI (nI f)), (2, vI (nI t))]) (by rw [show nI (i0 + 1) + Int32.ofInt (-1) = nI i0 from pk_m1 _]) ?_
              refine R_s 1 (72, [(4, vI (nI i0)), (3, vI (s (18 + f))), (0, vR 8 20), (1, vI (nI f)), (2, vI (nI t))], [], h3) rfl ?_
              refine ih2 i0 h3 (by omega) (by omega) (by omega) ?_
              rw [eh3]
              exact OO.st (i := i0 + 1) Q9 (by omega) (mv_2a (o := fun j => s (18 + j)) (by omega)).symm (fun j _ hne => mv_2b hne)
        · exact absurd hm (by omega)
      | succ m ih =>
        intro i hh hm h1 h2 Q
        refine R_s 3 (cond (if2 .ge (nI i) (nI t)) 69 41, [(4, vI (nI i)), (3, vI (s (18 + f))), (0, vR 8 20), (1, vI (nI f)), (2, vI (nI t))], [], hh) rfl ?_
        refine R_bp (t ≤ i) (i2_ge (by omega) (by omega)) (fun c1 => ?_) (fun c1 => ?_)
        · refine R_s 2 (72, [(4, vI (nI f)), (3, vI (s (18 + f))), (0, vR 8 20), (1, vI (nI f)), (2, vI (nI t))], [], hh) rfl ?_
          have Q2 : OO g1 hh 8 21 (mv2 (fun j => s (18 + j)) f t f) 18 := ⟨fun j hj => (Q.1 j hj).trans (mv_12 h1 h2 (by omega)), Q.2⟩
          clear hm h1 h2 Q ih
          suffices ∀ m2 (i2 : Nat) (h9 : HP) (hm2 : i2 ≤ t + m2) (g1_ : i2 ≤ f) (g2_ : t ≤ i2 ∨ i2 = f) (Q9 : OO g1 h9 8 21 (mv2 (fun j => s (18 + j)) f t i2) 18), R (d + 2) mM_moveSong (72, [(4, vI (nI i2)), (3, vI (s (18 + f))), (0, vR 8 20), (1, vI (nI f)), (2, vI (nI t))], [], h9) _ from this f f hh (by omega) (Nat.le_refl _) (Or.inr rfl) Q2
          intro m2
          induction m2 with
          | zero =>
            intro i2 h9 hm2 g1_ g2_ Q9
            refine R_s 3 (cond (if2 .le (nI i2) (nI t)) 106 78, [(4, vI (nI i2)), (3, vI (s (18 + f))), (0, vR 8 20), (1, vI (nI f)), (2, vI (nI t))], [], h9) rfl ?_
            refine R_bp (i2 ≤ t) (i2_le (by omega) (by omega)) (fun c2 => ?_) (fun c2 => ?_)
            · refine R_s 4 (113, [(4, vI (nI i2)), (3, vI (s (18 + f))), (0, vR 8 20), (1, vI (nI f)), (2, vI (nI t))], [vI (nI t), vI (nI 18), vR 8 21], h9) rfl ?_
              refine R_add 18 t rfl ?_
              refine R_s 1 (115, [(4, vI (nI i2)), (3, vI (s (18 + f))), (0, vR 8 20), (1, vI (nI f)), (2, vI (nI t))], [vI (s (18 + f)), vI (nI (18 + t)), vR 8 21], h9) rfl ?_
              refine R_st 8 21 (18 + t) 125 (s (18 + f)) rfl rfl (by omega) (by decide) (fun h4 eh4 => ?_)
              refine R_s 1 (117, [(4, vI (nI i2)), (3, vI (s (18 + f))), (0, vR 8 20), (1, vI (nI f)), (2, vI (nI t))], [vI (s (18 + f))], h4) rfl ?_
              have Q3 := OO.st (v := s (18 + f)) (i := t) (o' := mvo (fun j => s (18 + j)) f t) Q9 (by omega) (mv_oa (o := fun j => s (18 + j)) (f := f) (t := t)).symm (fun j _ hne => mv_ob hne (by omega) (by omega) (by omega))
              rw [← eh4] at Q3
              exact R_ret (some (vI (s (18 + f)))) h4 rfl ⟨rfl, MI.mod (z := (ord s (mvo (fun j => s (18 + j)) f t), n, p, k)) J (MJ.oo Q3) Q3.2.1⟩
            · exact absurd hm2 (by omega)
          | succ m2 ih2 =>
            intro i2 h9 hm2 g1_ g2_ Q9
            refine R_s 3 (cond (if2 .le (nI i2) (nI t)) 106 78, [(4, vI (nI i2)), (3, vI (s (18 + f))), (0, vR 8 20), (1, vI (nI f)), (2, vI (nI t))], [], h9) rfl ?_
            refine R_bp (i2 ≤ t) (i2_le (by omega) (by omega)) (fun c2 => ?_) (fun c2 => ?_)
            · refine R_s 4 (113, [(4, vI (nI i2)), (3, vI (s (18 + f))), (0, vR 8 20), (1, vI (nI f)), (2, vI (nI t))], [vI (nI t), vI (nI 18), vR 8 21], h9) rfl ?_
              refine R_add 18 t rfl ?_
              refine R_s 1 (115, [(4, vI (nI i2)), (3, vI (s (18 + f))), (0, vR 8 20), (1, vI (nI f)), (2, vI (nI t))], [vI (s (18 + f)), vI (nI (18 + t)), vR 8 21], h9) rfl ?_
              refine R_st 8 21 (18 + t) 125 (s (18 + f)) rfl rfl (by omega) (by decide) (fun h5 eh5 => ?_)
              refine R_s 1 (117, [(4, vI (nI i2)), (3, vI (s (18 + f))), (0, vR 8 20), (1, vI (nI f)), (2, vI (nI t))], [vI (s (18 + f))], h5) rfl ?_
              have Q3 := OO.st (v := s (18 + f)) (i := t) (o' := mvo (fun j => s (18 + j)) f t) Q9 (by omega) (mv_oa (o := fun j => s (18 + j)) (f := f) (t := t)).symm (fun j _ hne => mv_ob hne (by omega) (by omega) (by omega))
              rw [← eh5] at Q3
              exact R_ret (some (vI (s (18 + f)))) h5 rfl ⟨rfl, MI.mod (z := (ord s (mvo (fun j => s (18 + j)) f t), n, p, k)) J (MJ.oo Q3) Q3.2.1⟩
            · obtain ⟨i0, rfl⟩ : ∃ i0, i2 = i0 + 1 := ⟨i2 - 1, by omega⟩
              refine R_s 4 (86, [(4, vI (nI (i0 + 1))), (3, vI (s (18 + f))), (0, vR 8 20), (1, vI (nI f)), (2, vI (nI t))], [vI (nI (i0 + 1)), vI (nI 18), vR 8 21], h9) rfl ?_
              refine R_add 18 (i0 + 1) rfl ?_
              refine R_s 4 (95, [(4, vI (nI (i0 + 1))), (3, vI (s (18 + f))), (0, vR 8 20), (1, vI (nI f)), (2, vI (nI t))], [vI (nI (i0 + 1)), vI (nI 18), vR 8 21, vI (nI (18 + (i0 + 1))), vR 8 21], h9) rfl ?_
              refine R_add 18 (i0 + 1) rfl ?_
              refine R_s 1 (97, [(4, vI (nI (i0 + 1))), (3, vI (s (18 + f))), (0, vR 8 20), (1, vI (nI f)), (2, vI (nI t))], [vI (nI 1), vI (nI (18 + (i0 + 1))), vR 8 21, vI (nI (18 + (i0 + 1))), vR 8 21], h9) rfl ?_
              refine R_sub (18 + (i0 + 1)) 1 rfl (by omega) ?_
              refine R_top (nI (18 + i0)) (by rw [show 18 + (i0 + 1) - 1 = 18 + i0 by omega]) ?_
              refine R_ld 8 21 (18 + i0) 125 rfl rfl (by omega) (by decide) ?_
              refine R_top (s (18 + i0)) ((Q9.1 i0 (by omega)).trans (by unfold mv2; rw [if_neg (by omega)]; unfold mv1; rw [if_neg (by omega)])) ?_
              refine R_st 8 21 (18 + (i0 + 1)) 125 (s (18 + i0)) rfl rfl (by omega) (by decide) (fun h6 eh6 => ?_)
              refine R_s 1 (103, [(4, vI (nI (i0 + 1) + Int32.ofInt (-1))), (3, vI (s (18 + f))), (0, vR 8 20), (1, vI (nI f)), (2, vI (nI t))], [], h6) rfl ?_
              refine R_lv (lv' := [(4, vI (nI i0)), (3, vI (s (18 + f))), (0, vR 8 20), (1, vI (nI f)), (2, vI (nI t))]) (by rw [show nI (i0 + 1) + Int32.ofInt (-1) = nI i0 from pk_m1 _]) ?_
              refine R_s 1 (72, [(4, vI (nI i0)), (3, vI (s (18 + f))), (0, vR 8 20), (1, vI (nI f)), (2, vI (nI t))], [], h6) rfl ?_
              refine ih2 i0 h6 (by omega) (by omega) (by omega) ?_
              rw [eh6]
              exact OO.st (i := i0 + 1) Q9 (by omega) (mv_2a (o := fun j => s (18 + j)) (by omega)).symm (fun j _ hne => mv_2b hne)
        · refine R_s 4 (49, [(4, vI (nI i)), (3, vI (s (18 + f))), (0, vR 8 20), (1, vI (nI f)), (2, vI (nI t))], [vI (nI i), vI (nI 18), vR 8 21], hh) rfl ?_
          refine R_add 18 i rfl ?_
          refine R_s 4 (58, [(4, vI (nI i)), (3, vI (s (18 + f))), (0, vR 8 20), (1, vI (nI f)), (2, vI (nI t))], [vI (nI i), vI (nI 18), vR 8 21, vI (nI (18 + i)), vR 8 21], hh) rfl ?_
          refine R_add 18 i rfl ?_
          refine R_s 1 (60, [(4, vI (nI i)), (3, vI (s (18 + f))), (0, vR 8 20), (1, vI (nI f)), (2, vI (nI t))], [vI (nI 1), vI (nI (18 + i)), vR 8 21, vI (nI (18 + i)), vR 8 21], hh) rfl ?_
          refine R_add (18 + i) 1 rfl ?_
          refine R_ld 8 21 ((18 + i) + 1) 125 rfl rfl (by omega) (by decide) ?_
          refine R_top (s (18 + (i + 1))) ((Q.1 (i + 1) (by omega)).trans (by unfold mv1; rw [if_neg (by omega)])) ?_
          refine R_st 8 21 (18 + i) 125 (s (18 + (i + 1))) rfl rfl (by omega) (by decide) (fun h7 eh7 => ?_)
          refine R_s 1 (66, [(4, vI (nI i + Int32.ofInt 1)), (3, vI (s (18 + f))), (0, vR 8 20), (1, vI (nI f)), (2, vI (nI t))], [], h7) rfl ?_
          refine R_lv (lv' := [(4, vI (nI (i + 1))), (3, vI (s (18 + f))), (0, vR 8 20), (1, vI (nI f)), (2, vI (nI t))]) (by rw [show nI i + Int32.ofInt 1 = nI (i + 1) from nI_add _ _]) ?_
          refine R_s 1 (35, [(4, vI (nI (i + 1))), (3, vI (s (18 + f))), (0, vR 8 20), (1, vI (nI f)), (2, vI (nI t))], [], h7) rfl ?_
          refine ih (i + 1) h7 (by omega) (by omega) (by omega) ?_
          rw [eh7]
          exact OO.st (i := i) Q (by omega) (mv_1a (o := fun j => s (18 + j)) (by omega)).symm (fun j _ hne => mv_1b hne)
    · have ct := bool_f ct
      rw [show oMove ((s, n, p, k), kp, ch, len) (nI f) y = (-1, ((s, n, p, k), kp, ch, len)) by unfold oMove; dsimp only; rw [sel1_t hf (by omega), sel1_f ct]]
      refine R_s 1 (17, [(0, vR 8 20), (1, vI (nI f)), (2, vI y)], [vI (-1)], h) rfl ?_
      exact R_ret (some (vI (-1))) h rfl ⟨rfl, I⟩
set_option maxRecDepth 100000 in
theorem t_M_adoptBest {d : Nat} {h : HP} {A : AS} (V : VA A) (I : MI h A) : MT (d + 6) mM_adoptBest [vR 8 20] h (fun r h' => r = some (vI (oAdopt A).1) ∧ MI h' (oAdopt A).2) := by
  obtain ⟨⟨s, n, p, k⟩, kp, ch, len⟩ := A
  have M : MS 21 h s := I.1
  have F : WF s n p k := V.1.1
  have O : WO s n := V.1.2.1.1
  have hn1 : 1 ≤ n := V.1.2.2.1
  have hp1 : 1 ≤ p := V.1.2.2.2.1
  have hk1 : 1 ≤ k := V.1.2.2.2.2
  have h8 := F.2.1.1
  have h5 := F.2.1.2.1
  have h6 := F.2.1.2.2
  unfold oAdopt
  dsimp only
  refine R_s 2 (2, [(0, vR 8 20)], [vI (-1), vR 8 20], h) rfl ?_
  refine R_call mM_layBest [vR 8 20, vI (-1)] [] rfl (t_M_layBest (m := -1) hn1 M F) (fun r h1 e1 => ?_)
  obtain ⟨rfl, T, X⟩ := e1
  have eG := zG_m (z := (s, n, p, k)) F
  dsimp only at eG
  have hlt := zG_lt (z := (s, n, p, k)) F
  have I1 := I.fm X
  rw [eG]
  show R _ mM_adoptBest (5, [(0, vR 8 20)], [vI (encF (zG (s, n, p, k)).1)], h1) _
  refine R_s 4 (cond (if2 .lt (encF (zG (s, n, p, k)).1) (nI 1000000)) 15 12, [(1, vI (encF (zG (s, n, p, k)).1)), (0, vR 8 20)], [], h1) rfl ?_
  refine R_bp (¬ (zG (s, n, p, k)).1 = none) (EF_lt2 hlt) (fun c1 => ?_) (fun c1 => ?_)
  · obtain ⟨v, hv⟩ : ∃ v, (zG (s, n, p, k)).1 = some v := by cases q : (zG (s, n, p, k)).1 with
      | none => exact absurd q c1
      | some v => exact ⟨v, rfl⟩
    have hv8 := hlt v hv
    refine R_lv (lv' := [(1, vI (nI v)), (0, vR 8 20)]) (by rw [hv]; rfl) ?_
    rw [hv]
    dsimp only
    refine R_s 1 (16, [(1, vI (nI v)), (0, vR 8 20)], [vR 8 20], h1) rfl ?_
    refine R_call mM_keeps [vR 8 20] [] rfl (t_M_keeps V I1) (fun r g1 e1 => ?_)
    obtain ⟨rfl, J, KF1⟩ := e1
    show R _ mM_adoptBest (19, [(1, vI (nI v)), (0, vR 8 20)], [], g1) _
    have MJ : MS 21 g1 s := J.1
    have TJ : TM g1 n (Wc s (-1) p) (mcm (s, n, p, k)) := ⟨fun x y hx hy => by rw [KF1.1 8 27 (by omega)]; exact T.1 x y hx hy, fun S a1 a2 l hl => ⟨by rw [KF1.1 8 25 (by omega)]; exact (T.2 S a1 a2 l hl).1, by rw [KF1.1 8 26 (by omega)]; exact (T.2 S a1 a2 l hl).2⟩⟩
    refine R_s 2 (21, [(1, vI (nI v)), (0, vR 8 20)], [vI (nI v), vR 8 20], g1) rfl ?_
    refine R_call mM_layOrder [vR 8 20, vI (nI v)] [] rfl (t_M_layOrder (c := v) TJ (by rw [eG]; exact hv) MJ F) (fun r h2 e2 => ?_)
    obtain ⟨rfl, A⟩ := e2
    show R _ mM_adoptBest (24, [(1, vI (nI v)), (0, vR 8 20)], [], h2) _
    have J2 := J.fm A.fm
    have MJ2 : MS 21 h2 s := MJ.fm A.fm
    refine R_s 2 (26, [(2, vI (nI 0)), (1, vI (nI v)), (0, vR 8 20)], [], h2) rfl ?_
    suffices ∀ m (i : Nat) (h9 : HP) (hm : i + m = n) (Q9 : OO h2 h9 8 21 (fun j => if j < i then enc (zS (s, n, p, k) j) else s (18 + j)) 18), R (d + 6) mM_adoptBest (26, [(2, vI (nI i)), (1, vI (nI v)), (0, vR 8 20)], [], h9) _ from this n 0 h2 (by omega) ⟨fun j hj => (MJ2 _ (by omega)).trans (by dsimp only; rw [if_neg (by omega)]), fun _ _ _ => rfl, fun _ _ => rfl⟩
    intro m
    induction m with
    | zero =>
      intro i h9 hm Q9
      refine R_s 4 (32, [(2, vI (nI i)), (1, vI (nI v)), (0, vR 8 20)], [vI (nI 0), vR 8 21, vI (nI i)], h9) rfl ?_
      refine R_ld 8 21 0 125 rfl rfl (by omega) (by decide) ?_
      refine R_top (nI n) ((Q9.2.2 0 (by omega)).trans ((MJ2 0 (by decide)).trans F.1.1)) ?_
      refine R_s 1 (cond (if2 .ge (nI i) (nI n)) 57 36, [(2, vI (nI i)), (1, vI (nI v)), (0, vR 8 20)], [], h9) rfl ?_
      refine R_bp (n ≤ i) (i2_ge (by omega) (by omega)) (fun c2 => ?_) (fun c2 => ?_)
      · rw [show i = n by omega] at Q9
        refine R_s 1 (58, [(2, vI (nI i)), (1, vI (nI v)), (0, vR 8 20)], [vI (nI v)], h9) rfl ?_
        exact R_ret (some (vI (nI v))) h9 rfl ⟨rfl, MI.mod (z := (ord s (fun j => if j < n then enc (zS (s, n, p, k) j) else s (18 + j)), n, p, k)) J2 (MJ2.oo Q9) Q9.2.1⟩
      · exact absurd hm (by omega)
    | succ m ih =>
      intro i h9 hm Q9
      refine R_s 4 (32, [(2, vI (nI i)), (1, vI (nI v)), (0, vR 8 20)], [vI (nI 0), vR 8 21, vI (nI i)], h9) rfl ?_
      refine R_ld 8 21 0 125 rfl rfl (by omega) (by decide) ?_
      refine R_top (nI n) ((Q9.2.2 0 (by omega)).trans ((MJ2 0 (by decide)).trans F.1.1)) ?_
      refine R_s 1 (cond (if2 .ge (nI i) (nI n)) 57 36, [(2, vI (nI i)), (1, vI (nI v)), (0, vR 8 20)], [], h9) rfl ?_
      refine R_bp (n ≤ i) (i2_ge (by omega) (by omega)) (fun c2 => ?_) (fun c2 => ?_)
      · rw [show i = n by omega] at Q9
        refine R_s 1 (58, [(2, vI (nI i)), (1, vI (nI v)), (0, vR 8 20)], [vI (nI v)], h9) rfl ?_
        exact R_ret (some (vI (nI v))) h9 rfl ⟨rfl, MI.mod (z := (ord s (fun j => if j < n then enc (zS (s, n, p, k) j) else s (18 + j)), n, p, k)) J2 (MJ2.oo Q9) Q9.2.1⟩
      · obtain ⟨y, hy, ey, fy⟩ := A.1 i (by omega)
        have ez : zS (s, n, p, k) i = some y := (zS_m (z := (s, n, p, k)) F i).symm.trans ey
        refine R_s 4 (43, [(2, vI (nI i)), (1, vI (nI v)), (0, vR 8 20)], [vI (nI i), vI (nI 18), vR 8 21], h9) rfl ?_
        refine R_add 18 i rfl ?_
        refine R_s 3 (49, [(2, vI (nI i)), (1, vI (nI v)), (0, vR 8 20)], [vI (nI i), vR 8 28, vI (nI (18 + i)), vR 8 21], h9) rfl ?_
        refine R_ld 8 28 i 8 rfl rfl (by omega) (by decide) ?_
        refine R_top (nI y) ((congrFun (Q9.2.1 8 28 (by omega)) i).trans fy) ?_
        refine R_st 8 21 (18 + i) 125 (nI y) rfl rfl (by omega) (by decide) (fun h3 eh3 => ?_)
        refine R_s 1 (54, [(2, vI (nI i + Int32.ofInt 1)), (1, vI (nI v)), (0, vR 8 20)], [], h3) rfl ?_
        refine R_lv (lv' := [(2, vI (nI (i + 1))), (1, vI (nI v)), (0, vR 8 20)]) (by rw [show nI i + Int32.ofInt 1 = nI (i + 1) from nI_add _ _]) ?_
        refine R_s 1 (26, [(2, vI (nI (i + 1))), (1, vI (nI v)), (0, vR 8 20)], [], h3) rfl ?_
        refine ih (i + 1) h3 (by omega) ?_
        rw [eh3]
        refine OO.st (i := i) Q9 (by omega) ?_ (fun j _ hne => ?_)
        · rw [if_pos (by omega), ez]; rfl
        · by_cases q : j < i
          · rw [if_pos q, if_pos (by omega)]
          · rw [if_neg q, if_neg (by omega)]
  · refine R_lv (lv' := [(1, vI (nI 1000000)), (0, vR 8 20)]) (by rw [Classical.not_not.mp c1]; rfl) ?_
    rw [Classical.not_not.mp c1]
    refine R_s 1 (14, [(1, vI (nI 1000000)), (0, vR 8 20)], [vI (-4)], h1) rfl ?_
    exact R_ret (some (vI (-4))) h1 rfl ⟨rfl, I1⟩
