theorem mod5a : ∀ i, i < 5 → ((i + 1) % 5 + 4 - 0) % 5 = i := by decide
theorem mod5b : ∀ i, i < 5 → ∀ j, j < 4 → ((i + 1) % 5 + 4 - (j + 1)) % 5 = (i + 4 - j) % 5 ∧ ¬ (i + 4 - j) % 5 = i := by decide
theorem CO.mv' {h h' : HP} {g n p k : Nat} {s : Nat → Int32} (C : CO h g s n p k) (e : ∀ j, h' g j = h g j) : CO h' g s n p k := co_frame C e
set_option maxRecDepth 100000 in
theorem t_S_beginEdit {d : Nat} {h : HP} {A : AS} (V : VA A) (I : CI h A) : MT (d + 3) mS_beginEdit [vR 7 9] h (fun r h' => r = none ∧ CI h' (ed A A.1) ∧ h' 7 9 5 = nI 0 ∧ ∀ j, h' 0 j = h 0 j) := by
  obtain ⟨⟨s, n, p, k⟩, kp, ch, len⟩ := A
  have C : CO h 0 s n p k := I.1
  have F : WF s n p k := V.1.1
  have O : WO s n := V.1.2.1.1
  have hn1 : 1 ≤ n := V.1.2.2.1
  have hp1 : 1 ≤ p := V.1.2.2.2.1
  have hk1 : 1 ≤ k := V.1.2.2.2.2
  have h8 : n ≤ 8 := F.2.1.1
  have h5 : p ≤ 5 := F.2.1.2.1
  have h6 : k ≤ 6 := F.2.1.2.2
  obtain ⟨-, ⟨i, i1, i2, i3, i4⟩, T, -⟩ := id I
  have hkl : kp.length ≤ 5 := V.2.2
  refine R_s 4 (8, [(0, vR 7 9)], [vR 0 0, vR 7 13], h) rfl ?_
  refine R_call mH_keep [vR 7 13, vR 0 0] [] rfl (t_H_keep i2 i1 i3 hkl C h8 h5 h6) (fun r h1 e1 => ?_)
  obtain ⟨rfl, C1, F1, g1, g2⟩ := e1
  show R _ mS_beginEdit (11, [(0, vR 7 9)], [], h1) _
  refine R_s 3 (16, [(0, vR 7 9)], [], (hset h1 7 9 5 (nI 0))) rfl ?_
  refine R_hp (fun h2 eh2 => ?_)
  have e2 : ∀ g' j', ¬ (g' = 7 ∧ j' = 9) → h2 g' j' = h1 g' j' := fun g' j' q => by rw [eh2, hs_ne q]
  have h0 : ∀ j, h2 0 j = h 0 j := fun j => by rw [e2 0 j (by omega)]; exact F1 0 j (by omega) (by omega)
  refine R_ret none h2 rfl ⟨rfl, ⟨C.mv' h0, ⟨(i + 1) % 5, Nat.mod_lt _ (by decide), by rw [e2 7 13 (by omega)]; exact g1, by rw [e2 7 13 (by omega), g2]; show _ = nI (((s, n, p, k) :: kp).take 5).length; rw [take5_len hkl], fun j z hj => ?_⟩, ⟨by rw [e2 7 10 (by omega), F1 7 10 (by omega) (by omega)]; exact T.1, T.2.1, fun j hj => by rw [e2 7 11 (by omega), F1 7 11 (by omega) (by omega)]; exact T.2.2 j hj⟩, Or.inl (by rw [eh2, hs_same, up_same])⟩, by rw [eh2, hs_same, up_same], h0⟩
  obtain ⟨hj5, ⟨rfl, rfl⟩ | ⟨j', rfl, hj'⟩⟩ := take5 hj
  · rw [mod5a i i1]; exact co_frame C1 (fun c => e2 _ c (by omega))
  · obtain ⟨m1, m2⟩ := mod5b i i1 j' (by omega)
    rw [m1]
    exact (i4 j' z hj').mv (fun c => by rw [e2 _ c (by omega)]; exact F1 _ c (by omega) (by omega))
theorem CI.tab {h h' : HP} {A : AS} (I : CI h A) (e : ∀ g' j', ¬ (g' = 7 ∧ j' = 9) → ¬ (g' = 7 ∧ 15 ≤ j' ∧ j' ≤ 19) → h' g' j' = h g' j') (f : h' 7 9 5 = nI 1) (T : TF h' A.1.2.1 (zW A.1) (zB A.1)) : CI h' A := by
  obtain ⟨C, ⟨i, i1, i2, i3, i4⟩, X, -⟩ := I
  exact ⟨C.mv (fun j => e 0 j (by omega) (by omega)), ⟨i, i1, by rw [e 7 13 (by omega) (by omega)]; exact i2, by rw [e 7 13 (by omega) (by omega)]; exact i3, fun j z hj => (i4 j z hj).mv (fun c => e _ c (by omega) (by omega))⟩, ⟨by rw [e 7 10 (by omega) (by omega)]; exact X.1, X.2.1, fun j hj => by rw [e 7 11 (by omega) (by omega)]; exact X.2.2 j hj⟩, Or.inr ⟨f, T⟩⟩
set_option maxRecDepth 100000 in
theorem t_S_presentTable {d : Nat} {h : HP} {A : AS} (V : VA A) (I : CI h A) : MT (d + 5) mS_presentTable [vR 7 9] h (fun r h' => r = some (vR 7 15) ∧ CI h' A ∧ TF h' A.1.2.1 (zW A.1) (zB A.1)) := by
  obtain ⟨⟨s, n, p, k⟩, kp, ch, len⟩ := A
  have C : CO h 0 s n p k := I.1
  have F : WF s n p k := V.1.1
  have O : WO s n := V.1.2.1.1
  have hn1 : 1 ≤ n := V.1.2.2.1
  have hp1 : 1 ≤ p := V.1.2.2.2.1
  have hk1 : 1 ≤ k := V.1.2.2.2.2
  have h8 : n ≤ 8 := F.2.1.1
  have h5 : p ≤ 5 := F.2.1.2.1
  have h6 : k ≤ 6 := F.2.1.2.2
  obtain ⟨he, hen, he8⟩ := en_ok (z := (s, n, p, k)) F
  rcases I.2.2.2 with f0 | ⟨f1, T1⟩
  · refine R_s 2 (4, [(0, vR 7 9)], [vI (h 7 9 5)], h) rfl ?_
    refine R_top (nI 0) f0 ?_
    refine R_s 1 (cond (if0 .ne (nI 0)) 30 7, [(0, vR 7 9)], [], h) rfl ?_
    refine R_bf rfl ?_
    refine R_s 4 (15, [(0, vR 7 9)], [vR 0 0, vR 7 15], h) rfl ?_
    refine R_call mO_load [vR 7 15, vR 0 0] [] rfl (t_O_load (show ¬ 0 = 7 by omega) C F he hen) (fun r h1 e1 => ?_)
    obtain ⟨rfl, T1, F1⟩ := e1
    show R _ mS_presentTable (18, [(0, vR 7 9)], [], h1) _
    refine R_s 2 (22, [(0, vR 7 9)], [vR 7 15], h1) rfl ?_
    refine R_call mO_solve [vR 7 15] [] rfl (t_O_solve T1 (Wc_le F) hn1 h8) (fun r h2 e2 => ?_)
    obtain ⟨rfl, T2, F2⟩ := e2
    show R _ mS_presentTable (25, [(0, vR 7 9)], [], h2) _
    refine R_s 3 (30, [(0, vR 7 9)], [], (hset h2 7 9 5 (nI 1))) rfl ?_
    refine R_hp (fun h3 eh3 => ?_)
    refine R_s 2 (34, [(0, vR 7 9)], [vR 7 15], h3) rfl ?_
    have e3 : ∀ g' j', ¬ (g' = 7 ∧ j' = 9) → ¬ (g' = 7 ∧ 15 ≤ j' ∧ j' ≤ 19) → h3 g' j' = h g' j' := fun g' j' q1 q2 => by rw [eh3, hs_ne q1, F2 g' j' (by omega), F1 g' j' (by omega)]
    have T3 : TF h3 n (zW (s, n, p, k)) (zB (s, n, p, k)) := T2.mv (fun j a b => by rw [eh3, hs_ne (by omega)])
    have h95 : h3 7 9 5 = nI 1 := by rw [eh3, hs_same, up_same]
    exact R_ret (some (vR 7 15)) h3 rfl ⟨rfl, I.tab e3 h95 T3, T3⟩
  · refine R_s 2 (4, [(0, vR 7 9)], [vI (h 7 9 5)], h) rfl ?_
    refine R_top (nI 1) f1 ?_
    refine R_s 1 (cond (if0 .ne (nI 1)) 30 7, [(0, vR 7 9)], [], h) rfl ?_
    refine R_bt rfl ?_
    refine R_s 2 (34, [(0, vR 7 9)], [vR 7 15], h) rfl ?_
    exact R_ret (some (vR 7 15)) h rfl ⟨rfl, I, T1⟩
theorem enc_m1 {o : Option Nat} (h : ∀ c, o = some c → c ≤ 400) : if2 .ne (enc o) (-1) = true ↔ ¬ o = none := by
  rw [x2_ne]
  cases o with
  | none => exact ⟨fun q => absurd rfl q, fun q => absurd rfl q⟩
  | some c => exact ⟨fun _ q => by (cases q), fun _ => nI_ne_m1 (by have := h c rfl; omega)⟩
theorem nf_enc {o : Option Nat} (h : ¬ o = none) : nf o = enc o := by cases o with
  | none => exact absurd rfl h
  | some c => rfl
theorem nf_none {o : Option Nat} (h : o = none) : nf o = -4 := by rw [h]; rfl
set_option maxRecDepth 100000 in
theorem t_S_bestCost {d : Nat} {h : HP} {A : AS} (V : VA A) (I : CI h A) : MT (d + 6) mS_bestCost [vR 7 9] h (fun r h' => r = some (vI (oBest A)) ∧ CI h' A) := by
  obtain ⟨⟨s, n, p, k⟩, kp, ch, len⟩ := A
  have C : CO h 0 s n p k := I.1
  have F : WF s n p k := V.1.1
  have O : WO s n := V.1.2.1.1
  have hn1 : 1 ≤ n := V.1.2.2.1
  have hp1 : 1 ≤ p := V.1.2.2.2.1
  have hk1 : 1 ≤ k := V.1.2.2.2.2
  have h8 : n ≤ 8 := F.2.1.1
  have h5 : p ≤ 5 := F.2.1.2.1
  have h6 : k ≤ 6 := F.2.1.2.2
  refine R_s 1 (1, [(0, vR 7 9)], [vR 7 9], h) rfl ?_
  refine R_call mS_presentTable [vR 7 9] [] rfl (t_S_presentTable V I) (fun r h1 e1 => ?_)
  obtain ⟨rfl, I1, T1⟩ := e1
  show R _ mS_bestCost (4, [(0, vR 7 9)], [vR 7 15], h1) _
  refine R_calli mO_leastCost [vR 7 15] [] (enc (zG (s, n, p, k)).1) h1 rfl (t_O_leastCost T1) ?_
  refine R_s 4 (cond (if2 .ne (enc (zG (s, n, p, k)).1) (-1)) 18 13, [(1, vI (enc (zG (s, n, p, k)).1)), (0, vR 7 9)], [], h1) rfl ?_
  refine R_bp (¬ (zG (s, n, p, k)).1 = none) (enc_m1 (fun c q => Nat.le_trans (GT_le h8 (Wc_le F) q) (by decide))) (fun c1 => ?_) (fun c1 => ?_)
  · refine R_s 1 (19, [(1, vI (enc (zG (s, n, p, k)).1)), (0, vR 7 9)], [vI (enc (zG (s, n, p, k)).1)], h1) rfl ?_
    exact R_ret (some (vI (enc (zG (s, n, p, k)).1))) h1 rfl ⟨by unfold oBest; dsimp only; rw [nf_enc c1], I1⟩
  · have c1 := Classical.not_not.mp c1
    refine R_s 2 (19, [(1, vI (enc (zG (s, n, p, k)).1)), (0, vR 7 9)], [vI (-4)], h1) rfl ?_
    exact R_ret (some (vI (-4))) h1 rfl ⟨by unfold oBest; dsimp only; rw [nf_none c1], I1⟩
set_option maxRecDepth 100000 in
theorem t_S_bestOrderCount {d : Nat} {h : HP} {A : AS} (V : VA A) (I : CI h A) : MT (d + 6) mS_bestOrderCount [vR 7 9] h (fun r h' => r = some (vI (oBestN A)) ∧ CI h' A) := by
  obtain ⟨⟨s, n, p, k⟩, kp, ch, len⟩ := A
  have C : CO h 0 s n p k := I.1
  have F : WF s n p k := V.1.1
  have O : WO s n := V.1.2.1.1
  have hn1 : 1 ≤ n := V.1.2.2.1
  have hp1 : 1 ≤ p := V.1.2.2.2.1
  have hk1 : 1 ≤ k := V.1.2.2.2.2
  have h8 : n ≤ 8 := F.2.1.1
  have h5 : p ≤ 5 := F.2.1.2.1
  have h6 : k ≤ 6 := F.2.1.2.2
  refine R_s 1 (1, [(0, vR 7 9)], [vR 7 9], h) rfl ?_
  refine R_call mS_presentTable [vR 7 9] [] rfl (t_S_presentTable V I) (fun r h1 e1 => ?_)
  obtain ⟨rfl, I1, T1⟩ := e1
  show R _ mS_bestOrderCount (4, [(0, vR 7 9)], [vR 7 15], h1) _
  refine R_calli mO_leastCostOrders [vR 7 15] [] (nI ((zG (s, n, p, k)).2)) h1 rfl (t_O_leastCostOrders T1) ?_
  exact R_ret (some (vI (nI ((zG (s, n, p, k)).2)))) h1 rfl ⟨rfl, I1⟩
theorem zS_lt {s : Nat → Int32} {n p k j c : Nat} (h8 : n ≤ 8) (hj : j < n) (h : zS (s, n, p, k) j = some c) : c ≤ 8 := by
  unfold zS bsg at h
  cases hb : bch (s, n, p, k).2.1 (zW (s, n, p, k)) (mCl (zB (s, n, p, k))) (j + 1) with
  | none => rw [hb] at h; cases h
  | some q =>
    rw [hb] at h
    have e : q.2 = c := Option.some.inj h
    obtain ⟨-, b2, b3⟩ := bch_ok (n := n) h8 mCl_bit (j + 1) hj q hb
    rcases b3 with ⟨z1, z2⟩ | ⟨z1, z2⟩ <;> omega
set_option maxRecDepth 100000 in
theorem t_S_bestSongAt {d : Nat} {h : HP} {A : AS} {x : Int32} (V : VA A) (I : CI h A) : MT (d + 6) mS_bestSongAt [vR 7 9, vI x] h (fun r h' => r = some (vI (oBestAt A x)) ∧ CI h' A) := by
  obtain ⟨⟨s, n, p, k⟩, kp, ch, len⟩ := A
  have C : CO h 0 s n p k := I.1
  have F : WF s n p k := V.1.1
  have O : WO s n := V.1.2.1.1
  have hn1 : 1 ≤ n := V.1.2.2.1
  have hp1 : 1 ≤ p := V.1.2.2.2.1
  have hk1 : 1 ≤ k := V.1.2.2.2.2
  have h8 : n ≤ 8 := F.2.1.1
  have h5 : p ≤ 5 := F.2.1.2.1
  have h6 : k ≤ 6 := F.2.1.2.2
  refine R_s 3 (5, [(0, vR 7 9), (1, vI x)], [vI x, vR 0 0], h) rfl ?_
  refine R_calli mC_isSong [vR 0 0, vI x] [] (bI (inb x n)) h rfl (t_C_isSong C.1.1 h8) ?_
  refine R_s 1 (cond (if0 .ne (bI (inb x n))) 13 11, [(0, vR 7 9), (1, vI x)], [], h) rfl ?_
  refine R_bp (inb x n = true) (x0_ne.trans bI_ne) (fun ca => ?_) (fun ca => ?_)
  · obtain ⟨a, ha, rfl⟩ := inb_ex (by omega) ca
    refine R_s 1 (14, [(0, vR 7 9), (1, vI (nI a))], [vR 7 9], h) rfl ?_
    refine R_call mS_presentTable [vR 7 9] [] rfl (t_S_presentTable V I) (fun r h1 e1 => ?_)
    obtain ⟨rfl, I1, T1⟩ := e1
    show R _ mS_bestSongAt (17, [(0, vR 7 9), (1, vI (nI a))], [vR 7 15], h1) _
    refine R_s 1 (18, [(0, vR 7 9), (1, vI (nI a))], [vI (nI a), vR 7 15], h1) rfl ?_
    refine R_calli mO_bestSong [vR 7 15, vI (nI a)] [] (enc (zS (s, n, p, k) a)) h1 rfl (t_O_bestSong T1 (Wc_le F) h8 ha) ?_
    refine R_s 4 (cond (if2 .ne (enc (zS (s, n, p, k) a)) (-1)) 32 27, [(2, vI (enc (zS (s, n, p, k) a))), (0, vR 7 9), (1, vI (nI a))], [], h1) rfl ?_
    refine R_bp (¬ zS (s, n, p, k) a = none) (enc_m1 (fun c q => Nat.le_trans (zS_lt h8 ha q) (by decide))) (fun c1 => ?_) (fun c1 => ?_)
    · refine R_s 1 (33, [(2, vI (enc (zS (s, n, p, k) a))), (0, vR 7 9), (1, vI (nI a))], [vI (enc (zS (s, n, p, k) a))], h1) rfl ?_
      exact R_ret (some (vI (enc (zS (s, n, p, k) a)))) h1 rfl ⟨by unfold oBestAt; dsimp only; rw [sel1_t ha (by omega), nf_enc c1], I1⟩
    · have c1 := Classical.not_not.mp c1
      refine R_s 2 (33, [(2, vI (enc (zS (s, n, p, k) a))), (0, vR 7 9), (1, vI (nI a))], [vI (-4)], h1) rfl ?_
      exact R_ret (some (vI (-4))) h1 rfl ⟨by unfold oBestAt; dsimp only; rw [sel1_t ha (by omega), nf_none c1], I1⟩
  · have ca : inb x n = false := by cases q9 : inb x n with
      | false => rfl
      | true => exact absurd q9 ca
    refine R_s 1 (12, [(0, vR 7 9), (1, vI x)], [vI (-1)], h) rfl ?_
    exact R_ret (some (vI (-1))) h rfl ⟨by unfold oBestAt; dsimp only; rw [sel1_f ca], I⟩
set_option maxRecDepth 100000 in
theorem t_S_bestCostFrom {d : Nat} {h : HP} {A : AS} {x : Int32} (V : VA A) (I : CI h A) : MT (d + 6) mS_bestCostFrom [vR 7 9, vI x] h (fun r h' => r = some (vI (oBestFrom A x)) ∧ CI h' A) := by
  obtain ⟨⟨s, n, p, k⟩, kp, ch, len⟩ := A
  have C : CO h 0 s n p k := I.1
  have F : WF s n p k := V.1.1
  have O : WO s n := V.1.2.1.1
  have hn1 : 1 ≤ n := V.1.2.2.1
  have hp1 : 1 ≤ p := V.1.2.2.2.1
  have hk1 : 1 ≤ k := V.1.2.2.2.2
  have h8 : n ≤ 8 := F.2.1.1
  have h5 : p ≤ 5 := F.2.1.2.1
  have h6 : k ≤ 6 := F.2.1.2.2
  refine R_s 3 (5, [(0, vR 7 9), (1, vI x)], [vI x, vR 0 0], h) rfl ?_
  refine R_calli mC_isSong [vR 0 0, vI x] [] (bI (inb x n)) h rfl (t_C_isSong C.1.1 h8) ?_
  refine R_s 1 (cond (if0 .ne (bI (inb x n))) 13 11, [(0, vR 7 9), (1, vI x)], [], h) rfl ?_
  refine R_bp (inb x n = true) (x0_ne.trans bI_ne) (fun ca => ?_) (fun ca => ?_)
  · obtain ⟨a, ha, rfl⟩ := inb_ex (by omega) ca
    refine R_s 1 (14, [(0, vR 7 9), (1, vI (nI a))], [vR 7 9], h) rfl ?_
    refine R_call mS_presentTable [vR 7 9] [] rfl (t_S_presentTable V I) (fun r h1 e1 => ?_)
    obtain ⟨rfl, I1, T1⟩ := e1
    show R _ mS_bestCostFrom (17, [(0, vR 7 9), (1, vI (nI a))], [vR 7 15], h1) _
    refine R_s 1 (18, [(0, vR 7 9), (1, vI (nI a))], [vI (nI a), vR 7 15], h1) rfl ?_
    refine R_calli mO_leastCostFrom [vR 7 15, vI (nI a)] [] (enc (cand (zW (s, n, p, k)) (mCl (zB (s, n, p, k))) (GT n (zW (s, n, p, k)) (mCl (zB (s, n, p, k)))) 0 0 a).1) h1 rfl (t_O_leastCostFrom T1 (Wc_le F) h8 ha) ?_
    refine R_s 4 (cond (if2 .ne (enc (cand (zW (s, n, p, k)) (mCl (zB (s, n, p, k))) (GT n (zW (s, n, p, k)) (mCl (zB (s, n, p, k)))) 0 0 a).1) (-1)) 32 27, [(2, vI (enc (cand (zW (s, n, p, k)) (mCl (zB (s, n, p, k))) (GT n (zW (s, n, p, k)) (mCl (zB (s, n, p, k)))) 0 0 a).1)), (0, vR 7 9), (1, vI (nI a))], [], h1) rfl ?_
    refine R_bp (¬ (cand (zW (s, n, p, k)) (mCl (zB (s, n, p, k))) (GT n (zW (s, n, p, k)) (mCl (zB (s, n, p, k)))) 0 0 a).1 = none) (enc_m1 (fun c q => Nat.le_trans (cand_le (Wc_le F) h8 q) (by decide))) (fun c1 => ?_) (fun c1 => ?_)
    · refine R_s 1 (33, [(2, vI (enc (cand (zW (s, n, p, k)) (mCl (zB (s, n, p, k))) (GT n (zW (s, n, p, k)) (mCl (zB (s, n, p, k)))) 0 0 a).1)), (0, vR 7 9), (1, vI (nI a))], [vI (enc (cand (zW (s, n, p, k)) (mCl (zB (s, n, p, k))) (GT n (zW (s, n, p, k)) (mCl (zB (s, n, p, k)))) 0 0 a).1)], h1) rfl ?_
      exact R_ret (some (vI (enc (cand (zW (s, n, p, k)) (mCl (zB (s, n, p, k))) (GT n (zW (s, n, p, k)) (mCl (zB (s, n, p, k)))) 0 0 a).1))) h1 rfl ⟨by unfold oBestFrom; dsimp only; rw [sel1_t ha (by omega), nf_enc c1], I1⟩
    · have c1 := Classical.not_not.mp c1
      refine R_s 2 (33, [(2, vI (enc (cand (zW (s, n, p, k)) (mCl (zB (s, n, p, k))) (GT n (zW (s, n, p, k)) (mCl (zB (s, n, p, k)))) 0 0 a).1)), (0, vR 7 9), (1, vI (nI a))], [vI (-4)], h1) rfl ?_
      exact R_ret (some (vI (-4))) h1 rfl ⟨by unfold oBestFrom; dsimp only; rw [sel1_t ha (by omega), nf_none c1], I1⟩
  · have ca : inb x n = false := by cases q9 : inb x n with
      | false => rfl
      | true => exact absurd q9 ca
    refine R_s 1 (12, [(0, vR 7 9), (1, vI x)], [vI (-1)], h) rfl ?_
    exact R_ret (some (vI (-1))) h rfl ⟨by unfold oBestFrom; dsimp only; rw [sel1_f ca], I⟩
