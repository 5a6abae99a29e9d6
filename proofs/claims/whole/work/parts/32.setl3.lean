theorem CI.txt {h h' : HP} {A : AS} {ch : Nat → Nat} {len : Nat} (I : CI h A) (T : TXT h' ch len) (e : ∀ g' j', ¬ g' = 1 → ¬ (g' = 7 ∧ 10 ≤ j' ∧ j' ≤ 12) → h' g' j' = h g' j') : CI h' (A.1, A.2.1, ch, len) := by
  obtain ⟨C, ⟨i, i1, i2, i3, i4⟩, X, f⟩ := I
  refine ⟨C.mv (fun j => e 0 j (by omega) (by omega)), ⟨i, i1, by rw [e 7 13 (by omega) (by omega)]; exact i2, by rw [e 7 13 (by omega) (by omega)]; exact i3, fun j z hj => (i4 j z hj).mv (fun c => e _ c (by omega) (by omega))⟩, T, ?_⟩
  rcases f with f | ⟨f, t⟩
  · exact Or.inl (by rw [e 7 9 (by omega) (by omega)]; exact f)
  · exact Or.inr ⟨by rw [e 7 9 (by omega) (by omega)]; exact f, t.mv (fun j a b => e 7 j (by omega) (by omega))⟩
theorem chr_n : ∀ c, c < 127 → ((nI c).toUInt32 % 65536).toInt32 = nI c ∧ vp_nar .char (nI c) = nI c := by decide +kernel
theorem inb_of {x : Int32} {a n m : Nat} (hm : m + 1 = n) (hn : n < 2147483648) (h1 : ¬ x < nI a) (h2 : x ≤ nI m) (ha : a < 2147483648) : inb x n = true := by
  have e1 : ¬ x < 0 := by
    intro q
    apply h1
    have := Int32.lt_iff_toInt_lt.mp q
    apply Int32.lt_iff_toInt_lt.mpr
    rw [nI_toInt ha]
    have h0 : (0 : Int32).toInt = 0 := by decide
    omega
  refine inb_mid hn e1 (fun q => ?_)
  have a1 := Int32.le_iff_toInt_le.mp q
  have a2 := Int32.le_iff_toInt_le.mp h2
  rw [nI_toInt hn] at a1
  rw [nI_toInt (by omega)] at a2
  omega
set_option maxRecDepth 100000 in
theorem t_S_append {d : Nat} {h : HP} {A : AS} {x : Int32} (V : VA A) (I : CI h A) : MT (d + 1) mS_append [vR 7 9, vI x] h (fun r h' => r = some (vI (oAppend A x).1) ∧ CI h' (oAppend A x).2) := by
  obtain ⟨⟨s, n, p, k⟩, kp, ch, len⟩ := A
  have C : CO h 0 s n p k := I.1
  have F : WF s n p k := V.1.1
  have O : WO s n := V.1.2.1.1
  have hn1 : 1 ≤ n := V.1.2.2.1
  have hp1 : 1 ≤ p := V.1.2.2.2.1
  have hk1 : 1 ≤ k := V.1.2.2.2.2
  have h8 : n ≤ 8 := F.2.1.1
  have h5 : p ≤ 5 := F.2.1.2.1
  have h6 : k ≤ 6 := F.2.1.2.2
  have T := I.2.2.1
  have hlen : len ≤ 300 := T.2.1
  cases hx : inb x 127 with
  | false =>
    rw [show oAppend ((s, n, p, k), kp, ch, len) x = (-1, ((s, n, p, k), kp, ch, len)) from sel1_f hx]
    refine R_s 3 (cond (if2 .lt x (nI 32)) 12 6, [(0, vR 7 9), (1, vI x)], [], h) rfl ?_
    refine R_bp (x < (nI 32)) x2_lt (fun c1 => ?_) (fun c1 => ?_)
    · refine R_s 1 (13, [(0, vR 7 9), (1, vI x)], [vI (-1)], h) rfl ?_
      exact R_ret (some (vI (-1))) h rfl ⟨rfl, I⟩
    · refine R_s 3 (cond (if2 .le x (nI 126)) 14 12, [(0, vR 7 9), (1, vI x)], [], h) rfl ?_
      refine R_bp (x ≤ (nI 126)) x2_le (fun c2 => ?_) (fun c2 => ?_)
      · rw [inb_of (a := 32) (m := 126) rfl (by decide) c1 c2 (by decide)] at hx
        cases hx
      · refine R_s 1 (13, [(0, vR 7 9), (1, vI x)], [vI (-1)], h) rfl ?_
        exact R_ret (some (vI (-1))) h rfl ⟨rfl, I⟩
  | true =>
    obtain ⟨c, hc, rfl⟩ := inb_ex (by decide) hx
    rw [show oAppend ((s, n, p, k), kp, ch, len) (nI c) = _ from sel1_t hc (by decide)]
    dsimp only
    refine R_s 3 (cond (if2 .lt (nI c) (nI 32)) 12 6, [(0, vR 7 9), (1, vI (nI c))], [], h) rfl ?_
    refine R_bp (c < 32) (i2_lt (by omega) (by omega)) (fun c1 => ?_) (fun c1 => ?_)
    · refine R_s 1 (13, [(0, vR 7 9), (1, vI (nI c))], [vI (-1)], h) rfl ?_
      exact R_ret (some (vI (-1))) h rfl ⟨by rw [if_pos c1], by rw [if_pos c1]; exact I⟩
    · refine R_s 3 (cond (if2 .le (nI c) (nI 126)) 14 12, [(0, vR 7 9), (1, vI (nI c))], [], h) rfl ?_
      refine R_bp (c ≤ 126) (i2_le (by omega) (by omega)) (fun c2 => ?_) (fun c2 => ?_)
      · rw [if_neg c1]
        refine R_s 4 (20, [(0, vR 7 9), (1, vI (nI c))], [vI (((nI c).toUInt32 % 65536).toInt32), vR 7 10], h) rfl ?_
        refine R_top (nI c) (chr_n c hc).1 ?_
        by_cases h3 : len = 300
        · rw [if_pos h3]
          refine R_calli mT_add [vR 7 10, vI (nI c)] [] (nI 0) h rfl (t_T_add_f (by rw [show h 7 10 1 = nI len from T.1, h3])) ?_
          refine R_s 1 (cond (if0 .eq (nI 0)) 36 26, [(0, vR 7 9), (1, vI (nI c))], [], h) rfl ?_
          refine R_bt rfl ?_
          refine R_s 1 (38, [(0, vR 7 9), (1, vI (nI c))], [vI (-3)], h) rfl ?_
          exact R_ret (some (vI (-3))) h rfl ⟨rfl, I⟩
        · rw [if_neg h3]
          refine R_calli mT_add [vR 7 10, vI (nI c)] [] (nI 1) (hset (hset h 7 11 len (vp_nar .char (nI c))) 7 10 1 (nI (len + 1))) rfl (t_T_add_t (n := len) T.1 (by omega)) ?_
          refine R_hp (fun h1 eh1 => ?_)
          refine R_s 1 (cond (if0 .eq (nI 1)) 36 26, [(0, vR 7 9), (1, vI (nI c))], [], h1) rfl ?_
          refine R_bf rfl ?_
          refine R_s 3 (33, [(0, vR 7 9), (1, vI (nI c))], [vI (h1 7 10 1)], h1) rfl ?_
          refine R_top (nI (len + 1)) (by rw [eh1, hs_same, up_same]) ?_
          refine R_s 1 (38, [(0, vR 7 9), (1, vI (nI c))], [vI (nI (len + 1))], h1) rfl ?_
          refine R_ret (some (vI (nI (len + 1)))) h1 rfl ⟨rfl, I.txt ⟨by rw [eh1, hs_same, up_same], by omega, fun j hj => ?_⟩ (fun g' j' q1 q2 => by rw [eh1, hs_ne (by omega), hs_ne (by omega)])⟩
          rw [eh1, hs_ne (by omega), hs_same, (chr_n c hc).2]
          unfold upN
          by_cases q : j = len
          · rw [q, up_same, if_pos rfl]; exact ⟨rfl, by omega, by omega⟩
          · rw [up_ne q, if_neg q]; exact T.2.2 j (show j < len by omega)
      · exact absurd c2 (by omega)
set_option maxRecDepth 100000 in
theorem t_S_clearText {d : Nat} {h : HP} {A : AS} (V : VA A) (I : CI h A) : MT (d) mS_clearText [vR 7 9] h (fun r h' => r = some (vI (oClear A).1) ∧ CI h' (oClear A).2) := by
  obtain ⟨⟨s, n, p, k⟩, kp, ch, len⟩ := A
  have C : CO h 0 s n p k := I.1
  have F : WF s n p k := V.1.1
  have O : WO s n := V.1.2.1.1
  have hn1 : 1 ≤ n := V.1.2.2.1
  have hp1 : 1 ≤ p := V.1.2.2.2.1
  have hk1 : 1 ≤ k := V.1.2.2.2.2
  have h8 : n ≤ 8 := F.2.1.1
  have h5 : p ≤ 5 := F.2.1.2.1
  have h6 : k ≤ 6 := F.2.1.2.2
  have T := I.2.2.1
  refine R_s 3 (7, [(0, vR 7 9)], [vI (h 7 10 1)], h) rfl ?_
  refine R_top (nI len) T.1 ?_
  refine R_s 5 (16, [(1, vI (nI len)), (0, vR 7 9)], [], (hset h 7 10 1 (nI 0))) rfl ?_
  refine R_hp (fun h1 eh1 => ?_)
  refine R_s 1 (17, [(1, vI (nI len)), (0, vR 7 9)], [vI (nI len)], h1) rfl ?_
  exact R_ret (some (vI (nI len))) h1 rfl ⟨rfl, I.txt ⟨by rw [eh1, hs_same, up_same], Nat.zero_le _, fun j hj => absurd hj (by omega)⟩ (fun g' j' q1 q2 => by rw [eh1, hs_ne (by omega)])⟩
theorem pC_lt {ch : Nat → Nat} {len : Nat} : ∀ m i a z e, i + m = len → a ≤ i → (pC ch len m i a z).1 = some e → e < len := by
  intro m
  induction m with
  | zero =>
    intro i a z e h1 h2 h
    rw [pC_0] at h
    dsimp only at h
    split at h
    · cases h; assumption
    · cases h
  | succ m ih =>
    intro i a z e h1 h2 h
    unfold pC at h
    split at h
    · cases hs : stC ch a i z with
      | none => rw [hs] at h; cases h; omega
      | some z' => rw [hs] at h; exact ih _ _ _ _ (by omega) (by omega) h
    · exact ih _ _ _ _ (by omega) (by omega) h
theorem rd_lt {ch : Nat → Nat} {len e : Nat} (h : (rd ch len).1 = some e) : e < len := pC_lt len 0 0 z0 e (by omega) (by omega) h
theorem TXT.ok {h h' : HP} {ch : Nat → Nat} {len : Nat} (T : TXT h ch len) (F : FT h h') : TXT h' ch len := T.ft F
set_option maxRecDepth 100000 in
theorem t_S_firstError {d : Nat} {h : HP} {A : AS} (V : VA A) (I : CI h A) : MT (d + 5) mS_firstError [vR 7 9] h (fun r h' => r = some (vI (oFirst A).1) ∧ CI h' (oFirst A).2) := by
  obtain ⟨⟨s, n, p, k⟩, kp, ch, len⟩ := A
  have C : CO h 0 s n p k := I.1
  have F : WF s n p k := V.1.1
  have O : WO s n := V.1.2.1.1
  have hn1 : 1 ≤ n := V.1.2.2.1
  have hp1 : 1 ≤ p := V.1.2.2.2.1
  have hk1 : 1 ≤ k := V.1.2.2.2.2
  have h8 : n ≤ 8 := F.2.1.1
  have h5 : p ≤ 5 := F.2.1.2.1
  have h6 : k ≤ 6 := F.2.1.2.2
  have T := I.2.2.1
  have hlen : len ≤ 300 := T.2.1
  refine R_s 4 (8, [(0, vR 7 9)], [vR 1 0, vR 7 10], h) rfl ?_
  refine R_call mT_readInto [vR 7 10, vR 1 0] [] rfl (t_T_readInto T) (fun r h1 e1 => ?_)
  obtain ⟨rfl, F1, -⟩ := e1
  show R _ mS_firstError (11, [(0, vR 7 9)], [vI (enc (rd ch len).1)], h1) _
  have I1 : CI h1 ((s, n, p, k), kp, ch, len) := I.txt (T.ft F1) (fun g' j' q1 q2 => F1.1 g' j' q1 (by omega))
  refine R_s 4 (cond (if2 .ne (enc (rd ch len).1) (-1)) 22 17, [(1, vI (enc (rd ch len).1)), (0, vR 7 9)], [], h1) rfl ?_
  refine R_bp (¬ (rd ch len).1 = none) (enc_m1 (fun c q => by have := rd_lt q; omega)) (fun c1 => ?_) (fun c1 => ?_)
  · refine R_s 1 (23, [(1, vI (enc (rd ch len).1)), (0, vR 7 9)], [vI (enc (rd ch len).1)], h1) rfl ?_
    exact R_ret (some (vI (enc (rd ch len).1))) h1 rfl ⟨by unfold oFirst; dsimp only; cases q : (rd ch len).1 with
        | none => exact absurd q c1
        | some a => rfl, I1⟩
  · have c1 := Classical.not_not.mp c1
    refine R_s 2 (23, [(1, vI (enc (rd ch len).1)), (0, vR 7 9)], [vI (-4)], h1) rfl ?_
    exact R_ret (some (vI (-4))) h1 rfl ⟨by unfold oFirst; dsimp only; rw [c1], I1⟩
set_option maxRecDepth 100000 in
theorem t_S_configure {d : Nat} {h : HP} {A : AS} (V : VA A) (I : CI h A) : MT (d + 5) mS_configure [vR 7 9] h (fun r h' => r = some (vI (oConf A).1) ∧ CI h' (oConf A).2) := by
  obtain ⟨⟨s, n, p, k⟩, kp, ch, len⟩ := A
  have C : CO h 0 s n p k := I.1
  have F : WF s n p k := V.1.1
  have O : WO s n := V.1.2.1.1
  have hn1 : 1 ≤ n := V.1.2.2.1
  have hp1 : 1 ≤ p := V.1.2.2.2.1
  have hk1 : 1 ≤ k := V.1.2.2.2.2
  have h8 : n ≤ 8 := F.2.1.1
  have h5 : p ≤ 5 := F.2.1.2.1
  have h6 : k ≤ 6 := F.2.1.2.2
  have T := I.2.2.1
  have hlen : len ≤ 300 := T.2.1
  obtain ⟨-, ⟨i, i1, i2, i3, i4⟩, -, -⟩ := id I
  refine R_s 4 (8, [(0, vR 7 9)], [vR 1 0, vR 7 10], h) rfl ?_
  refine R_call mT_readInto [vR 7 10, vR 1 0] [] rfl (t_T_readInto T) (fun r h1 e1 => ?_)
  obtain ⟨rfl, F1, K1⟩ := e1
  show R _ mS_configure (11, [(0, vR 7 9)], [vI (enc (rd ch len).1)], h1) _
  have I1 : CI h1 ((s, n, p, k), kp, ch, len) := I.txt (T.ft F1) (fun g' j' q1 q2 => F1.1 g' j' q1 (by omega))
  refine R_s 2 (cond (if2 .ne (enc (rd ch len).1) (-1)) 25 15, [(0, vR 7 9)], [], h1) rfl ?_
  refine R_bp (¬ (rd ch len).1 = none) (enc_m1 (fun c q => by have := rd_lt q; omega)) (fun c1 => ?_) (fun c1 => ?_)
  · refine R_s 1 (27, [(0, vR 7 9)], [vI (-2)], h1) rfl ?_
    exact R_ret (some (vI (-2))) h1 rfl ⟨by unfold oConf; dsimp only; rw [if_neg (fun q => c1 q.1)], by unfold oConf; dsimp only; rw [if_neg (fun q => c1 q.1)]; exact I1⟩
  · have c1 := Classical.not_not.mp c1
    obtain ⟨C1, D1⟩ := K1 c1
    unfold oConf
    dsimp only
    generalize (rd ch len).2 = z2 at C1 D1 ⊢
    obtain ⟨s2, n2, p2, k2⟩ := z2
    have C1 : CO h1 1 s2 n2 p2 k2 := C1
    have F2 : WF s2 n2 p2 k2 := D1.1
    have g8 := F2.2.1.1
    have g5 := F2.2.1.2.1
    have g6 := F2.2.1.2.2
    rw [c1]
    dsimp only
    refine R_s 2 (19, [(0, vR 7 9)], [vR 1 0], h1) rfl ?_
    refine R_calli mC_hasAllSorts [vR 1 0] [] (bI (decide (0 < n2) && decide (0 < p2) && decide (0 < k2))) h1 rfl (t_C_hasAllSorts C1.1.1 C1.1.2.1 C1.1.2.2.1 g8 g5 g6) ?_
    refine R_s 1 (cond (if0 .ne (bI (decide (0 < n2) && decide (0 < p2) && decide (0 < k2)))) 28 25, [(0, vR 7 9)], [], h1) rfl ?_
    refine R_bp ((decide (0 < n2) && decide (0 < p2) && decide (0 < k2)) = true) (x0_ne.trans bI_ne) (fun c2 => ?_) (fun c2 => ?_)
    · have c2 : 0 < n2 ∧ 0 < p2 ∧ 0 < k2 := by simpa [and_assoc] using c2
      rw [if_pos ⟨rfl, c2⟩]
      refine R_s 4 (36, [(0, vR 7 9)], [vR 1 0, vR 0 0], h1) rfl ?_
      refine R_call mC_copyFrom [vR 0 0, vR 1 0] [] rfl (t_C_copyFrom (g := 0) (g2 := 1) (by omega) C1 g8 g5 g6) (fun r h2 e2 => ?_)
      obtain ⟨rfl, C2, F3⟩ := e2
      show R _ mS_configure (39, [(0, vR 7 9)], [], h2) _
      refine R_s 2 (43, [(0, vR 7 9)], [vR 7 13], h2) rfl ?_
      refine R_callv mH_forget [vR 7 13] [] (hset h2 7 13 2 (nI 0)) rfl t_H_forget ?_
      refine R_hp (fun h3 eh3 => ?_)
      refine R_s 3 (51, [(0, vR 7 9)], [], (hset h3 7 9 5 (nI 0))) rfl ?_
      refine R_hp (fun h4 eh4 => ?_)
      have e4 : ∀ j, h4 0 j = h2 0 j := fun j => by rw [eh4, hs_ne (by omega), eh3, hs_ne (by omega)]
      refine R_s 3 (58, [(0, vR 7 9)], [vI (h4 0 0 0)], h4) rfl ?_
      refine R_top (nI n2) (by rw [e4 0]; exact C2.1.1) ?_
      refine R_ret (some (vI (nI n2))) h4 rfl ⟨rfl, co_frame C2 e4, ⟨i, i1, by rw [eh4, hs_ne (by omega), eh3, hs_same, up_ne (by omega), F3 7 13 (by omega), F1.1 7 13 (by omega) (by omega)]; exact i2, by rw [eh4, hs_ne (by omega), eh3, hs_same, up_same]; rfl, fun j z hj => by cases hj⟩, ?_, Or.inl (by rw [eh4, hs_same, up_same])⟩
      have T1 := T.ft F1
      exact ⟨by rw [eh4, hs_ne (by omega), eh3, hs_ne (by omega), F3 7 10 (by omega)]; exact T1.1, T1.2.1, fun j hj => by rw [eh4, hs_ne (by omega), eh3, hs_ne (by omega), F3 7 11 (by omega)]; exact T1.2.2 j hj⟩
    · have c2 : ¬ (0 < n2 ∧ 0 < p2 ∧ 0 < k2) := by simpa [and_assoc] using c2
      rw [if_neg (fun q => c2 q.2)]
      refine R_s 1 (27, [(0, vR 7 9)], [vI (-2)], h1) rfl ?_
      exact R_ret (some (vI (-2))) h1 rfl ⟨rfl, I1⟩
theorem mod5c : ∀ i, i < 5 → ∀ j, j < 4 → ((i + 4) % 5 + 4 - j) % 5 = (i + 4 - (j + 1)) % 5 := by decide
set_option maxRecDepth 100000 in
theorem t_S_undo {d : Nat} {h : HP} {A : AS} (V : VA A) (I : CI h A) : MT (d + 3) mS_undo [vR 7 9] h (fun r h' => r = some (vI (oUndo A).1) ∧ CI h' (oUndo A).2) := by
  obtain ⟨⟨s, n, p, k⟩, kp, ch, len⟩ := A
  have C : CO h 0 s n p k := I.1
  have F : WF s n p k := V.1.1
  have O : WO s n := V.1.2.1.1
  have hn1 : 1 ≤ n := V.1.2.2.1
  have hp1 : 1 ≤ p := V.1.2.2.2.1
  have hk1 : 1 ≤ k := V.1.2.2.2.2
  have h8 : n ≤ 8 := F.2.1.1
  have h5 : p ≤ 5 := F.2.1.2.1
  have h6 : k ≤ 6 := F.2.1.2.2
  obtain ⟨-, ⟨i, i1, i2, i3, i4⟩, T, -⟩ := id I
  cases kp with
  | nil =>
    refine R_s 3 (7, [(0, vR 7 9)], [vI (h 7 13 2)], h) rfl ?_
    refine R_top (nI 0) i3 ?_
    refine R_s 1 (cond (if0 .ne (nI 0)) 13 10, [(0, vR 7 9)], [], h) rfl ?_
    refine R_bf rfl ?_
    refine R_s 1 (12, [(0, vR 7 9)], [vI (-2)], h) rfl ?_
    exact R_ret (some (vI (-2))) h rfl ⟨rfl, I⟩
  | cons z0 kp =>
    have hkl : (z0 :: kp).length ≤ 5 := V.2.2
    have hl2 : (z0 :: kp).length = kp.length + 1 := rfl
    obtain ⟨s2, n2, p2, k2⟩ := z0
    have X2 : WX (s2, n2, p2, k2) := V.2.1 _ List.mem_cons_self
    have F2 : WF s2 n2 p2 k2 := X2.1
    have C2 : CO h ((i + 4) % 5 + 2) s2 n2 p2 k2 := i4 0 _ rfl
    have i3 : h 7 13 2 = nI (kp.length + 1) := i3
    refine R_s 3 (7, [(0, vR 7 9)], [vI (h 7 13 2)], h) rfl ?_
    refine R_top (nI (kp.length + 1)) i3 ?_
    refine R_s 1 (cond (if0 .ne (nI (kp.length + 1))) 13 10, [(0, vR 7 9)], [], h) rfl ?_
    refine R_bt (by unfold if0; exact decide_eq_true (nI_ne0 (by omega) (by omega))) ?_
    refine R_s 4 (21, [(0, vR 7 9)], [vR 0 0, vR 7 13], h) rfl ?_
    refine R_call mH_takeBack [vR 7 13, vR 0 0] [] rfl (t_H_takeBack i2 i1 i3 (by omega) (by omega) C2 F2.2.1.1 F2.2.1.2.1 F2.2.1.2.2) (fun r h1 e1 => ?_)
    obtain ⟨rfl, C3, F3, g1, g2⟩ := e1
    show R _ mS_undo (24, [(0, vR 7 9)], [], h1) _
    refine R_s 3 (29, [(0, vR 7 9)], [], (hset h1 7 9 5 (nI 0))) rfl ?_
    refine R_hp (fun h2 eh2 => ?_)
    refine R_s 3 (36, [(0, vR 7 9)], [vI (h2 7 13 2)], h2) rfl ?_
    refine R_top (nI (kp.length)) (by rw [eh2, hs_ne (by omega), g2]; rfl) ?_
    refine R_ret (some (vI (nI (kp.length)))) h2 rfl ⟨rfl, co_frame C3 (fun j => by rw [eh2, hs_ne (by omega)]), ⟨(i + 4) % 5, Nat.mod_lt _ (by decide), by rw [eh2, hs_ne (by omega)]; exact g1, by rw [eh2, hs_ne (by omega), g2]; rfl, fun j z hj => ?_⟩, ⟨by rw [eh2, hs_ne (by omega), F3 7 10 (by omega) (by omega)]; exact T.1, T.2.1, fun j hj => by rw [eh2, hs_ne (by omega), F3 7 11 (by omega) (by omega)]; exact T.2.2 j hj⟩, Or.inl (by rw [eh2, hs_same, up_same])⟩
    have hj4 : j < kp.length := (List.getElem?_eq_some_iff.mp hj).1
    rw [mod5c i i1 j (by omega)]
    exact (i4 (j + 1) z hj).mv (fun c => by rw [eh2, hs_ne (by omega), F3 _ c (by omega) (by omega)])
