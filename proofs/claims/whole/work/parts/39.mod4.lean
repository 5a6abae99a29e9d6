/-! THE REFERENCE'S TABLES -/
def encF : Option Nat → Int32
  | none => nI 1000000
  | some c => nI c
def EM (h : HP) (n : Nat) (W : Nat → Nat → Nat) (may : Nat → Nat → Bool) (S l : Nat) : Prop := h 8 25 (8 * S + l) = encF (GT n W may S l).1 ∧ h 8 26 (8 * S + l) = nI (GT n W may S l).2
def FM (h h' : HP) : Prop := ∀ g' j', ¬ (g' = 8 ∧ 25 ≤ j' ∧ j' ≤ 28) → h' g' j' = h g' j'
theorem FM.rf {h : HP} : FM h h := fun _ _ _ => rfl
theorem FM.tr {h h1 h2 : HP} (a : FM h h1) (b : FM h1 h2) : FM h h2 := fun g' j' e => (b g' j' e).trans (a g' j' e)
theorem FM.set {h h1 : HP} {j k : Nat} {x : Int32} (a : FM h h1) (hj : 25 ≤ j ∧ j ≤ 28) : FM h (hset h1 8 j k x) := fun g' j' e => (hs_ne (fun q => e ⟨q.1, by omega⟩)).trans (a g' j' e)
theorem MS.fm {h h' : HP} {s : Nat → Int32} (M : MS 21 h s) (a : FM h h') : MS 21 h' s := fun i hi => by rw [a 8 21 (by omega)]; exact M i hi
def CM (h : HP) (n : Nat) (W : Nat → Nat → Nat) : Prop := ∀ a b, a < n → b < n → h 8 27 (8 * a + b) = nI (W a b)
/-- the reference's tables are whole -/
def TM (h : HP) (n : Nat) (W : Nat → Nat → Nat) (may : Nat → Nat → Bool) : Prop := CM h n W ∧ ∀ S, 0 < S → S < 2 ^ n → ∀ l, l < n → EM h n W may S l
/-- an entry that grows -/
def EN (h : HP) (i : Nat) (v : Option Nat × Nat) : Prop := h 8 25 i = encF v.1 ∧ h 8 26 i = nI v.2
def FX (h h' : HP) (i : Nat) : Prop := (∀ g' j', ¬ (g' = 8 ∧ (j' = 25 ∨ j' = 26)) → h' g' j' = h g' j') ∧ ∀ x, ¬ x = i → h' 8 25 x = h 8 25 x ∧ h' 8 26 x = h 8 26 x
theorem FX.rf {h : HP} {i : Nat} : FX h h i := ⟨fun _ _ _ => rfl, fun _ _ => ⟨rfl, rfl⟩⟩
theorem FX.tr {h h1 h2 : HP} {i : Nat} (a : FX h h1 i) (b : FX h1 h2 i) : FX h h2 i := ⟨fun g' j' e => (b.1 g' j' e).trans (a.1 g' j' e), fun x e => ⟨(b.2 x e).1.trans (a.2 x e).1, (b.2 x e).2.trans (a.2 x e).2⟩⟩
theorem FX.fm {h h' : HP} {i : Nat} (a : FX h h' i) : FM h h' := fun g' j' e => a.1 g' j' (by omega)
theorem FX.st {h : HP} {i : Nat} {u v : Int32} : FX h (hset (hset h 8 26 i u) 8 25 i v) i := by
  refine ⟨fun g' j' e => ?_, fun x e => ⟨?_, ?_⟩⟩
  · rw [hs_ne (by omega), hs_ne (by omega)]
  · rw [hs_same, up_ne e, hs_ne (by omega)]
  · rw [hs_ne (by omega), hs_same, up_ne e]
theorem EF_lt {o : Option Nat} (h : ∀ c, o = some c → c < 1000000) : if2 .ge (encF o) (nI 1000000) = true ↔ o = none := by
  cases o with
  | none => exact ⟨fun _ => rfl, fun _ => by decide⟩
  | some c =>
    have := h c rfl
    show if2 .ge (nI c) (nI 1000000) = true ↔ _
    rw [i2_ge (by omega) (by omega)]
    exact ⟨fun q => absurd q (by omega), fun q => (by cases q)⟩
set_option maxRecDepth 100000 in
theorem t_M_takes {d i j c : Nat} {h : HP} {v u : Option Nat × Nat} (hi : i < 2048) (hj : j < 2048) (E : EN h i v) (U : EN h j u) (hv : ∀ x, v.1 = some x → x < 1000) (hu : ∀ x, u.1 = some x → x < 1000) (hc : c < 1000) : MT d mM_takes [vR 8 20, vI (nI i), vI (nI j), vI (nI c)] h (fun r h' => r = none ∧ EN h' i (comb v (u.1.map (fun x => c + x), u.2)) ∧ FX h h' i) := by
  obtain ⟨v1, v2⟩ := v
  obtain ⟨u1, u2⟩ := u
  cases u1 with
  | none =>
    refine R_s 3 (5, [(0, vR 8 20), (1, vI (nI i)), (2, vI (nI j)), (3, vI (nI c))], [vI (nI j), vR 8 25], h) rfl ?_
    refine R_ld 8 25 j 2048 rfl rfl (by omega) (by decide) ?_
    refine R_top (nI 1000000) U.1 ?_
    refine R_s 1 (7, [(0, vR 8 20), (1, vI (nI i)), (2, vI (nI j)), (3, vI (nI c))], [vI (nI c), vI (nI 1000000)], h) rfl ?_
    refine R_add 1000000 c rfl ?_
    refine R_s 4 (15, [(4, vI (nI (1000000 + c))), (0, vR 8 20), (1, vI (nI i)), (2, vI (nI j)), (3, vI (nI c))], [vI (nI j), vR 8 25], h) rfl ?_
    refine R_ld 8 25 j 2048 rfl rfl (by omega) (by decide) ?_
    refine R_top (nI 1000000) U.1 ?_
    refine R_s 2 (cond (if2 .ge (nI 1000000) (nI 1000000)) 79 21, [(4, vI (nI (1000000 + c))), (0, vR 8 20), (1, vI (nI i)), (2, vI (nI j)), (3, vI (nI c))], [], h) rfl ?_
    refine R_bt rfl ?_
    exact R_ret none h rfl ⟨rfl, E, FX.rf⟩
  | some q =>
    have hq := hu q rfl
    refine R_s 3 (5, [(0, vR 8 20), (1, vI (nI i)), (2, vI (nI j)), (3, vI (nI c))], [vI (nI j), vR 8 25], h) rfl ?_
    refine R_ld 8 25 j 2048 rfl rfl (by omega) (by decide) ?_
    refine R_top (nI q) U.1 ?_
    refine R_s 1 (7, [(0, vR 8 20), (1, vI (nI i)), (2, vI (nI j)), (3, vI (nI c))], [vI (nI c), vI (nI q)], h) rfl ?_
    refine R_add q c rfl ?_
    refine R_s 4 (15, [(4, vI (nI (q + c))), (0, vR 8 20), (1, vI (nI i)), (2, vI (nI j)), (3, vI (nI c))], [vI (nI j), vR 8 25], h) rfl ?_
    refine R_ld 8 25 j 2048 rfl rfl (by omega) (by decide) ?_
    refine R_top (nI q) U.1 ?_
    have hno : if2 .ge (nI q) (nI 1000000) = false := by cases e : if2 .ge (nI q) (nI 1000000) with
      | false => rfl
      | true => exact absurd ((i2_ge (by omega) (by omega)).mp e) (by omega)
    refine R_s 2 (cond (if2 .ge (nI q) (nI 1000000)) 79 21, [(4, vI (nI (q + c))), (0, vR 8 20), (1, vI (nI i)), (2, vI (nI j)), (3, vI (nI c))], [], h) rfl ?_
    refine R_bf hno ?_
    cases v1 with
    | none =>
      refine R_s 4 (28, [(4, vI (nI (q + c))), (0, vR 8 20), (1, vI (nI i)), (2, vI (nI j)), (3, vI (nI c))], [vI (nI i), vR 8 25, vI (nI (q + c))], h) rfl ?_
      refine R_ld 8 25 i 2048 rfl rfl (by omega) (by decide) ?_
      refine R_top (nI 1000000) E.1 ?_
      have hno2 : if2 .gt (nI (q + c)) (nI 1000000) = false := by cases e : if2 .gt (nI (q + c)) (nI 1000000) with
        | false => rfl
        | true => exact absurd ((i2_gt (by omega) (by omega)).mp e) (by omega)
      refine R_s 1 (cond (if2 .gt (nI (q + c)) (nI 1000000)) 79 32, [(4, vI (nI (q + c))), (0, vR 8 20), (1, vI (nI i)), (2, vI (nI j)), (3, vI (nI c))], [], h) rfl ?_
      refine R_bf hno2 ?_
      refine R_s 7 (44, [(4, vI (nI (q + c))), (0, vR 8 20), (1, vI (nI i)), (2, vI (nI j)), (3, vI (nI c))], [vI (nI i), vR 8 25, vI (nI (q + c)), vI (nI i), vR 8 26], h) rfl ?_
      refine R_ld 8 25 i 2048 rfl rfl (by omega) (by decide) ?_
      refine R_top (nI 1000000) E.1 ?_
      have hno3 : if2 .ge (nI (q + c)) (nI 1000000) = false := by cases e : if2 .ge (nI (q + c)) (nI 1000000) with
        | false => rfl
        | true => exact absurd ((i2_ge (by omega) (by omega)).mp e) (by omega)
      refine R_s 1 (cond (if2 .ge (nI (q + c)) (nI 1000000)) 57 48, [(4, vI (nI (q + c))), (0, vR 8 20), (1, vI (nI i)), (2, vI (nI j)), (3, vI (nI c))], [vI (nI i), vR 8 26], h) rfl ?_
      refine R_bf hno3 ?_
      refine R_s 3 (53, [(4, vI (nI (q + c))), (0, vR 8 20), (1, vI (nI i)), (2, vI (nI j)), (3, vI (nI c))], [vI (nI j), vR 8 26, vI (nI i), vR 8 26], h) rfl ?_
      refine R_ld 8 26 j 2048 rfl rfl (by omega) (by decide) ?_
      refine R_top (nI u2) U.2 ?_
      refine R_s 1 (70, [(4, vI (nI (q + c))), (0, vR 8 20), (1, vI (nI i)), (2, vI (nI j)), (3, vI (nI c))], [vI (nI u2), vI (nI i), vR 8 26], h) rfl ?_
      refine R_st 8 26 i 2048 (nI u2) rfl rfl (by omega) (by decide) (fun h1 eh1 => ?_)
      refine R_s 4 (78, [(4, vI (nI (q + c))), (0, vR 8 20), (1, vI (nI i)), (2, vI (nI j)), (3, vI (nI c))], [vI (nI (q + c)), vI (nI i), vR 8 25], h1) rfl ?_
      refine R_st 8 25 i 2048 (nI (q + c)) rfl rfl (by omega) (by decide) (fun h2 eh2 => ?_)
      refine R_ret none h2 rfl ⟨rfl, ?_, by rw [eh2, eh1]; exact FX.st⟩
      show EN _ i (some (c + q), u2)
      exact ⟨by rw [eh2, hs_same, up_same, Nat.add_comm]; rfl, by rw [eh2, hs_ne (by omega), eh1, hs_same, up_same]⟩
    | some l =>
      have hl := hv l rfl
      refine R_s 4 (28, [(4, vI (nI (q + c))), (0, vR 8 20), (1, vI (nI i)), (2, vI (nI j)), (3, vI (nI c))], [vI (nI i), vR 8 25, vI (nI (q + c))], h) rfl ?_
      refine R_ld 8 25 i 2048 rfl rfl (by omega) (by decide) ?_
      refine R_top (nI l) E.1 ?_
      refine R_s 1 (cond (if2 .gt (nI (q + c)) (nI l)) 79 32, [(4, vI (nI (q + c))), (0, vR 8 20), (1, vI (nI i)), (2, vI (nI j)), (3, vI (nI c))], [], h) rfl ?_
      refine R_bp (l < (q + c)) (i2_gt (by omega) (by omega)) (fun c1 => ?_) (fun c1 => ?_)
      · refine R_ret none h rfl ⟨rfl, ?_, FX.rf⟩
        rw [show comb (some l, v2) ((some q).map (fun x => c + x), u2) = (some l, v2) from by show (if c + q < l then _ else if c + q = l then _ else _) = _; rw [if_neg (by omega), if_neg (by omega)]]
        exact E
      · refine R_s 7 (44, [(4, vI (nI (q + c))), (0, vR 8 20), (1, vI (nI i)), (2, vI (nI j)), (3, vI (nI c))], [vI (nI i), vR 8 25, vI (nI (q + c)), vI (nI i), vR 8 26], h) rfl ?_
        refine R_ld 8 25 i 2048 rfl rfl (by omega) (by decide) ?_
        refine R_top (nI l) E.1 ?_
        refine R_s 1 (cond (if2 .ge (nI (q + c)) (nI l)) 57 48, [(4, vI (nI (q + c))), (0, vR 8 20), (1, vI (nI i)), (2, vI (nI j)), (3, vI (nI c))], [vI (nI i), vR 8 26], h) rfl ?_
        refine R_bp (l ≤ (q + c)) (i2_ge (by omega) (by omega)) (fun c2 => ?_) (fun c2 => ?_)
        · refine R_s 3 (62, [(4, vI (nI (q + c))), (0, vR 8 20), (1, vI (nI i)), (2, vI (nI j)), (3, vI (nI c))], [vI (nI i), vR 8 26, vI (nI i), vR 8 26], h) rfl ?_
          refine R_ld 8 26 i 2048 rfl rfl (by omega) (by decide) ?_
          refine R_top (nI v2) E.2 ?_
          refine R_s 3 (68, [(4, vI (nI (q + c))), (0, vR 8 20), (1, vI (nI i)), (2, vI (nI j)), (3, vI (nI c))], [vI (nI j), vR 8 26, vI (nI v2), vI (nI i), vR 8 26], h) rfl ?_
          refine R_ld 8 26 j 2048 rfl rfl (by omega) (by decide) ?_
          refine R_top (nI u2) U.2 ?_
          refine R_add v2 u2 rfl ?_
          refine R_st 8 26 i 2048 (nI (v2 + u2)) rfl rfl (by omega) (by decide) (fun h3 eh3 => ?_)
          refine R_s 4 (78, [(4, vI (nI (q + c))), (0, vR 8 20), (1, vI (nI i)), (2, vI (nI j)), (3, vI (nI c))], [vI (nI (q + c)), vI (nI i), vR 8 25], h3) rfl ?_
          refine R_st 8 25 i 2048 (nI (q + c)) rfl rfl (by omega) (by decide) (fun h4 eh4 => ?_)
          rw [show comb (some l, v2) ((some q).map (fun x => c + x), u2) = (some l, v2 + u2) from by show (if c + q < l then _ else if c + q = l then _ else _) = _; rw [if_neg (by omega), if_pos (by omega)]]
          refine R_ret none h4 rfl ⟨rfl, ?_, by rw [eh4, eh3]; exact FX.st⟩
          show EN _ i (some l, v2 + u2)
          exact ⟨by rw [eh4, hs_same, up_same, show q + c = l by omega]; rfl, by rw [eh4, hs_ne (by omega), eh3, hs_same, up_same]⟩
        · refine R_s 3 (53, [(4, vI (nI (q + c))), (0, vR 8 20), (1, vI (nI i)), (2, vI (nI j)), (3, vI (nI c))], [vI (nI j), vR 8 26, vI (nI i), vR 8 26], h) rfl ?_
          refine R_ld 8 26 j 2048 rfl rfl (by omega) (by decide) ?_
          refine R_top (nI u2) U.2 ?_
          refine R_s 1 (70, [(4, vI (nI (q + c))), (0, vR 8 20), (1, vI (nI i)), (2, vI (nI j)), (3, vI (nI c))], [vI (nI u2), vI (nI i), vR 8 26], h) rfl ?_
          refine R_st 8 26 i 2048 (nI u2) rfl rfl (by omega) (by decide) (fun h5 eh5 => ?_)
          refine R_s 4 (78, [(4, vI (nI (q + c))), (0, vR 8 20), (1, vI (nI i)), (2, vI (nI j)), (3, vI (nI c))], [vI (nI (q + c)), vI (nI i), vR 8 25], h5) rfl ?_
          refine R_st 8 25 i 2048 (nI (q + c)) rfl rfl (by omega) (by decide) (fun h6 eh6 => ?_)
          rw [show comb (some l, v2) ((some q).map (fun x => c + x), u2) = (some (c + q), u2) from by show (if c + q < l then _ else if c + q = l then _ else _) = _; rw [if_pos (by omega)]]
          refine R_ret none h6 rfl ⟨rfl, ?_, by rw [eh6, eh5]; exact FX.st⟩
          show EN _ i (some (c + q), u2)
          exact ⟨by rw [eh6, hs_same, up_same, Nat.add_comm]; rfl, by rw [eh6, hs_ne (by omega), eh5, hs_same, up_same]⟩
theorem sh_1 : ∀ a, a < 8 → (nI 1 <<< (nI a &&& 31)) = nI (2 ^ a) := by decide +kernel
theorem pw8 : ∀ a, a < 8 → 2 ^ a < 256 := by decide
set_option maxRecDepth 100000 in
theorem t_M_costFrom {d n p k : Nat} {h : HP} {s : Nat → Int32} {m : Int32} {a : Nat} (T : TM h n (Wc s m p) (mcm (s, n, p, k))) (ha : a < n) (M : MS 21 h s) (F : WF s n p k) : MT (d + 2) mM_costFrom [vR 8 20, vI (nI a)] h (fun r h' => r = some (vI (encF (cand (Wc s m p) (mcm (s, n, p, k)) (GT n (Wc s m p) (mcm (s, n, p, k))) 0 0 a).1)) ∧ h' = h) := by
  have h8 := F.2.1.1
  have h5 := F.2.1.2.1
  have h6 := F.2.1.2.2
  refine R_s 3 (3, [(0, vR 8 20), (1, vI (nI a))], [vI (nI a), vI (nI 0), vR 8 20], h) rfl ?_
  refine R_calli mM_mayCome [vR 8 20, vI (nI 0), vI (nI a)] [] (bI (mcm (s, n, p, k) 0 a)) h rfl (t_M_mayCome (by omega) ha M F) ?_
  refine R_s 1 (cond (if0 .eq (bI (mcm (s, n, p, k) 0 a))) 25 9, [(0, vR 8 20), (1, vI (nI a))], [], h) rfl ?_
  refine R_bp (mcm (s, n, p, k) 0 a = false) (x0_eq.trans bI_eq) (fun c1 => ?_) (fun c1 => ?_)
  · refine R_s 1 (27, [(0, vR 8 20), (1, vI (nI a))], [vI (nI 1000000)], h) rfl ?_
    exact R_ret (some (vI (nI 1000000))) h rfl ⟨by unfold cand; rw [if_neg (by rw [c1]; decide)]; rfl, rfl⟩
  · have p8 := pw8 a (by omega)
    refine R_s 6 (18, [(0, vR 8 20), (1, vI (nI a))], [vI ((nI 1) <<< ((nI a) &&& 31)), vI (nI 8), vR 8 25], h) rfl ?_
    refine R_top (nI (2 ^ a)) (sh_1 a (by omega)) ?_
    refine R_mul 8 (2 ^ a) rfl ?_
    refine R_s 1 (20, [(0, vR 8 20), (1, vI (nI a))], [vI (nI a), vI (nI (8 * (2 ^ a))), vR 8 25], h) rfl ?_
    refine R_add (8 * (2 ^ a)) a rfl ?_
    refine R_ld 8 25 ((8 * (2 ^ a)) + a) 2048 rfl rfl (by omega) (by decide) ?_
    refine R_top (encF (GT n (Wc s m p) (mcm (s, n, p, k)) (2 ^ a) a).1) (T.2 (2 ^ a) (Nat.pow_pos (by decide)) (Nat.pow_lt_pow_right (by decide) ha) a ha).1 ?_
    refine R_s 1 (27, [(0, vR 8 20), (1, vI (nI a))], [vI (encF (GT n (Wc s m p) (mcm (s, n, p, k)) (2 ^ a) a).1)], h) rfl ?_
    exact R_ret (some (vI (encF (GT n (Wc s m p) (mcm (s, n, p, k)) (2 ^ a) a).1))) h rfl ⟨by unfold cand; rw [if_pos (tf c1), Nat.zero_or, if_pos rfl]; cases (GT n (Wc s m p) (mcm (s, n, p, k)) (2 ^ a) a).1 with
      | none => rfl
      | some v => show _ = some (vI (nI (0 + v))); rw [Nat.zero_add]; rfl, rfl⟩
theorem mcm_bit {z : ST} : ∀ S x, mcm z S x = true → S.testBit x = false := by
  intro S x h
  unfold mcm at h
  cases hb : S.testBit x with
  | false => rfl
  | true => rw [hb] at h; cases h
/-- what is done: all sets above S, and S itself for the last songs before l -/
def IM (h : HP) (n : Nat) (W : Nat → Nat → Nat) (may : Nat → Nat → Bool) (S l : Nat) : Prop := (∀ S', S < S' → S' < 2 ^ n → ∀ x, x < n → EM h n W may S' x) ∧ (∀ x, x < l → EM h n W may S x)
theorem EM.mv {h h' : HP} {n S l S' l' : Nat} {W : Nat → Nat → Nat} {may : Nat → Nat → Bool} (E : EM h n W may S' l') (X : FX h h' (8 * S + l)) (hl : l < 8) (hl' : l' < 8) (hne : ¬ (S' = S ∧ l' = l)) : EM h' n W may S' l' := by
  have e := X.2 (8 * S' + l') (by omega)
  exact ⟨e.1.trans E.1, e.2.trans E.2⟩
theorem comb_none {a b : Option Nat × Nat} (h : b.1 = none) : comb a b = a := by unfold comb; rw [h]
theorem GT_lt {n : Nat} {W : Nat → Nat → Nat} {may : Nat → Nat → Bool} (hn : n ≤ 8) (hW : ∀ a b, W a b ≤ 35) {S l : Nat} : ∀ x, (GT n W may S l).1 = some x → x < 1000 := fun x h => by have := GT_le hn hW h; omega
theorem fd_lt {n S l : Nat} {W : Nat → Nat → Nat} {may : Nat → Nat → Bool} (hn : n ≤ 8) (hW : ∀ a b, W a b ≤ 35) (i : Nat) : ∀ x, (fd (cand W may (GT n W may) S l) i).1 = some x → x < 1000 := by
  intro x hx
  have := fd_le i (B := 315) (fun y _ c h => cand_le hW hn h) x hx
  omega
theorem min_F {a b : Option Nat × Nat} (ha : ∀ c, a.1 = some c → c < 1000) (hb : ∀ c, b.1 = some c → c < 1000) : (¬ if2 .ge (encF b.1) (encF a.1) = true → encF b.1 = encF (comb a b).1) ∧ (if2 .ge (encF b.1) (encF a.1) = true → encF a.1 = encF (comb a b).1) := by
  obtain ⟨a1, a2⟩ := a
  obtain ⟨b1, b2⟩ := b
  cases b1 with
  | none =>
    refine ⟨fun h => absurd ?_ h, fun _ => rfl⟩
    cases a1 with
    | none => exact (by decide : if2 .ge (nI 1000000) (nI 1000000) = true)
    | some y => have := ha y rfl; exact (i2_ge (by omega) (by omega)).mpr (by omega)
  | some x =>
    have hx := hb x rfl
    cases a1 with
    | none =>
      refine ⟨fun h => rfl, fun h => ?_⟩
      exact absurd ((i2_ge (a := x) (b := 1000000) (by omega) (by omega)).mp h) (by omega)
    | some y =>
      have hy := ha y rfl
      have e := i2_ge (a := x) (b := y) (by omega) (by omega)
      show (¬ if2 .ge (nI x) (nI y) = true → nI x = encF (if x < y then (some x, b2) else if x = y then (some y, a2 + b2) else (some y, a2)).1) ∧ (if2 .ge (nI x) (nI y) = true → nI y = encF (if x < y then (some x, b2) else if x = y then (some y, a2 + b2) else (some y, a2)).1)
      rw [e]
      refine ⟨fun h => by rw [if_pos (by omega)]; rfl, fun h => by rw [if_neg (by omega)]; split <;> rfl⟩
theorem EF_c {o : Option Nat} {c : Nat} (h : ∀ c, o = some c → c < 1000) (hc : c < 1000) : if2 .ne (encF o) (nI c) = true ↔ ¬ o = some c := by
  cases o with
  | none => exact ⟨fun _ q => (by cases q), fun _ => (i2_ne (a := 1000000) (by omega) (by omega)).mpr (by omega)⟩
  | some x =>
    have := h x rfl
    show if2 .ne (nI x) (nI c) = true ↔ _
    rw [i2_ne (by omega) (by omega)]
    exact ⟨fun q e => q (by cases e; rfl), fun q e => q (by rw [e])⟩
set_option maxRecDepth 100000 in
theorem t_M_layBest {d n p k : Nat} {h : HP} {s : Nat → Int32} {m : Int32} (hn1 : 1 ≤ n) (M : MS 21 h s) (F : WF s n p k) : MT (d + 5) mM_layBest [vR 8 20, vI m] h (fun r h' => r = some (vI (encF (GT n (Wc s m p) (mcm (s, n, p, k)) 0 0).1)) ∧ TM h' n (Wc s m p) (mcm (s, n, p, k)) ∧ FM h h') := by
  have h8 := F.2.1.1
  have h5 := F.2.1.2.1
  have h6 := F.2.1.2.2
  have hW := Wc_le (m := m) F
  have p8 := pw_le h8
  refine R_s 2 (2, [(2, vI (nI 0)), (0, vR 8 20), (1, vI m)], [], h) rfl ?_
  suffices ∀ ma (a : Nat) (hh : HP) (hm : a + ma = n) (X : FM h hh) (K : ∀ x y, x < a → y < n → hh 8 27 (8 * x + y) = nI (Wc s m p x y)), R (d + 5) mM_layBest (2, [(2, vI (nI a)), (0, vR 8 20), (1, vI m)], [], hh) _ from this n 0 h (by omega) FM.rf (fun x y hx => absurd hx (by omega))
  intro ma
  induction ma with
  | zero =>
    intro a hh hm X K
    refine R_s 4 (8, [(2, vI (nI a)), (0, vR 8 20), (1, vI m)], [vI (nI 0), vR 8 21, vI (nI a)], hh) rfl ?_
    refine R_ld 8 21 0 125 rfl rfl (by omega) (by decide) ?_
    refine R_top (nI n) (((M.fm X) 0 (by decide)).trans F.1.1) ?_
    refine R_s 1 (cond (if2 .ge (nI a) (nI n)) 63 12, [(2, vI (nI a)), (0, vR 8 20), (1, vI m)], [], hh) rfl ?_
    refine R_bp (n ≤ a) (i2_ge (by omega) (by omega)) (fun c1 => ?_) (fun c1 => ?_)
    · have C : CM hh n (Wc s m p) := fun x y hx hy => K x y (by omega) hy
      clear K hm
      refine R_s 1 (64, [(2, vI (nI a)), (0, vR 8 20), (1, vI m)], [vR 8 20], hh) rfl ?_
      refine R_calli mM_all [vR 8 20] [] (nI (2 ^ n - 1)) hh rfl (t_M_all (M.fm X) F) ?_
      refine R_s 1 (68, [(2, vI (nI (2 ^ n - 1))), (0, vR 8 20), (1, vI m)], [], hh) rfl ?_
      suffices ∀ mc (S : Nat) (hh : HP) (hm : S ≤ mc) (hS : S < 2 ^ n) (X : FM h hh) (C : CM hh n (Wc s m p)) (I : ∀ S', S < S' → S' < 2 ^ n → ∀ x, x < n → EM hh n (Wc s m p) (mcm (s, n, p, k)) S' x), R (d + 5) mM_layBest (68, [(2, vI (nI S)), (0, vR 8 20), (1, vI m)], [], hh) _ from this (2 ^ n - 1) (2 ^ n - 1) hh (Nat.le_refl _) (by have := Nat.pow_pos (n := n) (show 0 < 2 by decide); omega) X C (fun S' h1 h2 => absurd h1 (by omega))
      intro mc
      induction mc with
      | zero =>
        intro S hh hm hS X C I
        refine R_s 2 (cond (if0 .le (nI S)) 209 72, [(2, vI (nI S)), (0, vR 8 20), (1, vI m)], [], hh) rfl ?_
        refine R_bp (S = 0) (i0_le (by omega)) (fun c1 => ?_) (fun c1 => ?_)
        · have T : TM hh n (Wc s m p) (mcm (s, n, p, k)) := ⟨C, fun S' h1 h2 l hl => I S' (by omega) h2 l hl⟩
          clear I hm
          refine R_s 4 (214, [(3, vI (nI 0)), (2, vI (nI 1000000)), (0, vR 8 20), (1, vI m)], [], hh) rfl ?_
          suffices ∀ md (j : Nat) (hm : j + md = n), R (d + 5) mM_layBest (214, [(3, vI (nI j)), (2, vI (encF (fd (cand (Wc s m p) (mcm (s, n, p, k)) (GT n (Wc s m p) (mcm (s, n, p, k))) 0 0) j).1)), (0, vR 8 20), (1, vI m)], [], hh) _ from this n 0 (by omega)
          intro md
          induction md with
          | zero =>
            intro j hm
            refine R_s 4 (220, [(3, vI (nI j)), (2, vI (encF (fd (cand (Wc s m p) (mcm (s, n, p, k)) (GT n (Wc s m p) (mcm (s, n, p, k))) 0 0) j).1)), (0, vR 8 20), (1, vI m)], [vI (nI 0), vR 8 21, vI (nI j)], hh) rfl ?_
            refine R_ld 8 21 0 125 rfl rfl (by omega) (by decide) ?_
            refine R_top (nI n) (((M.fm X) 0 (by decide)).trans F.1.1) ?_
            refine R_s 1 (cond (if2 .ge (nI j) (nI n)) 250 224, [(3, vI (nI j)), (2, vI (encF (fd (cand (Wc s m p) (mcm (s, n, p, k)) (GT n (Wc s m p) (mcm (s, n, p, k))) 0 0) j).1)), (0, vR 8 20), (1, vI m)], [], hh) rfl ?_
            refine R_bp (n ≤ j) (i2_ge (by omega) (by omega)) (fun c2 => ?_) (fun c2 => ?_)
            · refine R_s 1 (251, [(3, vI (nI j)), (2, vI (encF (fd (cand (Wc s m p) (mcm (s, n, p, k)) (GT n (Wc s m p) (mcm (s, n, p, k))) 0 0) j).1)), (0, vR 8 20), (1, vI m)], [vI (encF (fd (cand (Wc s m p) (mcm (s, n, p, k)) (GT n (Wc s m p) (mcm (s, n, p, k))) 0 0) j).1)], hh) rfl ?_
              exact R_ret (some (vI (encF (fd (cand (Wc s m p) (mcm (s, n, p, k)) (GT n (Wc s m p) (mcm (s, n, p, k))) 0 0) j).1))) hh rfl ⟨by rw [GT_step h8 mcm_bit (Nat.pow_pos (by decide)) (show pop 0 < n from by rw [show pop 0 = 0 by decide]; omega)]; rw [show j = n by omega], T, X⟩
            · exact absurd hm (by omega)
          | succ md ihF =>
            intro j hm
            refine R_s 4 (220, [(3, vI (nI j)), (2, vI (encF (fd (cand (Wc s m p) (mcm (s, n, p, k)) (GT n (Wc s m p) (mcm (s, n, p, k))) 0 0) j).1)), (0, vR 8 20), (1, vI m)], [vI (nI 0), vR 8 21, vI (nI j)], hh) rfl ?_
            refine R_ld 8 21 0 125 rfl rfl (by omega) (by decide) ?_
            refine R_top (nI n) (((M.fm X) 0 (by decide)).trans F.1.1) ?_
            refine R_s 1 (cond (if2 .ge (nI j) (nI n)) 250 224, [(3, vI (nI j)), (2, vI (encF (fd (cand (Wc s m p) (mcm (s, n, p, k)) (GT n (Wc s m p) (mcm (s, n, p, k))) 0 0) j).1)), (0, vR 8 20), (1, vI m)], [], hh) rfl ?_
            refine R_bp (n ≤ j) (i2_ge (by omega) (by omega)) (fun c2 => ?_) (fun c2 => ?_)
            · refine R_s 1 (251, [(3, vI (nI j)), (2, vI (encF (fd (cand (Wc s m p) (mcm (s, n, p, k)) (GT n (Wc s m p) (mcm (s, n, p, k))) 0 0) j).1)), (0, vR 8 20), (1, vI m)], [vI (encF (fd (cand (Wc s m p) (mcm (s, n, p, k)) (GT n (Wc s m p) (mcm (s, n, p, k))) 0 0) j).1)], hh) rfl ?_
              exact R_ret (some (vI (encF (fd (cand (Wc s m p) (mcm (s, n, p, k)) (GT n (Wc s m p) (mcm (s, n, p, k))) 0 0) j).1))) hh rfl ⟨by rw [GT_step h8 mcm_bit (Nat.pow_pos (by decide)) (show pop 0 < n from by rw [show pop 0 = 0 by decide]; omega)]; rw [show j = n by omega], T, X⟩
            · refine R_s 2 (226, [(3, vI (nI j)), (2, vI (encF (fd (cand (Wc s m p) (mcm (s, n, p, k)) (GT n (Wc s m p) (mcm (s, n, p, k))) 0 0) j).1)), (0, vR 8 20), (1, vI m)], [vI (nI j), vR 8 20], hh) rfl ?_
              refine R_calli mM_costFrom [vR 8 20, vI (nI j)] [] (encF ((cand (Wc s m p) (mcm (s, n, p, k)) (GT n (Wc s m p) (mcm (s, n, p, k))) 0 0) j).1) hh rfl (t_M_costFrom T (by omega) (M.fm X) F) ?_
              have hmin := min_F (a := fd (cand (Wc s m p) (mcm (s, n, p, k)) (GT n (Wc s m p) (mcm (s, n, p, k))) 0 0) j) (b := (cand (Wc s m p) (mcm (s, n, p, k)) (GT n (Wc s m p) (mcm (s, n, p, k))) 0 0) j) (fd_lt h8 hW j) (fun c hc => by have := cand_le hW h8 hc; omega)
              refine R_s 4 (cond (if2 .ge (encF ((cand (Wc s m p) (mcm (s, n, p, k)) (GT n (Wc s m p) (mcm (s, n, p, k))) 0 0) j).1) (encF (fd (cand (Wc s m p) (mcm (s, n, p, k)) (GT n (Wc s m p) (mcm (s, n, p, k))) 0 0) j).1)) 242 237, [(4, vI (encF ((cand (Wc s m p) (mcm (s, n, p, k)) (GT n (Wc s m p) (mcm (s, n, p, k))) 0 0) j).1)), (3, vI (nI j)), (2, vI (encF (fd (cand (Wc s m p) (mcm (s, n, p, k)) (GT n (Wc s m p) (mcm (s, n, p, k))) 0 0) j).1)), (0, vR 8 20), (1, vI m)], [], hh) rfl ?_
              refine R_bp (if2 .ge (encF ((cand (Wc s m p) (mcm (s, n, p, k)) (GT n (Wc s m p) (mcm (s, n, p, k))) 0 0) j).1) (encF (fd (cand (Wc s m p) (mcm (s, n, p, k)) (GT n (Wc s m p) (mcm (s, n, p, k))) 0 0) j).1) = true) Iff.rfl (fun c3 => ?_) (fun c3 => ?_)
              · refine R_s 3 (247, [(3, vI (nI j + Int32.ofInt 1)), (2, vI (encF (fd (cand (Wc s m p) (mcm (s, n, p, k)) (GT n (Wc s m p) (mcm (s, n, p, k))) 0 0) j).1)), (4, vI (encF ((cand (Wc s m p) (mcm (s, n, p, k)) (GT n (Wc s m p) (mcm (s, n, p, k))) 0 0) j).1)), (0, vR 8 20), (1, vI m)], [], hh) rfl ?_
                refine R_lv (lv' := [(3, vI (nI (j + 1))), (2, vI (encF (fd (cand (Wc s m p) (mcm (s, n, p, k)) (GT n (Wc s m p) (mcm (s, n, p, k))) 0 0) j).1)), (4, vI (encF ((cand (Wc s m p) (mcm (s, n, p, k)) (GT n (Wc s m p) (mcm (s, n, p, k))) 0 0) j).1)), (0, vR 8 20), (1, vI m)]) (by rw [show nI j + Int32.ofInt 1 = nI (j + 1) from nI_add _ _]) ?_
                refine R_s 1 (214, [(3, vI (nI (j + 1))), (2, vI (encF (fd (cand (Wc s m p) (mcm (s, n, p, k)) (GT n (Wc s m p) (mcm (s, n, p, k))) 0 0) j).1)), (4, vI (encF ((cand (Wc s m p) (mcm (s, n, p, k)) (GT n (Wc s m p) (mcm (s, n, p, k))) 0 0) j).1)), (0, vR 8 20), (1, vI m)], [], hh) rfl ?_
                refine R_fg (lv' := [(3, vI (nI (j + 1))), (2, vI (encF (fd (cand (Wc s m p) (mcm (s, n, p, k)) (GT n (Wc s m p) (mcm (s, n, p, k))) 0 0) j).1)), (0, vR 8 20), (1, vI m)]) [0, 1, 3, 4] rfl [3, 2, 4, 0, 1] rfl (by decide) ?_
                refine R_lv (lv' := [(3, vI (nI (j + 1))), (2, vI (encF (fd (cand (Wc s m p) (mcm (s, n, p, k)) (GT n (Wc s m p) (mcm (s, n, p, k))) 0 0) (j + 1)).1)), (0, vR 8 20), (1, vI m)]) (by rw [hmin.2 c3]; rfl) ?_
                exact ihF (j + 1) (by omega)
              · refine R_s 4 (247, [(3, vI (nI j + Int32.ofInt 1)), (2, vI (encF ((cand (Wc s m p) (mcm (s, n, p, k)) (GT n (Wc s m p) (mcm (s, n, p, k))) 0 0) j).1)), (4, vI (encF ((cand (Wc s m p) (mcm (s, n, p, k)) (GT n (Wc s m p) (mcm (s, n, p, k))) 0 0) j).1)), (0, vR 8 20), (1, vI m)], [], hh) rfl ?_
                refine R_lv (lv' := [(3, vI (nI (j + 1))), (2, vI (encF ((cand (Wc s m p) (mcm (s, n, p, k)) (GT n (Wc s m p) (mcm (s, n, p, k))) 0 0) j).1)), (4, vI (encF ((cand (Wc s m p) (mcm (s, n, p, k)) (GT n (Wc s m p) (mcm (s, n, p, k))) 0 0) j).1)), (0, vR 8 20), (1, vI m)]) (by rw [show nI j + Int32.ofInt 1 = nI (j + 1) from nI_add _ _]) ?_
                refine R_s 1 (214, [(3, vI (nI (j + 1))), (2, vI (encF ((cand (Wc s m p) (mcm (s, n, p, k)) (GT n (Wc s m p) (mcm (s, n, p, k))) 0 0) j).1)), (4, vI (encF ((cand (Wc s m p) (mcm (s, n, p, k)) (GT n (Wc s m p) (mcm (s, n, p, k))) 0 0) j).1)), (0, vR 8 20), (1, vI m)], [], hh) rfl ?_
                refine R_fg (lv' := [(3, vI (nI (j + 1))), (2, vI (encF ((cand (Wc s m p) (mcm (s, n, p, k)) (GT n (Wc s m p) (mcm (s, n, p, k))) 0 0) j).1)), (0, vR 8 20), (1, vI m)]) [0, 1, 3, 4] rfl [3, 2, 4, 0, 1] rfl (by decide) ?_
                refine R_lv (lv' := [(3, vI (nI (j + 1))), (2, vI (encF (fd (cand (Wc s m p) (mcm (s, n, p, k)) (GT n (Wc s m p) (mcm (s, n, p, k))) 0 0) (j + 1)).1)), (0, vR 8 20), (1, vI m)]) (by rw [hmin.1 c3]; rfl) ?_
                exact ihF (j + 1) (by omega)
        · exact absurd hm (by omega)
      | succ mc ihC =>
        intro S hh hm hS X C I
        refine R_s 2 (cond (if0 .le (nI S)) 209 72, [(2, vI (nI S)), (0, vR 8 20), (1, vI m)], [], hh) rfl ?_
        refine R_bp (S = 0) (i0_le (by omega)) (fun c1 => ?_) (fun c1 => ?_)
        · have T : TM hh n (Wc s m p) (mcm (s, n, p, k)) := ⟨C, fun S' h1 h2 l hl => I S' (by omega) h2 l hl⟩
          clear I hm ihC
          refine R_s 4 (214, [(3, vI (nI 0)), (2, vI (nI 1000000)), (0, vR 8 20), (1, vI m)], [], hh) rfl ?_
          suffices ∀ md (j : Nat) (hm : j + md = n), R (d + 5) mM_layBest (214, [(3, vI (nI j)), (2, vI (encF (fd (cand (Wc s m p) (mcm (s, n, p, k)) (GT n (Wc s m p) (mcm (s, n, p, k))) 0 0) j).1)), (0, vR 8 20), (1, vI m)], [], hh) _ from this n 0 (by omega)
          intro md
          induction md with
          | zero =>
            intro j hm
            refine R_s 4 (220, [(3, vI (nI j)), (2, vI (encF (fd (cand (Wc s m p) (mcm (s, n, p, k)) (GT n (Wc s m p) (mcm (s, n, p, k))) 0 0) j).1)), (0, vR 8 20), (1, vI m)], [vI (nI 0), vR 8 21, vI (nI j)], hh) rfl ?_
            refine R_ld 8 21 0 125 rfl rfl (by omega) (by decide) ?_
            refine R_top (nI n) (((M.fm X) 0 (by decide)).trans F.1.1) ?_
            refine R_s 1 (cond (if2 .ge (nI j) (nI n)) 250 224, [(3, vI (nI j)), (2, vI (encF (fd (cand (Wc s m p) (mcm (s, n, p, k)) (GT n (Wc s m p) (mcm (s, n, p, k))) 0 0) j).1)), (0, vR 8 20), (1, vI m)], [], hh) rfl ?_
            refine R_bp (n ≤ j) (i2_ge (by omega) (by omega)) (fun c2 => ?_) (fun c2 => ?_)
            · refine R_s 1 (251, [(3, vI (nI j)), (2, vI (encF (fd (cand (Wc s m p) (mcm (s, n, p, k)) (GT n (Wc s m p) (mcm (s, n, p, k))) 0 0) j).1)), (0, vR 8 20), (1, vI m)], [vI (encF (fd (cand (Wc s m p) (mcm (s, n, p, k)) (GT n (Wc s m p) (mcm (s, n, p, k))) 0 0) j).1)], hh) rfl ?_
              exact R_ret (some (vI (encF (fd (cand (Wc s m p) (mcm (s, n, p, k)) (GT n (Wc s m p) (mcm (s, n, p, k))) 0 0) j).1))) hh rfl ⟨by rw [GT_step h8 mcm_bit (Nat.pow_pos (by decide)) (show pop 0 < n from by rw [show pop 0 = 0 by decide]; omega)]; rw [show j = n by omega], T, X⟩
            · exact absurd hm (by omega)
          | succ md ihF =>
            intro j hm
            refine R_s 4 (220, [(3, vI (nI j)), (2, vI (encF (fd (cand (Wc s m p) (mcm (s, n, p, k)) (GT n (Wc s m p) (mcm (s, n, p, k))) 0 0) j).1)), (0, vR 8 20), (1, vI m)], [vI (nI 0), vR 8 21, vI (nI j)], hh) rfl ?_
            refine R_ld 8 21 0 125 rfl rfl (by omega) (by decide) ?_
            refine R_top (nI n) (((M.fm X) 0 (by decide)).trans F.1.1) ?_
            refine R_s 1 (cond (if2 .ge (nI j) (nI n)) 250 224, [(3, vI (nI j)), (2, vI (encF (fd (cand (Wc s m p) (mcm (s, n, p, k)) (GT n (Wc s m p) (mcm (s, n, p, k))) 0 0) j).1)), (0, vR 8 20), (1, vI m)], [], hh) rfl ?_
            refine R_bp (n ≤ j) (i2_ge (by omega) (by omega)) (fun c2 => ?_) (fun c2 => ?_)
            · refine R_s 1 (251, [(3, vI (nI j)), (2, vI (encF (fd (cand (Wc s m p) (mcm (s, n, p, k)) (GT n (Wc s m p) (mcm (s, n, p, k))) 0 0) j).1)), (0, vR 8 20), (1, vI m)], [vI (encF (fd (cand (Wc s m p) (mcm (s, n, p, k)) (GT n (Wc s m p) (mcm (s, n, p, k))) 0 0) j).1)], hh) rfl ?_
              exact R_ret (some (vI (encF (fd (cand (Wc s m p) (mcm (s, n, p, k)) (GT n (Wc s m p) (mcm (s, n, p, k))) 0 0) j).1))) hh rfl ⟨by rw [GT_step h8 mcm_bit (Nat.pow_pos (by decide)) (show pop 0 < n from by rw [show pop 0 = 0 by decide]; omega)]; rw [show j = n by omega], T, X⟩
            · refine R_s 2 (226, [(3, vI (nI j)), (2, vI (encF (fd (cand (Wc s m p) (mcm (s, n, p, k)) (GT n (Wc s m p) (mcm (s, n, p, k))) 0 0) j).1)), (0, vR 8 20), (1, vI m)], [vI (nI j), vR 8 20], hh) rfl ?_
              refine R_calli mM_costFrom [vR 8 20, vI (nI j)] [] (encF ((cand (Wc s m p) (mcm (s, n, p, k)) (GT n (Wc s m p) (mcm (s, n, p, k))) 0 0) j).1) hh rfl (t_M_costFrom T (by omega) (M.fm X) F) ?_
              have hmin := min_F (a := fd (cand (Wc s m p) (mcm (s, n, p, k)) (GT n (Wc s m p) (mcm (s, n, p, k))) 0 0) j) (b := (cand (Wc s m p) (mcm (s, n, p, k)) (GT n (Wc s m p) (mcm (s, n, p, k))) 0 0) j) (fd_lt h8 hW j) (fun c hc => by have := cand_le hW h8 hc; omega)
              refine R_s 4 (cond (if2 .ge (encF ((cand (Wc s m p) (mcm (s, n, p, k)) (GT n (Wc s m p) (mcm (s, n, p, k))) 0 0) j).1) (encF (fd (cand (Wc s m p) (mcm (s, n, p, k)) (GT n (Wc s m p) (mcm (s, n, p, k))) 0 0) j).1)) 242 237, [(4, vI (encF ((cand (Wc s m p) (mcm (s, n, p, k)) (GT n (Wc s m p) (mcm (s, n, p, k))) 0 0) j).1)), (3, vI (nI j)), (2, vI (encF (fd (cand (Wc s m p) (mcm (s, n, p, k)) (GT n (Wc s m p) (mcm (s, n, p, k))) 0 0) j).1)), (0, vR 8 20), (1, vI m)], [], hh) rfl ?_
              refine R_bp (if2 .ge (encF ((cand (Wc s m p) (mcm (s, n, p, k)) (GT n (Wc s m p) (mcm (s, n, p, k))) 0 0) j).1) (encF (fd (cand (Wc s m p) (mcm (s, n, p, k)) (GT n (Wc s m p) (mcm (s, n, p, k))) 0 0) j).1) = true) Iff.rfl (fun c3 => ?_) (fun c3 => ?_)
              · refine R_s 3 (247, [(3, vI (nI j + Int32.ofInt 1)), (2, vI (encF (fd (cand (Wc s m p) (mcm (s, n, p, k)) (GT n (Wc s m p) (mcm (s, n, p, k))) 0 0) j).1)), (4, vI (encF ((cand (Wc s m p) (mcm (s, n, p, k)) (GT n (Wc s m p) (mcm (s, n, p, k))) 0 0) j).1)), (0, vR 8 20), (1, vI m)], [], hh) rfl ?_
                refine R_lv (lv' := [(3, vI (nI (j + 1))), (2, vI (encF (fd (cand (Wc s m p) (mcm (s, n, p, k)) (GT n (Wc s m p) (mcm (s, n, p, k))) 0 0) j).1)), (4, vI (encF ((cand (Wc s m p) (mcm (s, n, p, k)) (GT n (Wc s m p) (mcm (s, n, p, k))) 0 0) j).1)), (0, vR 8 20), (1, vI m)]) (by rw [show nI j + Int32.ofInt 1 = nI (j + 1) from nI_add _ _]) ?_
                refine R_s 1 (214, [(3, vI (nI (j + 1))), (2, vI (encF (fd (cand (Wc s m p) (mcm (s, n, p, k)) (GT n (Wc s m p) (mcm (s, n, p, k))) 0 0) j).1)), (4, vI (encF ((cand (Wc s m p) (mcm (s, n, p, k)) (GT n (Wc s m p) (mcm (s, n, p, k))) 0 0) j).1)), (0, vR 8 20), (1, vI m)], [], hh) rfl ?_
                refine R_fg (lv' := [(3, vI (nI (j + 1))), (2, vI (encF (fd (cand (Wc s m p) (mcm (s, n, p, k)) (GT n (Wc s m p) (mcm (s, n, p, k))) 0 0) j).1)), (0, vR 8 20), (1, vI m)]) [0, 1, 3, 4] rfl [3, 2, 4, 0, 1] rfl (by decide) ?_
                refine R_lv (lv' := [(3, vI (nI (j + 1))), (2, vI (encF (fd (cand (Wc s m p) (mcm (s, n, p, k)) (GT n (Wc s m p) (mcm (s, n, p, k))) 0 0) (j + 1)).1)), (0, vR 8 20), (1, vI m)]) (by rw [hmin.2 c3]; rfl) ?_
                exact ihF (j + 1) (by omega)
              · refine R_s 4 (247, [(3, vI (nI j + Int32.ofInt 1)), (2, vI (encF ((cand (Wc s m p) (mcm (s, n, p, k)) (GT n (Wc s m p) (mcm (s, n, p, k))) 0 0) j).1)), (4, vI (encF ((cand (Wc s m p) (mcm (s, n, p, k)) (GT n (Wc s m p) (mcm (s, n, p, k))) 0 0) j).1)), (0, vR 8 20), (1, vI m)], [], hh) rfl ?_
                refine R_lv (lv' := [(3, vI (nI (j + 1))), (2, vI (encF ((cand (Wc s m p) (mcm (s, n, p, k)) (GT n (Wc s m p) (mcm (s, n, p, k))) 0 0) j).1)), (4, vI (encF ((cand (Wc s m p) (mcm (s, n, p, k)) (GT n (Wc s m p) (mcm (s, n, p, k))) 0 0) j).1)), (0, vR 8 20), (1, vI m)]) (by rw [show nI j + Int32.ofInt 1 = nI (j + 1) from nI_add _ _]) ?_
                refine R_s 1 (214, [(3, vI (nI (j + 1))), (2, vI (encF ((cand (Wc s m p) (mcm (s, n, p, k)) (GT n (Wc s m p) (mcm (s, n, p, k))) 0 0) j).1)), (4, vI (encF ((cand (Wc s m p) (mcm (s, n, p, k)) (GT n (Wc s m p) (mcm (s, n, p, k))) 0 0) j).1)), (0, vR 8 20), (1, vI m)], [], hh) rfl ?_
                refine R_fg (lv' := [(3, vI (nI (j + 1))), (2, vI (encF ((cand (Wc s m p) (mcm (s, n, p, k)) (GT n (Wc s m p) (mcm (s, n, p, k))) 0 0) j).1)), (0, vR 8 20), (1, vI m)]) [0, 1, 3, 4] rfl [3, 2, 4, 0, 1] rfl (by decide) ?_
                refine R_lv (lv' := [(3, vI (nI (j + 1))), (2, vI (encF (fd (cand (Wc s m p) (mcm (s, n, p, k)) (GT n (Wc s m p) (mcm (s, n, p, k))) 0 0) (j + 1)).1)), (0, vR 8 20), (1, vI m)]) (by rw [hmin.1 c3]; rfl) ?_
                exact ihF (j + 1) (by omega)
        · refine R_s 2 (74, [(3, vI (nI 0)), (2, vI (nI S)), (0, vR 8 20), (1, vI m)], [], hh) rfl ?_
          suffices ∀ mb (l : Nat) (h9 : HP) (hm9 : l + mb = n) (X9 : FM h h9) (C9 : CM h9 n (Wc s m p)) (I9 : IM h9 n (Wc s m p) (mcm (s, n, p, k)) S l), R (d + 5) mM_layBest (74, [(3, vI (nI l)), (2, vI (nI S)), (0, vR 8 20), (1, vI m)], [], h9) _ from this n 0 hh (by omega) X C ⟨I, fun x hx => absurd hx (by omega)⟩
          intro mb
          induction mb with
          | zero =>
            intro l h9 hm9 X9 C9 I9
            refine R_s 4 (80, [(3, vI (nI l)), (2, vI (nI S)), (0, vR 8 20), (1, vI m)], [vI (nI 0), vR 8 21, vI (nI l)], h9) rfl ?_
            refine R_ld 8 21 0 125 rfl rfl (by omega) (by decide) ?_
            refine R_top (nI n) (((M.fm X9) 0 (by decide)).trans F.1.1) ?_
            refine R_s 1 (cond (if2 .ge (nI l) (nI n)) 203 84, [(3, vI (nI l)), (2, vI (nI S)), (0, vR 8 20), (1, vI m)], [], h9) rfl ?_
            refine R_bp (n ≤ l) (i2_ge (by omega) (by omega)) (fun c2 => ?_) (fun c2 => ?_)
            · obtain ⟨S0, rfl⟩ : ∃ S0, S = S0 + 1 := ⟨S - 1, by omega⟩
              refine R_s 1 (206, [(2, vI (nI (S0 + 1) + Int32.ofInt (-1))), (3, vI (nI l)), (0, vR 8 20), (1, vI m)], [], h9) rfl ?_
              refine R_lv (lv' := [(2, vI (nI S0)), (3, vI (nI l)), (0, vR 8 20), (1, vI m)]) (by rw [show nI (S0 + 1) + Int32.ofInt (-1) = nI S0 from pk_m1 _]) ?_
              refine R_s 1 (68, [(2, vI (nI S0)), (3, vI (nI l)), (0, vR 8 20), (1, vI m)], [], h9) rfl ?_
              refine R_fg (lv' := [(2, vI (nI S0)), (0, vR 8 20), (1, vI m)]) [0, 2, 3] rfl [2, 3, 0, 1] rfl (by decide) ?_
              exact ihC S0 h9 (by omega) (by omega) X9 C9 (fun S' h1 h2 x hx => by
                by_cases q : S' = S0 + 1
                · rw [q]; exact I9.2 x (by omega)
                · exact I9.1 S' (by omega) h2 x hx)
            · exact absurd hm9 (by omega)
          | succ mb ihD =>
            intro l h9 hm9 X9 C9 I9
            refine R_s 4 (80, [(3, vI (nI l)), (2, vI (nI S)), (0, vR 8 20), (1, vI m)], [vI (nI 0), vR 8 21, vI (nI l)], h9) rfl ?_
            refine R_ld 8 21 0 125 rfl rfl (by omega) (by decide) ?_
            refine R_top (nI n) (((M.fm X9) 0 (by decide)).trans F.1.1) ?_
            refine R_s 1 (cond (if2 .ge (nI l) (nI n)) 203 84, [(3, vI (nI l)), (2, vI (nI S)), (0, vR 8 20), (1, vI m)], [], h9) rfl ?_
            refine R_bp (n ≤ l) (i2_ge (by omega) (by omega)) (fun c2 => ?_) (fun c2 => ?_)
            · obtain ⟨S0, rfl⟩ : ∃ S0, S = S0 + 1 := ⟨S - 1, by omega⟩
              refine R_s 1 (206, [(2, vI (nI (S0 + 1) + Int32.ofInt (-1))), (3, vI (nI l)), (0, vR 8 20), (1, vI m)], [], h9) rfl ?_
              refine R_lv (lv' := [(2, vI (nI S0)), (3, vI (nI l)), (0, vR 8 20), (1, vI m)]) (by rw [show nI (S0 + 1) + Int32.ofInt (-1) = nI S0 from pk_m1 _]) ?_
              refine R_s 1 (68, [(2, vI (nI S0)), (3, vI (nI l)), (0, vR 8 20), (1, vI m)], [], h9) rfl ?_
              refine R_fg (lv' := [(2, vI (nI S0)), (0, vR 8 20), (1, vI m)]) [0, 2, 3] rfl [2, 3, 0, 1] rfl (by decide) ?_
              exact ihC S0 h9 (by omega) (by omega) X9 C9 (fun S' h1 h2 x hx => by
                by_cases q : S' = S0 + 1
                · rw [q]; exact I9.2 x (by omega)
                · exact I9.1 S' (by omega) h2 x hx)
            · refine R_s 4 (91, [(3, vI (nI l)), (2, vI (nI S)), (0, vR 8 20), (1, vI m)], [vI (nI S), vI (nI 8), vR 8 25], h9) rfl ?_
              refine R_mul 8 S rfl ?_
              refine R_s 1 (93, [(3, vI (nI l)), (2, vI (nI S)), (0, vR 8 20), (1, vI m)], [vI (nI l), vI (nI (8 * S)), vR 8 25], h9) rfl ?_
              refine R_add (8 * S) l rfl ?_
              refine R_s 2 (96, [(3, vI (nI l)), (2, vI (nI S)), (0, vR 8 20), (1, vI m)], [vR 8 20, vI (nI S), vI (nI ((8 * S) + l)), vR 8 25], h9) rfl ?_
              refine R_calli mM_all [vR 8 20] [vI (nI S), vI (nI ((8 * S) + l)), vR 8 25] (nI (2 ^ n - 1)) h9 rfl (t_M_all (M.fm X9) F) ?_
              refine R_s 1 (cond (if2 .ne (nI S) (nI (2 ^ n - 1))) 106 102, [(3, vI (nI l)), (2, vI (nI S)), (0, vR 8 20), (1, vI m)], [vI (nI ((8 * S) + l)), vR 8 25], h9) rfl ?_
              refine R_bp (¬ S = (2 ^ n - 1)) (i2_ne (by omega) (by omega)) (fun c5 => ?_) (fun c5 => ?_)
              · refine R_s 1 (108, [(3, vI (nI l)), (2, vI (nI S)), (0, vR 8 20), (1, vI m)], [vI (nI 1000000), vI (nI ((8 * S) + l)), vR 8 25], h9) rfl ?_
                refine R_st 8 25 ((8 * S) + l) 2048 (nI 1000000) rfl rfl (by omega) (by decide) (fun h1 eh1 => ?_)
                have M8 : MS 21 h1 s := by rw [eh1]; exact M.fm (X9.set (by omega))
                refine R_s 4 (116, [(3, vI (nI l)), (2, vI (nI S)), (0, vR 8 20), (1, vI m)], [vI (nI S), vI (nI 8), vR 8 26], h1) rfl ?_
                refine R_mul 8 S rfl ?_
                refine R_s 1 (118, [(3, vI (nI l)), (2, vI (nI S)), (0, vR 8 20), (1, vI m)], [vI (nI l), vI (nI (8 * S)), vR 8 26], h1) rfl ?_
                refine R_add (8 * S) l rfl ?_
                refine R_s 2 (121, [(3, vI (nI l)), (2, vI (nI S)), (0, vR 8 20), (1, vI m)], [vR 8 20, vI (nI S), vI (nI ((8 * S) + l)), vR 8 26], h1) rfl ?_
                refine R_calli mM_all [vR 8 20] [vI (nI S), vI (nI ((8 * S) + l)), vR 8 26] (nI (2 ^ n - 1)) h1 rfl (t_M_all M8 F) ?_
                refine R_s 1 (cond (if2 .ne (nI S) (nI (2 ^ n - 1))) 131 127, [(3, vI (nI l)), (2, vI (nI S)), (0, vR 8 20), (1, vI m)], [vI (nI ((8 * S) + l)), vR 8 26], h1) rfl ?_
                refine R_bt ((i2_ne (by omega) (by omega)).mpr c5) ?_
                refine R_s 1 (132, [(3, vI (nI l)), (2, vI (nI S)), (0, vR 8 20), (1, vI m)], [vI (nI 0), vI (nI ((8 * S) + l)), vR 8 26], h1) rfl ?_
                refine R_st 8 26 ((8 * S) + l) 2048 (nI 0) rfl rfl (by omega) (by decide) (fun h2 eh2 => ?_)
                refine R_s 2 (136, [(4, vI (nI 0)), (3, vI (nI l)), (2, vI (nI S)), (0, vR 8 20), (1, vI m)], [], h2) rfl ?_
                have X8 : FX h9 h2 (8 * S + l) := by
                  rw [eh2, eh1]
                  refine ⟨fun g' j' e => by rw [hs_ne (by omega), hs_ne (by omega)], fun x e => ⟨by rw [hs_ne (by omega), hs_same, up_ne e], by rw [hs_same, up_ne e, hs_ne (by omega)]⟩⟩
                have E8 : EN h2 (8 * S + l) (none, 0) := by rw [eh2, eh1]; exact ⟨by rw [hs_ne (by omega), hs_same, up_same]; rfl, by rw [hs_same, up_same]⟩
                have hpS : pop S < n := pop_lt n (by omega) S (by omega) (by omega)
                suffices ∀ me (y : Nat) (h7 : HP) (hm7 : y + me = n) (X7 : FM h h7) (Y7 : FX h9 h7 (8 * S + l)) (E7 : EN h7 (8 * S + l) (fd (cand (Wc s m p) (mcm (s, n, p, k)) (GT n (Wc s m p) (mcm (s, n, p, k))) S l) y)), R (d + 5) mM_layBest (136, [(4, vI (nI y)), (3, vI (nI l)), (2, vI (nI S)), (0, vR 8 20), (1, vI m)], [], h7) _ from this n 0 h2 (by omega) (X9.tr X8.fm) X8 E8
                intro me
                induction me with
                | zero =>
                  intro y h7 hm7 X7 Y7 E7
                  refine R_s 4 (143, [(4, vI (nI y)), (3, vI (nI l)), (2, vI (nI S)), (0, vR 8 20), (1, vI m)], [vI (nI 0), vR 8 21, vI (nI y)], h7) rfl ?_
                  refine R_ld 8 21 0 125 rfl rfl (by omega) (by decide) ?_
                  refine R_top (nI n) (((M.fm X7) 0 (by decide)).trans F.1.1) ?_
                  refine R_s 1 (cond (if2 .ge (nI y) (nI n)) 197 147, [(4, vI (nI y)), (3, vI (nI l)), (2, vI (nI S)), (0, vR 8 20), (1, vI m)], [], h7) rfl ?_
                  refine R_bp (n ≤ y) (i2_ge (by omega) (by omega)) (fun c6 => ?_) (fun c6 => ?_)
                  · refine R_s 1 (200, [(3, vI (nI l + Int32.ofInt 1)), (4, vI (nI y)), (2, vI (nI S)), (0, vR 8 20), (1, vI m)], [], h7) rfl ?_
                    refine R_lv (lv' := [(3, vI (nI (l + 1))), (4, vI (nI y)), (2, vI (nI S)), (0, vR 8 20), (1, vI m)]) (by rw [show nI l + Int32.ofInt 1 = nI (l + 1) from nI_add _ _]) ?_
                    refine R_s 1 (74, [(3, vI (nI (l + 1))), (4, vI (nI y)), (2, vI (nI S)), (0, vR 8 20), (1, vI m)], [], h7) rfl ?_
                    refine R_fg (lv' := [(3, vI (nI (l + 1))), (2, vI (nI S)), (0, vR 8 20), (1, vI m)]) [0, 2, 3, 4] rfl [3, 4, 2, 0, 1] rfl (by decide) ?_
                    have hE : EM h7 n (Wc s m p) (mcm (s, n, p, k)) S l := by unfold EM; rw [GT_step h8 mcm_bit (by omega) hpS]; rw [show y = n by omega] at E7; exact E7
                    exact ihD (l + 1) h7 (by omega) X7 (fun a b ha hb => by rw [Y7.1 8 27 (by omega)]; exact C9 a b ha hb) ⟨fun S' h1 h2 x hx => (I9.1 S' h1 h2 x hx).mv Y7 (by omega) (by omega) (by omega), fun x hx => by
                      by_cases q : x = l
                      · rw [q]; exact hE
                      · exact (I9.2 x (by omega)).mv Y7 (by omega) (by omega) (by omega)⟩
                  · exact absurd hm7 (by omega)
                | succ me ihE =>
                  intro y h7 hm7 X7 Y7 E7
                  refine R_s 4 (143, [(4, vI (nI y)), (3, vI (nI l)), (2, vI (nI S)), (0, vR 8 20), (1, vI m)], [vI (nI 0), vR 8 21, vI (nI y)], h7) rfl ?_
                  refine R_ld 8 21 0 125 rfl rfl (by omega) (by decide) ?_
                  refine R_top (nI n) (((M.fm X7) 0 (by decide)).trans F.1.1) ?_
                  refine R_s 1 (cond (if2 .ge (nI y) (nI n)) 197 147, [(4, vI (nI y)), (3, vI (nI l)), (2, vI (nI S)), (0, vR 8 20), (1, vI m)], [], h7) rfl ?_
                  refine R_bp (n ≤ y) (i2_ge (by omega) (by omega)) (fun c6 => ?_) (fun c6 => ?_)
                  · refine R_s 1 (200, [(3, vI (nI l + Int32.ofInt 1)), (4, vI (nI y)), (2, vI (nI S)), (0, vR 8 20), (1, vI m)], [], h7) rfl ?_
                    refine R_lv (lv' := [(3, vI (nI (l + 1))), (4, vI (nI y)), (2, vI (nI S)), (0, vR 8 20), (1, vI m)]) (by rw [show nI l + Int32.ofInt 1 = nI (l + 1) from nI_add _ _]) ?_
                    refine R_s 1 (74, [(3, vI (nI (l + 1))), (4, vI (nI y)), (2, vI (nI S)), (0, vR 8 20), (1, vI m)], [], h7) rfl ?_
                    refine R_fg (lv' := [(3, vI (nI (l + 1))), (2, vI (nI S)), (0, vR 8 20), (1, vI m)]) [0, 2, 3, 4] rfl [3, 4, 2, 0, 1] rfl (by decide) ?_
                    have hE : EM h7 n (Wc s m p) (mcm (s, n, p, k)) S l := by unfold EM; rw [GT_step h8 mcm_bit (by omega) hpS]; rw [show y = n by omega] at E7; exact E7
                    exact ihD (l + 1) h7 (by omega) X7 (fun a b ha hb => by rw [Y7.1 8 27 (by omega)]; exact C9 a b ha hb) ⟨fun S' h1 h2 x hx => (I9.1 S' h1 h2 x hx).mv Y7 (by omega) (by omega) (by omega), fun x hx => by
                      by_cases q : x = l
                      · rw [q]; exact hE
                      · exact (I9.2 x (by omega)).mv Y7 (by omega) (by omega) (by omega)⟩
                  · refine R_s 3 (151, [(4, vI (nI y)), (3, vI (nI l)), (2, vI (nI S)), (0, vR 8 20), (1, vI m)], [vI (nI y), vI (nI S), vR 8 20], h7) rfl ?_
                    refine R_calli mM_mayCome [vR 8 20, vI (nI S), vI (nI y)] [] (bI (mcm (s, n, p, k) S y)) h7 rfl (t_M_mayCome (show S < 256 by omega) (show y < n by omega) (M.fm X7) F) ?_
                    refine R_s 1 (cond (if0 .eq (bI (mcm (s, n, p, k) S y))) 191 157, [(4, vI (nI y)), (3, vI (nI l)), (2, vI (nI S)), (0, vR 8 20), (1, vI m)], [], h7) rfl ?_
                    refine R_bp (mcm (s, n, p, k) S y = false) (x0_eq.trans bI_eq) (fun c7 => ?_) (fun c7 => ?_)
                    · refine R_s 1 (194, [(4, vI (nI y + Int32.ofInt 1)), (3, vI (nI l)), (2, vI (nI S)), (0, vR 8 20), (1, vI m)], [], h7) rfl ?_
                      refine R_lv (lv' := [(4, vI (nI (y + 1))), (3, vI (nI l)), (2, vI (nI S)), (0, vR 8 20), (1, vI m)]) (by rw [show nI y + Int32.ofInt 1 = nI (y + 1) from nI_add _ _]) ?_
                      refine R_s 1 (136, [(4, vI (nI (y + 1))), (3, vI (nI l)), (2, vI (nI S)), (0, vR 8 20), (1, vI m)], [], h7) rfl ?_
                      exact ihE (y + 1) h7 (by omega) X7 Y7 (by show EN h7 _ (comb (fd (cand (Wc s m p) (mcm (s, n, p, k)) (GT n (Wc s m p) (mcm (s, n, p, k))) S l) y) ((cand (Wc s m p) (mcm (s, n, p, k)) (GT n (Wc s m p) (mcm (s, n, p, k))) S l) y)); rw [comb_none (by unfold cand; rw [if_neg (by rw [c7]; decide)])]; exact E7)
                    · have c7 := tf c7
                      have hor := or_lt (n := n) (S := S) (x := y) (by omega) (by omega)
                      have hgt := or_gt (mcm_bit S y c7)
                      refine R_s 3 (161, [(4, vI (nI y)), (3, vI (nI l)), (2, vI (nI S)), (0, vR 8 20), (1, vI m)], [vI (nI S), vI (nI 8), vR 8 20], h7) rfl ?_
                      refine R_mul 8 S rfl ?_
                      refine R_s 1 (163, [(4, vI (nI y)), (3, vI (nI l)), (2, vI (nI S)), (0, vR 8 20), (1, vI m)], [vI (nI l), vI (nI (8 * S)), vR 8 20], h7) rfl ?_
                      refine R_add (8 * S) l rfl ?_
                      refine R_s 6 (172, [(4, vI (nI y)), (3, vI (nI l)), (2, vI (nI S)), (0, vR 8 20), (1, vI m)], [vI ((nI S) ||| ((nI 1) <<< ((nI y) &&& 31))), vI (nI 8), vI (nI ((8 * S) + l)), vR 8 20], h7) rfl ?_
                      refine R_top (nI (S ||| 2 ^ y)) (bit_or S (by omega) y (by omega)) ?_
                      refine R_mul 8 (S ||| 2 ^ y) rfl ?_
                      refine R_s 1 (175, [(4, vI (nI y)), (3, vI (nI l)), (2, vI (nI S)), (0, vR 8 20), (1, vI m)], [vI (nI y), vI (nI (8 * (S ||| 2 ^ y))), vI (nI ((8 * S) + l)), vR 8 20], h7) rfl ?_
                      refine R_add (8 * (S ||| 2 ^ y)) y rfl ?_
                      refine R_s 4 (183, [(4, vI (nI y)), (3, vI (nI l)), (2, vI (nI S)), (0, vR 8 20), (1, vI m)], [vI (nI l), vI (nI 8), vR 8 27, vI (nI ((8 * (S ||| 2 ^ y)) + y)), vI (nI ((8 * S) + l)), vR 8 20], h7) rfl ?_
                      refine R_mul 8 l rfl ?_
                      refine R_s 1 (186, [(4, vI (nI y)), (3, vI (nI l)), (2, vI (nI S)), (0, vR 8 20), (1, vI m)], [vI (nI y), vI (nI (8 * l)), vR 8 27, vI (nI ((8 * (S ||| 2 ^ y)) + y)), vI (nI ((8 * S) + l)), vR 8 20], h7) rfl ?_
                      refine R_add (8 * l) y rfl ?_
                      refine R_ld 8 27 ((8 * l) + y) 64 rfl rfl (by omega) (by decide) ?_
                      refine R_top (nI (Wc s m p l y)) ((congrFun (Y7.1 8 27 (by omega)) _).trans (C9 l y (by omega) (by omega))) ?_
                      have hU : EM h7 n (Wc s m p) (mcm (s, n, p, k)) (S ||| 2 ^ y) y := (I9.1 _ hgt hor y (by omega)).mv Y7 (by omega) (by omega) (by omega)
                      have hwl := hW l y
                      refine R_call mM_takes [vR 8 20, vI (nI ((8 * S) + l)), vI (nI ((8 * (S ||| 2 ^ y)) + y)), vI (nI (Wc s m p l y))] [] rfl (t_M_takes (by omega) (by omega) E7 hU (fd_lt h8 hW y) (GT_lt h8 hW) (by omega)) (fun r h6 e6 => ?_)
                      obtain ⟨rfl, E6, X6⟩ := e6
                      show R _ mM_layBest (191, [(4, vI (nI y)), (3, vI (nI l)), (2, vI (nI S)), (0, vR 8 20), (1, vI m)], [], h6) _
                      refine R_s 1 (194, [(4, vI (nI y + Int32.ofInt 1)), (3, vI (nI l)), (2, vI (nI S)), (0, vR 8 20), (1, vI m)], [], h6) rfl ?_
                      refine R_lv (lv' := [(4, vI (nI (y + 1))), (3, vI (nI l)), (2, vI (nI S)), (0, vR 8 20), (1, vI m)]) (by rw [show nI y + Int32.ofInt 1 = nI (y + 1) from nI_add _ _]) ?_
                      refine R_s 1 (136, [(4, vI (nI (y + 1))), (3, vI (nI l)), (2, vI (nI S)), (0, vR 8 20), (1, vI m)], [], h6) rfl ?_
                      have hcd : (cand (Wc s m p) (mcm (s, n, p, k)) (GT n (Wc s m p) (mcm (s, n, p, k))) S l) y = ((GT n (Wc s m p) (mcm (s, n, p, k)) (S ||| 2 ^ y) y).1.map (fun x => Wc s m p l y + x), (GT n (Wc s m p) (mcm (s, n, p, k)) (S ||| 2 ^ y) y).2) := by unfold cand; rw [if_pos c7, if_neg (show ¬ S = 0 by omega)]
                      exact ihE (y + 1) h6 (by omega) (X7.tr X6.fm) (Y7.tr X6) (by show EN h6 _ (comb (fd (cand (Wc s m p) (mcm (s, n, p, k)) (GT n (Wc s m p) (mcm (s, n, p, k))) S l) y) ((cand (Wc s m p) (mcm (s, n, p, k)) (GT n (Wc s m p) (mcm (s, n, p, k))) S l) y)); rw [hcd]; exact E6)
              · have c5 := Classical.not_not.mp c5
                refine R_s 2 (108, [(3, vI (nI l)), (2, vI (nI S)), (0, vR 8 20), (1, vI m)], [vI (nI 0), vI (nI ((8 * S) + l)), vR 8 25], h9) rfl ?_
                refine R_st 8 25 ((8 * S) + l) 2048 (nI 0) rfl rfl (by omega) (by decide) (fun h3 eh3 => ?_)
                have M8 : MS 21 h3 s := by rw [eh3]; exact M.fm (X9.set (by omega))
                refine R_s 4 (116, [(3, vI (nI l)), (2, vI (nI S)), (0, vR 8 20), (1, vI m)], [vI (nI S), vI (nI 8), vR 8 26], h3) rfl ?_
                refine R_mul 8 S rfl ?_
                refine R_s 1 (118, [(3, vI (nI l)), (2, vI (nI S)), (0, vR 8 20), (1, vI m)], [vI (nI l), vI (nI (8 * S)), vR 8 26], h3) rfl ?_
                refine R_add (8 * S) l rfl ?_
                refine R_s 2 (121, [(3, vI (nI l)), (2, vI (nI S)), (0, vR 8 20), (1, vI m)], [vR 8 20, vI (nI S), vI (nI ((8 * S) + l)), vR 8 26], h3) rfl ?_
                refine R_calli mM_all [vR 8 20] [vI (nI S), vI (nI ((8 * S) + l)), vR 8 26] (nI (2 ^ n - 1)) h3 rfl (t_M_all M8 F) ?_
                refine R_s 1 (cond (if2 .ne (nI S) (nI (2 ^ n - 1))) 131 127, [(3, vI (nI l)), (2, vI (nI S)), (0, vR 8 20), (1, vI m)], [vI (nI ((8 * S) + l)), vR 8 26], h3) rfl ?_
                refine R_bf (by cases q : if2 .ne (nI S) (nI (2 ^ n - 1)) with
                  | false => rfl
                  | true => exact absurd c5 ((i2_ne (by omega) (by omega)).mp q)) ?_
                refine R_s 2 (132, [(3, vI (nI l)), (2, vI (nI S)), (0, vR 8 20), (1, vI m)], [vI (nI 1), vI (nI ((8 * S) + l)), vR 8 26], h3) rfl ?_
                refine R_st 8 26 ((8 * S) + l) 2048 (nI 1) rfl rfl (by omega) (by decide) (fun h4 eh4 => ?_)
                refine R_s 2 (136, [(4, vI (nI 0)), (3, vI (nI l)), (2, vI (nI S)), (0, vR 8 20), (1, vI m)], [], h4) rfl ?_
                have X8 : FX h9 h4 (8 * S + l) := by
                  rw [eh4, eh3]
                  refine ⟨fun g' j' e => by rw [hs_ne (by omega), hs_ne (by omega)], fun x e => ⟨by rw [hs_ne (by omega), hs_same, up_ne e], by rw [hs_same, up_ne e, hs_ne (by omega)]⟩⟩
                have E8 : EN h4 (8 * S + l) (some 0, 1) := by rw [eh4, eh3]; exact ⟨by rw [hs_ne (by omega), hs_same, up_same]; rfl, by rw [hs_same, up_same]⟩
                have hpS : pop S = n := by rw [c5]; exact pop_full n (by omega)
                have hall : ∀ y, y < n → mcm (s, n, p, k) S y = false := fun y hy => bool_f (fun q => by have h1 := mcm_bit S y q; rw [c5, full_bit n (by omega) y hy] at h1; cases h1)
                have hG : GT n (Wc s m p) (mcm (s, n, p, k)) S l = (some 0, 1) := GT_full (by omega)
                suffices ∀ me (y : Nat) (h7 : HP) (hm7 : y + me = n) (X7 : FM h h7) (Y7 : FX h9 h7 (8 * S + l)) (E7 : EN h7 (8 * S + l) (some 0, 1)), R (d + 5) mM_layBest (136, [(4, vI (nI y)), (3, vI (nI l)), (2, vI (nI S)), (0, vR 8 20), (1, vI m)], [], h7) _ from this n 0 h4 (by omega) (X9.tr X8.fm) X8 E8
                intro me
                induction me with
                | zero =>
                  intro y h7 hm7 X7 Y7 E7
                  refine R_s 4 (143, [(4, vI (nI y)), (3, vI (nI l)), (2, vI (nI S)), (0, vR 8 20), (1, vI m)], [vI (nI 0), vR 8 21, vI (nI y)], h7) rfl ?_
                  refine R_ld 8 21 0 125 rfl rfl (by omega) (by decide) ?_
                  refine R_top (nI n) (((M.fm X7) 0 (by decide)).trans F.1.1) ?_
                  refine R_s 1 (cond (if2 .ge (nI y) (nI n)) 197 147, [(4, vI (nI y)), (3, vI (nI l)), (2, vI (nI S)), (0, vR 8 20), (1, vI m)], [], h7) rfl ?_
                  refine R_bp (n ≤ y) (i2_ge (by omega) (by omega)) (fun c6 => ?_) (fun c6 => ?_)
                  · refine R_s 1 (200, [(3, vI (nI l + Int32.ofInt 1)), (4, vI (nI y)), (2, vI (nI S)), (0, vR 8 20), (1, vI m)], [], h7) rfl ?_
                    refine R_lv (lv' := [(3, vI (nI (l + 1))), (4, vI (nI y)), (2, vI (nI S)), (0, vR 8 20), (1, vI m)]) (by rw [show nI l + Int32.ofInt 1 = nI (l + 1) from nI_add _ _]) ?_
                    refine R_s 1 (74, [(3, vI (nI (l + 1))), (4, vI (nI y)), (2, vI (nI S)), (0, vR 8 20), (1, vI m)], [], h7) rfl ?_
                    refine R_fg (lv' := [(3, vI (nI (l + 1))), (2, vI (nI S)), (0, vR 8 20), (1, vI m)]) [0, 2, 3, 4] rfl [3, 4, 2, 0, 1] rfl (by decide) ?_
                    have hE : EM h7 n (Wc s m p) (mcm (s, n, p, k)) S l := by unfold EM; rw [hG]; exact E7
                    exact ihD (l + 1) h7 (by omega) X7 (fun a b ha hb => by rw [Y7.1 8 27 (by omega)]; exact C9 a b ha hb) ⟨fun S' h1 h2 x hx => (I9.1 S' h1 h2 x hx).mv Y7 (by omega) (by omega) (by omega), fun x hx => by
                      by_cases q : x = l
                      · rw [q]; exact hE
                      · exact (I9.2 x (by omega)).mv Y7 (by omega) (by omega) (by omega)⟩
                  · exact absurd hm7 (by omega)
                | succ me ihE =>
                  intro y h7 hm7 X7 Y7 E7
                  refine R_s 4 (143, [(4, vI (nI y)), (3, vI (nI l)), (2, vI (nI S)), (0, vR 8 20), (1, vI m)], [vI (nI 0), vR 8 21, vI (nI y)], h7) rfl ?_
                  refine R_ld 8 21 0 125 rfl rfl (by omega) (by decide) ?_
                  refine R_top (nI n) (((M.fm X7) 0 (by decide)).trans F.1.1) ?_
                  refine R_s 1 (cond (if2 .ge (nI y) (nI n)) 197 147, [(4, vI (nI y)), (3, vI (nI l)), (2, vI (nI S)), (0, vR 8 20), (1, vI m)], [], h7) rfl ?_
                  refine R_bp (n ≤ y) (i2_ge (by omega) (by omega)) (fun c6 => ?_) (fun c6 => ?_)
                  · refine R_s 1 (200, [(3, vI (nI l + Int32.ofInt 1)), (4, vI (nI y)), (2, vI (nI S)), (0, vR 8 20), (1, vI m)], [], h7) rfl ?_
                    refine R_lv (lv' := [(3, vI (nI (l + 1))), (4, vI (nI y)), (2, vI (nI S)), (0, vR 8 20), (1, vI m)]) (by rw [show nI l + Int32.ofInt 1 = nI (l + 1) from nI_add _ _]) ?_
                    refine R_s 1 (74, [(3, vI (nI (l + 1))), (4, vI (nI y)), (2, vI (nI S)), (0, vR 8 20), (1, vI m)], [], h7) rfl ?_
                    refine R_fg (lv' := [(3, vI (nI (l + 1))), (2, vI (nI S)), (0, vR 8 20), (1, vI m)]) [0, 2, 3, 4] rfl [3, 4, 2, 0, 1] rfl (by decide) ?_
                    have hE : EM h7 n (Wc s m p) (mcm (s, n, p, k)) S l := by unfold EM; rw [hG]; exact E7
                    exact ihD (l + 1) h7 (by omega) X7 (fun a b ha hb => by rw [Y7.1 8 27 (by omega)]; exact C9 a b ha hb) ⟨fun S' h1 h2 x hx => (I9.1 S' h1 h2 x hx).mv Y7 (by omega) (by omega) (by omega), fun x hx => by
                      by_cases q : x = l
                      · rw [q]; exact hE
                      · exact (I9.2 x (by omega)).mv Y7 (by omega) (by omega) (by omega)⟩
                  · refine R_s 3 (151, [(4, vI (nI y)), (3, vI (nI l)), (2, vI (nI S)), (0, vR 8 20), (1, vI m)], [vI (nI y), vI (nI S), vR 8 20], h7) rfl ?_
                    refine R_calli mM_mayCome [vR 8 20, vI (nI S), vI (nI y)] [] (bI (mcm (s, n, p, k) S y)) h7 rfl (t_M_mayCome (show S < 256 by omega) (show y < n by omega) (M.fm X7) F) ?_
                    refine R_s 1 (cond (if0 .eq (bI (mcm (s, n, p, k) S y))) 191 157, [(4, vI (nI y)), (3, vI (nI l)), (2, vI (nI S)), (0, vR 8 20), (1, vI m)], [], h7) rfl ?_
                    refine R_bp (mcm (s, n, p, k) S y = false) (x0_eq.trans bI_eq) (fun c7 => ?_) (fun c7 => ?_)
                    · refine R_s 1 (194, [(4, vI (nI y + Int32.ofInt 1)), (3, vI (nI l)), (2, vI (nI S)), (0, vR 8 20), (1, vI m)], [], h7) rfl ?_
                      refine R_lv (lv' := [(4, vI (nI (y + 1))), (3, vI (nI l)), (2, vI (nI S)), (0, vR 8 20), (1, vI m)]) (by rw [show nI y + Int32.ofInt 1 = nI (y + 1) from nI_add _ _]) ?_
                      refine R_s 1 (136, [(4, vI (nI (y + 1))), (3, vI (nI l)), (2, vI (nI S)), (0, vR 8 20), (1, vI m)], [], h7) rfl ?_
                      exact ihE (y + 1) h7 (by omega) X7 Y7 E7
                    · exact absurd (hall y (by omega)) c7
    · exact absurd hm (by omega)
  | succ ma ihA =>
    intro a hh hm X K
    refine R_s 4 (8, [(2, vI (nI a)), (0, vR 8 20), (1, vI m)], [vI (nI 0), vR 8 21, vI (nI a)], hh) rfl ?_
    refine R_ld 8 21 0 125 rfl rfl (by omega) (by decide) ?_
    refine R_top (nI n) (((M.fm X) 0 (by decide)).trans F.1.1) ?_
    refine R_s 1 (cond (if2 .ge (nI a) (nI n)) 63 12, [(2, vI (nI a)), (0, vR 8 20), (1, vI m)], [], hh) rfl ?_
    refine R_bp (n ≤ a) (i2_ge (by omega) (by omega)) (fun c1 => ?_) (fun c1 => ?_)
    · have C : CM hh n (Wc s m p) := fun x y hx hy => K x y (by omega) hy
      clear K hm ihA
      refine R_s 1 (64, [(2, vI (nI a)), (0, vR 8 20), (1, vI m)], [vR 8 20], hh) rfl ?_
      refine R_calli mM_all [vR 8 20] [] (nI (2 ^ n - 1)) hh rfl (t_M_all (M.fm X) F) ?_
      refine R_s 1 (68, [(2, vI (nI (2 ^ n - 1))), (0, vR 8 20), (1, vI m)], [], hh) rfl ?_
      suffices ∀ mc (S : Nat) (hh : HP) (hm : S ≤ mc) (hS : S < 2 ^ n) (X : FM h hh) (C : CM hh n (Wc s m p)) (I : ∀ S', S < S' → S' < 2 ^ n → ∀ x, x < n → EM hh n (Wc s m p) (mcm (s, n, p, k)) S' x), R (d + 5) mM_layBest (68, [(2, vI (nI S)), (0, vR 8 20), (1, vI m)], [], hh) _ from this (2 ^ n - 1) (2 ^ n - 1) hh (Nat.le_refl _) (by have := Nat.pow_pos (n := n) (show 0 < 2 by decide); omega) X C (fun S' h1 h2 => absurd h1 (by omega))
      intro mc
      induction mc with
      | zero =>
        intro S hh hm hS X C I
        refine R_s 2 (cond (if0 .le (nI S)) 209 72, [(2, vI (nI S)), (0, vR 8 20), (1, vI m)], [], hh) rfl ?_
        refine R_bp (S = 0) (i0_le (by omega)) (fun c1 => ?_) (fun c1 => ?_)
        · have T : TM hh n (Wc s m p) (mcm (s, n, p, k)) := ⟨C, fun S' h1 h2 l hl => I S' (by omega) h2 l hl⟩
          clear I hm
          refine R_s 4 (214, [(3, vI (nI 0)), (2, vI (nI 1000000)), (0, vR 8 20), (1, vI m)], [], hh) rfl ?_
          suffices ∀ md (j : Nat) (hm : j + md = n), R (d + 5) mM_layBest (214, [(3, vI (nI j)), (2, vI (encF (fd (cand (Wc s m p) (mcm (s, n, p, k)) (GT n (Wc s m p) (mcm (s, n, p, k))) 0 0) j).1)), (0, vR 8 20), (1, vI m)], [], hh) _ from this n 0 (by omega)
          intro md
          induction md with
          | zero =>
            intro j hm
            refine R_s 4 (220, [(3, vI (nI j)), (2, vI (encF (fd (cand (Wc s m p) (mcm (s, n, p, k)) (GT n (Wc s m p) (mcm (s, n, p, k))) 0 0) j).1)), (0, vR 8 20), (1, vI m)], [vI (nI 0), vR 8 21, vI (nI j)], hh) rfl ?_
            refine R_ld 8 21 0 125 rfl rfl (by omega) (by decide) ?_
            refine R_top (nI n) (((M.fm X) 0 (by decide)).trans F.1.1) ?_
            refine R_s 1 (cond (if2 .ge (nI j) (nI n)) 250 224, [(3, vI (nI j)), (2, vI (encF (fd (cand (Wc s m p) (mcm (s, n, p, k)) (GT n (Wc s m p) (mcm (s, n, p, k))) 0 0) j).1)), (0, vR 8 20), (1, vI m)], [], hh) rfl ?_
            refine R_bp (n ≤ j) (i2_ge (by omega) (by omega)) (fun c2 => ?_) (fun c2 => ?_)
            · refine R_s 1 (251, [(3, vI (nI j)), (2, vI (encF (fd (cand (Wc s m p) (mcm (s, n, p, k)) (GT n (Wc s m p) (mcm (s, n, p, k))) 0 0) j).1)), (0, vR 8 20), (1, vI m)], [vI (encF (fd (cand (Wc s m p) (mcm (s, n, p, k)) (GT n (Wc s m p) (mcm (s, n, p, k))) 0 0) j).1)], hh) rfl ?_
              exact R_ret (some (vI (encF (fd (cand (Wc s m p) (mcm (s, n, p, k)) (GT n (Wc s m p) (mcm (s, n, p, k))) 0 0) j).1))) hh rfl ⟨by rw [GT_step h8 mcm_bit (Nat.pow_pos (by decide)) (show pop 0 < n from by rw [show pop 0 = 0 by decide]; omega)]; rw [show j = n by omega], T, X⟩
            · exact absurd hm (by omega)
          | succ md ihF =>
            intro j hm
            refine R_s 4 (220, [(3, vI (nI j)), (2, vI (encF (fd (cand (Wc s m p) (mcm (s, n, p, k)) (GT n (Wc s m p) (mcm (s, n, p, k))) 0 0) j).1)), (0, vR 8 20), (1, vI m)], [vI (nI 0), vR 8 21, vI (nI j)], hh) rfl ?_
            refine R_ld 8 21 0 125 rfl rfl (by omega) (by decide) ?_
            refine R_top (nI n) (((M.fm X) 0 (by decide)).trans F.1.1) ?_
            refine R_s 1 (cond (if2 .ge (nI j) (nI n)) 250 224, [(3, vI (nI j)), (2, vI (encF (fd (cand (Wc s m p) (mcm (s, n, p, k)) (GT n (Wc s m p) (mcm (s, n, p, k))) 0 0) j).1)), (0, vR 8 20), (1, vI m)], [], hh) rfl ?_
            refine R_bp (n ≤ j) (i2_ge (by omega) (by omega)) (fun c2 => ?_) (fun c2 => ?_)
            · refine R_s 1 (251, [(3, vI (nI j)), (2, vI (encF (fd (cand (Wc s m p) (mcm (s, n, p, k)) (GT n (Wc s m p) (mcm (s, n, p, k))) 0 0) j).1)), (0, vR 8 20), (1, vI m)], [vI (encF (fd (cand (Wc s m p) (mcm (s, n, p, k)) (GT n (Wc s m p) (mcm (s, n, p, k))) 0 0) j).1)], hh) rfl ?_
              exact R_ret (some (vI (encF (fd (cand (Wc s m p) (mcm (s, n, p, k)) (GT n (Wc s m p) (mcm (s, n, p, k))) 0 0) j).1))) hh rfl ⟨by rw [GT_step h8 mcm_bit (Nat.pow_pos (by decide)) (show pop 0 < n from by rw [show pop 0 = 0 by decide]; omega)]; rw [show j = n by omega], T, X⟩
            · refine R_s 2 (226, [(3, vI (nI j)), (2, vI (encF (fd (cand (Wc s m p) (mcm (s, n, p, k)) (GT n (Wc s m p) (mcm (s, n, p, k))) 0 0) j).1)), (0, vR 8 20), (1, vI m)], [vI (nI j), vR 8 20], hh) rfl ?_
              refine R_calli mM_costFrom [vR 8 20, vI (nI j)] [] (encF ((cand (Wc s m p) (mcm (s, n, p, k)) (GT n (Wc s m p) (mcm (s, n, p, k))) 0 0) j).1) hh rfl (t_M_costFrom T (by omega) (M.fm X) F) ?_
              have hmin := min_F (a := fd (cand (Wc s m p) (mcm (s, n, p, k)) (GT n (Wc s m p) (mcm (s, n, p, k))) 0 0) j) (b := (cand (Wc s m p) (mcm (s, n, p, k)) (GT n (Wc s m p) (mcm (s, n, p, k))) 0 0) j) (fd_lt h8 hW j) (fun c hc => by have := cand_le hW h8 hc; omega)
              refine R_s 4 (cond (if2 .ge (encF ((cand (Wc s m p) (mcm (s, n, p, k)) (GT n (Wc s m p) (mcm (s, n, p, k))) 0 0) j).1) (encF (fd (cand (Wc s m p) (mcm (s, n, p, k)) (GT n (Wc s m p) (mcm (s, n, p, k))) 0 0) j).1)) 242 237, [(4, vI (encF ((cand (Wc s m p) (mcm (s, n, p, k)) (GT n (Wc s m p) (mcm (s, n, p, k))) 0 0) j).1)), (3, vI (nI j)), (2, vI (encF (fd (cand (Wc s m p) (mcm (s, n, p, k)) (GT n (Wc s m p) (mcm (s, n, p, k))) 0 0) j).1)), (0, vR 8 20), (1, vI m)], [], hh) rfl ?_
              refine R_bp (if2 .ge (encF ((cand (Wc s m p) (mcm (s, n, p, k)) (GT n (Wc s m p) (mcm (s, n, p, k))) 0 0) j).1) (encF (fd (cand (Wc s m p) (mcm (s, n, p, k)) (GT n (Wc s m p) (mcm (s, n, p, k))) 0 0) j).1) = true) Iff.rfl (fun c3 => ?_) (fun c3 => ?_)
              · refine R_s 3 (247, [(3, vI (nI j + Int32.ofInt 1)), (2, vI (encF (fd (cand (Wc s m p) (mcm (s, n, p, k)) (GT n (Wc s m p) (mcm (s, n, p, k))) 0 0) j).1)), (4, vI (encF ((cand (Wc s m p) (mcm (s, n, p, k)) (GT n (Wc s m p) (mcm (s, n, p, k))) 0 0) j).1)), (0, vR 8 20), (1, vI m)], [], hh) rfl ?_
                refine R_lv (lv' := [(3, vI (nI (j + 1))), (2, vI (encF (fd (cand (Wc s m p) (mcm (s, n, p, k)) (GT n (Wc s m p) (mcm (s, n, p, k))) 0 0) j).1)), (4, vI (encF ((cand (Wc s m p) (mcm (s, n, p, k)) (GT n (Wc s m p) (mcm (s, n, p, k))) 0 0) j).1)), (0, vR 8 20), (1, vI m)]) (by rw [show nI j + Int32.ofInt 1 = nI (j + 1) from nI_add _ _]) ?_
                refine R_s 1 (214, [(3, vI (nI (j + 1))), (2, vI (encF (fd (cand (Wc s m p) (mcm (s, n, p, k)) (GT n (Wc s m p) (mcm (s, n, p, k))) 0 0) j).1)), (4, vI (encF ((cand (Wc s m p) (mcm (s, n, p, k)) (GT n (Wc s m p) (mcm (s, n, p, k))) 0 0) j).1)), (0, vR 8 20), (1, vI m)], [], hh) rfl ?_
                refine R_fg (lv' := [(3, vI (nI (j + 1))), (2, vI (encF (fd (cand (Wc s m p) (mcm (s, n, p, k)) (GT n (Wc s m p) (mcm (s, n, p, k))) 0 0) j).1)), (0, vR 8 20), (1, vI m)]) [0, 1, 3, 4] rfl [3, 2, 4, 0, 1] rfl (by decide) ?_
                refine R_lv (lv' := [(3, vI (nI (j + 1))), (2, vI (encF (fd (cand (Wc s m p) (mcm (s, n, p, k)) (GT n (Wc s m p) (mcm (s, n, p, k))) 0 0) (j + 1)).1)), (0, vR 8 20), (1, vI m)]) (by rw [hmin.2 c3]; rfl) ?_
                exact ihF (j + 1) (by omega)
              · refine R_s 4 (247, [(3, vI (nI j + Int32.ofInt 1)), (2, vI (encF ((cand (Wc s m p) (mcm (s, n, p, k)) (GT n (Wc s m p) (mcm (s, n, p, k))) 0 0) j).1)), (4, vI (encF ((cand (Wc s m p) (mcm (s, n, p, k)) (GT n (Wc s m p) (mcm (s, n, p, k))) 0 0) j).1)), (0, vR 8 20), (1, vI m)], [], hh) rfl ?_
                refine R_lv (lv' := [(3, vI (nI (j + 1))), (2, vI (encF ((cand (Wc s m p) (mcm (s, n, p, k)) (GT n (Wc s m p) (mcm (s, n, p, k))) 0 0) j).1)), (4, vI (encF ((cand (Wc s m p) (mcm (s, n, p, k)) (GT n (Wc s m p) (mcm (s, n, p, k))) 0 0) j).1)), (0, vR 8 20), (1, vI m)]) (by rw [show nI j + Int32.ofInt 1 = nI (j + 1) from nI_add _ _]) ?_
                refine R_s 1 (214, [(3, vI (nI (j + 1))), (2, vI (encF ((cand (Wc s m p) (mcm (s, n, p, k)) (GT n (Wc s m p) (mcm (s, n, p, k))) 0 0) j).1)), (4, vI (encF ((cand (Wc s m p) (mcm (s, n, p, k)) (GT n (Wc s m p) (mcm (s, n, p, k))) 0 0) j).1)), (0, vR 8 20), (1, vI m)], [], hh) rfl ?_
                refine R_fg (lv' := [(3, vI (nI (j + 1))), (2, vI (encF ((cand (Wc s m p) (mcm (s, n, p, k)) (GT n (Wc s m p) (mcm (s, n, p, k))) 0 0) j).1)), (0, vR 8 20), (1, vI m)]) [0, 1, 3, 4] rfl [3, 2, 4, 0, 1] rfl (by decide) ?_
                refine R_lv (lv' := [(3, vI (nI (j + 1))), (2, vI (encF (fd (cand (Wc s m p) (mcm (s, n, p, k)) (GT n (Wc s m p) (mcm (s, n, p, k))) 0 0) (j + 1)).1)), (0, vR 8 20), (1, vI m)]) (by rw [hmin.1 c3]; rfl) ?_
                exact ihF (j + 1) (by omega)
        · exact absurd hm (by omega)
      | succ mc ihC =>
        intro S hh hm hS X C I
        refine R_s 2 (cond (if0 .le (nI S)) 209 72, [(2, vI (nI S)), (0, vR 8 20), (1, vI m)], [], hh) rfl ?_
        refine R_bp (S = 0) (i0_le (by omega)) (fun c1 => ?_) (fun c1 => ?_)
        · have T : TM hh n (Wc s m p) (mcm (s, n, p, k)) := ⟨C, fun S' h1 h2 l hl => I S' (by omega) h2 l hl⟩
          clear I hm ihC
          refine R_s 4 (214, [(3, vI (nI 0)), (2, vI (nI 1000000)), (0, vR 8 20), (1, vI m)], [], hh) rfl ?_
          suffices ∀ md (j : Nat) (hm : j + md = n), R (d + 5) mM_layBest (214, [(3, vI (nI j)), (2, vI (encF (fd (cand (Wc s m p) (mcm (s, n, p, k)) (GT n (Wc s m p) (mcm (s, n, p, k))) 0 0) j).1)), (0, vR 8 20), (1, vI m)], [], hh) _ from this n 0 (by omega)
          intro md
          induction md with
          | zero =>
            intro j hm
            refine R_s 4 (220, [(3, vI (nI j)), (2, vI (encF (fd (cand (Wc s m p) (mcm (s, n, p, k)) (GT n (Wc s m p) (mcm (s, n, p, k))) 0 0) j).1)), (0, vR 8 20), (1, vI m)], [vI (nI 0), vR 8 21, vI (nI j)], hh) rfl ?_
            refine R_ld 8 21 0 125 rfl rfl (by omega) (by decide) ?_
            refine R_top (nI n) (((M.fm X) 0 (by decide)).trans F.1.1) ?_
            refine R_s 1 (cond (if2 .ge (nI j) (nI n)) 250 224, [(3, vI (nI j)), (2, vI (encF (fd (cand (Wc s m p) (mcm (s, n, p, k)) (GT n (Wc s m p) (mcm (s, n, p, k))) 0 0) j).1)), (0, vR 8 20), (1, vI m)], [], hh) rfl ?_
            refine R_bp (n ≤ j) (i2_ge (by omega) (by omega)) (fun c2 => ?_) (fun c2 => ?_)
            · refine R_s 1 (251, [(3, vI (nI j)), (2, vI (encF (fd (cand (Wc s m p) (mcm (s, n, p, k)) (GT n (Wc s m p) (mcm (s, n, p, k))) 0 0) j).1)), (0, vR 8 20), (1, vI m)], [vI (encF (fd (cand (Wc s m p) (mcm (s, n, p, k)) (GT n (Wc s m p) (mcm (s, n, p, k))) 0 0) j).1)], hh) rfl ?_
              exact R_ret (some (vI (encF (fd (cand (Wc s m p) (mcm (s, n, p, k)) (GT n (Wc s m p) (mcm (s, n, p, k))) 0 0) j).1))) hh rfl ⟨by rw [GT_step h8 mcm_bit (Nat.pow_pos (by decide)) (show pop 0 < n from by rw [show pop 0 = 0 by decide]; omega)]; rw [show j = n by omega], T, X⟩
            · exact absurd hm (by omega)
          | succ md ihF =>
            intro j hm
            refine R_s 4 (220, [(3, vI (nI j)), (2, vI (encF (fd (cand (Wc s m p) (mcm (s, n, p, k)) (GT n (Wc s m p) (mcm (s, n, p, k))) 0 0) j).1)), (0, vR 8 20), (1, vI m)], [vI (nI 0), vR 8 21, vI (nI j)], hh) rfl ?_
            refine R_ld 8 21 0 125 rfl rfl (by omega) (by decide) ?_
            refine R_top (nI n) (((M.fm X) 0 (by decide)).trans F.1.1) ?_
            refine R_s 1 (cond (if2 .ge (nI j) (nI n)) 250 224, [(3, vI (nI j)), (2, vI (encF (fd (cand (Wc s m p) (mcm (s, n, p, k)) (GT n (Wc s m p) (mcm (s, n, p, k))) 0 0) j).1)), (0, vR 8 20), (1, vI m)], [], hh) rfl ?_
            refine R_bp (n ≤ j) (i2_ge (by omega) (by omega)) (fun c2 => ?_) (fun c2 => ?_)
            · refine R_s 1 (251, [(3, vI (nI j)), (2, vI (encF (fd (cand (Wc s m p) (mcm (s, n, p, k)) (GT n (Wc s m p) (mcm (s, n, p, k))) 0 0) j).1)), (0, vR 8 20), (1, vI m)], [vI (encF (fd (cand (Wc s m p) (mcm (s, n, p, k)) (GT n (Wc s m p) (mcm (s, n, p, k))) 0 0) j).1)], hh) rfl ?_
              exact R_ret (some (vI (encF (fd (cand (Wc s m p) (mcm (s, n, p, k)) (GT n (Wc s m p) (mcm (s, n, p, k))) 0 0) j).1))) hh rfl ⟨by rw [GT_step h8 mcm_bit (Nat.pow_pos (by decide)) (show pop 0 < n from by rw [show pop 0 = 0 by decide]; omega)]; rw [show j = n by omega], T, X⟩
            · refine R_s 2 (226, [(3, vI (nI j)), (2, vI (encF (fd (cand (Wc s m p) (mcm (s, n, p, k)) (GT n (Wc s m p) (mcm (s, n, p, k))) 0 0) j).1)), (0, vR 8 20), (1, vI m)], [vI (nI j), vR 8 20], hh) rfl ?_
              refine R_calli mM_costFrom [vR 8 20, vI (nI j)] [] (encF ((cand (Wc s m p) (mcm (s, n, p, k)) (GT n (Wc s m p) (mcm (s, n, p, k))) 0 0) j).1) hh rfl (t_M_costFrom T (by omega) (M.fm X) F) ?_
              have hmin := min_F (a := fd (cand (Wc s m p) (mcm (s, n, p, k)) (GT n (Wc s m p) (mcm (s, n, p, k))) 0 0) j) (b := (cand (Wc s m p) (mcm (s, n, p, k)) (GT n (Wc s m p) (mcm (s, n, p, k))) 0 0) j) (fd_lt h8 hW j) (fun c hc => by have := cand_le hW h8 hc; omega)
              refine R_s 4 (cond (if2 .ge (encF ((cand (Wc s m p) (mcm (s, n, p, k)) (GT n (Wc s m p) (mcm (s, n, p, k))) 0 0) j).1) (encF (fd (cand (Wc s m p) (mcm (s, n, p, k)) (GT n (Wc s m p) (mcm (s, n, p, k))) 0 0) j).1)) 242 237, [(4, vI (encF ((cand (Wc s m p) (mcm (s, n, p, k)) (GT n (Wc s m p) (mcm (s, n, p, k))) 0 0) j).1)), (3, vI (nI j)), (2, vI (encF (fd (cand (Wc s m p) (mcm (s, n, p, k)) (GT n (Wc s m p) (mcm (s, n, p, k))) 0 0) j).1)), (0, vR 8 20), (1, vI m)], [], hh) rfl ?_
              refine R_bp (if2 .ge (encF ((cand (Wc s m p) (mcm (s, n, p, k)) (GT n (Wc s m p) (mcm (s, n, p, k))) 0 0) j).1) (encF (fd (cand (Wc s m p) (mcm (s, n, p, k)) (GT n (Wc s m p) (mcm (s, n, p, k))) 0 0) j).1) = true) Iff.rfl (fun c3 => ?_) (fun c3 => ?_)
              · refine R_s 3 (247, [(3, vI (nI j + Int32.ofInt 1)), (2, vI (encF (fd (cand (Wc s m p) (mcm (s, n, p, k)) (GT n (Wc s m p) (mcm (s, n, p, k))) 0 0) j).1)), (4, vI (encF ((cand (Wc s m p) (mcm (s, n, p, k)) (GT n (Wc s m p) (mcm (s, n, p, k))) 0 0) j).1)), (0, vR 8 20), (1, vI m)], [], hh) rfl ?_
                refine R_lv (lv' := [(3, vI (nI (j + 1))), (2, vI (encF (fd (cand (Wc s m p) (mcm (s, n, p, k)) (GT n (Wc s m p) (mcm (s, n, p, k))) 0 0) j).1)), (4, vI (encF ((cand (Wc s m p) (mcm (s, n, p, k)) (GT n (Wc s m p) (mcm (s, n, p, k))) 0 0) j).1)), (0, vR 8 20), (1, vI m)]) (by rw [show nI j + Int32.ofInt 1 = nI (j + 1) from nI_add _ _]) ?_
                refine R_s 1 (214, [(3, vI (nI (j + 1))), (2, vI (encF (fd (cand (Wc s m p) (mcm (s, n, p, k)) (GT n (Wc s m p) (mcm (s, n, p, k))) 0 0) j).1)), (4, vI (encF ((cand (Wc s m p) (mcm (s, n, p, k)) (GT n (Wc s m p) (mcm (s, n, p, k))) 0 0) j).1)), (0, vR 8 20), (1, vI m)], [], hh) rfl ?_
                refine R_fg (lv' := [(3, vI (nI (j + 1))), (2, vI (encF (fd (cand (Wc s m p) (mcm (s, n, p, k)) (GT n (Wc s m p) (mcm (s, n, p, k))) 0 0) j).1)), (0, vR 8 20), (1, vI m)]) [0, 1, 3, 4] rfl [3, 2, 4, 0, 1] rfl (by decide) ?_
                refine R_lv (lv' := [(3, vI (nI (j + 1))), (2, vI (encF (fd (cand (Wc s m p) (mcm (s, n, p, k)) (GT n (Wc s m p) (mcm (s, n, p, k))) 0 0) (j + 1)).1)), (0, vR 8 20), (1, vI m)]) (by rw [hmin.2 c3]; rfl) ?_
                exact ihF (j + 1) (by omega)
              · refine R_s 4 (247, [(3, vI (nI j + Int32.ofInt 1)), (2, vI (encF ((cand (Wc s m p) (mcm (s, n, p, k)) (GT n (Wc s m p) (mcm (s, n, p, k))) 0 0) j).1)), (4, vI (encF ((cand (Wc s m p) (mcm (s, n, p, k)) (GT n (Wc s m p) (mcm (s, n, p, k))) 0 0) j).1)), (0, vR 8 20), (1, vI m)], [], hh) rfl ?_
                refine R_lv (lv' := [(3, vI (nI (j + 1))), (2, vI (encF ((cand (Wc s m p) (mcm (s, n, p, k)) (GT n (Wc s m p) (mcm (s, n, p, k))) 0 0) j).1)), (4, vI (encF ((cand (Wc s m p) (mcm (s, n, p, k)) (GT n (Wc s m p) (mcm (s, n, p, k))) 0 0) j).1)), (0, vR 8 20), (1, vI m)]) (by rw [show nI j + Int32.ofInt 1 = nI (j + 1) from nI_add _ _]) ?_
                refine R_s 1 (214, [(3, vI (nI (j + 1))), (2, vI (encF ((cand (Wc s m p) (mcm (s, n, p, k)) (GT n (Wc s m p) (mcm (s, n, p, k))) 0 0) j).1)), (4, vI (encF ((cand (Wc s m p) (mcm (s, n, p, k)) (GT n (Wc s m p) (mcm (s, n, p, k))) 0 0) j).1)), (0, vR 8 20), (1, vI m)], [], hh) rfl ?_
                refine R_fg (lv' := [(3, vI (nI (j + 1))), (2, vI (encF ((cand (Wc s m p) (mcm (s, n, p, k)) (GT n (Wc s m p) (mcm (s, n, p, k))) 0 0) j).1)), (0, vR 8 20), (1, vI m)]) [0, 1, 3, 4] rfl [3, 2, 4, 0, 1] rfl (by decide) ?_
                refine R_lv (lv' := [(3, vI (nI (j + 1))), (2, vI (encF (fd (cand (Wc s m p) (mcm (s, n, p, k)) (GT n (Wc s m p) (mcm (s, n, p, k))) 0 0) (j + 1)).1)), (0, vR 8 20), (1, vI m)]) (by rw [hmin.1 c3]; rfl) ?_
                exact ihF (j + 1) (by omega)
        · refine R_s 2 (74, [(3, vI (nI 0)), (2, vI (nI S)), (0, vR 8 20), (1, vI m)], [], hh) rfl ?_
          suffices ∀ mb (l : Nat) (h9 : HP) (hm9 : l + mb = n) (X9 : FM h h9) (C9 : CM h9 n (Wc s m p)) (I9 : IM h9 n (Wc s m p) (mcm (s, n, p, k)) S l), R (d + 5) mM_layBest (74, [(3, vI (nI l)), (2, vI (nI S)), (0, vR 8 20), (1, vI m)], [], h9) _ from this n 0 hh (by omega) X C ⟨I, fun x hx => absurd hx (by omega)⟩
          intro mb
          induction mb with
          | zero =>
            intro l h9 hm9 X9 C9 I9
            refine R_s 4 (80, [(3, vI (nI l)), (2, vI (nI S)), (0, vR 8 20), (1, vI m)], [vI (nI 0), vR 8 21, vI (nI l)], h9) rfl ?_
            refine R_ld 8 21 0 125 rfl rfl (by omega) (by decide) ?_
            refine R_top (nI n) (((M.fm X9) 0 (by decide)).trans F.1.1) ?_
            refine R_s 1 (cond (if2 .ge (nI l) (nI n)) 203 84, [(3, vI (nI l)), (2, vI (nI S)), (0, vR 8 20), (1, vI m)], [], h9) rfl ?_
            refine R_bp (n ≤ l) (i2_ge (by omega) (by omega)) (fun c2 => ?_) (fun c2 => ?_)
            · obtain ⟨S0, rfl⟩ : ∃ S0, S = S0 + 1 := ⟨S - 1, by omega⟩
              refine R_s 1 (206, [(2, vI (nI (S0 + 1) + Int32.ofInt (-1))), (3, vI (nI l)), (0, vR 8 20), (1, vI m)], [], h9) rfl ?_
              refine R_lv (lv' := [(2, vI (nI S0)), (3, vI (nI l)), (0, vR 8 20), (1, vI m)]) (by rw [show nI (S0 + 1) + Int32.ofInt (-1) = nI S0 from pk_m1 _]) ?_
              refine R_s 1 (68, [(2, vI (nI S0)), (3, vI (nI l)), (0, vR 8 20), (1, vI m)], [], h9) rfl ?_
              refine R_fg (lv' := [(2, vI (nI S0)), (0, vR 8 20), (1, vI m)]) [0, 2, 3] rfl [2, 3, 0, 1] rfl (by decide) ?_
              exact ihC S0 h9 (by omega) (by omega) X9 C9 (fun S' h1 h2 x hx => by
                by_cases q : S' = S0 + 1
                · rw [q]; exact I9.2 x (by omega)
                · exact I9.1 S' (by omega) h2 x hx)
            · exact absurd hm9 (by omega)
          | succ mb ihD =>
            intro l h9 hm9 X9 C9 I9
            refine R_s 4 (80, [(3, vI (nI l)), (2, vI (nI S)), (0, vR 8 20), (1, vI m)], [vI (nI 0), vR 8 21, vI (nI l)], h9) rfl ?_
            refine R_ld 8 21 0 125 rfl rfl (by omega) (by decide) ?_
            refine R_top (nI n) (((M.fm X9) 0 (by decide)).trans F.1.1) ?_
            refine R_s 1 (cond (if2 .ge (nI l) (nI n)) 203 84, [(3, vI (nI l)), (2, vI (nI S)), (0, vR 8 20), (1, vI m)], [], h9) rfl ?_
            refine R_bp (n ≤ l) (i2_ge (by omega) (by omega)) (fun c2 => ?_) (fun c2 => ?_)
            · obtain ⟨S0, rfl⟩ : ∃ S0, S = S0 + 1 := ⟨S - 1, by omega⟩
              refine R_s 1 (206, [(2, vI (nI (S0 + 1) + Int32.ofInt (-1))), (3, vI (nI l)), (0, vR 8 20), (1, vI m)], [], h9) rfl ?_
              refine R_lv (lv' := [(2, vI (nI S0)), (3, vI (nI l)), (0, vR 8 20), (1, vI m)]) (by rw [show nI (S0 + 1) + Int32.ofInt (-1) = nI S0 from pk_m1 _]) ?_
              refine R_s 1 (68, [(2, vI (nI S0)), (3, vI (nI l)), (0, vR 8 20), (1, vI m)], [], h9) rfl ?_
              refine R_fg (lv' := [(2, vI (nI S0)), (0, vR 8 20), (1, vI m)]) [0, 2, 3] rfl [2, 3, 0, 1] rfl (by decide) ?_
              exact ihC S0 h9 (by omega) (by omega) X9 C9 (fun S' h1 h2 x hx => by
                by_cases q : S' = S0 + 1
                · rw [q]; exact I9.2 x (by omega)
                · exact I9.1 S' (by omega) h2 x hx)
            · refine R_s 4 (91, [(3, vI (nI l)), (2, vI (nI S)), (0, vR 8 20), (1, vI m)], [vI (nI S), vI (nI 8), vR 8 25], h9) rfl ?_
              refine R_mul 8 S rfl ?_
              refine R_s 1 (93, [(3, vI (nI l)), (2, vI (nI S)), (0, vR 8 20), (1, vI m)], [vI (nI l), vI (nI (8 * S)), vR 8 25], h9) rfl ?_
              refine R_add (8 * S) l rfl ?_
              refine R_s 2 (96, [(3, vI (nI l)), (2, vI (nI S)), (0, vR 8 20), (1, vI m)], [vR 8 20, vI (nI S), vI (nI ((8 * S) + l)), vR 8 25], h9) rfl ?_
              refine R_calli mM_all [vR 8 20] [vI (nI S), vI (nI ((8 * S) + l)), vR 8 25] (nI (2 ^ n - 1)) h9 rfl (t_M_all (M.fm X9) F) ?_
              refine R_s 1 (cond (if2 .ne (nI S) (nI (2 ^ n - 1))) 106 102, [(3, vI (nI l)), (2, vI (nI S)), (0, vR 8 20), (1, vI m)], [vI (nI ((8 * S) + l)), vR 8 25], h9) rfl ?_
              refine R_bp (¬ S = (2 ^ n - 1)) (i2_ne (by omega) (by omega)) (fun c5 => ?_) (fun c5 => ?_)
              · refine R_s 1 (108, [(3, vI (nI l)), (2, vI (nI S)), (0, vR 8 20), (1, vI m)], [vI (nI 1000000), vI (nI ((8 * S) + l)), vR 8 25], h9) rfl ?_
                refine R_st 8 25 ((8 * S) + l) 2048 (nI 1000000) rfl rfl (by omega) (by decide) (fun h5 eh5 => ?_)
                have M8 : MS 21 h5 s := by rw [eh5]; exact M.fm (X9.set (by omega))
                refine R_s 4 (116, [(3, vI (nI l)), (2, vI (nI S)), (0, vR 8 20), (1, vI m)], [vI (nI S), vI (nI 8), vR 8 26], h5) rfl ?_
                refine R_mul 8 S rfl ?_
                refine R_s 1 (118, [(3, vI (nI l)), (2, vI (nI S)), (0, vR 8 20), (1, vI m)], [vI (nI l), vI (nI (8 * S)), vR 8 26], h5) rfl ?_
                refine R_add (8 * S) l rfl ?_
                refine R_s 2 (121, [(3, vI (nI l)), (2, vI (nI S)), (0, vR 8 20), (1, vI m)], [vR 8 20, vI (nI S), vI (nI ((8 * S) + l)), vR 8 26], h5) rfl ?_
                refine R_calli mM_all [vR 8 20] [vI (nI S), vI (nI ((8 * S) + l)), vR 8 26] (nI (2 ^ n - 1)) h5 rfl (t_M_all M8 F) ?_
                refine R_s 1 (cond (if2 .ne (nI S) (nI (2 ^ n - 1))) 131 127, [(3, vI (nI l)), (2, vI (nI S)), (0, vR 8 20), (1, vI m)], [vI (nI ((8 * S) + l)), vR 8 26], h5) rfl ?_
                refine R_bt ((i2_ne (by omega) (by omega)).mpr c5) ?_
                refine R_s 1 (132, [(3, vI (nI l)), (2, vI (nI S)), (0, vR 8 20), (1, vI m)], [vI (nI 0), vI (nI ((8 * S) + l)), vR 8 26], h5) rfl ?_
                refine R_st 8 26 ((8 * S) + l) 2048 (nI 0) rfl rfl (by omega) (by decide) (fun h6 eh6 => ?_)
                refine R_s 2 (136, [(4, vI (nI 0)), (3, vI (nI l)), (2, vI (nI S)), (0, vR 8 20), (1, vI m)], [], h6) rfl ?_
                have X8 : FX h9 h6 (8 * S + l) := by
                  rw [eh6, eh5]
                  refine ⟨fun g' j' e => by rw [hs_ne (by omega), hs_ne (by omega)], fun x e => ⟨by rw [hs_ne (by omega), hs_same, up_ne e], by rw [hs_same, up_ne e, hs_ne (by omega)]⟩⟩
                have E8 : EN h6 (8 * S + l) (none, 0) := by rw [eh6, eh5]; exact ⟨by rw [hs_ne (by omega), hs_same, up_same]; rfl, by rw [hs_same, up_same]⟩
                have hpS : pop S < n := pop_lt n (by omega) S (by omega) (by omega)
                suffices ∀ me (y : Nat) (h7 : HP) (hm7 : y + me = n) (X7 : FM h h7) (Y7 : FX h9 h7 (8 * S + l)) (E7 : EN h7 (8 * S + l) (fd (cand (Wc s m p) (mcm (s, n, p, k)) (GT n (Wc s m p) (mcm (s, n, p, k))) S l) y)), R (d + 5) mM_layBest (136, [(4, vI (nI y)), (3, vI (nI l)), (2, vI (nI S)), (0, vR 8 20), (1, vI m)], [], h7) _ from this n 0 h6 (by omega) (X9.tr X8.fm) X8 E8
                intro me
                induction me with
                | zero =>
                  intro y h7 hm7 X7 Y7 E7
                  refine R_s 4 (143, [(4, vI (nI y)), (3, vI (nI l)), (2, vI (nI S)), (0, vR 8 20), (1, vI m)], [vI (nI 0), vR 8 21, vI (nI y)], h7) rfl ?_
                  refine R_ld 8 21 0 125 rfl rfl (by omega) (by decide) ?_
                  refine R_top (nI n) (((M.fm X7) 0 (by decide)).trans F.1.1) ?_
                  refine R_s 1 (cond (if2 .ge (nI y) (nI n)) 197 147, [(4, vI (nI y)), (3, vI (nI l)), (2, vI (nI S)), (0, vR 8 20), (1, vI m)], [], h7) rfl ?_
                  refine R_bp (n ≤ y) (i2_ge (by omega) (by omega)) (fun c6 => ?_) (fun c6 => ?_)
                  · refine R_s 1 (200, [(3, vI (nI l + Int32.ofInt 1)), (4, vI (nI y)), (2, vI (nI S)), (0, vR 8 20), (1, vI m)], [], h7) rfl ?_
                    refine R_lv (lv' := [(3, vI (nI (l + 1))), (4, vI (nI y)), (2, vI (nI S)), (0, vR 8 20), (1, vI m)]) (by rw [show nI l + Int32.ofInt 1 = nI (l + 1) from nI_add _ _]) ?_
                    refine R_s 1 (74, [(3, vI (nI (l + 1))), (4, vI (nI y)), (2, vI (nI S)), (0, vR 8 20), (1, vI m)], [], h7) rfl ?_
                    refine R_fg (lv' := [(3, vI (nI (l + 1))), (2, vI (nI S)), (0, vR 8 20), (1, vI m)]) [0, 2, 3, 4] rfl [3, 4, 2, 0, 1] rfl (by decide) ?_
                    have hE : EM h7 n (Wc s m p) (mcm (s, n, p, k)) S l := by unfold EM; rw [GT_step h8 mcm_bit (by omega) hpS]; rw [show y = n by omega] at E7; exact E7
                    exact ihD (l + 1) h7 (by omega) X7 (fun a b ha hb => by rw [Y7.1 8 27 (by omega)]; exact C9 a b ha hb) ⟨fun S' h1 h2 x hx => (I9.1 S' h1 h2 x hx).mv Y7 (by omega) (by omega) (by omega), fun x hx => by
                      by_cases q : x = l
                      · rw [q]; exact hE
                      · exact (I9.2 x (by omega)).mv Y7 (by omega) (by omega) (by omega)⟩
                  · exact absurd hm7 (by omega)
                | succ me ihE =>
                  intro y h7 hm7 X7 Y7 E7
                  refine R_s 4 (143, [(4, vI (nI y)), (3, vI (nI l)), (2, vI (nI S)), (0, vR 8 20), (1, vI m)], [vI (nI 0), vR 8 21, vI (nI y)], h7) rfl ?_
                  refine R_ld 8 21 0 125 rfl rfl (by omega) (by decide) ?_
                  refine R_top (nI n) (((M.fm X7) 0 (by decide)).trans F.1.1) ?_
                  refine R_s 1 (cond (if2 .ge (nI y) (nI n)) 197 147, [(4, vI (nI y)), (3, vI (nI l)), (2, vI (nI S)), (0, vR 8 20), (1, vI m)], [], h7) rfl ?_
                  refine R_bp (n ≤ y) (i2_ge (by omega) (by omega)) (fun c6 => ?_) (fun c6 => ?_)
                  · refine R_s 1 (200, [(3, vI (nI l + Int32.ofInt 1)), (4, vI (nI y)), (2, vI (nI S)), (0, vR 8 20), (1, vI m)], [], h7) rfl ?_
                    refine R_lv (lv' := [(3, vI (nI (l + 1))), (4, vI (nI y)), (2, vI (nI S)), (0, vR 8 20), (1, vI m)]) (by rw [show nI l + Int32.ofInt 1 = nI (l + 1) from nI_add _ _]) ?_
                    refine R_s 1 (74, [(3, vI (nI (l + 1))), (4, vI (nI y)), (2, vI (nI S)), (0, vR 8 20), (1, vI m)], [], h7) rfl ?_
                    refine R_fg (lv' := [(3, vI (nI (l + 1))), (2, vI (nI S)), (0, vR 8 20), (1, vI m)]) [0, 2, 3, 4] rfl [3, 4, 2, 0, 1] rfl (by decide) ?_
                    have hE : EM h7 n (Wc s m p) (mcm (s, n, p, k)) S l := by unfold EM; rw [GT_step h8 mcm_bit (by omega) hpS]; rw [show y = n by omega] at E7; exact E7
                    exact ihD (l + 1) h7 (by omega) X7 (fun a b ha hb => by rw [Y7.1 8 27 (by omega)]; exact C9 a b ha hb) ⟨fun S' h1 h2 x hx => (I9.1 S' h1 h2 x hx).mv Y7 (by omega) (by omega) (by omega), fun x hx => by
                      by_cases q : x = l
                      · rw [q]; exact hE
                      · exact (I9.2 x (by omega)).mv Y7 (by omega) (by omega) (by omega)⟩
                  · refine R_s 3 (151, [(4, vI (nI y)), (3, vI (nI l)), (2, vI (nI S)), (0, vR 8 20), (1, vI m)], [vI (nI y), vI (nI S), vR 8 20], h7) rfl ?_
                    refine R_calli mM_mayCome [vR 8 20, vI (nI S), vI (nI y)] [] (bI (mcm (s, n, p, k) S y)) h7 rfl (t_M_mayCome (show S < 256 by omega) (show y < n by omega) (M.fm X7) F) ?_
                    refine R_s 1 (cond (if0 .eq (bI (mcm (s, n, p, k) S y))) 191 157, [(4, vI (nI y)), (3, vI (nI l)), (2, vI (nI S)), (0, vR 8 20), (1, vI m)], [], h7) rfl ?_
                    refine R_bp (mcm (s, n, p, k) S y = false) (x0_eq.trans bI_eq) (fun c7 => ?_) (fun c7 => ?_)
                    · refine R_s 1 (194, [(4, vI (nI y + Int32.ofInt 1)), (3, vI (nI l)), (2, vI (nI S)), (0, vR 8 20), (1, vI m)], [], h7) rfl ?_
                      refine R_lv (lv' := [(4, vI (nI (y + 1))), (3, vI (nI l)), (2, vI (nI S)), (0, vR 8 20), (1, vI m)]) (by rw [show nI y + Int32.ofInt 1 = nI (y + 1) from nI_add _ _]) ?_
                      refine R_s 1 (136, [(4, vI (nI (y + 1))), (3, vI (nI l)), (2, vI (nI S)), (0, vR 8 20), (1, vI m)], [], h7) rfl ?_
                      exact ihE (y + 1) h7 (by omega) X7 Y7 (by show EN h7 _ (comb (fd (cand (Wc s m p) (mcm (s, n, p, k)) (GT n (Wc s m p) (mcm (s, n, p, k))) S l) y) ((cand (Wc s m p) (mcm (s, n, p, k)) (GT n (Wc s m p) (mcm (s, n, p, k))) S l) y)); rw [comb_none (by unfold cand; rw [if_neg (by rw [c7]; decide)])]; exact E7)
                    · have c7 := tf c7
                      have hor := or_lt (n := n) (S := S) (x := y) (by omega) (by omega)
                      have hgt := or_gt (mcm_bit S y c7)
                      refine R_s 3 (161, [(4, vI (nI y)), (3, vI (nI l)), (2, vI (nI S)), (0, vR 8 20), (1, vI m)], [vI (nI S), vI (nI 8), vR 8 20], h7) rfl ?_
                      refine R_mul 8 S rfl ?_
                      refine R_s 1 (163, [(4, vI (nI y)), (3, vI (nI l)), (2, vI (nI S)), (0, vR 8 20), (1, vI m)], [vI (nI l), vI (nI (8 * S)), vR 8 20], h7) rfl ?_
                      refine R_add (8 * S) l rfl ?_
                      refine R_s 6 (172, [(4, vI (nI y)), (3, vI (nI l)), (2, vI (nI S)), (0, vR 8 20), (1, vI m)], [vI ((nI S) ||| ((nI 1) <<< ((nI y) &&& 31))), vI (nI 8), vI (nI ((8 * S) + l)), vR 8 20], h7) rfl ?_
                      refine R_top (nI (S ||| 2 ^ y)) (bit_or S (by omega) y (by omega)) ?_
                      refine R_mul 8 (S ||| 2 ^ y) rfl ?_
                      refine R_s 1 (175, [(4, vI (nI y)), (3, vI (nI l)), (2, vI (nI S)), (0, vR 8 20), (1, vI m)], [vI (nI y), vI (nI (8 * (S ||| 2 ^ y))), vI (nI ((8 * S) + l)), vR 8 20], h7) rfl ?_
                      refine R_add (8 * (S ||| 2 ^ y)) y rfl ?_
                      refine R_s 4 (183, [(4, vI (nI y)), (3, vI (nI l)), (2, vI (nI S)), (0, vR 8 20), (1, vI m)], [vI (nI l), vI (nI 8), vR 8 27, vI (nI ((8 * (S ||| 2 ^ y)) + y)), vI (nI ((8 * S) + l)), vR 8 20], h7) rfl ?_
                      refine R_mul 8 l rfl ?_
                      refine R_s 1 (186, [(4, vI (nI y)), (3, vI (nI l)), (2, vI (nI S)), (0, vR 8 20), (1, vI m)], [vI (nI y), vI (nI (8 * l)), vR 8 27, vI (nI ((8 * (S ||| 2 ^ y)) + y)), vI (nI ((8 * S) + l)), vR 8 20], h7) rfl ?_
                      refine R_add (8 * l) y rfl ?_
                      refine R_ld 8 27 ((8 * l) + y) 64 rfl rfl (by omega) (by decide) ?_
                      refine R_top (nI (Wc s m p l y)) ((congrFun (Y7.1 8 27 (by omega)) _).trans (C9 l y (by omega) (by omega))) ?_
                      have hU : EM h7 n (Wc s m p) (mcm (s, n, p, k)) (S ||| 2 ^ y) y := (I9.1 _ hgt hor y (by omega)).mv Y7 (by omega) (by omega) (by omega)
                      have hwl := hW l y
                      refine R_call mM_takes [vR 8 20, vI (nI ((8 * S) + l)), vI (nI ((8 * (S ||| 2 ^ y)) + y)), vI (nI (Wc s m p l y))] [] rfl (t_M_takes (by omega) (by omega) E7 hU (fd_lt h8 hW y) (GT_lt h8 hW) (by omega)) (fun r h6 e6 => ?_)
                      obtain ⟨rfl, E6, X6⟩ := e6
                      show R _ mM_layBest (191, [(4, vI (nI y)), (3, vI (nI l)), (2, vI (nI S)), (0, vR 8 20), (1, vI m)], [], h6) _
                      refine R_s 1 (194, [(4, vI (nI y + Int32.ofInt 1)), (3, vI (nI l)), (2, vI (nI S)), (0, vR 8 20), (1, vI m)], [], h6) rfl ?_
                      refine R_lv (lv' := [(4, vI (nI (y + 1))), (3, vI (nI l)), (2, vI (nI S)), (0, vR 8 20), (1, vI m)]) (by rw [show nI y + Int32.ofInt 1 = nI (y + 1) from nI_add _ _]) ?_
                      refine R_s 1 (136, [(4, vI (nI (y + 1))), (3, vI (nI l)), (2, vI (nI S)), (0, vR 8 20), (1, vI m)], [], h6) rfl ?_
                      have hcd : (cand (Wc s m p) (mcm (s, n, p, k)) (GT n (Wc s m p) (mcm (s, n, p, k))) S l) y = ((GT n (Wc s m p) (mcm (s, n, p, k)) (S ||| 2 ^ y) y).1.map (fun x => Wc s m p l y + x), (GT n (Wc s m p) (mcm (s, n, p, k)) (S ||| 2 ^ y) y).2) := by unfold cand; rw [if_pos c7, if_neg (show ¬ S = 0 by omega)]
                      exact ihE (y + 1) h6 (by omega) (X7.tr X6.fm) (Y7.tr X6) (by show EN h6 _ (comb (fd (cand (Wc s m p) (mcm (s, n, p, k)) (GT n (Wc s m p) (mcm (s, n, p, k))) S l) y) ((cand (Wc s m p) (mcm (s, n, p, k)) (GT n (Wc s m p) (mcm (s, n, p, k))) S l) y)); rw [hcd]; exact E6)
              · have c5 := Classical.not_not.mp c5
                refine R_s 2 (108, [(3, vI (nI l)), (2, vI (nI S)), (0, vR 8 20), (1, vI m)], [vI (nI 0), vI (nI ((8 * S) + l)), vR 8 25], h9) rfl ?_
                refine R_st 8 25 ((8 * S) + l) 2048 (nI 0) rfl rfl (by omega) (by decide) (fun h7 eh7 => ?_)
                have M8 : MS 21 h7 s := by rw [eh7]; exact M.fm (X9.set (by omega))
                refine R_s 4 (116, [(3, vI (nI l)), (2, vI (nI S)), (0, vR 8 20), (1, vI m)], [vI (nI S), vI (nI 8), vR 8 26], h7) rfl ?_
                refine R_mul 8 S rfl ?_
                refine R_s 1 (118, [(3, vI (nI l)), (2, vI (nI S)), (0, vR 8 20), (1, vI m)], [vI (nI l), vI (nI (8 * S)), vR 8 26], h7) rfl ?_
                refine R_add (8 * S) l rfl ?_
                refine R_s 2 (121, [(3, vI (nI l)), (2, vI (nI S)), (0, vR 8 20), (1, vI m)], [vR 8 20, vI (nI S), vI (nI ((8 * S) + l)), vR 8 26], h7) rfl ?_
                refine R_calli mM_all [vR 8 20] [vI (nI S), vI (nI ((8 * S) + l)), vR 8 26] (nI (2 ^ n - 1)) h7 rfl (t_M_all M8 F) ?_
                refine R_s 1 (cond (if2 .ne (nI S) (nI (2 ^ n - 1))) 131 127, [(3, vI (nI l)), (2, vI (nI S)), (0, vR 8 20), (1, vI m)], [vI (nI ((8 * S) + l)), vR 8 26], h7) rfl ?_
                refine R_bf (by cases q : if2 .ne (nI S) (nI (2 ^ n - 1)) with
                  | false => rfl
                  | true => exact absurd c5 ((i2_ne (by omega) (by omega)).mp q)) ?_
                refine R_s 2 (132, [(3, vI (nI l)), (2, vI (nI S)), (0, vR 8 20), (1, vI m)], [vI (nI 1), vI (nI ((8 * S) + l)), vR 8 26], h7) rfl ?_
                refine R_st 8 26 ((8 * S) + l) 2048 (nI 1) rfl rfl (by omega) (by decide) (fun h8 eh8 => ?_)
                refine R_s 2 (136, [(4, vI (nI 0)), (3, vI (nI l)), (2, vI (nI S)), (0, vR 8 20), (1, vI m)], [], h8) rfl ?_
                have X8 : FX h9 h8 (8 * S + l) := by
                  rw [eh8, eh7]
                  refine ⟨fun g' j' e => by rw [hs_ne (by omega), hs_ne (by omega)], fun x e => ⟨by rw [hs_ne (by omega), hs_same, up_ne e], by rw [hs_same, up_ne e, hs_ne (by omega)]⟩⟩
                have E8 : EN h8 (8 * S + l) (some 0, 1) := by rw [eh8, eh7]; exact ⟨by rw [hs_ne (by omega), hs_same, up_same]; rfl, by rw [hs_same, up_same]⟩
                have hpS : pop S = n := by rw [c5]; exact pop_full n (by omega)
                have hall : ∀ y, y < n → mcm (s, n, p, k) S y = false := fun y hy => bool_f (fun q => by have h1 := mcm_bit S y q; rw [c5, full_bit n (by omega) y hy] at h1; cases h1)
                have hG : GT n (Wc s m p) (mcm (s, n, p, k)) S l = (some 0, 1) := GT_full (by omega)
                suffices ∀ me (y : Nat) (h7 : HP) (hm7 : y + me = n) (X7 : FM h h7) (Y7 : FX h9 h7 (8 * S + l)) (E7 : EN h7 (8 * S + l) (some 0, 1)), R (d + 5) mM_layBest (136, [(4, vI (nI y)), (3, vI (nI l)), (2, vI (nI S)), (0, vR 8 20), (1, vI m)], [], h7) _ from this n 0 h8 (by omega) (X9.tr X8.fm) X8 E8
                intro me
                induction me with
                | zero =>
                  intro y h7 hm7 X7 Y7 E7
                  refine R_s 4 (143, [(4, vI (nI y)), (3, vI (nI l)), (2, vI (nI S)), (0, vR 8 20), (1, vI m)], [vI (nI 0), vR 8 21, vI (nI y)], h7) rfl ?_
                  refine R_ld 8 21 0 125 rfl rfl (by omega) (by decide) ?_
                  refine R_top (nI n) (((M.fm X7) 0 (by decide)).trans F.1.1) ?_
                  refine R_s 1 (cond (if2 .ge (nI y) (nI n)) 197 147, [(4, vI (nI y)), (3, vI (nI l)), (2, vI (nI S)), (0, vR 8 20), (1, vI m)], [], h7) rfl ?_
                  refine R_bp (n ≤ y) (i2_ge (by omega) (by omega)) (fun c6 => ?_) (fun c6 => ?_)
                  · refine R_s 1 (200, [(3, vI (nI l + Int32.ofInt 1)), (4, vI (nI y)), (2, vI (nI S)), (0, vR 8 20), (1, vI m)], [], h7) rfl ?_
                    refine R_lv (lv' := [(3, vI (nI (l + 1))), (4, vI (nI y)), (2, vI (nI S)), (0, vR 8 20), (1, vI m)]) (by rw [show nI l + Int32.ofInt 1 = nI (l + 1) from nI_add _ _]) ?_
                    refine R_s 1 (74, [(3, vI (nI (l + 1))), (4, vI (nI y)), (2, vI (nI S)), (0, vR 8 20), (1, vI m)], [], h7) rfl ?_
                    refine R_fg (lv' := [(3, vI (nI (l + 1))), (2, vI (nI S)), (0, vR 8 20), (1, vI m)]) [0, 2, 3, 4] rfl [3, 4, 2, 0, 1] rfl (by decide) ?_
                    have hE : EM h7 n (Wc s m p) (mcm (s, n, p, k)) S l := by unfold EM; rw [hG]; exact E7
                    exact ihD (l + 1) h7 (by omega) X7 (fun a b ha hb => by rw [Y7.1 8 27 (by omega)]; exact C9 a b ha hb) ⟨fun S' h1 h2 x hx => (I9.1 S' h1 h2 x hx).mv Y7 (by omega) (by omega) (by omega), fun x hx => by
                      by_cases q : x = l
                      · rw [q]; exact hE
                      · exact (I9.2 x (by omega)).mv Y7 (by omega) (by omega) (by omega)⟩
                  · exact absurd hm7 (by omega)
                | succ me ihE =>
                  intro y h7 hm7 X7 Y7 E7
                  refine R_s 4 (143, [(4, vI (nI y)), (3, vI (nI l)), (2, vI (nI S)), (0, vR 8 20), (1, vI m)], [vI (nI 0), vR 8 21, vI (nI y)], h7) rfl ?_
                  refine R_ld 8 21 0 125 rfl rfl (by omega) (by decide) ?_
                  refine R_top (nI n) (((M.fm X7) 0 (by decide)).trans F.1.1) ?_
                  refine R_s 1 (cond (if2 .ge (nI y) (nI n)) 197 147, [(4, vI (nI y)), (3, vI (nI l)), (2, vI (nI S)), (0, vR 8 20), (1, vI m)], [], h7) rfl ?_
                  refine R_bp (n ≤ y) (i2_ge (by omega) (by omega)) (fun c6 => ?_) (fun c6 => ?_)
                  · refine R_s 1 (200, [(3, vI (nI l + Int32.ofInt 1)), (4, vI (nI y)), (2, vI (nI S)), (0, vR 8 20), (1, vI m)], [], h7) rfl ?_
                    refine R_lv (lv' := [(3, vI (nI (l + 1))), (4, vI (nI y)), (2, vI (nI S)), (0, vR 8 20), (1, vI m)]) (by rw [show nI l + Int32.ofInt 1 = nI (l + 1) from nI_add _ _]) ?_
                    refine R_s 1 (74, [(3, vI (nI (l + 1))), (4, vI (nI y)), (2, vI (nI S)), (0, vR 8 20), (1, vI m)], [], h7) rfl ?_
                    refine R_fg (lv' := [(3, vI (nI (l + 1))), (2, vI (nI S)), (0, vR 8 20), (1, vI m)]) [0, 2, 3, 4] rfl [3, 4, 2, 0, 1] rfl (by decide) ?_
                    have hE : EM h7 n (Wc s m p) (mcm (s, n, p, k)) S l := by unfold EM; rw [hG]; exact E7
                    exact ihD (l + 1) h7 (by omega) X7 (fun a b ha hb => by rw [Y7.1 8 27 (by omega)]; exact C9 a b ha hb) ⟨fun S' h1 h2 x hx => (I9.1 S' h1 h2 x hx).mv Y7 (by omega) (by omega) (by omega), fun x hx => by
                      by_cases q : x = l
                      · rw [q]; exact hE
                      · exact (I9.2 x (by omega)).mv Y7 (by omega) (by omega) (by omega)⟩
                  · refine R_s 3 (151, [(4, vI (nI y)), (3, vI (nI l)), (2, vI (nI S)), (0, vR 8 20), (1, vI m)], [vI (nI y), vI (nI S), vR 8 20], h7) rfl ?_
                    refine R_calli mM_mayCome [vR 8 20, vI (nI S), vI (nI y)] [] (bI (mcm (s, n, p, k) S y)) h7 rfl (t_M_mayCome (show S < 256 by omega) (show y < n by omega) (M.fm X7) F) ?_
                    refine R_s 1 (cond (if0 .eq (bI (mcm (s, n, p, k) S y))) 191 157, [(4, vI (nI y)), (3, vI (nI l)), (2, vI (nI S)), (0, vR 8 20), (1, vI m)], [], h7) rfl ?_
                    refine R_bp (mcm (s, n, p, k) S y = false) (x0_eq.trans bI_eq) (fun c7 => ?_) (fun c7 => ?_)
                    · refine R_s 1 (194, [(4, vI (nI y + Int32.ofInt 1)), (3, vI (nI l)), (2, vI (nI S)), (0, vR 8 20), (1, vI m)], [], h7) rfl ?_
                      refine R_lv (lv' := [(4, vI (nI (y + 1))), (3, vI (nI l)), (2, vI (nI S)), (0, vR 8 20), (1, vI m)]) (by rw [show nI y + Int32.ofInt 1 = nI (y + 1) from nI_add _ _]) ?_
                      refine R_s 1 (136, [(4, vI (nI (y + 1))), (3, vI (nI l)), (2, vI (nI S)), (0, vR 8 20), (1, vI m)], [], h7) rfl ?_
                      exact ihE (y + 1) h7 (by omega) X7 Y7 E7
                    · exact absurd (hall y (by omega)) c7
    · refine R_s 2 (14, [(3, vI (nI 0)), (2, vI (nI a)), (0, vR 8 20), (1, vI m)], [], hh) rfl ?_
      suffices ∀ mb (b : Nat) (h9 : HP) (hm9 : b + mb = n) (X9 : FM h h9) (K9 : ∀ x y, y < n → (x < a ∨ (x = a ∧ y < b)) → h9 8 27 (8 * x + y) = nI (Wc s m p x y)), R (d + 5) mM_layBest (14, [(3, vI (nI b)), (2, vI (nI a)), (0, vR 8 20), (1, vI m)], [], h9) _ from this n 0 hh (by omega) X (fun x y hy hq => K x y (by omega) hy)
      intro mb
      induction mb with
      | zero =>
        intro b h9 hm9 X9 K9
        refine R_s 4 (20, [(3, vI (nI b)), (2, vI (nI a)), (0, vR 8 20), (1, vI m)], [vI (nI 0), vR 8 21, vI (nI b)], h9) rfl ?_
        refine R_ld 8 21 0 125 rfl rfl (by omega) (by decide) ?_
        refine R_top (nI n) (((M.fm X9) 0 (by decide)).trans F.1.1) ?_
        refine R_s 1 (cond (if2 .ge (nI b) (nI n)) 57 24, [(3, vI (nI b)), (2, vI (nI a)), (0, vR 8 20), (1, vI m)], [], h9) rfl ?_
        refine R_bp (n ≤ b) (i2_ge (by omega) (by omega)) (fun c2 => ?_) (fun c2 => ?_)
        · refine R_s 1 (60, [(2, vI (nI a + Int32.ofInt 1)), (3, vI (nI b)), (0, vR 8 20), (1, vI m)], [], h9) rfl ?_
          refine R_lv (lv' := [(2, vI (nI (a + 1))), (3, vI (nI b)), (0, vR 8 20), (1, vI m)]) (by rw [show nI a + Int32.ofInt 1 = nI (a + 1) from nI_add _ _]) ?_
          refine R_s 1 (2, [(2, vI (nI (a + 1))), (3, vI (nI b)), (0, vR 8 20), (1, vI m)], [], h9) rfl ?_
          refine R_fg (lv' := [(2, vI (nI (a + 1))), (0, vR 8 20), (1, vI m)]) [0, 2, 3] rfl [2, 3, 0, 1] rfl (by decide) ?_
          exact ihA (a + 1) h9 (by omega) X9 (fun x y hx hy => K9 x y hy (by omega))
        · exact absurd hm9 (by omega)
      | succ mb ihB =>
        intro b h9 hm9 X9 K9
        refine R_s 4 (20, [(3, vI (nI b)), (2, vI (nI a)), (0, vR 8 20), (1, vI m)], [vI (nI 0), vR 8 21, vI (nI b)], h9) rfl ?_
        refine R_ld 8 21 0 125 rfl rfl (by omega) (by decide) ?_
        refine R_top (nI n) (((M.fm X9) 0 (by decide)).trans F.1.1) ?_
        refine R_s 1 (cond (if2 .ge (nI b) (nI n)) 57 24, [(3, vI (nI b)), (2, vI (nI a)), (0, vR 8 20), (1, vI m)], [], h9) rfl ?_
        refine R_bp (n ≤ b) (i2_ge (by omega) (by omega)) (fun c2 => ?_) (fun c2 => ?_)
        · refine R_s 1 (60, [(2, vI (nI a + Int32.ofInt 1)), (3, vI (nI b)), (0, vR 8 20), (1, vI m)], [], h9) rfl ?_
          refine R_lv (lv' := [(2, vI (nI (a + 1))), (3, vI (nI b)), (0, vR 8 20), (1, vI m)]) (by rw [show nI a + Int32.ofInt 1 = nI (a + 1) from nI_add _ _]) ?_
          refine R_s 1 (2, [(2, vI (nI (a + 1))), (3, vI (nI b)), (0, vR 8 20), (1, vI m)], [], h9) rfl ?_
          refine R_fg (lv' := [(2, vI (nI (a + 1))), (0, vR 8 20), (1, vI m)]) [0, 2, 3] rfl [2, 3, 0, 1] rfl (by decide) ?_
          exact ihA (a + 1) h9 (by omega) X9 (fun x y hx hy => K9 x y hy (by omega))
        · refine R_s 4 (31, [(3, vI (nI b)), (2, vI (nI a)), (0, vR 8 20), (1, vI m)], [vI (nI a), vI (nI 8), vR 8 27], h9) rfl ?_
          refine R_mul 8 a rfl ?_
          refine R_s 1 (33, [(3, vI (nI b)), (2, vI (nI a)), (0, vR 8 20), (1, vI m)], [vI (nI b), vI (nI (8 * a)), vR 8 27], h9) rfl ?_
          refine R_add (8 * a) b rfl ?_
          refine R_s 3 (cond (if2 .ne (nI a) (nI b)) 43 39, [(3, vI (nI b)), (2, vI (nI a)), (0, vR 8 20), (1, vI m)], [vI (nI ((8 * a) + b)), vR 8 27], h9) rfl ?_
          refine R_bp (¬ a = b) (i2_ne (by omega) (by omega)) (fun c4 => ?_) (fun c4 => ?_)
          · refine R_s 4 (47, [(3, vI (nI b)), (2, vI (nI a)), (0, vR 8 20), (1, vI m)], [vI m, vI (nI b), vI (nI a), vR 8 20, vI (nI ((8 * a) + b)), vR 8 27], h9) rfl ?_
            refine R_calli mM_between [vR 8 20, vI (nI a), vI (nI b), vI m] [vI (nI ((8 * a) + b)), vR 8 27] (nI (btw s m p a b p)) h9 rfl (t_M_between (by omega) (by omega) (M.fm X9) F) ?_
            refine R_st 8 27 ((8 * a) + b) 64 (nI (btw s m p a b p)) rfl rfl (by omega) (by decide) (fun h9 eh9 => ?_)
            refine R_s 1 (54, [(3, vI (nI b + Int32.ofInt 1)), (2, vI (nI a)), (0, vR 8 20), (1, vI m)], [], h9) rfl ?_
            refine R_lv (lv' := [(3, vI (nI (b + 1))), (2, vI (nI a)), (0, vR 8 20), (1, vI m)]) (by rw [show nI b + Int32.ofInt 1 = nI (b + 1) from nI_add _ _]) ?_
            refine R_s 1 (14, [(3, vI (nI (b + 1))), (2, vI (nI a)), (0, vR 8 20), (1, vI m)], [], h9) rfl ?_
            refine ihB (b + 1) h9 (by omega) (by rw [eh9]; exact X9.set (by omega)) (fun x y hy hq => ?_)
            rw [eh9, hs_same]
            by_cases q : x = a ∧ y = b
            · obtain ⟨rfl, rfl⟩ := q; rw [up_same]; unfold Wc; rw [if_pos ⟨by omega, by omega, c4⟩]
            · rw [up_ne (by omega)]; exact K9 x y hy (by omega)
          · have c4 := Classical.not_not.mp c4
            refine R_s 2 (50, [(3, vI (nI b)), (2, vI (nI a)), (0, vR 8 20), (1, vI m)], [vI (nI 0), vI (nI ((8 * a) + b)), vR 8 27], h9) rfl ?_
            refine R_st 8 27 ((8 * a) + b) 64 (nI 0) rfl rfl (by omega) (by decide) (fun h10 eh10 => ?_)
            refine R_s 1 (54, [(3, vI (nI b + Int32.ofInt 1)), (2, vI (nI a)), (0, vR 8 20), (1, vI m)], [], h10) rfl ?_
            refine R_lv (lv' := [(3, vI (nI (b + 1))), (2, vI (nI a)), (0, vR 8 20), (1, vI m)]) (by rw [show nI b + Int32.ofInt 1 = nI (b + 1) from nI_add _ _]) ?_
            refine R_s 1 (14, [(3, vI (nI (b + 1))), (2, vI (nI a)), (0, vR 8 20), (1, vI m)], [], h10) rfl ?_
            refine ihB (b + 1) h10 (by omega) (by rw [eh10]; exact X9.set (by omega)) (fun x y hy hq => ?_)
            rw [eh10, hs_same]
            by_cases q : x = a ∧ y = b
            · obtain ⟨rfl, rfl⟩ := q; rw [up_same]; unfold Wc; rw [if_neg (fun z => z.2.2 c4)]
            · rw [up_ne (by omega)]; exact K9 x y hy (by omega)
