def FO3 (h h' : HP) : Prop := ∀ g' j', ¬ (g' = 7 ∧ (j' = 15 ∨ j' = 16 ∨ j' = 17)) → h' g' j' = h g' j'
theorem vpz (b : Bool) : vp_nar .boolean (bI b) = bI b := by cases b <;> decide
/-- the costs and the places of a concert -/
def Wc (s : Nat → Int32) (m : Int32) (p a b : Nat) : Nat := if a < 8 ∧ b < 8 ∧ ¬ a = b then btw s m p a b p else 0
theorem cof_le {s : Nat → Int32} {m : Int32} {n p k a b q : Nat} (F : WF s n p k) (ha : a < 8) (hb : b < 8) (hq : q < 5) : cof s m p a b q ≤ 7 := by
  have key := chg_kd s m p a b q
  unfold cof
  split
  · have := far_le s q (kd s b q); omega
  · have := far_le s q (kd s a q); omega
  · have := far_le s q (kd s b q); have := far_le s q (kd s a q); omega
  · have := far_le s q (kd s b q); omega
  · rename_i e
    rw [e] at key
    obtain ⟨t, ht, et⟩ := ((F.2.2.2.2.2.1 a ha q hq).resolve_left key.1).2
    obtain ⟨u, hu, eu⟩ := ((F.2.2.2.2.2.1 b hb q hq).resolve_left key.2).2
    rw [et, eu]
    have h : ∀ t, t < 6 → ∀ u, u < 6 → 2 + dst (nI t) (nI u) ≤ 7 := by decide +kernel
    exact h t (by omega) u (by omega)
  · omega
theorem btw_le {s : Nat → Int32} {m : Int32} {n p k a b : Nat} (F : WF s n p k) (ha : a < 8) (hb : b < 8) : ∀ q, q ≤ 5 → btw s m p a b q ≤ 7 * q := by
  intro q
  induction q with
  | zero => intro _; exact Nat.le_refl _
  | succ q ih =>
    intro hq
    show btw s m p a b q + cof s m p a b q ≤ 7 * (q + 1)
    have := ih (by omega)
    have := cof_le (m := m) F ha hb (show q < 5 by omega)
    omega
theorem Wc_le {s : Nat → Int32} {m : Int32} {n p k : Nat} (F : WF s n p k) : ∀ a b, Wc s m p a b ≤ 35 := by
  intro a b
  unfold Wc
  split
  · rename_i q
    have := btw_le (m := m) F q.1 q.2.1 p F.2.1.2.1
    have := F.2.1.2.1
    omega
  · omega
/-- loading goes on: the rows before a, and b cells of row a -/
def LI (h h' : HP) (n : Nat) (W : Nat → Nat → Nat) (B : Nat → Nat → Bool) (a b : Nat) : Prop := FO3 h h' ∧ h' 7 15 0 = nI n ∧ ∀ x y, x < n → y < n → (x < a ∨ (x = a ∧ y < b)) → h' 7 16 (x * 8 + y) = nI (W x y) ∧ h' 7 17 (x * 8 + y) = bI (B x y)
theorem t_O_load {d g n p k e : Nat} {h : HP} {s : Nat → Int32} (hg : ¬ g = 7) (C : CO h g s n p k) (F : WF s n p k) (he : s 9 = nI e) (hen : e < 2 ^ n) : MT (d + 4) mO_load [vR 7 15, vR g 0] h (fun r h' => r = none ∧ TL h' n (Wc s (-1) p) (msb s e n) ∧ FO3 h h') := by
  have h8 := F.2.1.1
  have cof9 : ∀ {h2 : HP}, FO3 h h2 → CO h2 g s n p k := fun A => co_frame C (fun j => A g j (fun q => hg q.1))
  refine R_s 3 (5, [(0, vR 7 15), (1, vR g 0)], [vI (h g 0 0), vR 7 15], h) rfl ?_
  refine R_top (nI n) C.1.1 ?_
  refine R_s 1 (8, [(0, vR 7 15), (1, vR g 0)], [], (hset h 7 15 0 (nI n))) rfl ?_
  refine R_hp (fun h1 eh1 => ?_)
  refine R_s 2 (10, [(2, vI (nI 0)), (0, vR 7 15), (1, vR g 0)], [], h1) rfl ?_
  have I0 : LI h h1 n (Wc s (-1) p) (msb s e n) 0 0 := ⟨fun g' j' q => by rw [eh1, hs_ne (fun z => q ⟨z.1, Or.inl z.2⟩)], by rw [eh1, hs_same, up_same], fun x y hx hy z => by omega⟩
  suffices ∀ m a hh, a + m = n → LI h hh n (Wc s (-1) p) (msb s e n) a 0 → R (d + 4) mO_load (10, [(2, vI (nI a)), (0, vR 7 15), (1, vR g 0)], [], hh) (fun r h' => r = none ∧ TL h' n (Wc s (-1) p) (msb s e n) ∧ FO3 h h') from this n 0 h1 (by omega) I0
  intro m
  induction m with
  | zero =>
    intro a hh hm I
    refine R_s 3 (15, [(2, vI (nI a)), (0, vR 7 15), (1, vR g 0)], [vI (hh 7 15 0), vI (nI a)], hh) rfl ?_
    refine R_top (nI n) I.2.1 ?_
    refine R_s 1 (cond (if2 .ge (nI a) (nI n)) 83 18, [(2, vI (nI a)), (0, vR 7 15), (1, vR g 0)], [], hh) rfl ?_
    refine R_bp (n ≤ a) (i2_ge (by omega) (by omega)) (fun c1 => ?_) (fun c1 => ?_)
    · exact R_ret none hh rfl ⟨rfl, ⟨I.2.1, fun x y hx hy => (I.2.2 x y hx hy (Or.inl (by omega))).1, fun x y hx hy => (I.2.2 x y hx hy (Or.inl (by omega))).2⟩, I.1⟩
    · exact absurd hm (by omega)
  | succ m ih =>
    intro a hh hm I
    refine R_s 3 (15, [(2, vI (nI a)), (0, vR 7 15), (1, vR g 0)], [vI (hh 7 15 0), vI (nI a)], hh) rfl ?_
    refine R_top (nI n) I.2.1 ?_
    refine R_s 1 (cond (if2 .ge (nI a) (nI n)) 83 18, [(2, vI (nI a)), (0, vR 7 15), (1, vR g 0)], [], hh) rfl ?_
    refine R_bp (n ≤ a) (i2_ge (by omega) (by omega)) (fun c1 => ?_) (fun c1 => ?_)
    · exact R_ret none hh rfl ⟨rfl, ⟨I.2.1, fun x y hx hy => (I.2.2 x y hx hy (Or.inl (by omega))).1, fun x y hx hy => (I.2.2 x y hx hy (Or.inl (by omega))).2⟩, I.1⟩
    · refine R_s 2 (20, [(3, vI (nI 0)), (2, vI (nI a)), (0, vR 7 15), (1, vR g 0)], [], hh) rfl ?_
      suffices ∀ m2 b hk, b + m2 = n → LI h hk n (Wc s (-1) p) (msb s e n) a b → R (d + 4) mO_load (20, [(3, vI (nI b)), (2, vI (nI a)), (0, vR 7 15), (1, vR g 0)], [], hk) (fun r h' => r = none ∧ TL h' n (Wc s (-1) p) (msb s e n) ∧ FO3 h h') from this n 0 hh (by omega) I
      intro m2
      induction m2 with
      | zero =>
        intro b hk hm2 J
        refine R_s 3 (25, [(3, vI (nI b)), (2, vI (nI a)), (0, vR 7 15), (1, vR g 0)], [vI (hk 7 15 0), vI (nI b)], hk) rfl ?_
        refine R_top (nI n) J.2.1 ?_
        refine R_s 1 (cond (if2 .ge (nI b) (nI n)) 77 28, [(3, vI (nI b)), (2, vI (nI a)), (0, vR 7 15), (1, vR g 0)], [], hk) rfl ?_
        refine R_bp (n ≤ b) (i2_ge (by omega) (by omega)) (fun c2 => ?_) (fun c2 => ?_)
        · refine R_s 1 (80, [(2, vI (nI a + Int32.ofInt 1)), (3, vI (nI b)), (0, vR 7 15), (1, vR g 0)], [], hk) rfl ?_
          refine R_lv (lv' := [(2, vI (nI (a + 1))), (3, vI (nI b)), (0, vR 7 15), (1, vR g 0)]) (by rw [show nI a + Int32.ofInt 1 = nI (a + 1) from nI_add _ _]) ?_
          refine R_s 1 (10, [(2, vI (nI (a + 1))), (3, vI (nI b)), (0, vR 7 15), (1, vR g 0)], [], hk) rfl ?_
          refine R_fg (lv' := [(2, vI (nI (a + 1))), (0, vR 7 15), (1, vR g 0)]) [0, 2, 3] rfl [2, 3, 0, 1] rfl (by decide) ?_
          exact ih (a + 1) hk (by omega) ⟨J.1, J.2.1, fun x y hx hy z => J.2.2 x y hx hy (by omega)⟩
        · exact absurd hm2 (by omega)
      | succ m2 ih2 =>
        intro b hk hm2 J
        refine R_s 3 (25, [(3, vI (nI b)), (2, vI (nI a)), (0, vR 7 15), (1, vR g 0)], [vI (hk 7 15 0), vI (nI b)], hk) rfl ?_
        refine R_top (nI n) J.2.1 ?_
        refine R_s 1 (cond (if2 .ge (nI b) (nI n)) 77 28, [(3, vI (nI b)), (2, vI (nI a)), (0, vR 7 15), (1, vR g 0)], [], hk) rfl ?_
        refine R_bp (n ≤ b) (i2_ge (by omega) (by omega)) (fun c2 => ?_) (fun c2 => ?_)
        · refine R_s 1 (80, [(2, vI (nI a + Int32.ofInt 1)), (3, vI (nI b)), (0, vR 7 15), (1, vR g 0)], [], hk) rfl ?_
          refine R_lv (lv' := [(2, vI (nI (a + 1))), (3, vI (nI b)), (0, vR 7 15), (1, vR g 0)]) (by rw [show nI a + Int32.ofInt 1 = nI (a + 1) from nI_add _ _]) ?_
          refine R_s 1 (10, [(2, vI (nI (a + 1))), (3, vI (nI b)), (0, vR 7 15), (1, vR g 0)], [], hk) rfl ?_
          refine R_fg (lv' := [(2, vI (nI (a + 1))), (0, vR 7 15), (1, vR g 0)]) [0, 2, 3] rfl [2, 3, 0, 1] rfl (by decide) ?_
          exact ih (a + 1) hk (by omega) ⟨J.1, J.2.1, fun x y hx hy z => J.2.2 x y hx hy (by omega)⟩
        · refine R_s 2 (31, [(3, vI (nI b)), (2, vI (nI a)), (0, vR 7 15), (1, vR g 0)], [vI (nI 8), vI (nI a)], hk) rfl ?_
          refine R_mul a 8 rfl ?_
          refine R_s 1 (33, [(3, vI (nI b)), (2, vI (nI a)), (0, vR 7 15), (1, vR g 0)], [vI (nI b), vI (nI (a * 8))], hk) rfl ?_
          refine R_add (a * 8) b rfl ?_
          refine R_s 7 (cond (if2 .ne (nI a) (nI b)) 51 47, [(4, vI (nI ((a * 8) + b))), (3, vI (nI b)), (2, vI (nI a)), (0, vR 7 15), (1, vR g 0)], [vI (nI ((a * 8) + b)), vR 7 16], hk) rfl ?_
          refine R_bp (¬ a = b) (i2_ne (by omega) (by omega)) (fun c3 => ?_) (fun c3 => ?_)
          · refine R_s 3 (54, [(4, vI (nI ((a * 8) + b))), (3, vI (nI b)), (2, vI (nI a)), (0, vR 7 15), (1, vR g 0)], [vI (nI b), vI (nI a), vR g 0, vI (nI ((a * 8) + b)), vR 7 16], hk) rfl ?_
            refine R_calli mC_costOfChangeover [vR g 0, vI (nI a), vI (nI b)] [vI (nI ((a * 8) + b)), vR 7 16] (nI (btw s (-1) p a b p)) hk rfl (t_C_costOfChangeover (cof9 J.1) F (by omega) (by omega)) ?_
            refine R_st 7 16 ((a * 8) + b) 64 (nI (btw s (-1) p a b p)) rfl rfl (by omega) (by decide) (fun h2 eh2 => ?_)
            refine R_s 6 (67, [(4, vI (nI ((a * 8) + b))), (3, vI (nI b)), (2, vI (nI a)), (0, vR 7 15), (1, vR g 0)], [vI (nI b), vI (nI a), vR g 0, vI (nI ((a * 8) + b)), vR 7 17], h2) rfl ?_
            refine R_calli mC_mayStandAt [vR g 0, vI (nI a), vI (nI b)] [vI (nI ((a * 8) + b)), vR 7 17] (bI (msb s e n a b)) h2 rfl (t_C_mayStandAt (cof9 (fun g' j' q => by rw [eh2, hs_ne (fun z => q ⟨z.1, Or.inr (Or.inl z.2)⟩)]; exact J.1 g' j' q)) h8 he hen (by omega) (by omega)) ?_
            refine R_stb 7 17 ((a * 8) + b) 64 (bI (msb s e n a b)) rfl rfl (by omega) (by decide) (fun h3 eh3 => ?_)
            refine R_s 1 (74, [(3, vI (nI b + Int32.ofInt 1)), (4, vI (nI ((a * 8) + b))), (2, vI (nI a)), (0, vR 7 15), (1, vR g 0)], [], h3) rfl ?_
            refine R_lv (lv' := [(3, vI (nI (b + 1))), (4, vI (nI ((a * 8) + b))), (2, vI (nI a)), (0, vR 7 15), (1, vR g 0)]) (by rw [show nI b + Int32.ofInt 1 = nI (b + 1) from nI_add _ _]) ?_
            refine R_s 1 (20, [(3, vI (nI (b + 1))), (4, vI (nI ((a * 8) + b))), (2, vI (nI a)), (0, vR 7 15), (1, vR g 0)], [], h3) rfl ?_
            refine R_fg (lv' := [(3, vI (nI (b + 1))), (2, vI (nI a)), (0, vR 7 15), (1, vR g 0)]) [0, 2, 3, 4] rfl [3, 4, 2, 0, 1] rfl (by decide) ?_
            exact ih2 (b + 1) _ (by omega) (by
            rw [eh3, eh2, vpz]
            refine ⟨fun g' j' q => ?_, ?_, fun x y hx hy z => ?_⟩
            · rw [hs_ne (fun z => q ⟨z.1, Or.inr (Or.inr z.2)⟩), hs_ne (fun z => q ⟨z.1, Or.inr (Or.inl z.2)⟩)]; exact J.1 g' j' q
            · rw [hs_ne (by omega), hs_ne (by omega)]; exact J.2.1
            · by_cases q : x = a ∧ y = b
              · obtain ⟨rfl, rfl⟩ := q
                refine ⟨?_, ?_⟩
                · rw [hs_ne (by omega), hs_same, up_same]; unfold Wc; rw [if_pos ⟨by omega, by omega, c3⟩]
                · rw [hs_same, up_same]
              · refine ⟨?_, ?_⟩
                · rw [hs_ne (by omega), hs_same, up_ne (by omega)]; exact (J.2.2 x y hx hy (by omega)).1
                · rw [hs_same, up_ne (by omega), hs_ne (by omega)]; exact (J.2.2 x y hx hy (by omega)).2)
          · refine R_s 2 (57, [(4, vI (nI ((a * 8) + b))), (3, vI (nI b)), (2, vI (nI a)), (0, vR 7 15), (1, vR g 0)], [vI (nI 0), vI (nI ((a * 8) + b)), vR 7 16], hk) rfl ?_
            refine R_st 7 16 ((a * 8) + b) 64 (nI 0) rfl rfl (by omega) (by decide) (fun h4 eh4 => ?_)
            refine R_s 6 (67, [(4, vI (nI ((a * 8) + b))), (3, vI (nI b)), (2, vI (nI a)), (0, vR 7 15), (1, vR g 0)], [vI (nI b), vI (nI a), vR g 0, vI (nI ((a * 8) + b)), vR 7 17], h4) rfl ?_
            refine R_calli mC_mayStandAt [vR g 0, vI (nI a), vI (nI b)] [vI (nI ((a * 8) + b)), vR 7 17] (bI (msb s e n a b)) h4 rfl (t_C_mayStandAt (cof9 (fun g' j' q => by rw [eh4, hs_ne (fun z => q ⟨z.1, Or.inr (Or.inl z.2)⟩)]; exact J.1 g' j' q)) h8 he hen (by omega) (by omega)) ?_
            refine R_stb 7 17 ((a * 8) + b) 64 (bI (msb s e n a b)) rfl rfl (by omega) (by decide) (fun h5 eh5 => ?_)
            refine R_s 1 (74, [(3, vI (nI b + Int32.ofInt 1)), (4, vI (nI ((a * 8) + b))), (2, vI (nI a)), (0, vR 7 15), (1, vR g 0)], [], h5) rfl ?_
            refine R_lv (lv' := [(3, vI (nI (b + 1))), (4, vI (nI ((a * 8) + b))), (2, vI (nI a)), (0, vR 7 15), (1, vR g 0)]) (by rw [show nI b + Int32.ofInt 1 = nI (b + 1) from nI_add _ _]) ?_
            refine R_s 1 (20, [(3, vI (nI (b + 1))), (4, vI (nI ((a * 8) + b))), (2, vI (nI a)), (0, vR 7 15), (1, vR g 0)], [], h5) rfl ?_
            refine R_fg (lv' := [(3, vI (nI (b + 1))), (2, vI (nI a)), (0, vR 7 15), (1, vR g 0)]) [0, 2, 3, 4] rfl [3, 4, 2, 0, 1] rfl (by decide) ?_
            exact ih2 (b + 1) _ (by omega) (by
            rw [eh5, eh4, vpz]
            refine ⟨fun g' j' q => ?_, ?_, fun x y hx hy z => ?_⟩
            · rw [hs_ne (fun z => q ⟨z.1, Or.inr (Or.inr z.2)⟩), hs_ne (fun z => q ⟨z.1, Or.inr (Or.inl z.2)⟩)]; exact J.1 g' j' q
            · rw [hs_ne (by omega), hs_ne (by omega)]; exact J.2.1
            · by_cases q : x = a ∧ y = b
              · obtain ⟨rfl, rfl⟩ := q
                refine ⟨?_, ?_⟩
                · rw [hs_ne (by omega), hs_same, up_same]; unfold Wc; rw [if_neg (fun q => q.2.2 (Classical.not_not.mp c3))]
                · rw [hs_same, up_same]
              · refine ⟨?_, ?_⟩
                · rw [hs_ne (by omega), hs_same, up_ne (by omega)]; exact (J.2.2 x y hx hy (by omega)).1
                · rw [hs_same, up_ne (by omega), hs_ne (by omega)]; exact (J.2.2 x y hx hy (by omega)).2)
theorem t_O_leastCost {d n : Nat} {h : HP} {W : Nat → Nat → Nat} {B : Nat → Nat → Bool} (T : TF h n W B) : MT d mO_leastCost [vR 7 15] h (fun r h' => r = some (vI (enc (GT n W (mCl B) 0 0).1)) ∧ h' = h) := by
  refine R_s 3 (5, [(0, vR 7 15)], [vI (nI 0), vR 7 18], h) rfl ?_
  refine R_ld 7 18 0 2048 rfl rfl (by omega) (by decide) ?_
  refine R_top (enc (GT n W (mCl B) 0 0).1) T.2.1.1 ?_
  exact R_ret (some (vI (enc (GT n W (mCl B) 0 0).1))) h rfl ⟨rfl, rfl⟩
theorem t_O_leastCostOrders {d n : Nat} {h : HP} {W : Nat → Nat → Nat} {B : Nat → Nat → Bool} (T : TF h n W B) : MT d mO_leastCostOrders [vR 7 15] h (fun r h' => r = some (vI (nI (GT n W (mCl B) 0 0).2)) ∧ h' = h) := by
  refine R_s 3 (5, [(0, vR 7 15)], [vI (nI 0), vR 7 19], h) rfl ?_
  refine R_ld 7 19 0 2048 rfl rfl (by omega) (by decide) ?_
  refine R_top (nI ((GT n W (mCl B) 0 0).2)) T.2.1.2 ?_
  exact R_ret (some (vI (nI ((GT n W (mCl B) 0 0).2)))) h rfl ⟨rfl, rfl⟩
/-- what costThrough gives over a whole table -/
theorem t_O_ct {d n S l x : Nat} {h : HP} {W : Nat → Nat → Nat} {B : Nat → Nat → Bool} (T : TF h n W B) (hW : ∀ a b, W a b ≤ 35) (hn : n ≤ 8) (hS : S < 2 ^ n) (hl : l < n) (hx : x < n) : MT (d + 1) mO_costThrough [vR 7 15, vI (nI S), vI (nI l), vI (nI x)] h (fun r h' => r = some (vI (enc (cand W (mCl B) (GT n W (mCl B)) S l x).1)) ∧ h' = h) := by
  rw [cand_ctv]
  exact t_O_costThrough T.1 hn hS hl hx (fun z => (T.2.2 _ (or_lt hS hx) x hx or_self).1) (fun c z => GT_le hn hW z)
theorem t_O_leastCostFrom {d n x : Nat} {h : HP} {W : Nat → Nat → Nat} {B : Nat → Nat → Bool} (T : TF h n W B) (hW : ∀ a b, W a b ≤ 35) (hn : n ≤ 8) (hx : x < n) : MT (d + 2) mO_leastCostFrom [vR 7 15, vI (nI x)] h (fun r h' => r = some (vI (enc (cand W (mCl B) (GT n W (mCl B)) 0 0 x).1)) ∧ h' = h) := by
  refine R_s 4 (4, [(0, vR 7 15), (1, vI (nI x))], [vI (nI x), vI (nI 0), vI (nI 0), vR 7 15], h) rfl ?_
  refine R_calli mO_costThrough [vR 7 15, vI (nI 0), vI (nI 0), vI (nI x)] [] (enc (cand W (mCl B) (GT n W (mCl B)) 0 0 x).1) h rfl (t_O_ct T hW hn (Nat.pow_pos (by decide)) (by omega) hx) ?_
  exact R_ret (some (vI (enc (cand W (mCl B) (GT n W (mCl B)) 0 0 x).1))) h rfl ⟨rfl, rfl⟩
theorem cand_le {n S l x : Nat} {W : Nat → Nat → Nat} {may : Nat → Nat → Bool} (hW : ∀ a b, W a b ≤ 35) (hn : n ≤ 8) {c : Nat} (h : (cand W may (GT n W may) S l x).1 = some c) : c ≤ 315 := by
  unfold cand at h
  split at h
  · cases hg : (GT n W may (S ||| 2 ^ x) x).1 with
    | none => rw [hg] at h; cases h
    | some z =>
      rw [hg] at h
      cases h
      have := GT_le hn hW hg
      have := hW l x
      show (if S = 0 then 0 else W l x) + z ≤ 315
      split <;> omega
  · cases h
theorem t_O_bestNext {d n S l : Nat} {h : HP} {W : Nat → Nat → Nat} {B : Nat → Nat → Bool} (T : TF h n W B) (hW : ∀ a b, W a b ≤ 35) (hn : n ≤ 8) (hS : S < 2 ^ n) (hl : l < n) (hE : TE h n W B S l) : MT (d + 2) mO_bestNext [vR 7 15, vI (nI S), vI (nI l)] h (fun r h' => r = some (vI (enc (nxt n W (mCl B) S l))) ∧ h' = h) := by
  have hS8 : S < 256 := Nat.lt_of_lt_of_le hS (pw_le hn)
  unfold nxt
  have hvle : ∀ c, (GT n W (mCl B) S l).1 = some c → c ≤ 280 := fun c z => GT_le hn hW z
  have hcle : ∀ x c, (cand W (mCl B) (GT n W (mCl B)) S l x).1 = some c → c ≤ 315 := fun x c z => cand_le hW hn z
  have hct : ∀ {d : Nat} x, x < n → MT (d + 1) mO_costThrough [vR 7 15, vI (nI S), vI (nI l), vI (nI x)] h (fun r h' => r = some (vI (enc (cand W (mCl B) (GT n W (mCl B)) S l x).1)) ∧ h' = h) := fun x hx => t_O_ct T hW hn hS hl hx
  refine R_s 5 (7, [(0, vR 7 15), (1, vI (nI S)), (2, vI (nI l))], [vI (nI l), vI (nI S), vR 7 15, vR 7 18], h) rfl ?_
  refine R_calli mO_cellOf [vR 7 15, vI (nI S), vI (nI l)] [vR 7 18] (nI (S * 8 + l)) h rfl t_O_cellOf ?_
  refine R_ld 7 18 (S * 8 + l) 2048 rfl rfl (by omega) (by decide) ?_
  refine R_top (enc (GT n W (mCl B) S l).1) hE.1 ?_
  refine R_s 3 (15, [(4, vI (nI 0)), (3, vI (enc (GT n W (mCl B) S l).1)), (0, vR 7 15), (1, vI (nI S)), (2, vI (nI l))], [], h) rfl ?_
  generalize (GT n W (mCl B) S l).1 = v at hvle ⊢
  generalize hf : (fun x => (cand W (mCl B) (GT n W (mCl B)) S l x).1) = f
  have hct : ∀ {d : Nat} x, x < n → MT (d + 1) mO_costThrough [vR 7 15, vI (nI S), vI (nI l), vI (nI x)] h (fun r h' => r = some (vI (enc (f x))) ∧ h' = h) := by intro d x hx; rw [← hf]; exact hct x hx
  have hcle : ∀ x c, f x = some c → c ≤ 315 := by intro x c; rw [← hf]; exact hcle x c
  suffices ∀ m x, x + m = n → fs f v n 0 = fs f v m x → R (d + 2) mO_bestNext (15, [(4, vI (nI x)), (3, vI (enc v)), (0, vR 7 15), (1, vI (nI S)), (2, vI (nI l))], [], h) (fun r h' => r = some (vI (enc (fs f v n 0))) ∧ h' = h) from this n 0 (by omega) rfl
  intro m
  induction m with
  | zero =>
    intro x hm hI
    refine R_s 3 (21, [(4, vI (nI x)), (3, vI (enc v)), (0, vR 7 15), (1, vI (nI S)), (2, vI (nI l))], [vI (h 7 15 0), vI (nI x)], h) rfl ?_
    refine R_top (nI n) T.1.1 ?_
    refine R_s 1 (cond (if2 .ge (nI x) (nI n)) 55 24, [(4, vI (nI x)), (3, vI (enc v)), (0, vR 7 15), (1, vI (nI S)), (2, vI (nI l))], [], h) rfl ?_
    refine R_bp (n ≤ x) (i2_ge (by omega) (by omega)) (fun c1 => ?_) (fun c1 => ?_)
    · refine R_s 1 (56, [(4, vI (nI x)), (3, vI (enc v)), (0, vR 7 15), (1, vI (nI S)), (2, vI (nI l))], [vI (-1)], h) rfl ?_
      exact R_ret (some (vI (-1))) h rfl ⟨by rw [hI, show 0 = 0 by omega]; rfl, rfl⟩
    · exact absurd hm (by omega)
  | succ m ih =>
    intro x hm hI
    refine R_s 3 (21, [(4, vI (nI x)), (3, vI (enc v)), (0, vR 7 15), (1, vI (nI S)), (2, vI (nI l))], [vI (h 7 15 0), vI (nI x)], h) rfl ?_
    refine R_top (nI n) T.1.1 ?_
    refine R_s 1 (cond (if2 .ge (nI x) (nI n)) 55 24, [(4, vI (nI x)), (3, vI (enc v)), (0, vR 7 15), (1, vI (nI S)), (2, vI (nI l))], [], h) rfl ?_
    refine R_bp (n ≤ x) (i2_ge (by omega) (by omega)) (fun c1 => ?_) (fun c1 => ?_)
    · refine R_s 1 (56, [(4, vI (nI x)), (3, vI (enc v)), (0, vR 7 15), (1, vI (nI S)), (2, vI (nI l))], [vI (-1)], h) rfl ?_
      exact R_ret (some (vI (-1))) h rfl ⟨by rw [hI, show m + 1 = 0 by omega]; rfl, rfl⟩
    · refine R_s 4 (29, [(4, vI (nI x)), (3, vI (enc v)), (0, vR 7 15), (1, vI (nI S)), (2, vI (nI l))], [vI (nI x), vI (nI l), vI (nI S), vR 7 15], h) rfl ?_
      refine R_calli mO_costThrough [vR 7 15, vI (nI S), vI (nI l), vI (nI x)] [] (enc (f x)) h rfl (hct x (by omega)) ?_
      cases hfx : f x with
      | none =>
        refine R_s 4 (cond (if2 .eq (enc none) (-1)) 49 40, [(5, vI (enc none)), (4, vI (nI x)), (3, vI (enc v)), (0, vR 7 15), (1, vI (nI S)), (2, vI (nI l))], [], h) rfl ?_
        refine R_bt (by decide) ?_
        refine R_s 1 (52, [(4, vI (nI x + Int32.ofInt 1)), (5, vI (enc none)), (3, vI (enc v)), (0, vR 7 15), (1, vI (nI S)), (2, vI (nI l))], [], h) rfl ?_
        refine R_lv (lv' := [(4, vI (nI (x + 1))), (5, vI (enc none)), (3, vI (enc v)), (0, vR 7 15), (1, vI (nI S)), (2, vI (nI l))]) (by rw [show nI x + Int32.ofInt 1 = nI (x + 1) from nI_add _ _]) ?_
        refine R_s 1 (15, [(4, vI (nI (x + 1))), (5, vI (enc none)), (3, vI (enc v)), (0, vR 7 15), (1, vI (nI S)), (2, vI (nI l))], [], h) rfl ?_
        refine R_fg (lv' := [(4, vI (nI (x + 1))), (3, vI (enc v)), (0, vR 7 15), (1, vI (nI S)), (2, vI (nI l))]) [0, 2, 3, 4, 5] rfl [4, 5, 3, 0, 1, 2] rfl (by decide) ?_
        exact ih (x + 1) (by omega) (by rw [hI]; show (if _ then _ else _) = _; rw [if_neg (by rw [hfx]; simp)])
      | some c =>
        have hc315 := hcle x c hfx
        refine R_top (nI c) rfl ?_
        refine R_s 4 (cond (if2 .eq (nI c) (-1)) 49 40, [(5, vI (nI c)), (4, vI (nI x)), (3, vI (enc v)), (0, vR 7 15), (1, vI (nI S)), (2, vI (nI l))], [], h) rfl ?_
        refine R_bf (e2_m1 (by omega)) ?_
        cases v with
        | none =>
          refine R_s 3 (cond (if2 .ne (nI c) (enc none)) 49 46, [(5, vI (nI c)), (4, vI (nI x)), (3, vI (enc none)), (0, vR 7 15), (1, vI (nI S)), (2, vI (nI l))], [], h) rfl ?_
          refine R_bt (by unfold if2; exact decide_eq_true (nI_ne_m1 (by omega))) ?_
          refine R_s 1 (52, [(4, vI (nI x + Int32.ofInt 1)), (5, vI (nI c)), (3, vI (enc none)), (0, vR 7 15), (1, vI (nI S)), (2, vI (nI l))], [], h) rfl ?_
          refine R_lv (lv' := [(4, vI (nI (x + 1))), (5, vI (nI c)), (3, vI (enc none)), (0, vR 7 15), (1, vI (nI S)), (2, vI (nI l))]) (by rw [show nI x + Int32.ofInt 1 = nI (x + 1) from nI_add _ _]) ?_
          refine R_s 1 (15, [(4, vI (nI (x + 1))), (5, vI (nI c)), (3, vI (enc none)), (0, vR 7 15), (1, vI (nI S)), (2, vI (nI l))], [], h) rfl ?_
          refine R_fg (lv' := [(4, vI (nI (x + 1))), (3, vI (enc none)), (0, vR 7 15), (1, vI (nI S)), (2, vI (nI l))]) [0, 2, 3, 4, 5] rfl [4, 5, 3, 0, 1, 2] rfl (by decide) ?_
          exact ih (x + 1) (by omega) (by rw [hI]; show (if _ then _ else _) = _; rw [if_neg (by rw [hfx]; simp)])
        | some a =>
          have ha280 := hvle a rfl
          refine R_lv (lv' := [(5, vI (nI c)), (4, vI (nI x)), (3, vI (nI a)), (0, vR 7 15), (1, vI (nI S)), (2, vI (nI l))]) rfl ?_
          refine R_s 3 (cond (if2 .ne (nI c) (nI a)) 49 46, [(5, vI (nI c)), (4, vI (nI x)), (3, vI (nI a)), (0, vR 7 15), (1, vI (nI S)), (2, vI (nI l))], [], h) rfl ?_
          refine R_bp (¬ c = a) (i2_ne (by omega) (by omega)) (fun c2 => ?_) (fun c2 => ?_)
          · refine R_s 1 (52, [(4, vI (nI x + Int32.ofInt 1)), (5, vI (nI c)), (3, vI (nI a)), (0, vR 7 15), (1, vI (nI S)), (2, vI (nI l))], [], h) rfl ?_
            refine R_lv (lv' := [(4, vI (nI (x + 1))), (5, vI (nI c)), (3, vI (nI a)), (0, vR 7 15), (1, vI (nI S)), (2, vI (nI l))]) (by rw [show nI x + Int32.ofInt 1 = nI (x + 1) from nI_add _ _]) ?_
            refine R_s 1 (15, [(4, vI (nI (x + 1))), (5, vI (nI c)), (3, vI (nI a)), (0, vR 7 15), (1, vI (nI S)), (2, vI (nI l))], [], h) rfl ?_
            refine R_lv (lv' := [(4, vI (nI (x + 1))), (5, vI (nI c)), (3, vI (enc (some a))), (0, vR 7 15), (1, vI (nI S)), (2, vI (nI l))]) rfl ?_
            refine R_fg (lv' := [(4, vI (nI (x + 1))), (3, vI (enc (some a))), (0, vR 7 15), (1, vI (nI S)), (2, vI (nI l))]) [0, 2, 3, 4, 5] rfl [4, 5, 3, 0, 1, 2] rfl (by decide) ?_
            exact ih (x + 1) (by omega) (by rw [hI]; show (if _ then _ else _) = _; rw [if_neg (by rw [hfx]; intro q; exact c2 (Option.some.inj q.2))])
          · refine R_s 1 (48, [(5, vI (nI c)), (4, vI (nI x)), (3, vI (nI a)), (0, vR 7 15), (1, vI (nI S)), (2, vI (nI l))], [vI (nI x)], h) rfl ?_
            exact R_ret (some (vI (nI x))) h rfl ⟨by rw [hI]; show _ = some (vI (enc (if _ then _ else _))); rw [if_pos ⟨by rw [hfx]; rfl, by rw [hfx, Classical.not_not.mp c2]⟩]; rfl, rfl⟩
theorem bch_none {n : Nat} {W : Nat → Nat → Nat} {may : Nat → Nat → Bool} {i : Nat} (h : bch n W may i = none) : ∀ k, bch n W may (i + k) = none := by
  intro k
  induction k with
  | zero => exact h
  | succ k ih =>
    show bch n W may (i + k + 1) = none
    unfold bch
    rw [ih]
theorem bch_s {n : Nat} {W : Nat → Nat → Nat} {may : Nat → Nat → Bool} {i S l : Nat} (h : bch n W may i = some (S, l)) : bch n W may (i + 1) = (nxt n W may S l).map (fun x => (S ||| 2 ^ x, x)) := by
  rw [bch, h]
  dsimp only
  cases nxt n W may S l <;> rfl
theorem t_O_bestSong {d n j : Nat} {h : HP} {W : Nat → Nat → Nat} {B : Nat → Nat → Bool} (T : TF h n W B) (hW : ∀ a b, W a b ≤ 35) (hn : n ≤ 8) (hj : j < n) : MT (d + 3) mO_bestSong [vR 7 15, vI (nI j)] h (fun r h' => r = some (vI (enc (bsg n W (mCl B) j))) ∧ h' = h) := by
  refine R_s 6 (7, [(4, vI (nI 0)), (3, vI (nI 0)), (2, vI (nI 0)), (0, vR 7 15), (1, vI (nI j))], [], h) rfl ?_
  suffices ∀ m i S l, i + m = j + 1 → i ≤ j + 1 → bch n W (mCl B) i = some (S, l) → R (d + 3) mO_bestSong (7, [(4, vI (nI i)), (3, vI (nI l)), (2, vI (nI S)), (0, vR 7 15), (1, vI (nI j))], [], h) (fun r h' => r = some (vI (enc (bsg n W (mCl B) j))) ∧ h' = h) from this (j + 1) 0 0 0 (by omega) (by omega) rfl
  intro m
  induction m with
  | zero =>
    intro i S l hm hi hI
    refine R_s 3 (cond (if2 .gt (nI i) (nI j)) 39 13, [(4, vI (nI i)), (3, vI (nI l)), (2, vI (nI S)), (0, vR 7 15), (1, vI (nI j))], [], h) rfl ?_
    refine R_bp (j < i) (i2_gt (by omega) (by omega)) (fun c1 => ?_) (fun c1 => ?_)
    · refine R_s 1 (40, [(4, vI (nI i)), (3, vI (nI l)), (2, vI (nI S)), (0, vR 7 15), (1, vI (nI j))], [vI (nI l)], h) rfl ?_
      exact R_ret (some (vI (nI l))) h rfl ⟨by unfold bsg; rw [show j + 1 = i by omega, hI]; rfl, rfl⟩
    · exact absurd hm (by omega)
  | succ m ih =>
    intro i S l hm hi hI
    refine R_s 3 (cond (if2 .gt (nI i) (nI j)) 39 13, [(4, vI (nI i)), (3, vI (nI l)), (2, vI (nI S)), (0, vR 7 15), (1, vI (nI j))], [], h) rfl ?_
    refine R_bp (j < i) (i2_gt (by omega) (by omega)) (fun c1 => ?_) (fun c1 => ?_)
    · refine R_s 1 (40, [(4, vI (nI i)), (3, vI (nI l)), (2, vI (nI S)), (0, vR 7 15), (1, vI (nI j))], [vI (nI l)], h) rfl ?_
      exact R_ret (some (vI (nI l))) h rfl ⟨by unfold bsg; rw [show j + 1 = i by omega, hI]; rfl, rfl⟩
    · obtain ⟨b1, b2, b3⟩ := bch_ok hn mCl_bit i (by omega) (S, l) hI
      have hS8 : S < 256 := Nat.lt_of_lt_of_le b1 (pw_le hn)
      have hE : TE h n W B S l := by
          rcases b3 with ⟨q1, q2⟩ | ⟨q1, q2⟩
          · have q1 : S = 0 := q1
            have q2 : l = 0 := q2
            rw [q1, q2]; exact T.2.1
          · exact T.2.2 S b1 l q1 q2
      have hln : l < n := by
          rcases b3 with ⟨q1, q2⟩ | ⟨q1, q2⟩
          · have q2 : l = 0 := q2
            omega
          · exact q1
      refine R_s 3 (16, [(4, vI (nI i)), (3, vI (nI l)), (2, vI (nI S)), (0, vR 7 15), (1, vI (nI j))], [vI (nI l), vI (nI S), vR 7 15], h) rfl ?_
      refine R_calli mO_bestNext [vR 7 15, vI (nI S), vI (nI l)] [] (enc (nxt n W (mCl B) S l)) h rfl (t_O_bestNext T hW hn b1 hln hE) ?_
      have hs := bch_s hI
      cases hx : nxt n W (mCl B) S l with
      | none =>
        refine R_s 4 (cond (if2 .ne (enc none) (-1)) 27 25, [(3, vI (enc none)), (4, vI (nI i)), (2, vI (nI S)), (0, vR 7 15), (1, vI (nI j))], [], h) rfl ?_
        refine R_bf (by decide) ?_
        refine R_s 1 (26, [(3, vI (enc none)), (4, vI (nI i)), (2, vI (nI S)), (0, vR 7 15), (1, vI (nI j))], [vI (-1)], h) rfl ?_
        exact R_ret (some (vI (-1))) h rfl ⟨by
            rw [hx] at hs
            have := bch_none hs (j - i)
            unfold bsg
            rw [show j + 1 = i + 1 + (j - i) by omega, this]
            rfl, rfl⟩
      | some x =>
        have hxn := (nxt_ok hx).1
        refine R_top (nI x) rfl ?_
        refine R_s 4 (cond (if2 .ne (nI x) (-1)) 27 25, [(3, vI (nI x)), (4, vI (nI i)), (2, vI (nI S)), (0, vR 7 15), (1, vI (nI j))], [], h) rfl ?_
        refine R_bt (by unfold if2; exact decide_eq_true (nI_ne_m1 (by omega))) ?_
        refine R_s 5 (32, [(3, vI (nI x)), (4, vI (nI i)), (2, vI (nI S)), (0, vR 7 15), (1, vI (nI j))], [vI ((nI S) ||| ((nI 1) <<< ((nI x) &&& 31)))], h) rfl ?_
        refine R_top (nI (S ||| 2 ^ x)) (bit_or S hS8 x (by omega)) ?_
        refine R_s 2 (36, [(4, vI (nI i + Int32.ofInt 1)), (2, vI (nI (S ||| 2 ^ x))), (3, vI (nI x)), (0, vR 7 15), (1, vI (nI j))], [], h) rfl ?_
        refine R_lv (lv' := [(4, vI (nI (i + 1))), (2, vI (nI (S ||| 2 ^ x))), (3, vI (nI x)), (0, vR 7 15), (1, vI (nI j))]) (by rw [show nI i + Int32.ofInt 1 = nI (i + 1) from nI_add _ _]) ?_
        refine R_s 1 (7, [(4, vI (nI (i + 1))), (2, vI (nI (S ||| 2 ^ x))), (3, vI (nI x)), (0, vR 7 15), (1, vI (nI j))], [], h) rfl ?_
        refine R_fg (lv' := [(4, vI (nI (i + 1))), (3, vI (nI x)), (2, vI (nI (S ||| 2 ^ x))), (0, vR 7 15), (1, vI (nI j))]) [0, 2, 1, 3, 4] rfl [4, 2, 3, 0, 1] rfl (by decide) ?_
        exact ih (i + 1) (S ||| 2 ^ x) x (by omega) (by omega) (by rw [hs, hx]; rfl)
theorem if_min {n : Nat} (h : n ≤ 8) : (if nI 8 < nI n then nI 8 else nI n) = nI n := by rw [if_neg (nI_nlt h (by decide))]
theorem TF.mv {h h' : HP} {n : Nat} {W : Nat → Nat → Nat} {B : Nat → Nat → Bool} (T : TF h n W B) (e : ∀ j, 15 ≤ j → j ≤ 19 → h' 7 j = h 7 j) : TF h' n W B := by
  refine ⟨⟨by rw [e 15 (by omega) (by omega)]; exact T.1.1, fun a b ha hb => by rw [e 16 (by omega) (by omega)]; exact T.1.2.1 a b ha hb, fun a b ha hb => by rw [e 17 (by omega) (by omega)]; exact T.1.2.2 a b ha hb⟩, ⟨by rw [e 18 (by omega) (by omega)]; exact T.2.1.1, by rw [e 19 (by omega) (by omega)]; exact T.2.1.2⟩, fun S hS l hl hb => ⟨by rw [e 18 (by omega) (by omega)]; exact (T.2.2 S hS l hl hb).1, by rw [e 19 (by omega) (by omega)]; exact (T.2.2 S hS l hl hb).2⟩⟩
def CB (h h' : HP) (n : Nat) (W : Nat → Nat → Nat) (B : Nat → Nat → Bool) (i : Nat) : Prop := (∀ j, j < i → h' 0 8 j = enc (bsg n W (mCl B) j)) ∧ (∀ x, i ≤ x → h' 0 8 x = h 0 8 x) ∧ ∀ g' j', ¬ (g' = 0 ∧ j' = 8) → h' g' j' = h g' j'
theorem t_O_copyBestOrder {d n : Nat} {h : HP} {W : Nat → Nat → Nat} {B : Nat → Nat → Bool} (T : TF h n W B) (hW : ∀ a b, W a b ≤ 35) (hn : n ≤ 8) : MT (d + 4) mO_copyBestOrder [vR 7 15, vR 0 8] h (fun r h' => r = none ∧ CB h h' n W B n) := by
  refine R_s 2 (4, [(0, vR 7 15), (1, vR 0 8)], [vI (h 7 15 0)], h) rfl ?_
  refine R_top (nI n) T.1.1 ?_
  refine R_s 3 (9, [(0, vR 7 15), (1, vR 0 8)], [vI (if (nI 8) < (nI n) then (nI 8) else (nI n))], h) rfl ?_
  refine R_top (nI n) (if_min hn) ?_
  refine R_s 3 (12, [(3, vI (nI 0)), (2, vI (nI n)), (0, vR 7 15), (1, vR 0 8)], [], h) rfl ?_
  suffices ∀ m i hh, i + m = n → CB h hh n W B i → R (d + 4) mO_copyBestOrder (12, [(3, vI (nI i)), (2, vI (nI n)), (0, vR 7 15), (1, vR 0 8)], [], hh) (fun r h' => r = none ∧ CB h h' n W B n) from this n 0 h (by omega) ⟨fun j hj => by omega, fun x hx => rfl, fun _ _ _ => rfl⟩
  intro m
  induction m with
  | zero =>
    intro i hh hm I
    refine R_s 3 (cond (if2 .ge (nI i) (nI n)) 31 17, [(3, vI (nI i)), (2, vI (nI n)), (0, vR 7 15), (1, vR 0 8)], [], hh) rfl ?_
    refine R_bp (n ≤ i) (i2_ge (by omega) (by omega)) (fun c1 => ?_) (fun c1 => ?_)
    · exact R_ret none hh rfl ⟨rfl, by rw [show i = n by omega] at I; exact I⟩
    · exact absurd hm (by omega)
  | succ m ih =>
    intro i hh hm I
    refine R_s 3 (cond (if2 .ge (nI i) (nI n)) 31 17, [(3, vI (nI i)), (2, vI (nI n)), (0, vR 7 15), (1, vR 0 8)], [], hh) rfl ?_
    refine R_bp (n ≤ i) (i2_ge (by omega) (by omega)) (fun c1 => ?_) (fun c1 => ?_)
    · exact R_ret none hh rfl ⟨rfl, by rw [show i = n by omega] at I; exact I⟩
    · refine R_s 4 (21, [(3, vI (nI i)), (2, vI (nI n)), (0, vR 7 15), (1, vR 0 8)], [vI (nI i), vR 7 15, vI (nI i), vR 0 8], hh) rfl ?_
      refine R_calli mO_bestSong [vR 7 15, vI (nI i)] [vI (nI i), vR 0 8] (enc (bsg n W (mCl B) i)) hh rfl (t_O_bestSong (T.mv (fun j q1 q2 => I.2.2 7 j (by omega))) hW hn (by omega)) ?_
      refine R_st 0 8 i 8 (enc (bsg n W (mCl B) i)) rfl rfl (by omega) (by decide) (fun h1 eh1 => ?_)
      refine R_s 1 (28, [(3, vI (nI i + Int32.ofInt 1)), (2, vI (nI n)), (0, vR 7 15), (1, vR 0 8)], [], h1) rfl ?_
      refine R_lv (lv' := [(3, vI (nI (i + 1))), (2, vI (nI n)), (0, vR 7 15), (1, vR 0 8)]) (by rw [show nI i + Int32.ofInt 1 = nI (i + 1) from nI_add _ _]) ?_
      refine R_s 1 (12, [(3, vI (nI (i + 1))), (2, vI (nI n)), (0, vR 7 15), (1, vR 0 8)], [], h1) rfl ?_
      exact ih (i + 1) _ (by omega) (by
        rw [eh1]
        refine ⟨fun j hj => ?_, fun x hx => ?_, fun g' j' q => ?_⟩
        · rw [hs_same]
          by_cases e : j = i
          · rw [e, up_same]
          · rw [up_ne e]; exact I.1 j (by omega)
        · rw [hs_same, up_ne (by omega)]; exact I.2.1 x (by omega)
        · rw [hs_ne q]; exact I.2.2 g' j' q)
