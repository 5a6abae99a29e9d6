def FO2 (h h' : HP) : Prop := ∀ g' j', ¬ (g' = 7 ∧ (j' = 18 ∨ j' = 19)) → h' g' j' = h g' j'
theorem FO2.rf {h : HP} : FO2 h h := fun _ _ _ => rfl
theorem FO2.tr {h h1 h2 : HP} (a : FO2 h h1) (b : FO2 h1 h2) : FO2 h h2 := fun g' j' e => (b g' j' e).trans (a g' j' e)
theorem FO2.ent {h h1 : HP} {i : Nat} {u v : Int32} (a : FO2 h h1) : FO2 h (hset (hset h1 7 18 i u) 7 19 i v) := fun g' j' e => by
  rw [hs_ne (fun q => e ⟨q.1, Or.inr q.2⟩), hs_ne (fun q => e ⟨q.1, Or.inl q.2⟩)]
  exact a g' j' e
theorem TL.mv {h h' : HP} {n : Nat} {W : Nat → Nat → Nat} {B : Nat → Nat → Bool} (T : TL h n W B) (a : FO2 h h') : TL h' n W B := by
  refine ⟨by rw [a 7 15 (by omega)]; exact T.1, fun x y hx hy => by rw [a 7 16 (by omega)]; exact T.2.1 x y hx hy, fun x y hx hy => by rw [a 7 17 (by omega)]; exact T.2.2 x y hx hy⟩
theorem TE.new {h : HP} {n S l : Nat} {W : Nat → Nat → Nat} {B : Nat → Nat → Bool} : TE (hset (hset h 7 18 (S * 8 + l) (enc (GT n W (mCl B) S l).1)) 7 19 (S * 8 + l) (nI (GT n W (mCl B) S l).2)) n W B S l := by
  refine ⟨?_, ?_⟩
  · rw [hs_ne (by omega), hs_same, up_same]
  · rw [hs_same, up_same]
theorem TE.old {h : HP} {n S l S' l' : Nat} {u v : Int32} {W : Nat → Nat → Nat} {B : Nat → Nat → Bool} (T : TE h n W B S' l') (hl : l < 8) (hl' : l' < 8) (hne : ¬ (S' = S ∧ l' = l)) : TE (hset (hset h 7 18 (S * 8 + l) u) 7 19 (S * 8 + l) v) n W B S' l' := by
  refine ⟨?_, ?_⟩
  · rw [hs_ne (by omega), hs_same, up_ne (by omega)]; exact T.1
  · rw [hs_same, up_ne (by omega), hs_ne (by omega)]; exact T.2
/-- the table is whole -/
def TF (h : HP) (n : Nat) (W : Nat → Nat → Nat) (B : Nat → Nat → Bool) : Prop := TL h n W B ∧ TE h n W B 0 0 ∧ ∀ S, S < 2 ^ n → ∀ l, l < n → S.testBit l = true → TE h n W B S l
/-- all sets above S are done, and S itself for the first l songs -/
def TI (h : HP) (n : Nat) (W : Nat → Nat → Nat) (B : Nat → Nat → Bool) (S l : Nat) : Prop := (∀ S', S < S' → S' < 2 ^ n → ∀ x, x < n → S'.testBit x = true → TE h n W B S' x) ∧ (∀ x, x < l → S.testBit x = true → TE h n W B S x)
theorem TI.up {h : HP} {n S : Nat} {W : Nat → Nat → Nat} {B : Nat → Nat → Bool} (I : TI h n W B S n) : ∀ S', S ≤ S' → S' < 2 ^ n → ∀ x, x < n → S'.testBit x = true → TE h n W B S' x := by
  intro S' h1 h2 x hx hb
  by_cases e : S' = S
  · subst e; exact I.2 x hx hb
  · exact I.1 S' (by omega) h2 x hx hb
theorem TI.tu {h : HP} {n S l : Nat} {W : Nat → Nat → Nat} {B : Nat → Nat → Bool} (hS : S < 2 ^ n) (I : TI h n W B S l) : TU h n W B S := fun x hx hb => I.1 _ (or_gt hb) (or_lt hS hx) x hx or_self
theorem zero_bit (x : Nat) : (0 : Nat).testBit x = false := Nat.zero_testBit x
theorem t_O_solve {d n : Nat} {h : HP} {W : Nat → Nat → Nat} {B : Nat → Nat → Bool} (T : TL h n W B) (hW : ∀ a b, W a b ≤ 35) (h1 : 1 ≤ n) (hn : n ≤ 8) : MT (d + 3) mO_solve [vR 7 15] h (fun r h' => r = none ∧ TF h' n W B ∧ FO2 h h') := by
  have hp256 := pw_le hn
  have hp1 : 1 ≤ 2 ^ n := Nat.pow_pos (by decide)
  have hp2 : 2 ≤ 2 ^ n := by
    have := Nat.pow_le_pow_right (n := 2) (by decide) h1
    omega
  refine R_s 3 (5, [(0, vR 7 15)], [vI (h 7 15 0), vI (nI 1)], h) rfl ?_
  refine R_top (nI n) T.1 ?_
  refine R_s 1 (6, [(0, vR 7 15)], [vI ((nI 1) <<< ((nI n) &&& 31))], h) rfl ?_
  refine R_top (nI (2 ^ n)) (bit_all n (by omega)) ?_
  refine R_s 1 (7, [(0, vR 7 15)], [vI (nI 1), vI (nI (2 ^ n))], h) rfl ?_
  refine R_sub (2 ^ n) 1 rfl hp1 ?_
  refine R_s 3 (11, [(2, vI (nI 0)), (1, vI (nI ((2 ^ n) - 1))), (0, vR 7 15)], [], h) rfl ?_
  refine R_lv (lv' := [(2, vI (nI 0)), (1, vI (nI (2 ^ n - 1))), (0, vR 7 15)]) rfl ?_
  suffices ∀ m l hh, l + m = n → FO2 h hh → (∀ x, x < l → TE hh n W B (2 ^ n - 1) x) → R (d + 3) mO_solve (11, [(2, vI (nI l)), (1, vI (nI (2 ^ n - 1))), (0, vR 7 15)], [], hh) (fun r h' => r = none ∧ TF h' n W B ∧ FO2 h h') from this n 0 h (by omega) FO2.rf (fun x hx => by omega)
  intro m
  induction m with
  | zero =>
    intro l hh hm F I
    refine R_s 3 (16, [(2, vI (nI l)), (1, vI (nI (2 ^ n - 1))), (0, vR 7 15)], [vI (hh 7 15 0), vI (nI l)], hh) rfl ?_
    refine R_top (nI n) (T.mv F).1 ?_
    refine R_s 1 (cond (if2 .ge (nI l) (nI n)) 49 19, [(2, vI (nI l)), (1, vI (nI (2 ^ n - 1))), (0, vR 7 15)], [], hh) rfl ?_
    refine R_bp (n ≤ l) (i2_ge (by omega) (by omega)) (fun c1 => ?_) (fun c1 => ?_)
    · refine R_s 2 (51, [(2, vI (nI l)), (1, vI (nI (2 ^ n - 1))), (0, vR 7 15)], [vI (nI 1), vI (nI (2 ^ n - 1))], hh) rfl ?_
      refine R_sub (2 ^ n - 1) 1 rfl (by omega) ?_
      refine R_s 1 (53, [(2, vI (nI ((2 ^ n - 1) - 1))), (1, vI (nI (2 ^ n - 1))), (0, vR 7 15)], [], hh) rfl ?_
      clear hm
      have I0 : ∀ S', 2 ^ n - 1 - 1 < S' → S' < 2 ^ n → ∀ x, x < n → S'.testBit x = true → TE hh n W B S' x := by
        intro S' h9 h10 x hx _
        rw [show S' = 2 ^ n - 1 by omega]
        exact I x (by omega)
      clear I
      suffices ∀ m2 S hk, S ≤ m2 → S + 1 < 2 ^ n → FO2 h hk → (∀ S', S < S' → S' < 2 ^ n → ∀ x, x < n → S'.testBit x = true → TE hk n W B S' x) → R (d + 3) mO_solve (53, [(2, vI (nI S)), (1, vI (nI (2 ^ n - 1))), (0, vR 7 15)], [], hk) (fun r h' => r = none ∧ TF h' n W B ∧ FO2 h h') from this (2 ^ n) (2 ^ n - 1 - 1) hh (by omega) (by omega) F I0
      intro m2
      induction m2 with
      | zero =>
        intro S hk hm hS F I
        refine R_s 2 (cond (if0 .le (nI S)) 94 57, [(2, vI (nI S)), (1, vI (nI (2 ^ n - 1))), (0, vR 7 15)], [], hk) rfl ?_
        refine R_bp (S = 0) (i0_le (by omega)) (fun c2 => ?_) (fun c2 => ?_)
        · subst c2
          have J : ∀ S', S' < 2 ^ n → ∀ l, l < n → S'.testBit l = true → TE hk n W B S' l := by
            intro S' h9 l hl hb
            refine I S' (Nat.pos_of_ne_zero (fun e => ?_)) h9 l hl hb
            rw [e, zero_bit] at hb
            cases hb
          refine R_s 3 (97, [(2, vI (nI 0)), (1, vI (nI (2 ^ n - 1))), (0, vR 7 15)], [vI (nI 0), vI (nI 0), vR 7 15], hk) rfl ?_
          refine R_callv mO_settle [vR 7 15, vI (nI 0), vI (nI 0)] [] (hset (hset hk 7 18 (0 * 8 + 0) (enc (GT n W (mCl B) 0 0).1)) 7 19 (0 * 8 + 0) (nI (GT n W (mCl B) 0 0).2)) rfl (t_O_settle (T.mv F) hW hn (by omega) (by omega) (show pop 0 < n from h1) (fun x hx hb => J _ (or_lt (by omega) hx) x hx or_self)) ?_
          refine R_hp (fun h1 eh1 => ?_)
          exact R_ret none h1 rfl ⟨rfl, by rw [eh1]; exact ⟨(T.mv F).mv FO2.rf.ent, TE.new, fun S' h9 l hl hb => (J S' h9 l hl hb).old (by omega) (by omega) (fun q => by rw [q.1, zero_bit] at hb; cases hb)⟩, by rw [eh1]; exact F.ent⟩
        · exact absurd c2 (by omega)
      | succ m2 ih2 =>
        intro S hk hm hS F I
        refine R_s 2 (cond (if0 .le (nI S)) 94 57, [(2, vI (nI S)), (1, vI (nI (2 ^ n - 1))), (0, vR 7 15)], [], hk) rfl ?_
        refine R_bp (S = 0) (i0_le (by omega)) (fun c2 => ?_) (fun c2 => ?_)
        · subst c2
          have J : ∀ S', S' < 2 ^ n → ∀ l, l < n → S'.testBit l = true → TE hk n W B S' l := by
            intro S' h9 l hl hb
            refine I S' (Nat.pos_of_ne_zero (fun e => ?_)) h9 l hl hb
            rw [e, zero_bit] at hb
            cases hb
          refine R_s 3 (97, [(2, vI (nI 0)), (1, vI (nI (2 ^ n - 1))), (0, vR 7 15)], [vI (nI 0), vI (nI 0), vR 7 15], hk) rfl ?_
          refine R_callv mO_settle [vR 7 15, vI (nI 0), vI (nI 0)] [] (hset (hset hk 7 18 (0 * 8 + 0) (enc (GT n W (mCl B) 0 0).1)) 7 19 (0 * 8 + 0) (nI (GT n W (mCl B) 0 0).2)) rfl (t_O_settle (T.mv F) hW hn (by omega) (by omega) (show pop 0 < n from h1) (fun x hx hb => J _ (or_lt (by omega) hx) x hx or_self)) ?_
          refine R_hp (fun h2 eh2 => ?_)
          exact R_ret none h2 rfl ⟨rfl, by rw [eh2]; exact ⟨(T.mv F).mv FO2.rf.ent, TE.new, fun S' h9 l hl hb => (J S' h9 l hl hb).old (by omega) (by omega) (fun q => by rw [q.1, zero_bit] at hb; cases hb)⟩, by rw [eh2]; exact F.ent⟩
        · obtain ⟨S, rfl⟩ : ∃ y, S = y + 1 := ⟨S - 1, by omega⟩
          refine R_s 2 (59, [(3, vI (nI 0)), (2, vI (nI (S + 1))), (1, vI (nI (2 ^ n - 1))), (0, vR 7 15)], [], hk) rfl ?_
          suffices ∀ m3 l hl, l + m3 = n → FO2 h hl → TI hl n W B (S + 1) l → R (d + 3) mO_solve (59, [(3, vI (nI l)), (2, vI (nI (S + 1))), (1, vI (nI (2 ^ n - 1))), (0, vR 7 15)], [], hl) (fun r h' => r = none ∧ TF h' n W B ∧ FO2 h h') from this n 0 hk (by omega) F ⟨fun S' h9 h10 x hx hb => I S' (by omega) h10 x hx hb, fun x hx => by omega⟩
          intro m3
          induction m3 with
          | zero =>
            intro l hl hm F I3
            refine R_s 3 (64, [(3, vI (nI l)), (2, vI (nI (S + 1))), (1, vI (nI (2 ^ n - 1))), (0, vR 7 15)], [vI (hl 7 15 0), vI (nI l)], hl) rfl ?_
            refine R_top (nI n) (T.mv F).1 ?_
            refine R_s 1 (cond (if2 .ge (nI l) (nI n)) 88 67, [(3, vI (nI l)), (2, vI (nI (S + 1))), (1, vI (nI (2 ^ n - 1))), (0, vR 7 15)], [], hl) rfl ?_
            refine R_bp (n ≤ l) (i2_ge (by omega) (by omega)) (fun c4 => ?_) (fun c4 => ?_)
            · refine R_s 1 (91, [(2, vI (nI (S + 1) + Int32.ofInt (-1))), (3, vI (nI l)), (1, vI (nI (2 ^ n - 1))), (0, vR 7 15)], [], hl) rfl ?_
              refine R_lv (lv' := [(2, vI (nI S)), (3, vI (nI l)), (1, vI (nI (2 ^ n - 1))), (0, vR 7 15)]) (by rw [show nI (S + 1) + Int32.ofInt (-1) = nI S from pk_m1 _]) ?_
              refine R_s 1 (53, [(2, vI (nI S)), (3, vI (nI l)), (1, vI (nI (2 ^ n - 1))), (0, vR 7 15)], [], hl) rfl ?_
              refine R_fg (lv' := [(2, vI (nI S)), (1, vI (nI (2 ^ n - 1))), (0, vR 7 15)]) [0, 2, 3] rfl [2, 3, 1, 0] rfl (by decide) ?_
              rw [show l = n by omega] at I3
              exact ih2 S hl (by omega) (by omega) F (fun S' h9 h10 x hx hb => I3.up S' (by omega) h10 x hx hb)
            · exact absurd hm (by omega)
          | succ m3 ih3 =>
            intro l hl hm F I3
            refine R_s 3 (64, [(3, vI (nI l)), (2, vI (nI (S + 1))), (1, vI (nI (2 ^ n - 1))), (0, vR 7 15)], [vI (hl 7 15 0), vI (nI l)], hl) rfl ?_
            refine R_top (nI n) (T.mv F).1 ?_
            refine R_s 1 (cond (if2 .ge (nI l) (nI n)) 88 67, [(3, vI (nI l)), (2, vI (nI (S + 1))), (1, vI (nI (2 ^ n - 1))), (0, vR 7 15)], [], hl) rfl ?_
            refine R_bp (n ≤ l) (i2_ge (by omega) (by omega)) (fun c4 => ?_) (fun c4 => ?_)
            · refine R_s 1 (91, [(2, vI (nI (S + 1) + Int32.ofInt (-1))), (3, vI (nI l)), (1, vI (nI (2 ^ n - 1))), (0, vR 7 15)], [], hl) rfl ?_
              refine R_lv (lv' := [(2, vI (nI S)), (3, vI (nI l)), (1, vI (nI (2 ^ n - 1))), (0, vR 7 15)]) (by rw [show nI (S + 1) + Int32.ofInt (-1) = nI S from pk_m1 _]) ?_
              refine R_s 1 (53, [(2, vI (nI S)), (3, vI (nI l)), (1, vI (nI (2 ^ n - 1))), (0, vR 7 15)], [], hl) rfl ?_
              refine R_fg (lv' := [(2, vI (nI S)), (1, vI (nI (2 ^ n - 1))), (0, vR 7 15)]) [0, 2, 3] rfl [2, 3, 1, 0] rfl (by decide) ?_
              rw [show l = n by omega] at I3
              exact ih2 S hl (by omega) (by omega) F (fun S' h9 h10 x hx hb => I3.up S' (by omega) h10 x hx hb)
            · refine R_s 5 (72, [(3, vI (nI l)), (2, vI (nI (S + 1))), (1, vI (nI (2 ^ n - 1))), (0, vR 7 15)], [vI (((nI (S + 1)) >>> ((nI l) &&& 31)) &&& (nI 1))], hl) rfl ?_
              refine R_top (nI (if (S + 1).testBit l then 1 else 0)) (bit_sh (S + 1) (by omega) l (by omega)) ?_
              refine R_s 2 (cond (if2 .ne (nI (if (S + 1).testBit l then 1 else 0)) (nI 1)) 82 76, [(3, vI (nI l)), (2, vI (nI (S + 1))), (1, vI (nI (2 ^ n - 1))), (0, vR 7 15)], [], hl) rfl ?_
              refine R_bp ((S + 1).testBit l = false) i2_nb (fun c5 => ?_) (fun c5 => ?_)
              · refine R_s 1 (85, [(3, vI (nI l + Int32.ofInt 1)), (2, vI (nI (S + 1))), (1, vI (nI (2 ^ n - 1))), (0, vR 7 15)], [], hl) rfl ?_
                refine R_lv (lv' := [(3, vI (nI (l + 1))), (2, vI (nI (S + 1))), (1, vI (nI (2 ^ n - 1))), (0, vR 7 15)]) (by rw [show nI l + Int32.ofInt 1 = nI (l + 1) from nI_add _ _]) ?_
                refine R_s 1 (59, [(3, vI (nI (l + 1))), (2, vI (nI (S + 1))), (1, vI (nI (2 ^ n - 1))), (0, vR 7 15)], [], hl) rfl ?_
                exact ih3 (l + 1) hl (by omega) F ⟨I3.1, fun x hx hb => by
                by_cases e : x = l
                · rw [e, c5] at hb; cases hb
                · exact I3.2 x (by omega) hb⟩
              · refine R_s 3 (79, [(3, vI (nI l)), (2, vI (nI (S + 1))), (1, vI (nI (2 ^ n - 1))), (0, vR 7 15)], [vI (nI l), vI (nI (S + 1)), vR 7 15], hl) rfl ?_
                refine R_callv mO_settle [vR 7 15, vI (nI (S + 1)), vI (nI l)] [] (hset (hset hl 7 18 ((S + 1) * 8 + l) (enc (GT n W (mCl B) (S + 1) l).1)) 7 19 ((S + 1) * 8 + l) (nI (GT n W (mCl B) (S + 1) l).2)) rfl (t_O_settle (T.mv F) hW hn (by omega) (by omega) (pop_lt n (by omega) (S + 1) (by omega) (by omega)) (I3.tu (by omega))) ?_
                refine R_hp (fun h3 eh3 => ?_)
                refine R_s 1 (85, [(3, vI (nI l + Int32.ofInt 1)), (2, vI (nI (S + 1))), (1, vI (nI (2 ^ n - 1))), (0, vR 7 15)], [], h3) rfl ?_
                refine R_lv (lv' := [(3, vI (nI (l + 1))), (2, vI (nI (S + 1))), (1, vI (nI (2 ^ n - 1))), (0, vR 7 15)]) (by rw [show nI l + Int32.ofInt 1 = nI (l + 1) from nI_add _ _]) ?_
                refine R_s 1 (59, [(3, vI (nI (l + 1))), (2, vI (nI (S + 1))), (1, vI (nI (2 ^ n - 1))), (0, vR 7 15)], [], h3) rfl ?_
                exact ih3 (l + 1) _ (by omega) (by rw [eh3]; exact F.ent) (by
                rw [eh3]
                refine ⟨fun S' h9 h10 x hx hb => (I3.1 S' h9 h10 x hx hb).old (by omega) (by omega) (by omega), fun x hx hb => ?_⟩
                by_cases e : x = l
                · rw [e]; exact TE.new
                · exact (I3.2 x (by omega) hb).old (by omega) (by omega) (by omega))
    · exact absurd hm (by omega)
  | succ m ih =>
    intro l hh hm F I
    refine R_s 3 (16, [(2, vI (nI l)), (1, vI (nI (2 ^ n - 1))), (0, vR 7 15)], [vI (hh 7 15 0), vI (nI l)], hh) rfl ?_
    refine R_top (nI n) (T.mv F).1 ?_
    refine R_s 1 (cond (if2 .ge (nI l) (nI n)) 49 19, [(2, vI (nI l)), (1, vI (nI (2 ^ n - 1))), (0, vR 7 15)], [], hh) rfl ?_
    refine R_bp (n ≤ l) (i2_ge (by omega) (by omega)) (fun c1 => ?_) (fun c1 => ?_)
    · refine R_s 2 (51, [(2, vI (nI l)), (1, vI (nI (2 ^ n - 1))), (0, vR 7 15)], [vI (nI 1), vI (nI (2 ^ n - 1))], hh) rfl ?_
      refine R_sub (2 ^ n - 1) 1 rfl (by omega) ?_
      refine R_s 1 (53, [(2, vI (nI ((2 ^ n - 1) - 1))), (1, vI (nI (2 ^ n - 1))), (0, vR 7 15)], [], hh) rfl ?_
      clear hm ih
      have I0 : ∀ S', 2 ^ n - 1 - 1 < S' → S' < 2 ^ n → ∀ x, x < n → S'.testBit x = true → TE hh n W B S' x := by
        intro S' h9 h10 x hx _
        rw [show S' = 2 ^ n - 1 by omega]
        exact I x (by omega)
      clear I
      suffices ∀ m2 S hk, S ≤ m2 → S + 1 < 2 ^ n → FO2 h hk → (∀ S', S < S' → S' < 2 ^ n → ∀ x, x < n → S'.testBit x = true → TE hk n W B S' x) → R (d + 3) mO_solve (53, [(2, vI (nI S)), (1, vI (nI (2 ^ n - 1))), (0, vR 7 15)], [], hk) (fun r h' => r = none ∧ TF h' n W B ∧ FO2 h h') from this (2 ^ n) (2 ^ n - 1 - 1) hh (by omega) (by omega) F I0
      intro m2
      induction m2 with
      | zero =>
        intro S hk hm hS F I
        refine R_s 2 (cond (if0 .le (nI S)) 94 57, [(2, vI (nI S)), (1, vI (nI (2 ^ n - 1))), (0, vR 7 15)], [], hk) rfl ?_
        refine R_bp (S = 0) (i0_le (by omega)) (fun c2 => ?_) (fun c2 => ?_)
        · subst c2
          have J : ∀ S', S' < 2 ^ n → ∀ l, l < n → S'.testBit l = true → TE hk n W B S' l := by
            intro S' h9 l hl hb
            refine I S' (Nat.pos_of_ne_zero (fun e => ?_)) h9 l hl hb
            rw [e, zero_bit] at hb
            cases hb
          refine R_s 3 (97, [(2, vI (nI 0)), (1, vI (nI (2 ^ n - 1))), (0, vR 7 15)], [vI (nI 0), vI (nI 0), vR 7 15], hk) rfl ?_
          refine R_callv mO_settle [vR 7 15, vI (nI 0), vI (nI 0)] [] (hset (hset hk 7 18 (0 * 8 + 0) (enc (GT n W (mCl B) 0 0).1)) 7 19 (0 * 8 + 0) (nI (GT n W (mCl B) 0 0).2)) rfl (t_O_settle (T.mv F) hW hn (by omega) (by omega) (show pop 0 < n from h1) (fun x hx hb => J _ (or_lt (by omega) hx) x hx or_self)) ?_
          refine R_hp (fun h4 eh4 => ?_)
          exact R_ret none h4 rfl ⟨rfl, by rw [eh4]; exact ⟨(T.mv F).mv FO2.rf.ent, TE.new, fun S' h9 l hl hb => (J S' h9 l hl hb).old (by omega) (by omega) (fun q => by rw [q.1, zero_bit] at hb; cases hb)⟩, by rw [eh4]; exact F.ent⟩
        · exact absurd c2 (by omega)
      | succ m2 ih2 =>
        intro S hk hm hS F I
        refine R_s 2 (cond (if0 .le (nI S)) 94 57, [(2, vI (nI S)), (1, vI (nI (2 ^ n - 1))), (0, vR 7 15)], [], hk) rfl ?_
        refine R_bp (S = 0) (i0_le (by omega)) (fun c2 => ?_) (fun c2 => ?_)
        · subst c2
          have J : ∀ S', S' < 2 ^ n → ∀ l, l < n → S'.testBit l = true → TE hk n W B S' l := by
            intro S' h9 l hl hb
            refine I S' (Nat.pos_of_ne_zero (fun e => ?_)) h9 l hl hb
            rw [e, zero_bit] at hb
            cases hb
          refine R_s 3 (97, [(2, vI (nI 0)), (1, vI (nI (2 ^ n - 1))), (0, vR 7 15)], [vI (nI 0), vI (nI 0), vR 7 15], hk) rfl ?_
          refine R_callv mO_settle [vR 7 15, vI (nI 0), vI (nI 0)] [] (hset (hset hk 7 18 (0 * 8 + 0) (enc (GT n W (mCl B) 0 0).1)) 7 19 (0 * 8 + 0) (nI (GT n W (mCl B) 0 0).2)) rfl (t_O_settle (T.mv F) hW hn (by omega) (by omega) (show pop 0 < n from h1) (fun x hx hb => J _ (or_lt (by omega) hx) x hx or_self)) ?_
          refine R_hp (fun h5 eh5 => ?_)
          exact R_ret none h5 rfl ⟨rfl, by rw [eh5]; exact ⟨(T.mv F).mv FO2.rf.ent, TE.new, fun S' h9 l hl hb => (J S' h9 l hl hb).old (by omega) (by omega) (fun q => by rw [q.1, zero_bit] at hb; cases hb)⟩, by rw [eh5]; exact F.ent⟩
        · obtain ⟨S, rfl⟩ : ∃ y, S = y + 1 := ⟨S - 1, by omega⟩
          refine R_s 2 (59, [(3, vI (nI 0)), (2, vI (nI (S + 1))), (1, vI (nI (2 ^ n - 1))), (0, vR 7 15)], [], hk) rfl ?_
          suffices ∀ m3 l hl, l + m3 = n → FO2 h hl → TI hl n W B (S + 1) l → R (d + 3) mO_solve (59, [(3, vI (nI l)), (2, vI (nI (S + 1))), (1, vI (nI (2 ^ n - 1))), (0, vR 7 15)], [], hl) (fun r h' => r = none ∧ TF h' n W B ∧ FO2 h h') from this n 0 hk (by omega) F ⟨fun S' h9 h10 x hx hb => I S' (by omega) h10 x hx hb, fun x hx => by omega⟩
          intro m3
          induction m3 with
          | zero =>
            intro l hl hm F I3
            refine R_s 3 (64, [(3, vI (nI l)), (2, vI (nI (S + 1))), (1, vI (nI (2 ^ n - 1))), (0, vR 7 15)], [vI (hl 7 15 0), vI (nI l)], hl) rfl ?_
            refine R_top (nI n) (T.mv F).1 ?_
            refine R_s 1 (cond (if2 .ge (nI l) (nI n)) 88 67, [(3, vI (nI l)), (2, vI (nI (S + 1))), (1, vI (nI (2 ^ n - 1))), (0, vR 7 15)], [], hl) rfl ?_
            refine R_bp (n ≤ l) (i2_ge (by omega) (by omega)) (fun c4 => ?_) (fun c4 => ?_)
            · refine R_s 1 (91, [(2, vI (nI (S + 1) + Int32.ofInt (-1))), (3, vI (nI l)), (1, vI (nI (2 ^ n - 1))), (0, vR 7 15)], [], hl) rfl ?_
              refine R_lv (lv' := [(2, vI (nI S)), (3, vI (nI l)), (1, vI (nI (2 ^ n - 1))), (0, vR 7 15)]) (by rw [show nI (S + 1) + Int32.ofInt (-1) = nI S from pk_m1 _]) ?_
              refine R_s 1 (53, [(2, vI (nI S)), (3, vI (nI l)), (1, vI (nI (2 ^ n - 1))), (0, vR 7 15)], [], hl) rfl ?_
              refine R_fg (lv' := [(2, vI (nI S)), (1, vI (nI (2 ^ n - 1))), (0, vR 7 15)]) [0, 2, 3] rfl [2, 3, 1, 0] rfl (by decide) ?_
              rw [show l = n by omega] at I3
              exact ih2 S hl (by omega) (by omega) F (fun S' h9 h10 x hx hb => I3.up S' (by omega) h10 x hx hb)
            · exact absurd hm (by omega)
          | succ m3 ih3 =>
            intro l hl hm F I3
            refine R_s 3 (64, [(3, vI (nI l)), (2, vI (nI (S + 1))), (1, vI (nI (2 ^ n - 1))), (0, vR 7 15)], [vI (hl 7 15 0), vI (nI l)], hl) rfl ?_
            refine R_top (nI n) (T.mv F).1 ?_
            refine R_s 1 (cond (if2 .ge (nI l) (nI n)) 88 67, [(3, vI (nI l)), (2, vI (nI (S + 1))), (1, vI (nI (2 ^ n - 1))), (0, vR 7 15)], [], hl) rfl ?_
            refine R_bp (n ≤ l) (i2_ge (by omega) (by omega)) (fun c4 => ?_) (fun c4 => ?_)
            · refine R_s 1 (91, [(2, vI (nI (S + 1) + Int32.ofInt (-1))), (3, vI (nI l)), (1, vI (nI (2 ^ n - 1))), (0, vR 7 15)], [], hl) rfl ?_
              refine R_lv (lv' := [(2, vI (nI S)), (3, vI (nI l)), (1, vI (nI (2 ^ n - 1))), (0, vR 7 15)]) (by rw [show nI (S + 1) + Int32.ofInt (-1) = nI S from pk_m1 _]) ?_
              refine R_s 1 (53, [(2, vI (nI S)), (3, vI (nI l)), (1, vI (nI (2 ^ n - 1))), (0, vR 7 15)], [], hl) rfl ?_
              refine R_fg (lv' := [(2, vI (nI S)), (1, vI (nI (2 ^ n - 1))), (0, vR 7 15)]) [0, 2, 3] rfl [2, 3, 1, 0] rfl (by decide) ?_
              rw [show l = n by omega] at I3
              exact ih2 S hl (by omega) (by omega) F (fun S' h9 h10 x hx hb => I3.up S' (by omega) h10 x hx hb)
            · refine R_s 5 (72, [(3, vI (nI l)), (2, vI (nI (S + 1))), (1, vI (nI (2 ^ n - 1))), (0, vR 7 15)], [vI (((nI (S + 1)) >>> ((nI l) &&& 31)) &&& (nI 1))], hl) rfl ?_
              refine R_top (nI (if (S + 1).testBit l then 1 else 0)) (bit_sh (S + 1) (by omega) l (by omega)) ?_
              refine R_s 2 (cond (if2 .ne (nI (if (S + 1).testBit l then 1 else 0)) (nI 1)) 82 76, [(3, vI (nI l)), (2, vI (nI (S + 1))), (1, vI (nI (2 ^ n - 1))), (0, vR 7 15)], [], hl) rfl ?_
              refine R_bp ((S + 1).testBit l = false) i2_nb (fun c5 => ?_) (fun c5 => ?_)
              · refine R_s 1 (85, [(3, vI (nI l + Int32.ofInt 1)), (2, vI (nI (S + 1))), (1, vI (nI (2 ^ n - 1))), (0, vR 7 15)], [], hl) rfl ?_
                refine R_lv (lv' := [(3, vI (nI (l + 1))), (2, vI (nI (S + 1))), (1, vI (nI (2 ^ n - 1))), (0, vR 7 15)]) (by rw [show nI l + Int32.ofInt 1 = nI (l + 1) from nI_add _ _]) ?_
                refine R_s 1 (59, [(3, vI (nI (l + 1))), (2, vI (nI (S + 1))), (1, vI (nI (2 ^ n - 1))), (0, vR 7 15)], [], hl) rfl ?_
                exact ih3 (l + 1) hl (by omega) F ⟨I3.1, fun x hx hb => by
                by_cases e : x = l
                · rw [e, c5] at hb; cases hb
                · exact I3.2 x (by omega) hb⟩
              · refine R_s 3 (79, [(3, vI (nI l)), (2, vI (nI (S + 1))), (1, vI (nI (2 ^ n - 1))), (0, vR 7 15)], [vI (nI l), vI (nI (S + 1)), vR 7 15], hl) rfl ?_
                refine R_callv mO_settle [vR 7 15, vI (nI (S + 1)), vI (nI l)] [] (hset (hset hl 7 18 ((S + 1) * 8 + l) (enc (GT n W (mCl B) (S + 1) l).1)) 7 19 ((S + 1) * 8 + l) (nI (GT n W (mCl B) (S + 1) l).2)) rfl (t_O_settle (T.mv F) hW hn (by omega) (by omega) (pop_lt n (by omega) (S + 1) (by omega) (by omega)) (I3.tu (by omega))) ?_
                refine R_hp (fun h6 eh6 => ?_)
                refine R_s 1 (85, [(3, vI (nI l + Int32.ofInt 1)), (2, vI (nI (S + 1))), (1, vI (nI (2 ^ n - 1))), (0, vR 7 15)], [], h6) rfl ?_
                refine R_lv (lv' := [(3, vI (nI (l + 1))), (2, vI (nI (S + 1))), (1, vI (nI (2 ^ n - 1))), (0, vR 7 15)]) (by rw [show nI l + Int32.ofInt 1 = nI (l + 1) from nI_add _ _]) ?_
                refine R_s 1 (59, [(3, vI (nI (l + 1))), (2, vI (nI (S + 1))), (1, vI (nI (2 ^ n - 1))), (0, vR 7 15)], [], h6) rfl ?_
                exact ih3 (l + 1) _ (by omega) (by rw [eh6]; exact F.ent) (by
                rw [eh6]
                refine ⟨fun S' h9 h10 x hx hb => (I3.1 S' h9 h10 x hx hb).old (by omega) (by omega) (by omega), fun x hx hb => ?_⟩
                by_cases e : x = l
                · rw [e]; exact TE.new
                · exact (I3.2 x (by omega) hb).old (by omega) (by omega) (by omega))
    · refine R_s 5 (26, [(2, vI (nI l)), (1, vI (nI (2 ^ n - 1))), (0, vR 7 15)], [vI (nI l), vI (nI (2 ^ n - 1)), vR 7 15, vR 7 18], hh) rfl ?_
      refine R_calli mO_cellOf [vR 7 15, vI (nI (2 ^ n - 1)), vI (nI l)] [vR 7 18] (nI ((2 ^ n - 1) * 8 + l)) hh rfl t_O_cellOf ?_
      refine R_s 1 (30, [(2, vI (nI l)), (1, vI (nI (2 ^ n - 1))), (0, vR 7 15)], [vI (nI 0), vI (nI ((2 ^ n - 1) * 8 + l)), vR 7 18], hh) rfl ?_
      refine R_st 7 18 ((2 ^ n - 1) * 8 + l) 2048 (nI 0) rfl rfl (by omega) (by decide) (fun h7 eh7 => ?_)
      refine R_s 5 (38, [(2, vI (nI l)), (1, vI (nI (2 ^ n - 1))), (0, vR 7 15)], [vI (nI l), vI (nI (2 ^ n - 1)), vR 7 15, vR 7 19], h7) rfl ?_
      refine R_calli mO_cellOf [vR 7 15, vI (nI (2 ^ n - 1)), vI (nI l)] [vR 7 19] (nI ((2 ^ n - 1) * 8 + l)) h7 rfl t_O_cellOf ?_
      refine R_s 1 (42, [(2, vI (nI l)), (1, vI (nI (2 ^ n - 1))), (0, vR 7 15)], [vI (nI 1), vI (nI ((2 ^ n - 1) * 8 + l)), vR 7 19], h7) rfl ?_
      refine R_st 7 19 ((2 ^ n - 1) * 8 + l) 2048 (nI 1) rfl rfl (by omega) (by decide) (fun h8 eh8 => ?_)
      refine R_s 1 (46, [(2, vI (nI l + Int32.ofInt 1)), (1, vI (nI (2 ^ n - 1))), (0, vR 7 15)], [], h8) rfl ?_
      refine R_lv (lv' := [(2, vI (nI (l + 1))), (1, vI (nI (2 ^ n - 1))), (0, vR 7 15)]) (by rw [show nI l + Int32.ofInt 1 = nI (l + 1) from nI_add _ _]) ?_
      refine R_s 1 (11, [(2, vI (nI (l + 1))), (1, vI (nI (2 ^ n - 1))), (0, vR 7 15)], [], h8) rfl ?_
      exact ih (l + 1) _ (by omega) (by rw [eh8, eh7]; exact F.ent) (fun x hx => by
        rw [eh8, eh7]
        by_cases e : x = l
        · have g := GT_full (W := W) (may := mCl B) (S := 2 ^ n - 1) (l := l) (show n ≤ pop (2 ^ n - 1) by rw [pop_full n (by omega)]; exact Nat.le_refl n)
          have q : TE (hset (hset hh 7 18 ((2 ^ n - 1) * 8 + l) (enc (GT n W (mCl B) (2 ^ n - 1) l).1)) 7 19 ((2 ^ n - 1) * 8 + l) (nI (GT n W (mCl B) (2 ^ n - 1) l).2)) n W B (2 ^ n - 1) l := TE.new
          rw [g] at q
          rw [e]
          exact q
        · exact (I x (by omega)).old (by omega) (by omega) (by omega))
