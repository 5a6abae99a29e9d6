theorem e2_m1 {c : Nat} (h : c < 2147483648) : if2 .eq (nI c) (-1) = false := by
  unfold if2
  exact decide_eq_false (nI_ne_m1 h)
theorem i0_ne {S : Nat} (h : S < 2147483648) : if0 .ne (nI S) = true ↔ ¬ S = 0 := by
  rw [x0_ne, ← nI_0, nI_eq h (by decide)]
theorem i0_eq {S : Nat} (h : S < 2147483648) : if0 .eq (nI S) = true ↔ S = 0 := by
  rw [x0_eq, ← nI_0, nI_eq h (by decide)]
theorem t_O_cellOf {d S l : Nat} {h : HP} : MT d mO_cellOf [vR 7 15, vI (nI S), vI (nI l)] h (fun r h' => r = some (vI (nI (S * 8 + l))) ∧ h' = h) := by
  refine R_s 2 (3, [(0, vR 7 15), (1, vI (nI S)), (2, vI (nI l))], [vI (nI 8), vI (nI S)], h) rfl ?_
  refine R_mul S 8 rfl ?_
  refine R_s 1 (5, [(0, vR 7 15), (1, vI (nI S)), (2, vI (nI l))], [vI (nI l), vI (nI (S * 8))], h) rfl ?_
  refine R_add (S * 8) l rfl ?_
  exact R_ret (some (vI (nI ((S * 8) + l)))) h rfl ⟨rfl, rfl⟩
theorem t_O_costThrough {d n S l x : Nat} {h : HP} {W : Nat → Nat → Nat} {B : Nat → Nat → Bool} (T : TL h n W B) (hn : n ≤ 8) (hS : S < 2 ^ n) (hl : l < n) (hx : x < n) {v : Option Nat} (hv : S.testBit x = false → h 7 18 ((S ||| 2 ^ x) * 8 + x) = enc v) (hc : ∀ c, v = some c → c ≤ 280) : MT (d + 1) mO_costThrough [vR 7 15, vI (nI S), vI (nI l), vI (nI x)] h (fun r h' => r = some (vI (enc (ctv W B S l x v))) ∧ h' = h) := by
  have hS8 : S < 256 := Nat.lt_of_lt_of_le hS (pw_le hn)
  have hb := bit_lt S hS8 x (by omega)
  refine R_s 1 (1, [(0, vR 7 15), (1, vI (nI S)), (2, vI (nI l)), (3, vI (nI x))], [vI (nI S)], h) rfl ?_
  refine R_calli mI_bitCount [vI (nI S)] [] (nI (pop S)) h rfl (t_I_bitCount hS8) ?_
  refine R_s 6 (11, [(4, vI (nI (pop S))), (0, vR 7 15), (1, vI (nI S)), (2, vI (nI l)), (3, vI (nI x))], [vI (((nI S) >>> ((nI x) &&& 31)) &&& (nI 1))], h) rfl ?_
  refine R_top (nI (if S.testBit x then 1 else 0)) (bit_sh S hS8 x (by omega)) ?_
  refine R_s 2 (cond (if2 .eq (nI (if S.testBit x then 1 else 0)) (nI 1)) 30 15, [(4, vI (nI (pop S))), (0, vR 7 15), (1, vI (nI S)), (2, vI (nI l)), (3, vI (nI x))], [], h) rfl ?_
  refine R_bp (S.testBit x = true) i2_eb (fun c1 => ?_) (fun c1 => ?_)
  · refine R_s 1 (31, [(4, vI (nI (pop S))), (0, vR 7 15), (1, vI (nI S)), (2, vI (nI l)), (3, vI (nI x))], [vI (-1)], h) rfl ?_
    exact R_ret (some (vI (-1))) h rfl ⟨by unfold ctv mCl; rw [c1]; rfl, rfl⟩
  · have ht : S.testBit x = false := by cases q : S.testBit x with
      | false => rfl
      | true => exact absurd q c1
    have hp := popn hn hS hx ht
    refine R_s 4 (22, [(4, vI (nI (pop S))), (0, vR 7 15), (1, vI (nI S)), (2, vI (nI l)), (3, vI (nI x))], [vI (nI 8), vI (nI x), vR 7 17], h) rfl ?_
    refine R_mul x 8 rfl ?_
    refine R_s 1 (25, [(4, vI (nI (pop S))), (0, vR 7 15), (1, vI (nI S)), (2, vI (nI l)), (3, vI (nI x))], [vI (nI (pop S)), vI (nI (x * 8)), vR 7 17], h) rfl ?_
    refine R_add (x * 8) (pop S) rfl ?_
    refine R_ldb 7 17 ((x * 8) + (pop S)) 64 rfl rfl (by omega) (by decide) ?_
    refine R_top (bI (B x (pop S))) (T.2.2 x (pop S) hx hp) ?_
    refine R_s 1 (cond (if0 .ne (bI (B x (pop S)))) 32 30, [(4, vI (nI (pop S))), (0, vR 7 15), (1, vI (nI S)), (2, vI (nI l)), (3, vI (nI x))], [], h) rfl ?_
    refine R_bp (B x (pop S) = true) (x0_ne.trans bI_ne) (fun c2 => ?_) (fun c2 => ?_)
    · have hmc : mCl B S x = true := by unfold mCl; rw [ht, c2]; rfl
      refine R_s 8 (42, [(4, vI (nI (pop S))), (0, vR 7 15), (1, vI (nI S)), (2, vI (nI l)), (3, vI (nI x))], [vI ((nI S) ||| ((nI 1) <<< ((nI x) &&& 31))), vR 7 15, vR 7 18], h) rfl ?_
      refine R_top (nI (S ||| 2 ^ x)) (bit_or S hS8 x (by omega)) ?_
      refine R_s 1 (43, [(4, vI (nI (pop S))), (0, vR 7 15), (1, vI (nI S)), (2, vI (nI l)), (3, vI (nI x))], [vI (nI x), vI (nI (S ||| 2 ^ x)), vR 7 15, vR 7 18], h) rfl ?_
      refine R_calli mO_cellOf [vR 7 15, vI (nI (S ||| 2 ^ x)), vI (nI x)] [vR 7 18] (nI ((S ||| 2 ^ x) * 8 + x)) h rfl t_O_cellOf ?_
      refine R_ld 7 18 ((S ||| 2 ^ x) * 8 + x) 2048 rfl rfl (by omega) (by decide) ?_
      refine R_top (enc v) (hv ht) ?_
      rcases v with _ | c
      · refine R_s 4 (cond (if2 .eq (enc none) (-1)) 59 55, [(5, vI (enc none)), (4, vI (nI (pop S))), (0, vR 7 15), (1, vI (nI S)), (2, vI (nI l)), (3, vI (nI x))], [], h) rfl ?_
        refine R_bt (by decide) ?_
        refine R_s 1 (61, [(5, vI (enc none)), (4, vI (nI (pop S))), (0, vR 7 15), (1, vI (nI S)), (2, vI (nI l)), (3, vI (nI x))], [vI (enc none)], h) rfl ?_
        exact R_ret (some (vI (enc none))) h rfl ⟨by unfold ctv; rw [if_pos hmc]; rfl, rfl⟩
      · have hc280 := hc c rfl
        refine R_top (nI c) rfl ?_
        refine R_s 4 (cond (if2 .eq (nI c) (-1)) 59 55, [(5, vI (nI c)), (4, vI (nI (pop S))), (0, vR 7 15), (1, vI (nI S)), (2, vI (nI l)), (3, vI (nI x))], [], h) rfl ?_
        refine R_bf (e2_m1 (by omega)) ?_
        refine R_s 2 (cond (if0 .ne (nI S)) 62 59, [(5, vI (nI c)), (4, vI (nI (pop S))), (0, vR 7 15), (1, vI (nI S)), (2, vI (nI l)), (3, vI (nI x))], [], h) rfl ?_
        refine R_bp (¬ S = 0) (i0_ne (by omega)) (fun c3 => ?_) (fun c3 => ?_)
        · refine R_s 4 (69, [(5, vI (nI c)), (4, vI (nI (pop S))), (0, vR 7 15), (1, vI (nI S)), (2, vI (nI l)), (3, vI (nI x))], [vI (nI 8), vI (nI l), vR 7 16], h) rfl ?_
          refine R_mul l 8 rfl ?_
          refine R_s 1 (71, [(5, vI (nI c)), (4, vI (nI (pop S))), (0, vR 7 15), (1, vI (nI S)), (2, vI (nI l)), (3, vI (nI x))], [vI (nI x), vI (nI (l * 8)), vR 7 16], h) rfl ?_
          refine R_add (l * 8) x rfl ?_
          refine R_ld 7 16 ((l * 8) + x) 64 rfl rfl (by omega) (by decide) ?_
          refine R_top (nI (W l x)) (T.2.1 l x hl hx) ?_
          refine R_s 1 (75, [(5, vI (nI c)), (4, vI (nI (pop S))), (0, vR 7 15), (1, vI (nI S)), (2, vI (nI l)), (3, vI (nI x))], [vI (nI c), vI (nI (W l x))], h) rfl ?_
          refine R_add (W l x) c rfl ?_
          exact R_ret (some (vI (nI ((W l x) + c)))) h rfl ⟨by unfold ctv; rw [if_pos hmc, if_neg c3]; rfl, rfl⟩
        · refine R_s 1 (61, [(5, vI (nI c)), (4, vI (nI (pop S))), (0, vR 7 15), (1, vI (nI S)), (2, vI (nI l)), (3, vI (nI x))], [vI (nI c)], h) rfl ?_
          exact R_ret (some (vI (nI c))) h rfl ⟨by unfold ctv; rw [if_pos hmc, if_pos (Classical.not_not.mp c3)]; show _ = some (vI (nI (0 + c))); rw [Nat.zero_add], rfl⟩
    · refine R_s 1 (31, [(4, vI (nI (pop S))), (0, vR 7 15), (1, vI (nI S)), (2, vI (nI l)), (3, vI (nI x))], [vI (-1)], h) rfl ?_
      exact R_ret (some (vI (-1))) h rfl ⟨by unfold ctv mCl; rw [ht]; rw [if_neg (by simpa using c2)]; rfl, rfl⟩
/-- the tables right for all larger sets -/
def TU (h : HP) (n : Nat) (W : Nat → Nat → Nat) (B : Nat → Nat → Bool) (S : Nat) : Prop := ∀ x, x < n → S.testBit x = false → TE h n W B (S ||| 2 ^ x) x
theorem cmb_n {a b : Option Nat × Nat} (h : b.1 = none) : comb a b = a := by unfold comb; rw [h]
theorem cmb_0 {a b : Option Nat × Nat} {c : Nat} (h : b.1 = some c) (h2 : a.1 = none) : comb a b = (some c, b.2) := by unfold comb; rw [h, h2]
theorem cmb_l {a b : Option Nat × Nat} {c l : Nat} (h : b.1 = some c) (h2 : a.1 = some l) (q : c < l) : comb a b = (some c, b.2) := by unfold comb; rw [h, h2]; dsimp only; rw [if_pos q]
theorem cmb_e {a b : Option Nat × Nat} {c l : Nat} (h : b.1 = some c) (h2 : a.1 = some l) (q : c = l) : comb a b = (some c, a.2 + b.2) := by unfold comb; rw [h, h2]; dsimp only; rw [if_neg (by omega), if_pos q, q]
theorem cmb_g {a b : Option Nat × Nat} {c l : Nat} (h : b.1 = some c) (h2 : a.1 = some l) (q : l < c) : comb a b = a := by unfold comb; rw [h, h2]; dsimp only; rw [if_neg (by omega), if_neg (by omega)]
theorem t_O_settle {d n S l : Nat} {h : HP} {W : Nat → Nat → Nat} {B : Nat → Nat → Bool} (T : TL h n W B) (hW : ∀ a b, W a b ≤ 35) (hn : n ≤ 8) (hS : S < 2 ^ n) (hl : l < n) (hp : pop S < n) (U : TU h n W B S) : MT (d + 2) mO_settle [vR 7 15, vI (nI S), vI (nI l)] h (fun r h' => r = none ∧ h' = hset (hset h 7 18 (S * 8 + l) (enc (GT n W (mCl B) S l).1)) 7 19 (S * 8 + l) (nI (GT n W (mCl B) S l).2)) := by
  have hS8 : S < 256 := Nat.lt_of_lt_of_le hS (pw_le hn)
  rw [GT_step hn mCl_bit hS hp]
  generalize hcd : cand W (mCl B) (GT n W (mCl B)) S l = cd
  have hcle : ∀ x, x < n → ∀ c, (cd x).1 = some c → c ≤ 315 := by
    intro x _ c hc
    rw [← hcd, cand_ctv] at hc
    unfold ctv at hc
    split at hc
    · cases hg : (GT n W (mCl B) (S ||| 2 ^ x) x).1 with
      | none => rw [hg] at hc; cases hc
      | some z =>
        rw [hg] at hc
        cases hc
        have := GT_le hn hW hg
        have := hW l x
        show (if S = 0 then 0 else W l x) + z ≤ 315
        split <;> omega
    · cases hc
  refine R_s 6 (8, [(5, vI (nI 0)), (4, vI (nI 0)), (3, vI (-1)), (0, vR 7 15), (1, vI (nI S)), (2, vI (nI l))], [], h) rfl ?_
  suffices ∀ m x A o, x + m = n → fd cd x = (A, o) → R (d + 2) mO_settle (8, [(5, vI (nI x)), (4, vI (nI o)), (3, vI (enc A)), (0, vR 7 15), (1, vI (nI S)), (2, vI (nI l))], [], h) (fun r h' => r = none ∧ h' = hset (hset h 7 18 (S * 8 + l) (enc (fd cd n).1)) 7 19 (S * 8 + l) (nI (fd cd n).2)) from this n 0 none 0 (by omega) rfl
  intro m
  induction m with
  | zero =>
    intro x A o hm hA
    refine R_s 3 (14, [(5, vI (nI x)), (4, vI (nI o)), (3, vI (enc A)), (0, vR 7 15), (1, vI (nI S)), (2, vI (nI l))], [vI (h 7 15 0), vI (nI x)], h) rfl ?_
    refine R_top (nI n) T.1 ?_
    refine R_s 1 (cond (if2 .ge (nI x) (nI n)) 90 17, [(5, vI (nI x)), (4, vI (nI o)), (3, vI (enc A)), (0, vR 7 15), (1, vI (nI S)), (2, vI (nI l))], [], h) rfl ?_
    refine R_bp (n ≤ x) (i2_ge (by omega) (by omega)) (fun c1 => ?_) (fun c1 => ?_)
    · refine R_s 5 (97, [(5, vI (nI x)), (4, vI (nI o)), (3, vI (enc A)), (0, vR 7 15), (1, vI (nI S)), (2, vI (nI l))], [vI (nI l), vI (nI S), vR 7 15, vR 7 18], h) rfl ?_
      refine R_calli mO_cellOf [vR 7 15, vI (nI S), vI (nI l)] [vR 7 18] (nI (S * 8 + l)) h rfl t_O_cellOf ?_
      refine R_s 1 (101, [(5, vI (nI x)), (4, vI (nI o)), (3, vI (enc A)), (0, vR 7 15), (1, vI (nI S)), (2, vI (nI l))], [vI (enc A), vI (nI (S * 8 + l)), vR 7 18], h) rfl ?_
      refine R_st 7 18 (S * 8 + l) 2048 (enc A) rfl rfl (by omega) (by decide) (fun h1 eh1 => ?_)
      refine R_s 5 (109, [(5, vI (nI x)), (4, vI (nI o)), (3, vI (enc A)), (0, vR 7 15), (1, vI (nI S)), (2, vI (nI l))], [vI (nI l), vI (nI S), vR 7 15, vR 7 19], h1) rfl ?_
      refine R_calli mO_cellOf [vR 7 15, vI (nI S), vI (nI l)] [vR 7 19] (nI (S * 8 + l)) h1 rfl t_O_cellOf ?_
      refine R_s 1 (114, [(5, vI (nI x)), (4, vI (nI o)), (3, vI (enc A)), (0, vR 7 15), (1, vI (nI S)), (2, vI (nI l))], [vI (nI o), vI (nI (S * 8 + l)), vR 7 19], h1) rfl ?_
      refine R_st 7 19 (S * 8 + l) 2048 (nI o) rfl rfl (by omega) (by decide) (fun h2 eh2 => ?_)
      exact R_ret none h2 rfl ⟨rfl, by rw [eh2, eh1, ← show x = n by omega, hA]⟩
    · exact absurd hm (by omega)
  | succ m ih =>
    intro x A o hm hA
    refine R_s 3 (14, [(5, vI (nI x)), (4, vI (nI o)), (3, vI (enc A)), (0, vR 7 15), (1, vI (nI S)), (2, vI (nI l))], [vI (h 7 15 0), vI (nI x)], h) rfl ?_
    refine R_top (nI n) T.1 ?_
    refine R_s 1 (cond (if2 .ge (nI x) (nI n)) 90 17, [(5, vI (nI x)), (4, vI (nI o)), (3, vI (enc A)), (0, vR 7 15), (1, vI (nI S)), (2, vI (nI l))], [], h) rfl ?_
    refine R_bp (n ≤ x) (i2_ge (by omega) (by omega)) (fun c1 => ?_) (fun c1 => ?_)
    · refine R_s 5 (97, [(5, vI (nI x)), (4, vI (nI o)), (3, vI (enc A)), (0, vR 7 15), (1, vI (nI S)), (2, vI (nI l))], [vI (nI l), vI (nI S), vR 7 15, vR 7 18], h) rfl ?_
      refine R_calli mO_cellOf [vR 7 15, vI (nI S), vI (nI l)] [vR 7 18] (nI (S * 8 + l)) h rfl t_O_cellOf ?_
      refine R_s 1 (101, [(5, vI (nI x)), (4, vI (nI o)), (3, vI (enc A)), (0, vR 7 15), (1, vI (nI S)), (2, vI (nI l))], [vI (enc A), vI (nI (S * 8 + l)), vR 7 18], h) rfl ?_
      refine R_st 7 18 (S * 8 + l) 2048 (enc A) rfl rfl (by omega) (by decide) (fun h3 eh3 => ?_)
      refine R_s 5 (109, [(5, vI (nI x)), (4, vI (nI o)), (3, vI (enc A)), (0, vR 7 15), (1, vI (nI S)), (2, vI (nI l))], [vI (nI l), vI (nI S), vR 7 15, vR 7 19], h3) rfl ?_
      refine R_calli mO_cellOf [vR 7 15, vI (nI S), vI (nI l)] [vR 7 19] (nI (S * 8 + l)) h3 rfl t_O_cellOf ?_
      refine R_s 1 (114, [(5, vI (nI x)), (4, vI (nI o)), (3, vI (enc A)), (0, vR 7 15), (1, vI (nI S)), (2, vI (nI l))], [vI (nI o), vI (nI (S * 8 + l)), vR 7 19], h3) rfl ?_
      refine R_st 7 19 (S * 8 + l) 2048 (nI o) rfl rfl (by omega) (by decide) (fun h4 eh4 => ?_)
      exact R_ret none h4 rfl ⟨rfl, by rw [eh4, eh3, ← show x = n by omega, hA]⟩
    · have hb := bit_lt S hS8 x (by omega)
      have hU := U x (by omega)
      refine R_s 4 (22, [(5, vI (nI x)), (4, vI (nI o)), (3, vI (enc A)), (0, vR 7 15), (1, vI (nI S)), (2, vI (nI l))], [vI (nI x), vI (nI l), vI (nI S), vR 7 15], h) rfl ?_
      refine R_calli mO_costThrough [vR 7 15, vI (nI S), vI (nI l), vI (nI x)] [] (enc (cd x).1) h rfl (by rw [← hcd, cand_ctv]; exact t_O_costThrough T hn hS hl (by omega) (v := (GT n W (mCl B) (S ||| 2 ^ x) x).1) (fun z => (hU z).1) (fun c z => GT_le hn hW z)) ?_
      cases hcx : (cd x).1 with
      | none =>
        refine R_s 4 (cond (if2 .eq (enc none) (-1)) 50 33, [(6, vI (enc none)), (5, vI (nI x)), (4, vI (nI o)), (3, vI (enc A)), (0, vR 7 15), (1, vI (nI S)), (2, vI (nI l))], [], h) rfl ?_
        refine R_bt (by decide) ?_
        refine R_s 3 (cond (if2 .eq (enc none) (-1)) 84 56, [(6, vI (enc none)), (5, vI (nI x)), (4, vI (nI o)), (3, vI (enc A)), (0, vR 7 15), (1, vI (nI S)), (2, vI (nI l))], [], h) rfl ?_
        refine R_bt (by decide) ?_
        refine R_s 1 (87, [(5, vI (nI x + Int32.ofInt 1)), (6, vI (enc none)), (4, vI (nI o)), (3, vI (enc A)), (0, vR 7 15), (1, vI (nI S)), (2, vI (nI l))], [], h) rfl ?_
        refine R_lv (lv' := [(5, vI (nI (x + 1))), (6, vI (enc none)), (4, vI (nI o)), (3, vI (enc A)), (0, vR 7 15), (1, vI (nI S)), (2, vI (nI l))]) (by rw [show nI x + Int32.ofInt 1 = nI (x + 1) from nI_add _ _]) ?_
        refine R_s 1 (8, [(5, vI (nI (x + 1))), (6, vI (enc none)), (4, vI (nI o)), (3, vI (enc A)), (0, vR 7 15), (1, vI (nI S)), (2, vI (nI l))], [], h) rfl ?_
        refine R_fg (lv' := [(5, vI (nI (x + 1))), (4, vI (nI o)), (3, vI (enc A)), (0, vR 7 15), (1, vI (nI S)), (2, vI (nI l))]) [0, 2, 3, 4, 5, 6] rfl [5, 6, 4, 3, 0, 1, 2] rfl (by decide) ?_
        exact ih (x + 1) A o (by omega) (by show comb (fd cd x) (cd x) = _; rw [cmb_n hcx, hA])
      | some c =>
        have hc315 := hcle x (by omega) c hcx
        refine R_top (nI c) rfl ?_
        have hmay : mCl B S x = true := by
          cases hb9 : mCl B S x with
          | true => rfl
          | false => rw [← hcd] at hcx; unfold cand at hcx; rw [hb9] at hcx; cases hcx
        have hw : h 7 19 ((S ||| 2 ^ x) * 8 + x) = nI (cd x).2 := by
          rw [(hU (mCl_bit S x hmay)).2, ← hcd]; unfold cand; rw [if_pos hmay]
        refine R_s 4 (cond (if2 .eq (nI c) (-1)) 50 33, [(6, vI (nI c)), (5, vI (nI x)), (4, vI (nI o)), (3, vI (enc A)), (0, vR 7 15), (1, vI (nI S)), (2, vI (nI l))], [], h) rfl ?_
        refine R_bf (e2_m1 (by omega)) ?_
        cases A with
        | none =>
          refine R_s 3 (cond (if2 .eq (enc none) (-1)) 44 38, [(6, vI (nI c)), (5, vI (nI x)), (4, vI (nI o)), (3, vI (enc none)), (0, vR 7 15), (1, vI (nI S)), (2, vI (nI l))], [], h) rfl ?_
          refine R_bt (by decide) ?_
          refine R_s 7 (cond (if2 .eq (nI c) (-1)) 84 56, [(4, vI (nI 0)), (3, vI (nI c)), (6, vI (nI c)), (5, vI (nI x)), (0, vR 7 15), (1, vI (nI S)), (2, vI (nI l))], [], h) rfl ?_
          refine R_bf (e2_m1 (by omega)) ?_
          refine R_s 3 (cond (if2 .ne (nI c) (nI c)) 84 62, [(4, vI (nI 0)), (3, vI (nI c)), (6, vI (nI c)), (5, vI (nI x)), (0, vR 7 15), (1, vI (nI S)), (2, vI (nI l))], [], h) rfl ?_
          refine R_bf (by unfold if2; exact decide_eq_false (fun q => q rfl)) ?_
          refine R_s 9 (75, [(4, vI (nI 0)), (3, vI (nI c)), (6, vI (nI c)), (5, vI (nI x)), (0, vR 7 15), (1, vI (nI S)), (2, vI (nI l))], [vI ((nI S) ||| ((nI 1) <<< ((nI x) &&& 31))), vR 7 15, vR 7 19, vI (nI 0)], h) rfl ?_
          refine R_top (nI (S ||| 2 ^ x)) (bit_or S hS8 x (by omega)) ?_
          refine R_s 1 (77, [(4, vI (nI 0)), (3, vI (nI c)), (6, vI (nI c)), (5, vI (nI x)), (0, vR 7 15), (1, vI (nI S)), (2, vI (nI l))], [vI (nI x), vI (nI (S ||| 2 ^ x)), vR 7 15, vR 7 19, vI (nI 0)], h) rfl ?_
          refine R_calli mO_cellOf [vR 7 15, vI (nI (S ||| 2 ^ x)), vI (nI x)] [vR 7 19, vI (nI 0)] (nI ((S ||| 2 ^ x) * 8 + x)) h rfl t_O_cellOf ?_
          refine R_ld 7 19 ((S ||| 2 ^ x) * 8 + x) 2048 rfl rfl (by omega) (by decide) ?_
          refine R_top (nI ((cd x).2)) hw ?_
          refine R_add 0 ((cd x).2) rfl ?_
          refine R_s 2 (87, [(5, vI (nI x + Int32.ofInt 1)), (4, vI (nI (0 + ((cd x).2)))), (3, vI (nI c)), (6, vI (nI c)), (0, vR 7 15), (1, vI (nI S)), (2, vI (nI l))], [], h) rfl ?_
          refine R_lv (lv' := [(5, vI (nI (x + 1))), (4, vI (nI (0 + ((cd x).2)))), (3, vI (nI c)), (6, vI (nI c)), (0, vR 7 15), (1, vI (nI S)), (2, vI (nI l))]) (by rw [show nI x + Int32.ofInt 1 = nI (x + 1) from nI_add _ _]) ?_
          refine R_s 1 (8, [(5, vI (nI (x + 1))), (4, vI (nI (0 + ((cd x).2)))), (3, vI (nI c)), (6, vI (nI c)), (0, vR 7 15), (1, vI (nI S)), (2, vI (nI l))], [], h) rfl ?_
          refine R_lv (lv' := [(5, vI (nI (x + 1))), (4, vI (nI (0 + ((cd x).2)))), (3, vI (enc (some c))), (6, vI (nI c)), (0, vR 7 15), (1, vI (nI S)), (2, vI (nI l))]) rfl ?_
          refine R_fg (lv' := [(5, vI (nI (x + 1))), (4, vI (nI (0 + ((cd x).2)))), (3, vI (enc (some c))), (0, vR 7 15), (1, vI (nI S)), (2, vI (nI l))]) [0, 1, 2, 4, 5, 6] rfl [5, 4, 3, 6, 0, 1, 2] rfl (by decide) ?_
          exact ih (x + 1) (some c) (0 + (cd x).2) (by omega) (by show comb (fd cd x) (cd x) = _; rw [cmb_0 hcx (by rw [hA]), Nat.zero_add])
        | some a =>
          have ha315 : a ≤ 315 := fd_le x (fun i hi => hcle i (by omega)) a (by rw [hA])
          refine R_lv (lv' := [(6, vI (nI c)), (5, vI (nI x)), (4, vI (nI o)), (3, vI (nI a)), (0, vR 7 15), (1, vI (nI S)), (2, vI (nI l))]) rfl ?_
          refine R_s 3 (cond (if2 .eq (nI a) (-1)) 44 38, [(6, vI (nI c)), (5, vI (nI x)), (4, vI (nI o)), (3, vI (nI a)), (0, vR 7 15), (1, vI (nI S)), (2, vI (nI l))], [], h) rfl ?_
          refine R_bf (e2_m1 (by omega)) ?_
          refine R_s 3 (cond (if2 .ge (nI c) (nI a)) 50 44, [(6, vI (nI c)), (5, vI (nI x)), (4, vI (nI o)), (3, vI (nI a)), (0, vR 7 15), (1, vI (nI S)), (2, vI (nI l))], [], h) rfl ?_
          refine R_bp (a ≤ c) (i2_ge (by omega) (by omega)) (fun c2 => ?_) (fun c2 => ?_)
          · refine R_s 3 (cond (if2 .eq (nI c) (-1)) 84 56, [(6, vI (nI c)), (5, vI (nI x)), (4, vI (nI o)), (3, vI (nI a)), (0, vR 7 15), (1, vI (nI S)), (2, vI (nI l))], [], h) rfl ?_
            refine R_bf (e2_m1 (by omega)) ?_
            refine R_s 3 (cond (if2 .ne (nI c) (nI a)) 84 62, [(6, vI (nI c)), (5, vI (nI x)), (4, vI (nI o)), (3, vI (nI a)), (0, vR 7 15), (1, vI (nI S)), (2, vI (nI l))], [], h) rfl ?_
            refine R_bp (¬ c = a) (i2_ne (by omega) (by omega)) (fun c3 => ?_) (fun c3 => ?_)
            · refine R_s 1 (87, [(5, vI (nI x + Int32.ofInt 1)), (6, vI (nI c)), (4, vI (nI o)), (3, vI (nI a)), (0, vR 7 15), (1, vI (nI S)), (2, vI (nI l))], [], h) rfl ?_
              refine R_lv (lv' := [(5, vI (nI (x + 1))), (6, vI (nI c)), (4, vI (nI o)), (3, vI (nI a)), (0, vR 7 15), (1, vI (nI S)), (2, vI (nI l))]) (by rw [show nI x + Int32.ofInt 1 = nI (x + 1) from nI_add _ _]) ?_
              refine R_s 1 (8, [(5, vI (nI (x + 1))), (6, vI (nI c)), (4, vI (nI o)), (3, vI (nI a)), (0, vR 7 15), (1, vI (nI S)), (2, vI (nI l))], [], h) rfl ?_
              refine R_lv (lv' := [(5, vI (nI (x + 1))), (6, vI (nI c)), (4, vI (nI o)), (3, vI (enc (some a))), (0, vR 7 15), (1, vI (nI S)), (2, vI (nI l))]) rfl ?_
              refine R_fg (lv' := [(5, vI (nI (x + 1))), (4, vI (nI o)), (3, vI (enc (some a))), (0, vR 7 15), (1, vI (nI S)), (2, vI (nI l))]) [0, 2, 3, 4, 5, 6] rfl [5, 6, 4, 3, 0, 1, 2] rfl (by decide) ?_
              exact ih (x + 1) (some a) o (by omega) (by show comb (fd cd x) (cd x) = _; rw [cmb_g hcx (by rw [hA]) (show a < c by omega), hA])
            · refine R_s 9 (75, [(6, vI (nI c)), (5, vI (nI x)), (4, vI (nI o)), (3, vI (nI a)), (0, vR 7 15), (1, vI (nI S)), (2, vI (nI l))], [vI ((nI S) ||| ((nI 1) <<< ((nI x) &&& 31))), vR 7 15, vR 7 19, vI (nI o)], h) rfl ?_
              refine R_top (nI (S ||| 2 ^ x)) (bit_or S hS8 x (by omega)) ?_
              refine R_s 1 (77, [(6, vI (nI c)), (5, vI (nI x)), (4, vI (nI o)), (3, vI (nI a)), (0, vR 7 15), (1, vI (nI S)), (2, vI (nI l))], [vI (nI x), vI (nI (S ||| 2 ^ x)), vR 7 15, vR 7 19, vI (nI o)], h) rfl ?_
              refine R_calli mO_cellOf [vR 7 15, vI (nI (S ||| 2 ^ x)), vI (nI x)] [vR 7 19, vI (nI o)] (nI ((S ||| 2 ^ x) * 8 + x)) h rfl t_O_cellOf ?_
              refine R_ld 7 19 ((S ||| 2 ^ x) * 8 + x) 2048 rfl rfl (by omega) (by decide) ?_
              refine R_top (nI ((cd x).2)) hw ?_
              refine R_add o ((cd x).2) rfl ?_
              refine R_s 2 (87, [(5, vI (nI x + Int32.ofInt 1)), (4, vI (nI (o + ((cd x).2)))), (6, vI (nI c)), (3, vI (nI a)), (0, vR 7 15), (1, vI (nI S)), (2, vI (nI l))], [], h) rfl ?_
              refine R_lv (lv' := [(5, vI (nI (x + 1))), (4, vI (nI (o + ((cd x).2)))), (6, vI (nI c)), (3, vI (nI a)), (0, vR 7 15), (1, vI (nI S)), (2, vI (nI l))]) (by rw [show nI x + Int32.ofInt 1 = nI (x + 1) from nI_add _ _]) ?_
              refine R_s 1 (8, [(5, vI (nI (x + 1))), (4, vI (nI (o + ((cd x).2)))), (6, vI (nI c)), (3, vI (nI a)), (0, vR 7 15), (1, vI (nI S)), (2, vI (nI l))], [], h) rfl ?_
              refine R_lv (lv' := [(5, vI (nI (x + 1))), (4, vI (nI (o + ((cd x).2)))), (6, vI (nI c)), (3, vI (enc (some a))), (0, vR 7 15), (1, vI (nI S)), (2, vI (nI l))]) rfl ?_
              refine R_fg (lv' := [(5, vI (nI (x + 1))), (4, vI (nI (o + ((cd x).2)))), (3, vI (enc (some a))), (0, vR 7 15), (1, vI (nI S)), (2, vI (nI l))]) [0, 1, 3, 4, 5, 6] rfl [5, 4, 6, 3, 0, 1, 2] rfl (by decide) ?_
              exact ih (x + 1) (some a) (o + (cd x).2) (by omega) (by show comb (fd cd x) (cd x) = _; rw [cmb_e hcx (by rw [hA]) (Classical.not_not.mp c3), hA, Classical.not_not.mp c3])
          · refine R_s 7 (cond (if2 .eq (nI c) (-1)) 84 56, [(4, vI (nI 0)), (3, vI (nI c)), (6, vI (nI c)), (5, vI (nI x)), (0, vR 7 15), (1, vI (nI S)), (2, vI (nI l))], [], h) rfl ?_
            refine R_bf (e2_m1 (by omega)) ?_
            refine R_s 3 (cond (if2 .ne (nI c) (nI c)) 84 62, [(4, vI (nI 0)), (3, vI (nI c)), (6, vI (nI c)), (5, vI (nI x)), (0, vR 7 15), (1, vI (nI S)), (2, vI (nI l))], [], h) rfl ?_
            refine R_bf (by unfold if2; exact decide_eq_false (fun q => q rfl)) ?_
            refine R_s 9 (75, [(4, vI (nI 0)), (3, vI (nI c)), (6, vI (nI c)), (5, vI (nI x)), (0, vR 7 15), (1, vI (nI S)), (2, vI (nI l))], [vI ((nI S) ||| ((nI 1) <<< ((nI x) &&& 31))), vR 7 15, vR 7 19, vI (nI 0)], h) rfl ?_
            refine R_top (nI (S ||| 2 ^ x)) (bit_or S hS8 x (by omega)) ?_
            refine R_s 1 (77, [(4, vI (nI 0)), (3, vI (nI c)), (6, vI (nI c)), (5, vI (nI x)), (0, vR 7 15), (1, vI (nI S)), (2, vI (nI l))], [vI (nI x), vI (nI (S ||| 2 ^ x)), vR 7 15, vR 7 19, vI (nI 0)], h) rfl ?_
            refine R_calli mO_cellOf [vR 7 15, vI (nI (S ||| 2 ^ x)), vI (nI x)] [vR 7 19, vI (nI 0)] (nI ((S ||| 2 ^ x) * 8 + x)) h rfl t_O_cellOf ?_
            refine R_ld 7 19 ((S ||| 2 ^ x) * 8 + x) 2048 rfl rfl (by omega) (by decide) ?_
            refine R_top (nI ((cd x).2)) hw ?_
            refine R_add 0 ((cd x).2) rfl ?_
            refine R_s 2 (87, [(5, vI (nI x + Int32.ofInt 1)), (4, vI (nI (0 + ((cd x).2)))), (3, vI (nI c)), (6, vI (nI c)), (0, vR 7 15), (1, vI (nI S)), (2, vI (nI l))], [], h) rfl ?_
            refine R_lv (lv' := [(5, vI (nI (x + 1))), (4, vI (nI (0 + ((cd x).2)))), (3, vI (nI c)), (6, vI (nI c)), (0, vR 7 15), (1, vI (nI S)), (2, vI (nI l))]) (by rw [show nI x + Int32.ofInt 1 = nI (x + 1) from nI_add _ _]) ?_
            refine R_s 1 (8, [(5, vI (nI (x + 1))), (4, vI (nI (0 + ((cd x).2)))), (3, vI (nI c)), (6, vI (nI c)), (0, vR 7 15), (1, vI (nI S)), (2, vI (nI l))], [], h) rfl ?_
            refine R_lv (lv' := [(5, vI (nI (x + 1))), (4, vI (nI (0 + ((cd x).2)))), (3, vI (enc (some c))), (6, vI (nI c)), (0, vR 7 15), (1, vI (nI S)), (2, vI (nI l))]) rfl ?_
            refine R_fg (lv' := [(5, vI (nI (x + 1))), (4, vI (nI (0 + ((cd x).2)))), (3, vI (enc (some c))), (0, vR 7 15), (1, vI (nI S)), (2, vI (nI l))]) [0, 1, 2, 4, 5, 6] rfl [5, 4, 3, 6, 0, 1, 2] rfl (by decide) ?_
            exact ih (x + 1) (some c) (0 + (cd x).2) (by omega) (by show comb (fd cd x) (cd x) = _; rw [cmb_l hcx (by rw [hA]) (show c < a by omega), Nat.zero_add])
