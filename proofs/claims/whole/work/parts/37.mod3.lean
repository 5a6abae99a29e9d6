theorem all_n : ∀ n, n < 9 → nI (2 ^ n) - nI 1 = nI (2 ^ n - 1) := by decide +kernel
theorem one_k : ∀ x, x < 256 → 0 < x → nI x &&& (nI x - nI 1) = nI (x &&& (x - 1)) ∧ (x &&& (x - 1)) < x ∧ pop x = pop (x &&& (x - 1)) + 1 := by decide +kernel
theorem not_e : ∀ n, n < 9 → ∀ e, e < 2 ^ n → nI (2 ^ n - 1) &&& (nI e ^^^ (-1)) = nI (2 ^ n - 1 - e) := by decide +kernel
/-- all songs but the encores are in the set -/
def opn (n e S : Nat) : Bool := decide ((2 ^ n - 1 - e) &&& S = 2 ^ n - 1 - e)
/-- the reference's mayCome -/
def mcm (z : ST) (S a : Nat) : Bool := !(S.testBit a) && (decide (z.1 (10 + a) = -1) || decide (z.1 (10 + a) = nI (pop S))) && (!((en z).testBit a) || opn z.2.1 (en z) S)
set_option maxRecDepth 100000 in
theorem t_M_all {d n p k : Nat} {h : HP} {s : Nat → Int32}  (M : MS 21 h s) (F : WF s n p k) : MT (d) mM_all [vR 8 20] h (fun r h' => r = some (vI (nI (2 ^ n - 1))) ∧ h' = h) := by
  have h8 := F.2.1.1
  have h5 := F.2.1.2.1
  have h6 := F.2.1.2.2
  refine R_s 4 (6, [(0, vR 8 20)], [vI (nI 0), vR 8 21, vI (nI 1)], h) rfl ?_
  refine R_ld 8 21 0 125 rfl rfl (by omega) (by decide) ?_
  refine R_top (nI n) ((M 0 (by decide)).trans F.1.1) ?_
  refine R_s 1 (8, [(0, vR 8 20)], [vI ((nI 1) <<< ((nI n) &&& 31))], h) rfl ?_
  refine R_top (nI (2 ^ n)) (bit_all n (by omega)) ?_
  refine R_s 2 (10, [(0, vR 8 20)], [vI (nI (2 ^ n) - nI 1)], h) rfl ?_
  refine R_top (nI (2 ^ n - 1)) (all_n n (by omega)) ?_
  exact R_ret (some (vI (nI (2 ^ n - 1)))) h rfl ⟨rfl, rfl⟩
set_option maxRecDepth 100000 in
theorem t_M_ones {d S : Nat} {h : HP} (hS : S < 256) : MT d mM_ones [vI (nI S)] h (fun r h' => r = some (vI (nI (pop S))) ∧ h' = h) := by
  refine R_s 4 (4, [(2, vI (nI S)), (1, vI (nI 0)), (0, vI (nI S))], [], h) rfl ?_
  refine R_fg (lv' := [(2, vI (nI S)), (1, vI (nI 0))]) [0, 1] rfl [2, 1, 0] rfl (by decide) ?_
  suffices ∀ m (l c : Nat) (hm : l ≤ m) (hl : l < 256) (hc : c + pop l = pop S), R d mM_ones (4, [(2, vI (nI l)), (1, vI (nI c))], [], h) _ from this S S 0 (Nat.le_refl _) hS (by omega)
  intro m
  induction m with
  | zero =>
    intro l c hm hl hc
    refine R_s 2 (cond (if0 .eq (nI l)) 20 8, [(2, vI (nI l)), (1, vI (nI c))], [], h) rfl ?_
    refine R_bp (l = 0) (i0_n (by omega)) (fun c1 => ?_) (fun c1 => ?_)
    · refine R_s 1 (21, [(2, vI (nI l)), (1, vI (nI c))], [vI (nI c)], h) rfl ?_
      exact R_ret (some (vI (nI c))) h rfl ⟨by rw [← hc, c1]; rfl, rfl⟩
    · exact absurd hm (by omega)
  | succ m ih =>
    intro l c hm hl hc
    refine R_s 2 (cond (if0 .eq (nI l)) 20 8, [(2, vI (nI l)), (1, vI (nI c))], [], h) rfl ?_
    refine R_bp (l = 0) (i0_n (by omega)) (fun c1 => ?_) (fun c1 => ?_)
    · refine R_s 1 (21, [(2, vI (nI l)), (1, vI (nI c))], [vI (nI c)], h) rfl ?_
      exact R_ret (some (vI (nI c))) h rfl ⟨by rw [← hc, c1]; rfl, rfl⟩
    · obtain ⟨o1, o2, o3⟩ := one_k l hl (by omega)
      refine R_s 1 (11, [(1, vI (nI c + Int32.ofInt 1)), (2, vI (nI l))], [], h) rfl ?_
      refine R_lv (lv' := [(1, vI (nI (c + 1))), (2, vI (nI l))]) (by rw [show nI c + Int32.ofInt 1 = nI (c + 1) from nI_add _ _]) ?_
      refine R_s 5 (16, [(1, vI (nI (c + 1))), (2, vI (nI l))], [vI ((nI l) &&& (nI l - nI 1))], h) rfl ?_
      refine R_top (nI (l &&& (l - 1))) o1 ?_
      refine R_s 2 (4, [(2, vI (nI (l &&& (l - 1)))), (1, vI (nI (c + 1)))], [], h) rfl ?_
      exact ih (l &&& (l - 1)) (c + 1) (by omega) (by omega) (by omega)
theorem i0_nb {b : Bool} : if0 .ne (nI (if b then 1 else 0)) = true ↔ b = true := by cases b <;> decide
set_option maxRecDepth 100000 in
theorem t_M_mayCome {d n p k : Nat} {h : HP} {s : Nat → Int32} {S a : Nat} (hS : S < 256) (ha : a < n) (M : MS 21 h s) (F : WF s n p k) : MT (d + 1) mM_mayCome [vR 8 20, vI (nI S), vI (nI a)] h (fun r h' => r = some (vI (bI (mcm (s, n, p, k) S a))) ∧ h' = h) := by
  have h8 := F.2.1.1
  have h5 := F.2.1.2.1
  have h6 := F.2.1.2.2
  obtain ⟨e, e1, e2⟩ := F.2.2.1
  have e8 : e < 256 := Nat.lt_of_lt_of_le e2 (pw_le h8)
  have p8 := pw_le h8
  have ee : en (s, n, p, k) = e := by unfold en; rw [show (s, n, p, k).1 9 = s 9 from rfl, e1, nI_cl (by omega)]
  unfold mcm
  rw [ee]
  dsimp only
  refine R_s 3 (6, [(0, vR 8 20), (1, vI (nI S)), (2, vI (nI a))], [vI (nI 9), vR 8 21], h) rfl ?_
  refine R_ld 8 21 9 125 rfl rfl (by omega) (by decide) ?_
  refine R_top (nI e) ((M 9 (by decide)).trans e1) ?_
  refine R_s 4 (11, [(0, vR 8 20), (1, vI (nI S)), (2, vI (nI a))], [vI (((nI e) >>> ((nI a) &&& 31)) &&& (nI 1))], h) rfl ?_
  refine R_top (nI (if e.testBit a then 1 else 0)) (bit_sh e e8 a (by omega)) ?_
  refine R_s 2 (cond (if2 .ne (nI (if e.testBit a then 1 else 0)) (nI 1)) 19 15, [(0, vR 8 20), (1, vI (nI S)), (2, vI (nI a))], [], h) rfl ?_
  refine R_bp (e.testBit a = false) i2_nb (fun c1 => ?_) (fun c1 => ?_)
  · refine R_s 3 (22, [(3, vI (nI 0)), (0, vR 8 20), (1, vI (nI S)), (2, vI (nI a))], [vR 8 20], h) rfl ?_
    refine R_calli mM_all [vR 8 20] [] (nI (2 ^ n - 1)) h rfl (t_M_all M F) ?_
    refine R_s 3 (31, [(3, vI (nI 0)), (0, vR 8 20), (1, vI (nI S)), (2, vI (nI a))], [vI (nI 9), vR 8 21, vI (nI (2 ^ n - 1))], h) rfl ?_
    refine R_ld 8 21 9 125 rfl rfl (by omega) (by decide) ?_
    refine R_top (nI e) ((M 9 (by decide)).trans e1) ?_
    refine R_s 3 (35, [(3, vI (nI 0)), (0, vR 8 20), (1, vI (nI S)), (2, vI (nI a))], [vI ((nI (2 ^ n - 1)) &&& ((nI e) ^^^ (-1)))], h) rfl ?_
    refine R_top (nI (2 ^ n - 1 - e)) (not_e n (by omega) e e2) ?_
    refine R_s 5 (cond (if0 .ne ((nI (2 ^ n - 1 - e)) &&& ((nI S) ^^^ (-1)))) 46 42, [(3, vI (nI 0)), (0, vR 8 20), (1, vI (nI S)), (2, vI (nI a))], [], h) rfl ?_
    refine R_bp (¬ ((2 ^ n - 1 - e) &&& S = 2 ^ n - 1 - e)) (x0_ne.trans (not_congr (msk_ok (by omega) hS))) (fun c2 => ?_) (fun c2 => ?_)
    · have c2 : opn n e S = false := bool_f (fun q => c2 (of_decide_eq_true q))
      refine R_s 6 (56, [(4, vI (nI 0)), (3, vI (nI 0)), (0, vR 8 20), (1, vI (nI S)), (2, vI (nI a))], [vI (nI a), vI (nI 10), vR 8 21], h) rfl ?_
      refine R_add 10 a rfl ?_
      refine R_ld 8 21 (10 + a) 125 rfl rfl (by omega) (by decide) ?_
      refine R_top (s (10 + a)) (M _ (by omega)) ?_
      refine R_s 2 (cond (if2 .eq (s (10 + a)) (-1)) 78 62, [(4, vI (nI 0)), (3, vI (nI 0)), (0, vR 8 20), (1, vI (nI S)), (2, vI (nI a))], [], h) rfl ?_
      refine R_bp ((s (10 + a)) = (-1)) x2_eq (fun c3 => ?_) (fun c3 => ?_)
      · refine R_s 3 (85, [(5, vI (nI 1)), (4, vI (nI 0)), (3, vI (nI 0)), (0, vR 8 20), (1, vI (nI S)), (2, vI (nI a))], [], h) rfl ?_
        refine R_s 5 (90, [(5, vI (nI 1)), (4, vI (nI 0)), (3, vI (nI 0)), (0, vR 8 20), (1, vI (nI S)), (2, vI (nI a))], [vI (((nI S) >>> ((nI a) &&& 31)) &&& (nI 1))], h) rfl ?_
        refine R_top (nI (if S.testBit a then 1 else 0)) (bit_sh S hS a (by omega)) ?_
        refine R_s 1 (cond (if0 .ne (nI (if S.testBit a then 1 else 0))) 111 93, [(5, vI (nI 1)), (4, vI (nI 0)), (3, vI (nI 0)), (0, vR 8 20), (1, vI (nI S)), (2, vI (nI a))], [], h) rfl ?_
        refine R_bp (S.testBit a = true) i0_nb (fun c8 => ?_) (fun c8 => ?_)
        · refine R_s 1 (112, [(5, vI (nI 1)), (4, vI (nI 0)), (3, vI (nI 0)), (0, vR 8 20), (1, vI (nI S)), (2, vI (nI a))], [vI (nI 0)], h) rfl ?_
          exact R_ret (some (vI (nI 0))) h rfl ⟨by rw [c8]; rfl, rfl⟩
        · refine R_s 2 (cond (if0 .eq (nI 1)) 111 98, [(5, vI (nI 1)), (4, vI (nI 0)), (3, vI (nI 0)), (0, vR 8 20), (1, vI (nI S)), (2, vI (nI a))], [], h) rfl ?_
          refine R_bf rfl ?_
          refine R_s 2 (cond (if0 .eq (nI 0)) 107 102, [(5, vI (nI 1)), (4, vI (nI 0)), (3, vI (nI 0)), (0, vR 8 20), (1, vI (nI S)), (2, vI (nI a))], [], h) rfl ?_
          refine R_bt rfl ?_
          refine R_s 2 (112, [(5, vI (nI 1)), (4, vI (nI 0)), (3, vI (nI 0)), (0, vR 8 20), (1, vI (nI S)), (2, vI (nI a))], [vI (nI 1)], h) rfl ?_
          exact R_ret (some (vI (nI 1))) h rfl ⟨by rw [bool_f c8]; simp [c1, c2, c3, bI, nI_0]; try rfl, rfl⟩
      · refine R_s 4 (69, [(4, vI (nI 0)), (3, vI (nI 0)), (0, vR 8 20), (1, vI (nI S)), (2, vI (nI a))], [vI (nI a), vI (nI 10), vR 8 21], h) rfl ?_
        refine R_add 10 a rfl ?_
        refine R_ld 8 21 (10 + a) 125 rfl rfl (by omega) (by decide) ?_
        refine R_top (s (10 + a)) (M _ (by omega)) ?_
        refine R_s 1 (72, [(4, vI (nI 0)), (3, vI (nI 0)), (0, vR 8 20), (1, vI (nI S)), (2, vI (nI a))], [vI (nI S), vI (s (10 + a))], h) rfl ?_
        refine R_calli mM_ones [vI (nI S)] [vI (s (10 + a))] (nI (pop S)) h rfl (t_M_ones hS) ?_
        refine R_s 1 (cond (if2 .ne (s (10 + a)) (nI (pop S))) 82 78, [(4, vI (nI 0)), (3, vI (nI 0)), (0, vR 8 20), (1, vI (nI S)), (2, vI (nI a))], [], h) rfl ?_
        refine R_bp (¬ (s (10 + a)) = (nI (pop S))) x2_ne (fun c4 => ?_) (fun c4 => ?_)
        · refine R_s 2 (85, [(5, vI (nI 0)), (4, vI (nI 0)), (3, vI (nI 0)), (0, vR 8 20), (1, vI (nI S)), (2, vI (nI a))], [], h) rfl ?_
          refine R_s 5 (90, [(5, vI (nI 0)), (4, vI (nI 0)), (3, vI (nI 0)), (0, vR 8 20), (1, vI (nI S)), (2, vI (nI a))], [vI (((nI S) >>> ((nI a) &&& 31)) &&& (nI 1))], h) rfl ?_
          refine R_top (nI (if S.testBit a then 1 else 0)) (bit_sh S hS a (by omega)) ?_
          refine R_s 1 (cond (if0 .ne (nI (if S.testBit a then 1 else 0))) 111 93, [(5, vI (nI 0)), (4, vI (nI 0)), (3, vI (nI 0)), (0, vR 8 20), (1, vI (nI S)), (2, vI (nI a))], [], h) rfl ?_
          refine R_bp (S.testBit a = true) i0_nb (fun c8 => ?_) (fun c8 => ?_)
          · refine R_s 1 (112, [(5, vI (nI 0)), (4, vI (nI 0)), (3, vI (nI 0)), (0, vR 8 20), (1, vI (nI S)), (2, vI (nI a))], [vI (nI 0)], h) rfl ?_
            exact R_ret (some (vI (nI 0))) h rfl ⟨by rw [c8]; rfl, rfl⟩
          · refine R_s 2 (cond (if0 .eq (nI 0)) 111 98, [(5, vI (nI 0)), (4, vI (nI 0)), (3, vI (nI 0)), (0, vR 8 20), (1, vI (nI S)), (2, vI (nI a))], [], h) rfl ?_
            refine R_bt rfl ?_
            refine R_s 1 (112, [(5, vI (nI 0)), (4, vI (nI 0)), (3, vI (nI 0)), (0, vR 8 20), (1, vI (nI S)), (2, vI (nI a))], [vI (nI 0)], h) rfl ?_
            exact R_ret (some (vI (nI 0))) h rfl ⟨by rw [bool_f c8]; simp [c1, c2, c3, c4, bI, nI_0]; try rfl, rfl⟩
        · have c4 := Classical.not_not.mp c4
          have c4' : nI (pop S) = s (10 + a) := c4.symm
          refine R_s 3 (85, [(5, vI (nI 1)), (4, vI (nI 0)), (3, vI (nI 0)), (0, vR 8 20), (1, vI (nI S)), (2, vI (nI a))], [], h) rfl ?_
          refine R_s 5 (90, [(5, vI (nI 1)), (4, vI (nI 0)), (3, vI (nI 0)), (0, vR 8 20), (1, vI (nI S)), (2, vI (nI a))], [vI (((nI S) >>> ((nI a) &&& 31)) &&& (nI 1))], h) rfl ?_
          refine R_top (nI (if S.testBit a then 1 else 0)) (bit_sh S hS a (by omega)) ?_
          refine R_s 1 (cond (if0 .ne (nI (if S.testBit a then 1 else 0))) 111 93, [(5, vI (nI 1)), (4, vI (nI 0)), (3, vI (nI 0)), (0, vR 8 20), (1, vI (nI S)), (2, vI (nI a))], [], h) rfl ?_
          refine R_bp (S.testBit a = true) i0_nb (fun c8 => ?_) (fun c8 => ?_)
          · refine R_s 1 (112, [(5, vI (nI 1)), (4, vI (nI 0)), (3, vI (nI 0)), (0, vR 8 20), (1, vI (nI S)), (2, vI (nI a))], [vI (nI 0)], h) rfl ?_
            exact R_ret (some (vI (nI 0))) h rfl ⟨by rw [c8]; rfl, rfl⟩
          · refine R_s 2 (cond (if0 .eq (nI 1)) 111 98, [(5, vI (nI 1)), (4, vI (nI 0)), (3, vI (nI 0)), (0, vR 8 20), (1, vI (nI S)), (2, vI (nI a))], [], h) rfl ?_
            refine R_bf rfl ?_
            refine R_s 2 (cond (if0 .eq (nI 0)) 107 102, [(5, vI (nI 1)), (4, vI (nI 0)), (3, vI (nI 0)), (0, vR 8 20), (1, vI (nI S)), (2, vI (nI a))], [], h) rfl ?_
            refine R_bt rfl ?_
            refine R_s 2 (112, [(5, vI (nI 1)), (4, vI (nI 0)), (3, vI (nI 0)), (0, vR 8 20), (1, vI (nI S)), (2, vI (nI a))], [vI (nI 1)], h) rfl ?_
            exact R_ret (some (vI (nI 1))) h rfl ⟨by rw [bool_f c8]; simp [c1, c2, c4, bI, nI_0]; try rfl, rfl⟩
    · have c2 : opn n e S = true := decide_eq_true (Classical.not_not.mp c2)
      refine R_s 7 (56, [(4, vI (nI 1)), (3, vI (nI 0)), (0, vR 8 20), (1, vI (nI S)), (2, vI (nI a))], [vI (nI a), vI (nI 10), vR 8 21], h) rfl ?_
      refine R_add 10 a rfl ?_
      refine R_ld 8 21 (10 + a) 125 rfl rfl (by omega) (by decide) ?_
      refine R_top (s (10 + a)) (M _ (by omega)) ?_
      refine R_s 2 (cond (if2 .eq (s (10 + a)) (-1)) 78 62, [(4, vI (nI 1)), (3, vI (nI 0)), (0, vR 8 20), (1, vI (nI S)), (2, vI (nI a))], [], h) rfl ?_
      refine R_bp ((s (10 + a)) = (-1)) x2_eq (fun c3 => ?_) (fun c3 => ?_)
      · refine R_s 3 (85, [(5, vI (nI 1)), (4, vI (nI 1)), (3, vI (nI 0)), (0, vR 8 20), (1, vI (nI S)), (2, vI (nI a))], [], h) rfl ?_
        refine R_s 5 (90, [(5, vI (nI 1)), (4, vI (nI 1)), (3, vI (nI 0)), (0, vR 8 20), (1, vI (nI S)), (2, vI (nI a))], [vI (((nI S) >>> ((nI a) &&& 31)) &&& (nI 1))], h) rfl ?_
        refine R_top (nI (if S.testBit a then 1 else 0)) (bit_sh S hS a (by omega)) ?_
        refine R_s 1 (cond (if0 .ne (nI (if S.testBit a then 1 else 0))) 111 93, [(5, vI (nI 1)), (4, vI (nI 1)), (3, vI (nI 0)), (0, vR 8 20), (1, vI (nI S)), (2, vI (nI a))], [], h) rfl ?_
        refine R_bp (S.testBit a = true) i0_nb (fun c8 => ?_) (fun c8 => ?_)
        · refine R_s 1 (112, [(5, vI (nI 1)), (4, vI (nI 1)), (3, vI (nI 0)), (0, vR 8 20), (1, vI (nI S)), (2, vI (nI a))], [vI (nI 0)], h) rfl ?_
          exact R_ret (some (vI (nI 0))) h rfl ⟨by rw [c8]; rfl, rfl⟩
        · refine R_s 2 (cond (if0 .eq (nI 1)) 111 98, [(5, vI (nI 1)), (4, vI (nI 1)), (3, vI (nI 0)), (0, vR 8 20), (1, vI (nI S)), (2, vI (nI a))], [], h) rfl ?_
          refine R_bf rfl ?_
          refine R_s 2 (cond (if0 .eq (nI 0)) 107 102, [(5, vI (nI 1)), (4, vI (nI 1)), (3, vI (nI 0)), (0, vR 8 20), (1, vI (nI S)), (2, vI (nI a))], [], h) rfl ?_
          refine R_bt rfl ?_
          refine R_s 2 (112, [(5, vI (nI 1)), (4, vI (nI 1)), (3, vI (nI 0)), (0, vR 8 20), (1, vI (nI S)), (2, vI (nI a))], [vI (nI 1)], h) rfl ?_
          exact R_ret (some (vI (nI 1))) h rfl ⟨by rw [bool_f c8]; simp [c1, c2, c3, bI, nI_0]; try rfl, rfl⟩
      · refine R_s 4 (69, [(4, vI (nI 1)), (3, vI (nI 0)), (0, vR 8 20), (1, vI (nI S)), (2, vI (nI a))], [vI (nI a), vI (nI 10), vR 8 21], h) rfl ?_
        refine R_add 10 a rfl ?_
        refine R_ld 8 21 (10 + a) 125 rfl rfl (by omega) (by decide) ?_
        refine R_top (s (10 + a)) (M _ (by omega)) ?_
        refine R_s 1 (72, [(4, vI (nI 1)), (3, vI (nI 0)), (0, vR 8 20), (1, vI (nI S)), (2, vI (nI a))], [vI (nI S), vI (s (10 + a))], h) rfl ?_
        refine R_calli mM_ones [vI (nI S)] [vI (s (10 + a))] (nI (pop S)) h rfl (t_M_ones hS) ?_
        refine R_s 1 (cond (if2 .ne (s (10 + a)) (nI (pop S))) 82 78, [(4, vI (nI 1)), (3, vI (nI 0)), (0, vR 8 20), (1, vI (nI S)), (2, vI (nI a))], [], h) rfl ?_
        refine R_bp (¬ (s (10 + a)) = (nI (pop S))) x2_ne (fun c4 => ?_) (fun c4 => ?_)
        · refine R_s 2 (85, [(5, vI (nI 0)), (4, vI (nI 1)), (3, vI (nI 0)), (0, vR 8 20), (1, vI (nI S)), (2, vI (nI a))], [], h) rfl ?_
          refine R_s 5 (90, [(5, vI (nI 0)), (4, vI (nI 1)), (3, vI (nI 0)), (0, vR 8 20), (1, vI (nI S)), (2, vI (nI a))], [vI (((nI S) >>> ((nI a) &&& 31)) &&& (nI 1))], h) rfl ?_
          refine R_top (nI (if S.testBit a then 1 else 0)) (bit_sh S hS a (by omega)) ?_
          refine R_s 1 (cond (if0 .ne (nI (if S.testBit a then 1 else 0))) 111 93, [(5, vI (nI 0)), (4, vI (nI 1)), (3, vI (nI 0)), (0, vR 8 20), (1, vI (nI S)), (2, vI (nI a))], [], h) rfl ?_
          refine R_bp (S.testBit a = true) i0_nb (fun c8 => ?_) (fun c8 => ?_)
          · refine R_s 1 (112, [(5, vI (nI 0)), (4, vI (nI 1)), (3, vI (nI 0)), (0, vR 8 20), (1, vI (nI S)), (2, vI (nI a))], [vI (nI 0)], h) rfl ?_
            exact R_ret (some (vI (nI 0))) h rfl ⟨by rw [c8]; rfl, rfl⟩
          · refine R_s 2 (cond (if0 .eq (nI 0)) 111 98, [(5, vI (nI 0)), (4, vI (nI 1)), (3, vI (nI 0)), (0, vR 8 20), (1, vI (nI S)), (2, vI (nI a))], [], h) rfl ?_
            refine R_bt rfl ?_
            refine R_s 1 (112, [(5, vI (nI 0)), (4, vI (nI 1)), (3, vI (nI 0)), (0, vR 8 20), (1, vI (nI S)), (2, vI (nI a))], [vI (nI 0)], h) rfl ?_
            exact R_ret (some (vI (nI 0))) h rfl ⟨by rw [bool_f c8]; simp [c1, c2, c3, c4, bI, nI_0]; try rfl, rfl⟩
        · have c4 := Classical.not_not.mp c4
          have c4' : nI (pop S) = s (10 + a) := c4.symm
          refine R_s 3 (85, [(5, vI (nI 1)), (4, vI (nI 1)), (3, vI (nI 0)), (0, vR 8 20), (1, vI (nI S)), (2, vI (nI a))], [], h) rfl ?_
          refine R_s 5 (90, [(5, vI (nI 1)), (4, vI (nI 1)), (3, vI (nI 0)), (0, vR 8 20), (1, vI (nI S)), (2, vI (nI a))], [vI (((nI S) >>> ((nI a) &&& 31)) &&& (nI 1))], h) rfl ?_
          refine R_top (nI (if S.testBit a then 1 else 0)) (bit_sh S hS a (by omega)) ?_
          refine R_s 1 (cond (if0 .ne (nI (if S.testBit a then 1 else 0))) 111 93, [(5, vI (nI 1)), (4, vI (nI 1)), (3, vI (nI 0)), (0, vR 8 20), (1, vI (nI S)), (2, vI (nI a))], [], h) rfl ?_
          refine R_bp (S.testBit a = true) i0_nb (fun c8 => ?_) (fun c8 => ?_)
          · refine R_s 1 (112, [(5, vI (nI 1)), (4, vI (nI 1)), (3, vI (nI 0)), (0, vR 8 20), (1, vI (nI S)), (2, vI (nI a))], [vI (nI 0)], h) rfl ?_
            exact R_ret (some (vI (nI 0))) h rfl ⟨by rw [c8]; rfl, rfl⟩
          · refine R_s 2 (cond (if0 .eq (nI 1)) 111 98, [(5, vI (nI 1)), (4, vI (nI 1)), (3, vI (nI 0)), (0, vR 8 20), (1, vI (nI S)), (2, vI (nI a))], [], h) rfl ?_
            refine R_bf rfl ?_
            refine R_s 2 (cond (if0 .eq (nI 0)) 107 102, [(5, vI (nI 1)), (4, vI (nI 1)), (3, vI (nI 0)), (0, vR 8 20), (1, vI (nI S)), (2, vI (nI a))], [], h) rfl ?_
            refine R_bt rfl ?_
            refine R_s 2 (112, [(5, vI (nI 1)), (4, vI (nI 1)), (3, vI (nI 0)), (0, vR 8 20), (1, vI (nI S)), (2, vI (nI a))], [vI (nI 1)], h) rfl ?_
            exact R_ret (some (vI (nI 1))) h rfl ⟨by rw [bool_f c8]; simp [c1, c2, c4, bI, nI_0]; try rfl, rfl⟩
  · have c1 := tf c1
    refine R_s 4 (22, [(3, vI (nI 1)), (0, vR 8 20), (1, vI (nI S)), (2, vI (nI a))], [vR 8 20], h) rfl ?_
    refine R_calli mM_all [vR 8 20] [] (nI (2 ^ n - 1)) h rfl (t_M_all M F) ?_
    refine R_s 3 (31, [(3, vI (nI 1)), (0, vR 8 20), (1, vI (nI S)), (2, vI (nI a))], [vI (nI 9), vR 8 21, vI (nI (2 ^ n - 1))], h) rfl ?_
    refine R_ld 8 21 9 125 rfl rfl (by omega) (by decide) ?_
    refine R_top (nI e) ((M 9 (by decide)).trans e1) ?_
    refine R_s 3 (35, [(3, vI (nI 1)), (0, vR 8 20), (1, vI (nI S)), (2, vI (nI a))], [vI ((nI (2 ^ n - 1)) &&& ((nI e) ^^^ (-1)))], h) rfl ?_
    refine R_top (nI (2 ^ n - 1 - e)) (not_e n (by omega) e e2) ?_
    refine R_s 5 (cond (if0 .ne ((nI (2 ^ n - 1 - e)) &&& ((nI S) ^^^ (-1)))) 46 42, [(3, vI (nI 1)), (0, vR 8 20), (1, vI (nI S)), (2, vI (nI a))], [], h) rfl ?_
    refine R_bp (¬ ((2 ^ n - 1 - e) &&& S = 2 ^ n - 1 - e)) (x0_ne.trans (not_congr (msk_ok (by omega) hS))) (fun c2 => ?_) (fun c2 => ?_)
    · have c2 : opn n e S = false := bool_f (fun q => c2 (of_decide_eq_true q))
      refine R_s 6 (56, [(4, vI (nI 0)), (3, vI (nI 1)), (0, vR 8 20), (1, vI (nI S)), (2, vI (nI a))], [vI (nI a), vI (nI 10), vR 8 21], h) rfl ?_
      refine R_add 10 a rfl ?_
      refine R_ld 8 21 (10 + a) 125 rfl rfl (by omega) (by decide) ?_
      refine R_top (s (10 + a)) (M _ (by omega)) ?_
      refine R_s 2 (cond (if2 .eq (s (10 + a)) (-1)) 78 62, [(4, vI (nI 0)), (3, vI (nI 1)), (0, vR 8 20), (1, vI (nI S)), (2, vI (nI a))], [], h) rfl ?_
      refine R_bp ((s (10 + a)) = (-1)) x2_eq (fun c3 => ?_) (fun c3 => ?_)
      · refine R_s 3 (85, [(5, vI (nI 1)), (4, vI (nI 0)), (3, vI (nI 1)), (0, vR 8 20), (1, vI (nI S)), (2, vI (nI a))], [], h) rfl ?_
        refine R_s 5 (90, [(5, vI (nI 1)), (4, vI (nI 0)), (3, vI (nI 1)), (0, vR 8 20), (1, vI (nI S)), (2, vI (nI a))], [vI (((nI S) >>> ((nI a) &&& 31)) &&& (nI 1))], h) rfl ?_
        refine R_top (nI (if S.testBit a then 1 else 0)) (bit_sh S hS a (by omega)) ?_
        refine R_s 1 (cond (if0 .ne (nI (if S.testBit a then 1 else 0))) 111 93, [(5, vI (nI 1)), (4, vI (nI 0)), (3, vI (nI 1)), (0, vR 8 20), (1, vI (nI S)), (2, vI (nI a))], [], h) rfl ?_
        refine R_bp (S.testBit a = true) i0_nb (fun c8 => ?_) (fun c8 => ?_)
        · refine R_s 1 (112, [(5, vI (nI 1)), (4, vI (nI 0)), (3, vI (nI 1)), (0, vR 8 20), (1, vI (nI S)), (2, vI (nI a))], [vI (nI 0)], h) rfl ?_
          exact R_ret (some (vI (nI 0))) h rfl ⟨by rw [c8]; rfl, rfl⟩
        · refine R_s 2 (cond (if0 .eq (nI 1)) 111 98, [(5, vI (nI 1)), (4, vI (nI 0)), (3, vI (nI 1)), (0, vR 8 20), (1, vI (nI S)), (2, vI (nI a))], [], h) rfl ?_
          refine R_bf rfl ?_
          refine R_s 2 (cond (if0 .eq (nI 1)) 107 102, [(5, vI (nI 1)), (4, vI (nI 0)), (3, vI (nI 1)), (0, vR 8 20), (1, vI (nI S)), (2, vI (nI a))], [], h) rfl ?_
          refine R_bf rfl ?_
          refine R_s 2 (cond (if0 .eq (nI 0)) 111 107, [(5, vI (nI 1)), (4, vI (nI 0)), (3, vI (nI 1)), (0, vR 8 20), (1, vI (nI S)), (2, vI (nI a))], [], h) rfl ?_
          refine R_bt rfl ?_
          refine R_s 1 (112, [(5, vI (nI 1)), (4, vI (nI 0)), (3, vI (nI 1)), (0, vR 8 20), (1, vI (nI S)), (2, vI (nI a))], [vI (nI 0)], h) rfl ?_
          exact R_ret (some (vI (nI 0))) h rfl ⟨by rw [bool_f c8]; simp [c1, c2, c3, bI, nI_0]; try rfl, rfl⟩
      · refine R_s 4 (69, [(4, vI (nI 0)), (3, vI (nI 1)), (0, vR 8 20), (1, vI (nI S)), (2, vI (nI a))], [vI (nI a), vI (nI 10), vR 8 21], h) rfl ?_
        refine R_add 10 a rfl ?_
        refine R_ld 8 21 (10 + a) 125 rfl rfl (by omega) (by decide) ?_
        refine R_top (s (10 + a)) (M _ (by omega)) ?_
        refine R_s 1 (72, [(4, vI (nI 0)), (3, vI (nI 1)), (0, vR 8 20), (1, vI (nI S)), (2, vI (nI a))], [vI (nI S), vI (s (10 + a))], h) rfl ?_
        refine R_calli mM_ones [vI (nI S)] [vI (s (10 + a))] (nI (pop S)) h rfl (t_M_ones hS) ?_
        refine R_s 1 (cond (if2 .ne (s (10 + a)) (nI (pop S))) 82 78, [(4, vI (nI 0)), (3, vI (nI 1)), (0, vR 8 20), (1, vI (nI S)), (2, vI (nI a))], [], h) rfl ?_
        refine R_bp (¬ (s (10 + a)) = (nI (pop S))) x2_ne (fun c4 => ?_) (fun c4 => ?_)
        · refine R_s 2 (85, [(5, vI (nI 0)), (4, vI (nI 0)), (3, vI (nI 1)), (0, vR 8 20), (1, vI (nI S)), (2, vI (nI a))], [], h) rfl ?_
          refine R_s 5 (90, [(5, vI (nI 0)), (4, vI (nI 0)), (3, vI (nI 1)), (0, vR 8 20), (1, vI (nI S)), (2, vI (nI a))], [vI (((nI S) >>> ((nI a) &&& 31)) &&& (nI 1))], h) rfl ?_
          refine R_top (nI (if S.testBit a then 1 else 0)) (bit_sh S hS a (by omega)) ?_
          refine R_s 1 (cond (if0 .ne (nI (if S.testBit a then 1 else 0))) 111 93, [(5, vI (nI 0)), (4, vI (nI 0)), (3, vI (nI 1)), (0, vR 8 20), (1, vI (nI S)), (2, vI (nI a))], [], h) rfl ?_
          refine R_bp (S.testBit a = true) i0_nb (fun c8 => ?_) (fun c8 => ?_)
          · refine R_s 1 (112, [(5, vI (nI 0)), (4, vI (nI 0)), (3, vI (nI 1)), (0, vR 8 20), (1, vI (nI S)), (2, vI (nI a))], [vI (nI 0)], h) rfl ?_
            exact R_ret (some (vI (nI 0))) h rfl ⟨by rw [c8]; rfl, rfl⟩
          · refine R_s 2 (cond (if0 .eq (nI 0)) 111 98, [(5, vI (nI 0)), (4, vI (nI 0)), (3, vI (nI 1)), (0, vR 8 20), (1, vI (nI S)), (2, vI (nI a))], [], h) rfl ?_
            refine R_bt rfl ?_
            refine R_s 1 (112, [(5, vI (nI 0)), (4, vI (nI 0)), (3, vI (nI 1)), (0, vR 8 20), (1, vI (nI S)), (2, vI (nI a))], [vI (nI 0)], h) rfl ?_
            exact R_ret (some (vI (nI 0))) h rfl ⟨by rw [bool_f c8]; simp [c1, c2, c3, c4, bI, nI_0]; try rfl, rfl⟩
        · have c4 := Classical.not_not.mp c4
          have c4' : nI (pop S) = s (10 + a) := c4.symm
          refine R_s 3 (85, [(5, vI (nI 1)), (4, vI (nI 0)), (3, vI (nI 1)), (0, vR 8 20), (1, vI (nI S)), (2, vI (nI a))], [], h) rfl ?_
          refine R_s 5 (90, [(5, vI (nI 1)), (4, vI (nI 0)), (3, vI (nI 1)), (0, vR 8 20), (1, vI (nI S)), (2, vI (nI a))], [vI (((nI S) >>> ((nI a) &&& 31)) &&& (nI 1))], h) rfl ?_
          refine R_top (nI (if S.testBit a then 1 else 0)) (bit_sh S hS a (by omega)) ?_
          refine R_s 1 (cond (if0 .ne (nI (if S.testBit a then 1 else 0))) 111 93, [(5, vI (nI 1)), (4, vI (nI 0)), (3, vI (nI 1)), (0, vR 8 20), (1, vI (nI S)), (2, vI (nI a))], [], h) rfl ?_
          refine R_bp (S.testBit a = true) i0_nb (fun c8 => ?_) (fun c8 => ?_)
          · refine R_s 1 (112, [(5, vI (nI 1)), (4, vI (nI 0)), (3, vI (nI 1)), (0, vR 8 20), (1, vI (nI S)), (2, vI (nI a))], [vI (nI 0)], h) rfl ?_
            exact R_ret (some (vI (nI 0))) h rfl ⟨by rw [c8]; rfl, rfl⟩
          · refine R_s 2 (cond (if0 .eq (nI 1)) 111 98, [(5, vI (nI 1)), (4, vI (nI 0)), (3, vI (nI 1)), (0, vR 8 20), (1, vI (nI S)), (2, vI (nI a))], [], h) rfl ?_
            refine R_bf rfl ?_
            refine R_s 2 (cond (if0 .eq (nI 1)) 107 102, [(5, vI (nI 1)), (4, vI (nI 0)), (3, vI (nI 1)), (0, vR 8 20), (1, vI (nI S)), (2, vI (nI a))], [], h) rfl ?_
            refine R_bf rfl ?_
            refine R_s 2 (cond (if0 .eq (nI 0)) 111 107, [(5, vI (nI 1)), (4, vI (nI 0)), (3, vI (nI 1)), (0, vR 8 20), (1, vI (nI S)), (2, vI (nI a))], [], h) rfl ?_
            refine R_bt rfl ?_
            refine R_s 1 (112, [(5, vI (nI 1)), (4, vI (nI 0)), (3, vI (nI 1)), (0, vR 8 20), (1, vI (nI S)), (2, vI (nI a))], [vI (nI 0)], h) rfl ?_
            exact R_ret (some (vI (nI 0))) h rfl ⟨by rw [bool_f c8]; simp [c1, c2, c4, bI, nI_0]; try rfl, rfl⟩
    · have c2 : opn n e S = true := decide_eq_true (Classical.not_not.mp c2)
      refine R_s 7 (56, [(4, vI (nI 1)), (3, vI (nI 1)), (0, vR 8 20), (1, vI (nI S)), (2, vI (nI a))], [vI (nI a), vI (nI 10), vR 8 21], h) rfl ?_
      refine R_add 10 a rfl ?_
      refine R_ld 8 21 (10 + a) 125 rfl rfl (by omega) (by decide) ?_
      refine R_top (s (10 + a)) (M _ (by omega)) ?_
      refine R_s 2 (cond (if2 .eq (s (10 + a)) (-1)) 78 62, [(4, vI (nI 1)), (3, vI (nI 1)), (0, vR 8 20), (1, vI (nI S)), (2, vI (nI a))], [], h) rfl ?_
      refine R_bp ((s (10 + a)) = (-1)) x2_eq (fun c3 => ?_) (fun c3 => ?_)
      · refine R_s 3 (85, [(5, vI (nI 1)), (4, vI (nI 1)), (3, vI (nI 1)), (0, vR 8 20), (1, vI (nI S)), (2, vI (nI a))], [], h) rfl ?_
        refine R_s 5 (90, [(5, vI (nI 1)), (4, vI (nI 1)), (3, vI (nI 1)), (0, vR 8 20), (1, vI (nI S)), (2, vI (nI a))], [vI (((nI S) >>> ((nI a) &&& 31)) &&& (nI 1))], h) rfl ?_
        refine R_top (nI (if S.testBit a then 1 else 0)) (bit_sh S hS a (by omega)) ?_
        refine R_s 1 (cond (if0 .ne (nI (if S.testBit a then 1 else 0))) 111 93, [(5, vI (nI 1)), (4, vI (nI 1)), (3, vI (nI 1)), (0, vR 8 20), (1, vI (nI S)), (2, vI (nI a))], [], h) rfl ?_
        refine R_bp (S.testBit a = true) i0_nb (fun c8 => ?_) (fun c8 => ?_)
        · refine R_s 1 (112, [(5, vI (nI 1)), (4, vI (nI 1)), (3, vI (nI 1)), (0, vR 8 20), (1, vI (nI S)), (2, vI (nI a))], [vI (nI 0)], h) rfl ?_
          exact R_ret (some (vI (nI 0))) h rfl ⟨by rw [c8]; rfl, rfl⟩
        · refine R_s 2 (cond (if0 .eq (nI 1)) 111 98, [(5, vI (nI 1)), (4, vI (nI 1)), (3, vI (nI 1)), (0, vR 8 20), (1, vI (nI S)), (2, vI (nI a))], [], h) rfl ?_
          refine R_bf rfl ?_
          refine R_s 2 (cond (if0 .eq (nI 1)) 107 102, [(5, vI (nI 1)), (4, vI (nI 1)), (3, vI (nI 1)), (0, vR 8 20), (1, vI (nI S)), (2, vI (nI a))], [], h) rfl ?_
          refine R_bf rfl ?_
          refine R_s 2 (cond (if0 .eq (nI 1)) 111 107, [(5, vI (nI 1)), (4, vI (nI 1)), (3, vI (nI 1)), (0, vR 8 20), (1, vI (nI S)), (2, vI (nI a))], [], h) rfl ?_
          refine R_bf rfl ?_
          refine R_s 2 (112, [(5, vI (nI 1)), (4, vI (nI 1)), (3, vI (nI 1)), (0, vR 8 20), (1, vI (nI S)), (2, vI (nI a))], [vI (nI 1)], h) rfl ?_
          exact R_ret (some (vI (nI 1))) h rfl ⟨by rw [bool_f c8]; simp [c1, c2, c3, bI, nI_0]; try rfl, rfl⟩
      · refine R_s 4 (69, [(4, vI (nI 1)), (3, vI (nI 1)), (0, vR 8 20), (1, vI (nI S)), (2, vI (nI a))], [vI (nI a), vI (nI 10), vR 8 21], h) rfl ?_
        refine R_add 10 a rfl ?_
        refine R_ld 8 21 (10 + a) 125 rfl rfl (by omega) (by decide) ?_
        refine R_top (s (10 + a)) (M _ (by omega)) ?_
        refine R_s 1 (72, [(4, vI (nI 1)), (3, vI (nI 1)), (0, vR 8 20), (1, vI (nI S)), (2, vI (nI a))], [vI (nI S), vI (s (10 + a))], h) rfl ?_
        refine R_calli mM_ones [vI (nI S)] [vI (s (10 + a))] (nI (pop S)) h rfl (t_M_ones hS) ?_
        refine R_s 1 (cond (if2 .ne (s (10 + a)) (nI (pop S))) 82 78, [(4, vI (nI 1)), (3, vI (nI 1)), (0, vR 8 20), (1, vI (nI S)), (2, vI (nI a))], [], h) rfl ?_
        refine R_bp (¬ (s (10 + a)) = (nI (pop S))) x2_ne (fun c4 => ?_) (fun c4 => ?_)
        · refine R_s 2 (85, [(5, vI (nI 0)), (4, vI (nI 1)), (3, vI (nI 1)), (0, vR 8 20), (1, vI (nI S)), (2, vI (nI a))], [], h) rfl ?_
          refine R_s 5 (90, [(5, vI (nI 0)), (4, vI (nI 1)), (3, vI (nI 1)), (0, vR 8 20), (1, vI (nI S)), (2, vI (nI a))], [vI (((nI S) >>> ((nI a) &&& 31)) &&& (nI 1))], h) rfl ?_
          refine R_top (nI (if S.testBit a then 1 else 0)) (bit_sh S hS a (by omega)) ?_
          refine R_s 1 (cond (if0 .ne (nI (if S.testBit a then 1 else 0))) 111 93, [(5, vI (nI 0)), (4, vI (nI 1)), (3, vI (nI 1)), (0, vR 8 20), (1, vI (nI S)), (2, vI (nI a))], [], h) rfl ?_
          refine R_bp (S.testBit a = true) i0_nb (fun c8 => ?_) (fun c8 => ?_)
          · refine R_s 1 (112, [(5, vI (nI 0)), (4, vI (nI 1)), (3, vI (nI 1)), (0, vR 8 20), (1, vI (nI S)), (2, vI (nI a))], [vI (nI 0)], h) rfl ?_
            exact R_ret (some (vI (nI 0))) h rfl ⟨by rw [c8]; rfl, rfl⟩
          · refine R_s 2 (cond (if0 .eq (nI 0)) 111 98, [(5, vI (nI 0)), (4, vI (nI 1)), (3, vI (nI 1)), (0, vR 8 20), (1, vI (nI S)), (2, vI (nI a))], [], h) rfl ?_
            refine R_bt rfl ?_
            refine R_s 1 (112, [(5, vI (nI 0)), (4, vI (nI 1)), (3, vI (nI 1)), (0, vR 8 20), (1, vI (nI S)), (2, vI (nI a))], [vI (nI 0)], h) rfl ?_
            exact R_ret (some (vI (nI 0))) h rfl ⟨by rw [bool_f c8]; simp [c1, c2, c3, c4, bI, nI_0]; try rfl, rfl⟩
        · have c4 := Classical.not_not.mp c4
          have c4' : nI (pop S) = s (10 + a) := c4.symm
          refine R_s 3 (85, [(5, vI (nI 1)), (4, vI (nI 1)), (3, vI (nI 1)), (0, vR 8 20), (1, vI (nI S)), (2, vI (nI a))], [], h) rfl ?_
          refine R_s 5 (90, [(5, vI (nI 1)), (4, vI (nI 1)), (3, vI (nI 1)), (0, vR 8 20), (1, vI (nI S)), (2, vI (nI a))], [vI (((nI S) >>> ((nI a) &&& 31)) &&& (nI 1))], h) rfl ?_
          refine R_top (nI (if S.testBit a then 1 else 0)) (bit_sh S hS a (by omega)) ?_
          refine R_s 1 (cond (if0 .ne (nI (if S.testBit a then 1 else 0))) 111 93, [(5, vI (nI 1)), (4, vI (nI 1)), (3, vI (nI 1)), (0, vR 8 20), (1, vI (nI S)), (2, vI (nI a))], [], h) rfl ?_
          refine R_bp (S.testBit a = true) i0_nb (fun c8 => ?_) (fun c8 => ?_)
          · refine R_s 1 (112, [(5, vI (nI 1)), (4, vI (nI 1)), (3, vI (nI 1)), (0, vR 8 20), (1, vI (nI S)), (2, vI (nI a))], [vI (nI 0)], h) rfl ?_
            exact R_ret (some (vI (nI 0))) h rfl ⟨by rw [c8]; rfl, rfl⟩
          · refine R_s 2 (cond (if0 .eq (nI 1)) 111 98, [(5, vI (nI 1)), (4, vI (nI 1)), (3, vI (nI 1)), (0, vR 8 20), (1, vI (nI S)), (2, vI (nI a))], [], h) rfl ?_
            refine R_bf rfl ?_
            refine R_s 2 (cond (if0 .eq (nI 1)) 107 102, [(5, vI (nI 1)), (4, vI (nI 1)), (3, vI (nI 1)), (0, vR 8 20), (1, vI (nI S)), (2, vI (nI a))], [], h) rfl ?_
            refine R_bf rfl ?_
            refine R_s 2 (cond (if0 .eq (nI 1)) 111 107, [(5, vI (nI 1)), (4, vI (nI 1)), (3, vI (nI 1)), (0, vR 8 20), (1, vI (nI S)), (2, vI (nI a))], [], h) rfl ?_
            refine R_bf rfl ?_
            refine R_s 2 (112, [(5, vI (nI 1)), (4, vI (nI 1)), (3, vI (nI 1)), (0, vR 8 20), (1, vI (nI S)), (2, vI (nI a))], [vI (nI 1)], h) rfl ?_
            exact R_ret (some (vI (nI 1))) h rfl ⟨by rw [bool_f c8]; simp [c1, c2, c4, bI, nI_0]; try rfl, rfl⟩
/-- the reference's walk along the order: all right so far, the songs so far -/
def alM (z : ST) : Nat → Bool × Nat
  | 0 => (true, 0)
  | j + 1 => ((alM z j).1 && mcm z (alM z j).2 (z.1 (18 + j)).toNatClampNeg, (alM z j).2 ||| 2 ^ (z.1 (18 + j)).toNatClampNeg)
set_option maxRecDepth 100000 in
theorem t_M_isAllowed0 {d n p k : Nat} {h : HP} {s : Nat → Int32} (O : WO s n) (M : MS 21 h s) (F : WF s n p k) : MT (d + 2) mM_isAllowed [vR 8 20] h (fun r h' => r = some (vI (bI (alM (s, n, p, k) n).1)) ∧ h' = h) := by
  have h8 := F.2.1.1
  have h5 := F.2.1.2.1
  have h6 := F.2.1.2.2
  refine R_s 6 (6, [(3, vI (nI 0)), (2, vI (nI 1)), (1, vI (nI 0)), (0, vR 8 20)], [], h) rfl ?_
  refine R_lv (lv' := [(3, vI (nI 0)), (2, vI (bI true)), (1, vI (nI 0)), (0, vR 8 20)]) rfl ?_
  suffices ∀ m (j : Nat) (b : Bool) (S : Nat) (hm : j + m = n) (hS8 : S < 256) (hS : alM (s, n, p, k) j = (b, S)), R (d + 2) mM_isAllowed (6, [(3, vI (nI j)), (2, vI (bI b)), (1, vI (nI S)), (0, vR 8 20)], [], h) _ from this n 0 true 0 (by omega) (by omega) rfl
  intro m
  induction m with
  | zero =>
    intro j b S hm hS8 hS
    refine R_s 4 (12, [(3, vI (nI j)), (2, vI (bI b)), (1, vI (nI S)), (0, vR 8 20)], [vI (nI 0), vR 8 21, vI (nI j)], h) rfl ?_
    refine R_ld 8 21 0 125 rfl rfl (by omega) (by decide) ?_
    refine R_top (nI n) ((M 0 (by decide)).trans F.1.1) ?_
    refine R_s 1 (cond (if2 .ge (nI j) (nI n)) 63 16, [(3, vI (nI j)), (2, vI (bI b)), (1, vI (nI S)), (0, vR 8 20)], [], h) rfl ?_
    refine R_bp (n ≤ j) (i2_ge (by omega) (by omega)) (fun c1 => ?_) (fun c1 => ?_)
    · refine R_s 2 (cond (if0 .eq (bI b)) 71 67, [(3, vI (nI j)), (2, vI (bI b)), (1, vI (nI S)), (0, vR 8 20)], [], h) rfl ?_
      refine R_bp (b = false) (x0_eq.trans bI_eq) (fun c2 => ?_) (fun c2 => ?_)
      · refine R_s 1 (72, [(3, vI (nI j)), (2, vI (bI b)), (1, vI (nI S)), (0, vR 8 20)], [vI (nI 0)], h) rfl ?_
        exact R_ret (some (vI (nI 0))) h rfl ⟨by rw [show j = n by omega] at hS; rw [hS, c2]; rfl, rfl⟩
      · refine R_s 2 (72, [(3, vI (nI j)), (2, vI (bI b)), (1, vI (nI S)), (0, vR 8 20)], [vI (nI 1)], h) rfl ?_
        exact R_ret (some (vI (nI 1))) h rfl ⟨by rw [show j = n by omega] at hS; rw [hS, tf c2]; rfl, rfl⟩
    · exact absurd hm (by omega)
  | succ m ih =>
    intro j b S hm hS8 hS
    refine R_s 4 (12, [(3, vI (nI j)), (2, vI (bI b)), (1, vI (nI S)), (0, vR 8 20)], [vI (nI 0), vR 8 21, vI (nI j)], h) rfl ?_
    refine R_ld 8 21 0 125 rfl rfl (by omega) (by decide) ?_
    refine R_top (nI n) ((M 0 (by decide)).trans F.1.1) ?_
    refine R_s 1 (cond (if2 .ge (nI j) (nI n)) 63 16, [(3, vI (nI j)), (2, vI (bI b)), (1, vI (nI S)), (0, vR 8 20)], [], h) rfl ?_
    refine R_bp (n ≤ j) (i2_ge (by omega) (by omega)) (fun c1 => ?_) (fun c1 => ?_)
    · refine R_s 2 (cond (if0 .eq (bI b)) 71 67, [(3, vI (nI j)), (2, vI (bI b)), (1, vI (nI S)), (0, vR 8 20)], [], h) rfl ?_
      refine R_bp (b = false) (x0_eq.trans bI_eq) (fun c2 => ?_) (fun c2 => ?_)
      · refine R_s 1 (72, [(3, vI (nI j)), (2, vI (bI b)), (1, vI (nI S)), (0, vR 8 20)], [vI (nI 0)], h) rfl ?_
        exact R_ret (some (vI (nI 0))) h rfl ⟨by rw [show j = n by omega] at hS; rw [hS, c2]; rfl, rfl⟩
      · refine R_s 2 (72, [(3, vI (nI j)), (2, vI (bI b)), (1, vI (nI S)), (0, vR 8 20)], [vI (nI 1)], h) rfl ?_
        exact R_ret (some (vI (nI 1))) h rfl ⟨by rw [show j = n by omega] at hS; rw [hS, tf c2]; rfl, rfl⟩
    · obtain ⟨a, ha, ea⟩ := O.2.1 j (by omega)
      have hN : alM (s, n, p, k) (j + 1) = (b && mcm (s, n, p, k) S a, S ||| 2 ^ a) := by show ((alM (s, n, p, k) j).1 && mcm (s, n, p, k) (alM (s, n, p, k) j).2 (s (18 + j)).toNatClampNeg, (alM (s, n, p, k) j).2 ||| 2 ^ (s (18 + j)).toNatClampNeg) = _; rw [hS, ea, nI_cl (by omega)]
      refine R_s 2 (cond (if0 .eq (bI b)) 41 20, [(3, vI (nI j)), (2, vI (bI b)), (1, vI (nI S)), (0, vR 8 20)], [], h) rfl ?_
      refine R_bp (b = false) (x0_eq.trans bI_eq) (fun c2 => ?_) (fun c2 => ?_)
      · refine R_s 8 (52, [(2, vI (nI 0)), (3, vI (nI j)), (1, vI (nI S)), (0, vR 8 20)], [vI (nI j), vI (nI 18), vR 8 21, vI (nI 1), vI (nI S)], h) rfl ?_
        refine R_add 18 j rfl ?_
        refine R_ld 8 21 (18 + j) 125 rfl rfl (by omega) (by decide) ?_
        refine R_top (nI a) ((M _ (by omega)).trans ea) ?_
        refine R_s 2 (56, [(2, vI (nI 0)), (3, vI (nI j)), (1, vI (nI S)), (0, vR 8 20)], [vI ((nI S) ||| ((nI 1) <<< ((nI a) &&& 31)))], h) rfl ?_
        refine R_top (nI (S ||| 2 ^ a)) (bit_or S hS8 a (by omega)) ?_
        refine R_s 2 (60, [(3, vI (nI j + Int32.ofInt 1)), (1, vI (nI (S ||| 2 ^ a))), (2, vI (nI 0)), (0, vR 8 20)], [], h) rfl ?_
        refine R_lv (lv' := [(3, vI (nI (j + 1))), (1, vI (nI (S ||| 2 ^ a))), (2, vI (nI 0)), (0, vR 8 20)]) (by rw [show nI j + Int32.ofInt 1 = nI (j + 1) from nI_add _ _]) ?_
        refine R_s 1 (6, [(3, vI (nI (j + 1))), (1, vI (nI (S ||| 2 ^ a))), (2, vI (nI 0)), (0, vR 8 20)], [], h) rfl ?_
        refine R_lv (lv' := [(3, vI (nI (j + 1))), (1, vI (nI (S ||| 2 ^ a))), (2, vI (bI false)), (0, vR 8 20)]) rfl ?_
        refine R_fg (lv' := [(3, vI (nI (j + 1))), (2, vI (bI false)), (1, vI (nI (S ||| 2 ^ a))), (0, vR 8 20)]) [0, 2, 1, 3] rfl [3, 1, 2, 0] rfl (by decide) ?_
        exact ih (j + 1) false (S ||| 2 ^ a) (by omega) (bit_lt S hS8 a (by omega)) (by rw [hN, c2]; rfl)
      · have c2 := tf c2
        refine R_s 6 (29, [(3, vI (nI j)), (2, vI (bI b)), (1, vI (nI S)), (0, vR 8 20)], [vI (nI j), vI (nI 18), vR 8 21, vI (nI S), vR 8 20], h) rfl ?_
        refine R_add 18 j rfl ?_
        refine R_ld 8 21 (18 + j) 125 rfl rfl (by omega) (by decide) ?_
        refine R_top (nI a) ((M _ (by omega)).trans ea) ?_
        refine R_calli mM_mayCome [vR 8 20, vI (nI S), vI (nI a)] [] (bI (mcm (s, n, p, k) S a)) h rfl (t_M_mayCome hS8 ha M F) ?_
        refine R_s 1 (cond (if0 .eq (bI (mcm (s, n, p, k) S a))) 41 37, [(3, vI (nI j)), (2, vI (bI b)), (1, vI (nI S)), (0, vR 8 20)], [], h) rfl ?_
        refine R_bp (mcm (s, n, p, k) S a = false) (x0_eq.trans bI_eq) (fun c3 => ?_) (fun c3 => ?_)
        · refine R_s 8 (52, [(2, vI (nI 0)), (3, vI (nI j)), (1, vI (nI S)), (0, vR 8 20)], [vI (nI j), vI (nI 18), vR 8 21, vI (nI 1), vI (nI S)], h) rfl ?_
          refine R_add 18 j rfl ?_
          refine R_ld 8 21 (18 + j) 125 rfl rfl (by omega) (by decide) ?_
          refine R_top (nI a) ((M _ (by omega)).trans ea) ?_
          refine R_s 2 (56, [(2, vI (nI 0)), (3, vI (nI j)), (1, vI (nI S)), (0, vR 8 20)], [vI ((nI S) ||| ((nI 1) <<< ((nI a) &&& 31)))], h) rfl ?_
          refine R_top (nI (S ||| 2 ^ a)) (bit_or S hS8 a (by omega)) ?_
          refine R_s 2 (60, [(3, vI (nI j + Int32.ofInt 1)), (1, vI (nI (S ||| 2 ^ a))), (2, vI (nI 0)), (0, vR 8 20)], [], h) rfl ?_
          refine R_lv (lv' := [(3, vI (nI (j + 1))), (1, vI (nI (S ||| 2 ^ a))), (2, vI (nI 0)), (0, vR 8 20)]) (by rw [show nI j + Int32.ofInt 1 = nI (j + 1) from nI_add _ _]) ?_
          refine R_s 1 (6, [(3, vI (nI (j + 1))), (1, vI (nI (S ||| 2 ^ a))), (2, vI (nI 0)), (0, vR 8 20)], [], h) rfl ?_
          refine R_lv (lv' := [(3, vI (nI (j + 1))), (1, vI (nI (S ||| 2 ^ a))), (2, vI (bI false)), (0, vR 8 20)]) rfl ?_
          refine R_fg (lv' := [(3, vI (nI (j + 1))), (2, vI (bI false)), (1, vI (nI (S ||| 2 ^ a))), (0, vR 8 20)]) [0, 2, 1, 3] rfl [3, 1, 2, 0] rfl (by decide) ?_
          exact ih (j + 1) false (S ||| 2 ^ a) (by omega) (bit_lt S hS8 a (by omega)) (by rw [hN, c2, c3]; rfl)
        · have c3 := tf c3
          refine R_s 9 (52, [(2, vI (nI 1)), (3, vI (nI j)), (1, vI (nI S)), (0, vR 8 20)], [vI (nI j), vI (nI 18), vR 8 21, vI (nI 1), vI (nI S)], h) rfl ?_
          refine R_add 18 j rfl ?_
          refine R_ld 8 21 (18 + j) 125 rfl rfl (by omega) (by decide) ?_
          refine R_top (nI a) ((M _ (by omega)).trans ea) ?_
          refine R_s 2 (56, [(2, vI (nI 1)), (3, vI (nI j)), (1, vI (nI S)), (0, vR 8 20)], [vI ((nI S) ||| ((nI 1) <<< ((nI a) &&& 31)))], h) rfl ?_
          refine R_top (nI (S ||| 2 ^ a)) (bit_or S hS8 a (by omega)) ?_
          refine R_s 2 (60, [(3, vI (nI j + Int32.ofInt 1)), (1, vI (nI (S ||| 2 ^ a))), (2, vI (nI 1)), (0, vR 8 20)], [], h) rfl ?_
          refine R_lv (lv' := [(3, vI (nI (j + 1))), (1, vI (nI (S ||| 2 ^ a))), (2, vI (nI 1)), (0, vR 8 20)]) (by rw [show nI j + Int32.ofInt 1 = nI (j + 1) from nI_add _ _]) ?_
          refine R_s 1 (6, [(3, vI (nI (j + 1))), (1, vI (nI (S ||| 2 ^ a))), (2, vI (nI 1)), (0, vR 8 20)], [], h) rfl ?_
          refine R_lv (lv' := [(3, vI (nI (j + 1))), (1, vI (nI (S ||| 2 ^ a))), (2, vI (bI true)), (0, vR 8 20)]) rfl ?_
          refine R_fg (lv' := [(3, vI (nI (j + 1))), (2, vI (bI true)), (1, vI (nI (S ||| 2 ^ a))), (0, vR 8 20)]) [0, 2, 1, 3] rfl [3, 1, 2, 0] rfl (by decide) ?_
          exact ih (j + 1) true (S ||| 2 ^ a) (by omega) (bit_lt S hS8 a (by omega)) (by rw [hN, c2, c3]; rfl)
