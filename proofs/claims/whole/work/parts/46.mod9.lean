def em2 (k x : Nat) : Int32 := if 10 ≤ x ∧ x < 10 + k then -1 else if 18 ≤ x ∧ x < 18 + k then nI (x - 18) else nI 0
def em3 (k x : Nat) : Int32 := if 45 ≤ x ∧ x < 45 + 2 * k ∧ (x - 45) % 2 = 0 then -1 else em2 8 x
theorem em2_s {k x : Nat} (hk : k < 8) : em2 (k + 1) x = if x = 10 + k then -1 else if x = 18 + k then nI k else em2 k x := by
  unfold em2
  by_cases h1 : x = 10 + k
  · rw [if_pos h1, if_pos (by omega)]
  · rw [if_neg h1]
    by_cases h2 : x = 18 + k
    · rw [if_pos h2, if_neg (by omega), if_pos (by omega), h2, show 18 + k - 18 = k by omega]
    · rw [if_neg h2]
      by_cases h3 : 10 ≤ x ∧ x < 10 + k
      · rw [if_pos h3, if_pos (by omega)]
      · rw [if_neg h3, if_neg (by omega)]
        by_cases h4 : 18 ≤ x ∧ x < 18 + k
        · rw [if_pos h4, if_pos (by omega)]
        · rw [if_neg h4, if_neg (by omega)]
theorem em3_s {k x : Nat} : em3 (k + 1) x = if x = 45 + 2 * k then -1 else em3 k x := by
  unfold em3
  by_cases h1 : x = 45 + 2 * k
  · rw [if_pos h1, if_pos (by omega)]
  · rw [if_neg h1]
    by_cases h2 : 45 ≤ x ∧ x < 45 + 2 * k ∧ (x - 45) % 2 = 0
    · rw [if_pos h2, if_pos (by omega)]
    · rw [if_neg h2, if_neg (by omega)]
theorem em3_e {x : Nat} (hx : x < 125) : em3 40 x = emp x := by
  have h : ∀ x, x < 125 → em3 40 x = emp x := by decide +kernel
  exact h x hx
theorem em2_0 {x : Nat} : em2 0 x = nI 0 := by unfold em2; rw [if_neg (by omega), if_neg (by omega)]
theorem em3_0 {x : Nat} : em3 0 x = em2 8 x := by unfold em3; rw [if_neg (by omega)]
set_option maxRecDepth 100000 in
theorem t_M_empty21 {d : Nat} {h : HP} : MT d mM_empty [vR 8 21] h (fun r h' => r = none ∧ MS 21 h' emp ∧ ∀ g' j', ¬ (g' = 8 ∧ j' = 21) → h' g' j' = h g' j') := by
  refine R_s 2 (2, [(1, vI (nI 0)), (0, vR 8 21)], [], h) rfl ?_
  suffices ∀ m (i : Nat) (hh : HP) (hm : i + m = 125) (X : ∀ g' j', ¬ (g' = 8 ∧ j' = 21) → hh g' j' = h g' j') (K : ∀ x, x < i → hh 8 21 x = nI 0), R d mM_empty (2, [(1, vI (nI i)), (0, vR 8 21)], [], hh) _ from this 125 0 h (by omega) (fun _ _ _ => rfl) (fun x hx => absurd hx (by omega))
  intro m
  induction m with
  | zero =>
    intro i hh hm X K
    refine R_s 3 (cond (if2 .ge (nI i) (nI 125)) 18 8, [(1, vI (nI i)), (0, vR 8 21)], [], hh) rfl ?_
    refine R_bp (125 ≤ i) (i2_ge (by omega) (by omega)) (fun c1 => ?_) (fun c1 => ?_)
    · refine R_s 2 (20, [(1, vI (nI 0)), (0, vR 8 21)], [], hh) rfl ?_
      have K2 : ∀ x, x < 125 → hh 8 21 x = em2 0 x := fun x hx => (K x (by omega)).trans em2_0.symm
      clear K hm
      suffices ∀ m2 (i2 : Nat) (h9 : HP) (hm2 : i2 + m2 = 8) (X9 : ∀ g' j', ¬ (g' = 8 ∧ j' = 21) → h9 g' j' = h g' j') (K9 : ∀ x, x < 125 → h9 8 21 x = em2 i2 x), R d mM_empty (20, [(1, vI (nI i2)), (0, vR 8 21)], [], h9) _ from this 8 0 hh (by omega) X K2
      intro m2
      induction m2 with
      | zero =>
        intro i2 h9 hm2 X9 K9
        refine R_s 3 (cond (if2 .ge (nI i2) (nI 8)) 46 26, [(1, vI (nI i2)), (0, vR 8 21)], [], h9) rfl ?_
        refine R_bp (8 ≤ i2) (i2_ge (by omega) (by omega)) (fun c2 => ?_) (fun c2 => ?_)
        · refine R_s 2 (48, [(1, vI (nI 0)), (0, vR 8 21)], [], h9) rfl ?_
          have K3 : ∀ x, x < 125 → h9 8 21 x = em3 0 x := fun x hx => (K9 x hx).trans (by rw [em3_0, show i2 = 8 by omega])
          clear K9 hm2
          suffices ∀ m3 (i3 : Nat) (h8 : HP) (hm3 : i3 + m3 = 40) (X8 : ∀ g' j', ¬ (g' = 8 ∧ j' = 21) → h8 g' j' = h g' j') (K8 : ∀ x, x < 125 → h8 8 21 x = em3 i3 x), R d mM_empty (48, [(1, vI (nI i3)), (0, vR 8 21)], [], h8) _ from this 40 0 h9 (by omega) X9 K3
          intro m3
          induction m3 with
          | zero =>
            intro i3 h8 hm3 X8 K8
            refine R_s 3 (cond (if2 .ge (nI i3) (nI 40)) 69 54, [(1, vI (nI i3)), (0, vR 8 21)], [], h8) rfl ?_
            refine R_bp (40 ≤ i3) (i2_ge (by omega) (by omega)) (fun c3 => ?_) (fun c3 => ?_)
            · exact R_ret none h8 rfl ⟨rfl, fun x hx => (K8 x hx).trans (by rw [show i3 = 40 by omega, em3_e hx]), X8⟩
            · exact absurd hm3 (by omega)
          | succ m3 ih3 =>
            intro i3 h8 hm3 X8 K8
            refine R_s 3 (cond (if2 .ge (nI i3) (nI 40)) 69 54, [(1, vI (nI i3)), (0, vR 8 21)], [], h8) rfl ?_
            refine R_bp (40 ≤ i3) (i2_ge (by omega) (by omega)) (fun c3 => ?_) (fun c3 => ?_)
            · exact R_ret none h8 rfl ⟨rfl, fun x hx => (K8 x hx).trans (by rw [show i3 = 40 by omega, em3_e hx]), X8⟩
            · refine R_s 4 (59, [(1, vI (nI i3)), (0, vR 8 21)], [vI (nI i3), vI (nI 2), vI (nI 45), vR 8 21], h8) rfl ?_
              refine R_mul 2 i3 rfl ?_
              refine R_add 45 (2 * i3) rfl ?_
              refine R_s 1 (62, [(1, vI (nI i3)), (0, vR 8 21)], [vI (-1), vI (nI (45 + (2 * i3))), vR 8 21], h8) rfl ?_
              refine R_st 8 21 (45 + (2 * i3)) 125 (-1) rfl rfl (by omega) (by decide) (fun h1 eh1 => ?_)
              refine R_s 1 (66, [(1, vI (nI i3 + Int32.ofInt 1)), (0, vR 8 21)], [], h1) rfl ?_
              refine R_lv (lv' := [(1, vI (nI (i3 + 1))), (0, vR 8 21)]) (by rw [show nI i3 + Int32.ofInt 1 = nI (i3 + 1) from nI_add _ _]) ?_
              refine R_s 1 (48, [(1, vI (nI (i3 + 1))), (0, vR 8 21)], [], h1) rfl ?_
              refine ih3 (i3 + 1) h1 (by omega) (fun g' j' e => by rw [eh1, hs_ne e]; exact X8 g' j' e) (fun x hx => ?_)
              rw [eh1, hs_same, em3_s]
              by_cases q : x = 45 + 2 * i3
              · rw [q, up_same, if_pos rfl]
              · rw [up_ne q, if_neg q]; exact K8 x hx
        · exact absurd hm2 (by omega)
      | succ m2 ih2 =>
        intro i2 h9 hm2 X9 K9
        refine R_s 3 (cond (if2 .ge (nI i2) (nI 8)) 46 26, [(1, vI (nI i2)), (0, vR 8 21)], [], h9) rfl ?_
        refine R_bp (8 ≤ i2) (i2_ge (by omega) (by omega)) (fun c2 => ?_) (fun c2 => ?_)
        · refine R_s 2 (48, [(1, vI (nI 0)), (0, vR 8 21)], [], h9) rfl ?_
          have K3 : ∀ x, x < 125 → h9 8 21 x = em3 0 x := fun x hx => (K9 x hx).trans (by rw [em3_0, show i2 = 8 by omega])
          clear K9 hm2 ih2
          suffices ∀ m3 (i3 : Nat) (h8 : HP) (hm3 : i3 + m3 = 40) (X8 : ∀ g' j', ¬ (g' = 8 ∧ j' = 21) → h8 g' j' = h g' j') (K8 : ∀ x, x < 125 → h8 8 21 x = em3 i3 x), R d mM_empty (48, [(1, vI (nI i3)), (0, vR 8 21)], [], h8) _ from this 40 0 h9 (by omega) X9 K3
          intro m3
          induction m3 with
          | zero =>
            intro i3 h8 hm3 X8 K8
            refine R_s 3 (cond (if2 .ge (nI i3) (nI 40)) 69 54, [(1, vI (nI i3)), (0, vR 8 21)], [], h8) rfl ?_
            refine R_bp (40 ≤ i3) (i2_ge (by omega) (by omega)) (fun c3 => ?_) (fun c3 => ?_)
            · exact R_ret none h8 rfl ⟨rfl, fun x hx => (K8 x hx).trans (by rw [show i3 = 40 by omega, em3_e hx]), X8⟩
            · exact absurd hm3 (by omega)
          | succ m3 ih3 =>
            intro i3 h8 hm3 X8 K8
            refine R_s 3 (cond (if2 .ge (nI i3) (nI 40)) 69 54, [(1, vI (nI i3)), (0, vR 8 21)], [], h8) rfl ?_
            refine R_bp (40 ≤ i3) (i2_ge (by omega) (by omega)) (fun c3 => ?_) (fun c3 => ?_)
            · exact R_ret none h8 rfl ⟨rfl, fun x hx => (K8 x hx).trans (by rw [show i3 = 40 by omega, em3_e hx]), X8⟩
            · refine R_s 4 (59, [(1, vI (nI i3)), (0, vR 8 21)], [vI (nI i3), vI (nI 2), vI (nI 45), vR 8 21], h8) rfl ?_
              refine R_mul 2 i3 rfl ?_
              refine R_add 45 (2 * i3) rfl ?_
              refine R_s 1 (62, [(1, vI (nI i3)), (0, vR 8 21)], [vI (-1), vI (nI (45 + (2 * i3))), vR 8 21], h8) rfl ?_
              refine R_st 8 21 (45 + (2 * i3)) 125 (-1) rfl rfl (by omega) (by decide) (fun h2 eh2 => ?_)
              refine R_s 1 (66, [(1, vI (nI i3 + Int32.ofInt 1)), (0, vR 8 21)], [], h2) rfl ?_
              refine R_lv (lv' := [(1, vI (nI (i3 + 1))), (0, vR 8 21)]) (by rw [show nI i3 + Int32.ofInt 1 = nI (i3 + 1) from nI_add _ _]) ?_
              refine R_s 1 (48, [(1, vI (nI (i3 + 1))), (0, vR 8 21)], [], h2) rfl ?_
              refine ih3 (i3 + 1) h2 (by omega) (fun g' j' e => by rw [eh2, hs_ne e]; exact X8 g' j' e) (fun x hx => ?_)
              rw [eh2, hs_same, em3_s]
              by_cases q : x = 45 + 2 * i3
              · rw [q, up_same, if_pos rfl]
              · rw [up_ne q, if_neg q]; exact K8 x hx
        · refine R_s 3 (30, [(1, vI (nI i2)), (0, vR 8 21)], [vI (nI i2), vI (nI 10), vR 8 21], h9) rfl ?_
          refine R_add 10 i2 rfl ?_
          refine R_s 1 (32, [(1, vI (nI i2)), (0, vR 8 21)], [vI (-1), vI (nI (10 + i2)), vR 8 21], h9) rfl ?_
          refine R_st 8 21 (10 + i2) 125 (-1) rfl rfl (by omega) (by decide) (fun h3 eh3 => ?_)
          refine R_s 3 (37, [(1, vI (nI i2)), (0, vR 8 21)], [vI (nI i2), vI (nI 18), vR 8 21], h3) rfl ?_
          refine R_add 18 i2 rfl ?_
          refine R_s 1 (39, [(1, vI (nI i2)), (0, vR 8 21)], [vI (nI i2), vI (nI (18 + i2)), vR 8 21], h3) rfl ?_
          refine R_st 8 21 (18 + i2) 125 (nI i2) rfl rfl (by omega) (by decide) (fun h4 eh4 => ?_)
          refine R_s 1 (43, [(1, vI (nI i2 + Int32.ofInt 1)), (0, vR 8 21)], [], h4) rfl ?_
          refine R_lv (lv' := [(1, vI (nI (i2 + 1))), (0, vR 8 21)]) (by rw [show nI i2 + Int32.ofInt 1 = nI (i2 + 1) from nI_add _ _]) ?_
          refine R_s 1 (20, [(1, vI (nI (i2 + 1))), (0, vR 8 21)], [], h4) rfl ?_
          refine ih2 (i2 + 1) h4 (by omega) (fun g' j' e => by rw [eh4, hs_ne e, eh3, hs_ne e]; exact X9 g' j' e) (fun x hx => ?_)
          rw [eh4, hs_same, eh3, hs_same, em2_s (by omega)]
          by_cases q : x = 10 + i2
          · rw [q, up_ne (by omega), up_same, if_pos rfl]
          · rw [if_neg q]; by_cases q2 : x = 18 + i2
            · rw [q2, up_same, if_pos rfl]
            · rw [up_ne q2, up_ne q, if_neg q2]; exact K9 x hx
    · exact absurd hm (by omega)
  | succ m ih =>
    intro i hh hm X K
    refine R_s 3 (cond (if2 .ge (nI i) (nI 125)) 18 8, [(1, vI (nI i)), (0, vR 8 21)], [], hh) rfl ?_
    refine R_bp (125 ≤ i) (i2_ge (by omega) (by omega)) (fun c1 => ?_) (fun c1 => ?_)
    · refine R_s 2 (20, [(1, vI (nI 0)), (0, vR 8 21)], [], hh) rfl ?_
      have K2 : ∀ x, x < 125 → hh 8 21 x = em2 0 x := fun x hx => (K x (by omega)).trans em2_0.symm
      clear K hm ih
      suffices ∀ m2 (i2 : Nat) (h9 : HP) (hm2 : i2 + m2 = 8) (X9 : ∀ g' j', ¬ (g' = 8 ∧ j' = 21) → h9 g' j' = h g' j') (K9 : ∀ x, x < 125 → h9 8 21 x = em2 i2 x), R d mM_empty (20, [(1, vI (nI i2)), (0, vR 8 21)], [], h9) _ from this 8 0 hh (by omega) X K2
      intro m2
      induction m2 with
      | zero =>
        intro i2 h9 hm2 X9 K9
        refine R_s 3 (cond (if2 .ge (nI i2) (nI 8)) 46 26, [(1, vI (nI i2)), (0, vR 8 21)], [], h9) rfl ?_
        refine R_bp (8 ≤ i2) (i2_ge (by omega) (by omega)) (fun c2 => ?_) (fun c2 => ?_)
        · refine R_s 2 (48, [(1, vI (nI 0)), (0, vR 8 21)], [], h9) rfl ?_
          have K3 : ∀ x, x < 125 → h9 8 21 x = em3 0 x := fun x hx => (K9 x hx).trans (by rw [em3_0, show i2 = 8 by omega])
          clear K9 hm2
          suffices ∀ m3 (i3 : Nat) (h8 : HP) (hm3 : i3 + m3 = 40) (X8 : ∀ g' j', ¬ (g' = 8 ∧ j' = 21) → h8 g' j' = h g' j') (K8 : ∀ x, x < 125 → h8 8 21 x = em3 i3 x), R d mM_empty (48, [(1, vI (nI i3)), (0, vR 8 21)], [], h8) _ from this 40 0 h9 (by omega) X9 K3
          intro m3
          induction m3 with
          | zero =>
            intro i3 h8 hm3 X8 K8
            refine R_s 3 (cond (if2 .ge (nI i3) (nI 40)) 69 54, [(1, vI (nI i3)), (0, vR 8 21)], [], h8) rfl ?_
            refine R_bp (40 ≤ i3) (i2_ge (by omega) (by omega)) (fun c3 => ?_) (fun c3 => ?_)
            · exact R_ret none h8 rfl ⟨rfl, fun x hx => (K8 x hx).trans (by rw [show i3 = 40 by omega, em3_e hx]), X8⟩
            · exact absurd hm3 (by omega)
          | succ m3 ih3 =>
            intro i3 h8 hm3 X8 K8
            refine R_s 3 (cond (if2 .ge (nI i3) (nI 40)) 69 54, [(1, vI (nI i3)), (0, vR 8 21)], [], h8) rfl ?_
            refine R_bp (40 ≤ i3) (i2_ge (by omega) (by omega)) (fun c3 => ?_) (fun c3 => ?_)
            · exact R_ret none h8 rfl ⟨rfl, fun x hx => (K8 x hx).trans (by rw [show i3 = 40 by omega, em3_e hx]), X8⟩
            · refine R_s 4 (59, [(1, vI (nI i3)), (0, vR 8 21)], [vI (nI i3), vI (nI 2), vI (nI 45), vR 8 21], h8) rfl ?_
              refine R_mul 2 i3 rfl ?_
              refine R_add 45 (2 * i3) rfl ?_
              refine R_s 1 (62, [(1, vI (nI i3)), (0, vR 8 21)], [vI (-1), vI (nI (45 + (2 * i3))), vR 8 21], h8) rfl ?_
              refine R_st 8 21 (45 + (2 * i3)) 125 (-1) rfl rfl (by omega) (by decide) (fun h5 eh5 => ?_)
              refine R_s 1 (66, [(1, vI (nI i3 + Int32.ofInt 1)), (0, vR 8 21)], [], h5) rfl ?_
              refine R_lv (lv' := [(1, vI (nI (i3 + 1))), (0, vR 8 21)]) (by rw [show nI i3 + Int32.ofInt 1 = nI (i3 + 1) from nI_add _ _]) ?_
              refine R_s 1 (48, [(1, vI (nI (i3 + 1))), (0, vR 8 21)], [], h5) rfl ?_
              refine ih3 (i3 + 1) h5 (by omega) (fun g' j' e => by rw [eh5, hs_ne e]; exact X8 g' j' e) (fun x hx => ?_)
              rw [eh5, hs_same, em3_s]
              by_cases q : x = 45 + 2 * i3
              · rw [q, up_same, if_pos rfl]
              · rw [up_ne q, if_neg q]; exact K8 x hx
        · exact absurd hm2 (by omega)
      | succ m2 ih2 =>
        intro i2 h9 hm2 X9 K9
        refine R_s 3 (cond (if2 .ge (nI i2) (nI 8)) 46 26, [(1, vI (nI i2)), (0, vR 8 21)], [], h9) rfl ?_
        refine R_bp (8 ≤ i2) (i2_ge (by omega) (by omega)) (fun c2 => ?_) (fun c2 => ?_)
        · refine R_s 2 (48, [(1, vI (nI 0)), (0, vR 8 21)], [], h9) rfl ?_
          have K3 : ∀ x, x < 125 → h9 8 21 x = em3 0 x := fun x hx => (K9 x hx).trans (by rw [em3_0, show i2 = 8 by omega])
          clear K9 hm2 ih2
          suffices ∀ m3 (i3 : Nat) (h8 : HP) (hm3 : i3 + m3 = 40) (X8 : ∀ g' j', ¬ (g' = 8 ∧ j' = 21) → h8 g' j' = h g' j') (K8 : ∀ x, x < 125 → h8 8 21 x = em3 i3 x), R d mM_empty (48, [(1, vI (nI i3)), (0, vR 8 21)], [], h8) _ from this 40 0 h9 (by omega) X9 K3
          intro m3
          induction m3 with
          | zero =>
            intro i3 h8 hm3 X8 K8
            refine R_s 3 (cond (if2 .ge (nI i3) (nI 40)) 69 54, [(1, vI (nI i3)), (0, vR 8 21)], [], h8) rfl ?_
            refine R_bp (40 ≤ i3) (i2_ge (by omega) (by omega)) (fun c3 => ?_) (fun c3 => ?_)
            · exact R_ret none h8 rfl ⟨rfl, fun x hx => (K8 x hx).trans (by rw [show i3 = 40 by omega, em3_e hx]), X8⟩
            · exact absurd hm3 (by omega)
          | succ m3 ih3 =>
            intro i3 h8 hm3 X8 K8
            refine R_s 3 (cond (if2 .ge (nI i3) (nI 40)) 69 54, [(1, vI (nI i3)), (0, vR 8 21)], [], h8) rfl ?_
            refine R_bp (40 ≤ i3) (i2_ge (by omega) (by omega)) (fun c3 => ?_) (fun c3 => ?_)
            · exact R_ret none h8 rfl ⟨rfl, fun x hx => (K8 x hx).trans (by rw [show i3 = 40 by omega, em3_e hx]), X8⟩
            · refine R_s 4 (59, [(1, vI (nI i3)), (0, vR 8 21)], [vI (nI i3), vI (nI 2), vI (nI 45), vR 8 21], h8) rfl ?_
              refine R_mul 2 i3 rfl ?_
              refine R_add 45 (2 * i3) rfl ?_
              refine R_s 1 (62, [(1, vI (nI i3)), (0, vR 8 21)], [vI (-1), vI (nI (45 + (2 * i3))), vR 8 21], h8) rfl ?_
              refine R_st 8 21 (45 + (2 * i3)) 125 (-1) rfl rfl (by omega) (by decide) (fun h6 eh6 => ?_)
              refine R_s 1 (66, [(1, vI (nI i3 + Int32.ofInt 1)), (0, vR 8 21)], [], h6) rfl ?_
              refine R_lv (lv' := [(1, vI (nI (i3 + 1))), (0, vR 8 21)]) (by rw [show nI i3 + Int32.ofInt 1 = nI (i3 + 1) from nI_add _ _]) ?_
              refine R_s 1 (48, [(1, vI (nI (i3 + 1))), (0, vR 8 21)], [], h6) rfl ?_
              refine ih3 (i3 + 1) h6 (by omega) (fun g' j' e => by rw [eh6, hs_ne e]; exact X8 g' j' e) (fun x hx => ?_)
              rw [eh6, hs_same, em3_s]
              by_cases q : x = 45 + 2 * i3
              · rw [q, up_same, if_pos rfl]
              · rw [up_ne q, if_neg q]; exact K8 x hx
        · refine R_s 3 (30, [(1, vI (nI i2)), (0, vR 8 21)], [vI (nI i2), vI (nI 10), vR 8 21], h9) rfl ?_
          refine R_add 10 i2 rfl ?_
          refine R_s 1 (32, [(1, vI (nI i2)), (0, vR 8 21)], [vI (-1), vI (nI (10 + i2)), vR 8 21], h9) rfl ?_
          refine R_st 8 21 (10 + i2) 125 (-1) rfl rfl (by omega) (by decide) (fun h7 eh7 => ?_)
          refine R_s 3 (37, [(1, vI (nI i2)), (0, vR 8 21)], [vI (nI i2), vI (nI 18), vR 8 21], h7) rfl ?_
          refine R_add 18 i2 rfl ?_
          refine R_s 1 (39, [(1, vI (nI i2)), (0, vR 8 21)], [vI (nI i2), vI (nI (18 + i2)), vR 8 21], h7) rfl ?_
          refine R_st 8 21 (18 + i2) 125 (nI i2) rfl rfl (by omega) (by decide) (fun h8 eh8 => ?_)
          refine R_s 1 (43, [(1, vI (nI i2 + Int32.ofInt 1)), (0, vR 8 21)], [], h8) rfl ?_
          refine R_lv (lv' := [(1, vI (nI (i2 + 1))), (0, vR 8 21)]) (by rw [show nI i2 + Int32.ofInt 1 = nI (i2 + 1) from nI_add _ _]) ?_
          refine R_s 1 (20, [(1, vI (nI (i2 + 1))), (0, vR 8 21)], [], h8) rfl ?_
          refine ih2 (i2 + 1) h8 (by omega) (fun g' j' e => by rw [eh8, hs_ne e, eh7, hs_ne e]; exact X9 g' j' e) (fun x hx => ?_)
          rw [eh8, hs_same, eh7, hs_same, em2_s (by omega)]
          by_cases q : x = 10 + i2
          · rw [q, up_ne (by omega), up_same, if_pos rfl]
          · rw [if_neg q]; by_cases q2 : x = 18 + i2
            · rw [q2, up_same, if_pos rfl]
            · rw [up_ne q2, up_ne q, if_neg q2]; exact K9 x hx
    · refine R_s 3 (11, [(1, vI (nI i)), (0, vR 8 21)], [vI (nI 0), vI (nI i), vR 8 21], hh) rfl ?_
      refine R_st 8 21 i 125 (nI 0) rfl rfl (by omega) (by decide) (fun h9 eh9 => ?_)
      refine R_s 1 (15, [(1, vI (nI i + Int32.ofInt 1)), (0, vR 8 21)], [], h9) rfl ?_
      refine R_lv (lv' := [(1, vI (nI (i + 1))), (0, vR 8 21)]) (by rw [show nI i + Int32.ofInt 1 = nI (i + 1) from nI_add _ _]) ?_
      refine R_s 1 (2, [(1, vI (nI (i + 1))), (0, vR 8 21)], [], h9) rfl ?_
      refine ih (i + 1) h9 (by omega) (fun g' j' e => by rw [eh9, hs_ne e]; exact X g' j' e) (fun x hx => ?_)
      rw [eh9, hs_same]
      by_cases q : x = i
      · rw [q, up_same]
      · rw [up_ne q]; exact K x (by omega)
set_option maxRecDepth 100000 in
theorem t_M_empty22 {d : Nat} {h : HP} : MT d mM_empty [vR 8 22] h (fun r h' => r = none ∧ MS 22 h' emp ∧ ∀ g' j', ¬ (g' = 8 ∧ j' = 22) → h' g' j' = h g' j') := by
  refine R_s 2 (2, [(1, vI (nI 0)), (0, vR 8 22)], [], h) rfl ?_
  suffices ∀ m (i : Nat) (hh : HP) (hm : i + m = 125) (X : ∀ g' j', ¬ (g' = 8 ∧ j' = 22) → hh g' j' = h g' j') (K : ∀ x, x < i → hh 8 22 x = nI 0), R d mM_empty (2, [(1, vI (nI i)), (0, vR 8 22)], [], hh) _ from this 125 0 h (by omega) (fun _ _ _ => rfl) (fun x hx => absurd hx (by omega))
  intro m
  induction m with
  | zero =>
    intro i hh hm X K
    refine R_s 3 (cond (if2 .ge (nI i) (nI 125)) 18 8, [(1, vI (nI i)), (0, vR 8 22)], [], hh) rfl ?_
    refine R_bp (125 ≤ i) (i2_ge (by omega) (by omega)) (fun c1 => ?_) (fun c1 => ?_)
    · refine R_s 2 (20, [(1, vI (nI 0)), (0, vR 8 22)], [], hh) rfl ?_
      have K2 : ∀ x, x < 125 → hh 8 22 x = em2 0 x := fun x hx => (K x (by omega)).trans em2_0.symm
      clear K hm
      suffices ∀ m2 (i2 : Nat) (h9 : HP) (hm2 : i2 + m2 = 8) (X9 : ∀ g' j', ¬ (g' = 8 ∧ j' = 22) → h9 g' j' = h g' j') (K9 : ∀ x, x < 125 → h9 8 22 x = em2 i2 x), R d mM_empty (20, [(1, vI (nI i2)), (0, vR 8 22)], [], h9) _ from this 8 0 hh (by omega) X K2
      intro m2
      induction m2 with
      | zero =>
        intro i2 h9 hm2 X9 K9
        refine R_s 3 (cond (if2 .ge (nI i2) (nI 8)) 46 26, [(1, vI (nI i2)), (0, vR 8 22)], [], h9) rfl ?_
        refine R_bp (8 ≤ i2) (i2_ge (by omega) (by omega)) (fun c2 => ?_) (fun c2 => ?_)
        · refine R_s 2 (48, [(1, vI (nI 0)), (0, vR 8 22)], [], h9) rfl ?_
          have K3 : ∀ x, x < 125 → h9 8 22 x = em3 0 x := fun x hx => (K9 x hx).trans (by rw [em3_0, show i2 = 8 by omega])
          clear K9 hm2
          suffices ∀ m3 (i3 : Nat) (h8 : HP) (hm3 : i3 + m3 = 40) (X8 : ∀ g' j', ¬ (g' = 8 ∧ j' = 22) → h8 g' j' = h g' j') (K8 : ∀ x, x < 125 → h8 8 22 x = em3 i3 x), R d mM_empty (48, [(1, vI (nI i3)), (0, vR 8 22)], [], h8) _ from this 40 0 h9 (by omega) X9 K3
          intro m3
          induction m3 with
          | zero =>
            intro i3 h8 hm3 X8 K8
            refine R_s 3 (cond (if2 .ge (nI i3) (nI 40)) 69 54, [(1, vI (nI i3)), (0, vR 8 22)], [], h8) rfl ?_
            refine R_bp (40 ≤ i3) (i2_ge (by omega) (by omega)) (fun c3 => ?_) (fun c3 => ?_)
            · exact R_ret none h8 rfl ⟨rfl, fun x hx => (K8 x hx).trans (by rw [show i3 = 40 by omega, em3_e hx]), X8⟩
            · exact absurd hm3 (by omega)
          | succ m3 ih3 =>
            intro i3 h8 hm3 X8 K8
            refine R_s 3 (cond (if2 .ge (nI i3) (nI 40)) 69 54, [(1, vI (nI i3)), (0, vR 8 22)], [], h8) rfl ?_
            refine R_bp (40 ≤ i3) (i2_ge (by omega) (by omega)) (fun c3 => ?_) (fun c3 => ?_)
            · exact R_ret none h8 rfl ⟨rfl, fun x hx => (K8 x hx).trans (by rw [show i3 = 40 by omega, em3_e hx]), X8⟩
            · refine R_s 4 (59, [(1, vI (nI i3)), (0, vR 8 22)], [vI (nI i3), vI (nI 2), vI (nI 45), vR 8 22], h8) rfl ?_
              refine R_mul 2 i3 rfl ?_
              refine R_add 45 (2 * i3) rfl ?_
              refine R_s 1 (62, [(1, vI (nI i3)), (0, vR 8 22)], [vI (-1), vI (nI (45 + (2 * i3))), vR 8 22], h8) rfl ?_
              refine R_st 8 22 (45 + (2 * i3)) 125 (-1) rfl rfl (by omega) (by decide) (fun h1 eh1 => ?_)
              refine R_s 1 (66, [(1, vI (nI i3 + Int32.ofInt 1)), (0, vR 8 22)], [], h1) rfl ?_
              refine R_lv (lv' := [(1, vI (nI (i3 + 1))), (0, vR 8 22)]) (by rw [show nI i3 + Int32.ofInt 1 = nI (i3 + 1) from nI_add _ _]) ?_
              refine R_s 1 (48, [(1, vI (nI (i3 + 1))), (0, vR 8 22)], [], h1) rfl ?_
              refine ih3 (i3 + 1) h1 (by omega) (fun g' j' e => by rw [eh1, hs_ne e]; exact X8 g' j' e) (fun x hx => ?_)
              rw [eh1, hs_same, em3_s]
              by_cases q : x = 45 + 2 * i3
              · rw [q, up_same, if_pos rfl]
              · rw [up_ne q, if_neg q]; exact K8 x hx
        · exact absurd hm2 (by omega)
      | succ m2 ih2 =>
        intro i2 h9 hm2 X9 K9
        refine R_s 3 (cond (if2 .ge (nI i2) (nI 8)) 46 26, [(1, vI (nI i2)), (0, vR 8 22)], [], h9) rfl ?_
        refine R_bp (8 ≤ i2) (i2_ge (by omega) (by omega)) (fun c2 => ?_) (fun c2 => ?_)
        · refine R_s 2 (48, [(1, vI (nI 0)), (0, vR 8 22)], [], h9) rfl ?_
          have K3 : ∀ x, x < 125 → h9 8 22 x = em3 0 x := fun x hx => (K9 x hx).trans (by rw [em3_0, show i2 = 8 by omega])
          clear K9 hm2 ih2
          suffices ∀ m3 (i3 : Nat) (h8 : HP) (hm3 : i3 + m3 = 40) (X8 : ∀ g' j', ¬ (g' = 8 ∧ j' = 22) → h8 g' j' = h g' j') (K8 : ∀ x, x < 125 → h8 8 22 x = em3 i3 x), R d mM_empty (48, [(1, vI (nI i3)), (0, vR 8 22)], [], h8) _ from this 40 0 h9 (by omega) X9 K3
          intro m3
          induction m3 with
          | zero =>
            intro i3 h8 hm3 X8 K8
            refine R_s 3 (cond (if2 .ge (nI i3) (nI 40)) 69 54, [(1, vI (nI i3)), (0, vR 8 22)], [], h8) rfl ?_
            refine R_bp (40 ≤ i3) (i2_ge (by omega) (by omega)) (fun c3 => ?_) (fun c3 => ?_)
            · exact R_ret none h8 rfl ⟨rfl, fun x hx => (K8 x hx).trans (by rw [show i3 = 40 by omega, em3_e hx]), X8⟩
            · exact absurd hm3 (by omega)
          | succ m3 ih3 =>
            intro i3 h8 hm3 X8 K8
            refine R_s 3 (cond (if2 .ge (nI i3) (nI 40)) 69 54, [(1, vI (nI i3)), (0, vR 8 22)], [], h8) rfl ?_
            refine R_bp (40 ≤ i3) (i2_ge (by omega) (by omega)) (fun c3 => ?_) (fun c3 => ?_)
            · exact R_ret none h8 rfl ⟨rfl, fun x hx => (K8 x hx).trans (by rw [show i3 = 40 by omega, em3_e hx]), X8⟩
            · refine R_s 4 (59, [(1, vI (nI i3)), (0, vR 8 22)], [vI (nI i3), vI (nI 2), vI (nI 45), vR 8 22], h8) rfl ?_
              refine R_mul 2 i3 rfl ?_
              refine R_add 45 (2 * i3) rfl ?_
              refine R_s 1 (62, [(1, vI (nI i3)), (0, vR 8 22)], [vI (-1), vI (nI (45 + (2 * i3))), vR 8 22], h8) rfl ?_
              refine R_st 8 22 (45 + (2 * i3)) 125 (-1) rfl rfl (by omega) (by decide) (fun h2 eh2 => ?_)
              refine R_s 1 (66, [(1, vI (nI i3 + Int32.ofInt 1)), (0, vR 8 22)], [], h2) rfl ?_
              refine R_lv (lv' := [(1, vI (nI (i3 + 1))), (0, vR 8 22)]) (by rw [show nI i3 + Int32.ofInt 1 = nI (i3 + 1) from nI_add _ _]) ?_
              refine R_s 1 (48, [(1, vI (nI (i3 + 1))), (0, vR 8 22)], [], h2) rfl ?_
              refine ih3 (i3 + 1) h2 (by omega) (fun g' j' e => by rw [eh2, hs_ne e]; exact X8 g' j' e) (fun x hx => ?_)
              rw [eh2, hs_same, em3_s]
              by_cases q : x = 45 + 2 * i3
              · rw [q, up_same, if_pos rfl]
              · rw [up_ne q, if_neg q]; exact K8 x hx
        · refine R_s 3 (30, [(1, vI (nI i2)), (0, vR 8 22)], [vI (nI i2), vI (nI 10), vR 8 22], h9) rfl ?_
          refine R_add 10 i2 rfl ?_
          refine R_s 1 (32, [(1, vI (nI i2)), (0, vR 8 22)], [vI (-1), vI (nI (10 + i2)), vR 8 22], h9) rfl ?_
          refine R_st 8 22 (10 + i2) 125 (-1) rfl rfl (by omega) (by decide) (fun h3 eh3 => ?_)
          refine R_s 3 (37, [(1, vI (nI i2)), (0, vR 8 22)], [vI (nI i2), vI (nI 18), vR 8 22], h3) rfl ?_
          refine R_add 18 i2 rfl ?_
          refine R_s 1 (39, [(1, vI (nI i2)), (0, vR 8 22)], [vI (nI i2), vI (nI (18 + i2)), vR 8 22], h3) rfl ?_
          refine R_st 8 22 (18 + i2) 125 (nI i2) rfl rfl (by omega) (by decide) (fun h4 eh4 => ?_)
          refine R_s 1 (43, [(1, vI (nI i2 + Int32.ofInt 1)), (0, vR 8 22)], [], h4) rfl ?_
          refine R_lv (lv' := [(1, vI (nI (i2 + 1))), (0, vR 8 22)]) (by rw [show nI i2 + Int32.ofInt 1 = nI (i2 + 1) from nI_add _ _]) ?_
          refine R_s 1 (20, [(1, vI (nI (i2 + 1))), (0, vR 8 22)], [], h4) rfl ?_
          refine ih2 (i2 + 1) h4 (by omega) (fun g' j' e => by rw [eh4, hs_ne e, eh3, hs_ne e]; exact X9 g' j' e) (fun x hx => ?_)
          rw [eh4, hs_same, eh3, hs_same, em2_s (by omega)]
          by_cases q : x = 10 + i2
          · rw [q, up_ne (by omega), up_same, if_pos rfl]
          · rw [if_neg q]; by_cases q2 : x = 18 + i2
            · rw [q2, up_same, if_pos rfl]
            · rw [up_ne q2, up_ne q, if_neg q2]; exact K9 x hx
    · exact absurd hm (by omega)
  | succ m ih =>
    intro i hh hm X K
    refine R_s 3 (cond (if2 .ge (nI i) (nI 125)) 18 8, [(1, vI (nI i)), (0, vR 8 22)], [], hh) rfl ?_
    refine R_bp (125 ≤ i) (i2_ge (by omega) (by omega)) (fun c1 => ?_) (fun c1 => ?_)
    · refine R_s 2 (20, [(1, vI (nI 0)), (0, vR 8 22)], [], hh) rfl ?_
      have K2 : ∀ x, x < 125 → hh 8 22 x = em2 0 x := fun x hx => (K x (by omega)).trans em2_0.symm
      clear K hm ih
      suffices ∀ m2 (i2 : Nat) (h9 : HP) (hm2 : i2 + m2 = 8) (X9 : ∀ g' j', ¬ (g' = 8 ∧ j' = 22) → h9 g' j' = h g' j') (K9 : ∀ x, x < 125 → h9 8 22 x = em2 i2 x), R d mM_empty (20, [(1, vI (nI i2)), (0, vR 8 22)], [], h9) _ from this 8 0 hh (by omega) X K2
      intro m2
      induction m2 with
      | zero =>
        intro i2 h9 hm2 X9 K9
        refine R_s 3 (cond (if2 .ge (nI i2) (nI 8)) 46 26, [(1, vI (nI i2)), (0, vR 8 22)], [], h9) rfl ?_
        refine R_bp (8 ≤ i2) (i2_ge (by omega) (by omega)) (fun c2 => ?_) (fun c2 => ?_)
        · refine R_s 2 (48, [(1, vI (nI 0)), (0, vR 8 22)], [], h9) rfl ?_
          have K3 : ∀ x, x < 125 → h9 8 22 x = em3 0 x := fun x hx => (K9 x hx).trans (by rw [em3_0, show i2 = 8 by omega])
          clear K9 hm2
          suffices ∀ m3 (i3 : Nat) (h8 : HP) (hm3 : i3 + m3 = 40) (X8 : ∀ g' j', ¬ (g' = 8 ∧ j' = 22) → h8 g' j' = h g' j') (K8 : ∀ x, x < 125 → h8 8 22 x = em3 i3 x), R d mM_empty (48, [(1, vI (nI i3)), (0, vR 8 22)], [], h8) _ from this 40 0 h9 (by omega) X9 K3
          intro m3
          induction m3 with
          | zero =>
            intro i3 h8 hm3 X8 K8
            refine R_s 3 (cond (if2 .ge (nI i3) (nI 40)) 69 54, [(1, vI (nI i3)), (0, vR 8 22)], [], h8) rfl ?_
            refine R_bp (40 ≤ i3) (i2_ge (by omega) (by omega)) (fun c3 => ?_) (fun c3 => ?_)
            · exact R_ret none h8 rfl ⟨rfl, fun x hx => (K8 x hx).trans (by rw [show i3 = 40 by omega, em3_e hx]), X8⟩
            · exact absurd hm3 (by omega)
          | succ m3 ih3 =>
            intro i3 h8 hm3 X8 K8
            refine R_s 3 (cond (if2 .ge (nI i3) (nI 40)) 69 54, [(1, vI (nI i3)), (0, vR 8 22)], [], h8) rfl ?_
            refine R_bp (40 ≤ i3) (i2_ge (by omega) (by omega)) (fun c3 => ?_) (fun c3 => ?_)
            · exact R_ret none h8 rfl ⟨rfl, fun x hx => (K8 x hx).trans (by rw [show i3 = 40 by omega, em3_e hx]), X8⟩
            · refine R_s 4 (59, [(1, vI (nI i3)), (0, vR 8 22)], [vI (nI i3), vI (nI 2), vI (nI 45), vR 8 22], h8) rfl ?_
              refine R_mul 2 i3 rfl ?_
              refine R_add 45 (2 * i3) rfl ?_
              refine R_s 1 (62, [(1, vI (nI i3)), (0, vR 8 22)], [vI (-1), vI (nI (45 + (2 * i3))), vR 8 22], h8) rfl ?_
              refine R_st 8 22 (45 + (2 * i3)) 125 (-1) rfl rfl (by omega) (by decide) (fun h5 eh5 => ?_)
              refine R_s 1 (66, [(1, vI (nI i3 + Int32.ofInt 1)), (0, vR 8 22)], [], h5) rfl ?_
              refine R_lv (lv' := [(1, vI (nI (i3 + 1))), (0, vR 8 22)]) (by rw [show nI i3 + Int32.ofInt 1 = nI (i3 + 1) from nI_add _ _]) ?_
              refine R_s 1 (48, [(1, vI (nI (i3 + 1))), (0, vR 8 22)], [], h5) rfl ?_
              refine ih3 (i3 + 1) h5 (by omega) (fun g' j' e => by rw [eh5, hs_ne e]; exact X8 g' j' e) (fun x hx => ?_)
              rw [eh5, hs_same, em3_s]
              by_cases q : x = 45 + 2 * i3
              · rw [q, up_same, if_pos rfl]
              · rw [up_ne q, if_neg q]; exact K8 x hx
        · exact absurd hm2 (by omega)
      | succ m2 ih2 =>
        intro i2 h9 hm2 X9 K9
        refine R_s 3 (cond (if2 .ge (nI i2) (nI 8)) 46 26, [(1, vI (nI i2)), (0, vR 8 22)], [], h9) rfl ?_
        refine R_bp (8 ≤ i2) (i2_ge (by omega) (by omega)) (fun c2 => ?_) (fun c2 => ?_)
        · refine R_s 2 (48, [(1, vI (nI 0)), (0, vR 8 22)], [], h9) rfl ?_
          have K3 : ∀ x, x < 125 → h9 8 22 x = em3 0 x := fun x hx => (K9 x hx).trans (by rw [em3_0, show i2 = 8 by omega])
          clear K9 hm2 ih2
          suffices ∀ m3 (i3 : Nat) (h8 : HP) (hm3 : i3 + m3 = 40) (X8 : ∀ g' j', ¬ (g' = 8 ∧ j' = 22) → h8 g' j' = h g' j') (K8 : ∀ x, x < 125 → h8 8 22 x = em3 i3 x), R d mM_empty (48, [(1, vI (nI i3)), (0, vR 8 22)], [], h8) _ from this 40 0 h9 (by omega) X9 K3
          intro m3
          induction m3 with
          | zero =>
            intro i3 h8 hm3 X8 K8
            refine R_s 3 (cond (if2 .ge (nI i3) (nI 40)) 69 54, [(1, vI (nI i3)), (0, vR 8 22)], [], h8) rfl ?_
            refine R_bp (40 ≤ i3) (i2_ge (by omega) (by omega)) (fun c3 => ?_) (fun c3 => ?_)
            · exact R_ret none h8 rfl ⟨rfl, fun x hx => (K8 x hx).trans (by rw [show i3 = 40 by omega, em3_e hx]), X8⟩
            · exact absurd hm3 (by omega)
          | succ m3 ih3 =>
            intro i3 h8 hm3 X8 K8
            refine R_s 3 (cond (if2 .ge (nI i3) (nI 40)) 69 54, [(1, vI (nI i3)), (0, vR 8 22)], [], h8) rfl ?_
            refine R_bp (40 ≤ i3) (i2_ge (by omega) (by omega)) (fun c3 => ?_) (fun c3 => ?_)
            · exact R_ret none h8 rfl ⟨rfl, fun x hx => (K8 x hx).trans (by rw [show i3 = 40 by omega, em3_e hx]), X8⟩
            · refine R_s 4 (59, [(1, vI (nI i3)), (0, vR 8 22)], [vI (nI i3), vI (nI 2), vI (nI 45), vR 8 22], h8) rfl ?_
              refine R_mul 2 i3 rfl ?_
              refine R_add 45 (2 * i3) rfl ?_
              refine R_s 1 (62, [(1, vI (nI i3)), (0, vR 8 22)], [vI (-1), vI (nI (45 + (2 * i3))), vR 8 22], h8) rfl ?_
              refine R_st 8 22 (45 + (2 * i3)) 125 (-1) rfl rfl (by omega) (by decide) (fun h6 eh6 => ?_)
              refine R_s 1 (66, [(1, vI (nI i3 + Int32.ofInt 1)), (0, vR 8 22)], [], h6) rfl ?_
              refine R_lv (lv' := [(1, vI (nI (i3 + 1))), (0, vR 8 22)]) (by rw [show nI i3 + Int32.ofInt 1 = nI (i3 + 1) from nI_add _ _]) ?_
              refine R_s 1 (48, [(1, vI (nI (i3 + 1))), (0, vR 8 22)], [], h6) rfl ?_
              refine ih3 (i3 + 1) h6 (by omega) (fun g' j' e => by rw [eh6, hs_ne e]; exact X8 g' j' e) (fun x hx => ?_)
              rw [eh6, hs_same, em3_s]
              by_cases q : x = 45 + 2 * i3
              · rw [q, up_same, if_pos rfl]
              · rw [up_ne q, if_neg q]; exact K8 x hx
        · refine R_s 3 (30, [(1, vI (nI i2)), (0, vR 8 22)], [vI (nI i2), vI (nI 10), vR 8 22], h9) rfl ?_
          refine R_add 10 i2 rfl ?_
          refine R_s 1 (32, [(1, vI (nI i2)), (0, vR 8 22)], [vI (-1), vI (nI (10 + i2)), vR 8 22], h9) rfl ?_
          refine R_st 8 22 (10 + i2) 125 (-1) rfl rfl (by omega) (by decide) (fun h7 eh7 => ?_)
          refine R_s 3 (37, [(1, vI (nI i2)), (0, vR 8 22)], [vI (nI i2), vI (nI 18), vR 8 22], h7) rfl ?_
          refine R_add 18 i2 rfl ?_
          refine R_s 1 (39, [(1, vI (nI i2)), (0, vR 8 22)], [vI (nI i2), vI (nI (18 + i2)), vR 8 22], h7) rfl ?_
          refine R_st 8 22 (18 + i2) 125 (nI i2) rfl rfl (by omega) (by decide) (fun h8 eh8 => ?_)
          refine R_s 1 (43, [(1, vI (nI i2 + Int32.ofInt 1)), (0, vR 8 22)], [], h8) rfl ?_
          refine R_lv (lv' := [(1, vI (nI (i2 + 1))), (0, vR 8 22)]) (by rw [show nI i2 + Int32.ofInt 1 = nI (i2 + 1) from nI_add _ _]) ?_
          refine R_s 1 (20, [(1, vI (nI (i2 + 1))), (0, vR 8 22)], [], h8) rfl ?_
          refine ih2 (i2 + 1) h8 (by omega) (fun g' j' e => by rw [eh8, hs_ne e, eh7, hs_ne e]; exact X9 g' j' e) (fun x hx => ?_)
          rw [eh8, hs_same, eh7, hs_same, em2_s (by omega)]
          by_cases q : x = 10 + i2
          · rw [q, up_ne (by omega), up_same, if_pos rfl]
          · rw [if_neg q]; by_cases q2 : x = 18 + i2
            · rw [q2, up_same, if_pos rfl]
            · rw [up_ne q2, up_ne q, if_neg q2]; exact K9 x hx
    · refine R_s 3 (11, [(1, vI (nI i)), (0, vR 8 22)], [vI (nI 0), vI (nI i), vR 8 22], hh) rfl ?_
      refine R_st 8 22 i 125 (nI 0) rfl rfl (by omega) (by decide) (fun h9 eh9 => ?_)
      refine R_s 1 (15, [(1, vI (nI i + Int32.ofInt 1)), (0, vR 8 22)], [], h9) rfl ?_
      refine R_lv (lv' := [(1, vI (nI (i + 1))), (0, vR 8 22)]) (by rw [show nI i + Int32.ofInt 1 = nI (i + 1) from nI_add _ _]) ?_
      refine R_s 1 (2, [(1, vI (nI (i + 1))), (0, vR 8 22)], [], h9) rfl ?_
      refine ih (i + 1) h9 (by omega) (fun g' j' e => by rw [eh9, hs_ne e]; exact X g' j' e) (fun x hx => ?_)
      rw [eh9, hs_same]
      by_cases q : x = i
      · rw [q, up_same]
      · rw [up_ne q]; exact K x (by omega)
theorem MI.fd {h h' : HP} {A : AS} (I : MI h A) (X : FD h h') : MI h' A := by
  obtain ⟨M, ⟨k1, k2⟩, T⟩ := I
  exact ⟨fun i hi => by rw [X.1 8 21 (by omega)]; exact M i hi, ⟨by rw [X.2 3 (by omega)]; exact k1, fun j z hj i hi => by rw [X.1 8 23 (by omega)]; exact k2 j z hj i hi⟩, T.fd X⟩
def fe (o : Option Nat) : Int32 := match o with
  | none => -4
  | some a => nI a
set_option maxRecDepth 100000 in
theorem t_M_readAll {d len : Nat} {h : HP} {ch : Nat → Nat} (T : TXM h ch len) : MT (d + 4) mM_readAll [vR 8 20] h (fun r h' => r = some (vI (fe (rd ch len).1)) ∧ FD h h' ∧ ((rd ch len).1 = none → MS 22 h' (rd ch len).2.1 ∧ DW (rd ch len).2)) := by
  have hlen := T.2.1
  refine R_s 2 (4, [(0, vR 8 20)], [vR 8 22], h) rfl ?_
  refine R_call mM_empty [vR 8 22] [] rfl t_M_empty22 (fun r g1 e1 => ?_)
  obtain ⟨rfl, M1, Y1⟩ := e1
  show R _ mM_readAll (7, [(0, vR 8 20)], [], g1) _
  refine R_s 3 (12, [(0, vR 8 20)], [], (hset g1 8 20 6 (nI 0))) rfl ?_
  refine R_hp (fun h1 eh1 => ?_)
  have X1 : FD h h1 := ⟨fun g' j' e => by rw [eh1, hs_ne (by omega)]; exact Y1 g' j' (by omega), fun x e => by rw [eh1, hs_same, up_ne (by omega), Y1 8 20 (by omega)]⟩
  have M2 : MS 22 h1 emp := fun i hi => by rw [eh1, hs_ne (by omega)]; exact M1 i hi
  suffices ∀ m (i : Nat) (z : ST) (hh : HP) (hm : len ≤ i + m) (hi : i ≤ len) (Xh : FD h hh) (Mh : MS 22 hh z.1) (D : DW z) (p6 : hh 8 20 6 = nI i) (eR : rd ch len = pC ch len (len - i) i i z) (lv : List (Nat × AV)) (hlv : lv = [(0, vR 8 20)]), R (d + 4) mM_readAll (12, lv, [], hh) _ from this len 0 z0 h1 (by omega) (by omega) X1 M2 z0_DW (by rw [eh1, hs_same, up_same]) rfl _ rfl
  intro m
  induction m with
  | zero =>
    intro i z hh hm hi Xh Mh D p6 eR lv hlv
    subst hlv
    refine R_s 2 (16, [(0, vR 8 20)], [vI (hh 8 20 6)], hh) rfl ?_
    refine R_top (nI i) p6 ?_
    refine R_s 2 (20, [(0, vR 8 20)], [vI (hh 8 20 5), vI (nI i)], hh) rfl ?_
    refine R_top (nI len) (T.fd Xh).1 ?_
    refine R_s 1 (cond (if2 .ge (nI i) (nI len)) 40 23, [(0, vR 8 20)], [], hh) rfl ?_
    refine R_bp (len ≤ i) (i2_ge (by omega) (by omega)) (fun c1 => ?_) (fun c1 => ?_)
    · have eD : rd ch len = (none, z) := by rw [eR, show len - i = 0 by omega, pC_0, if_neg (by omega)]
      refine R_s 1 (42, [(0, vR 8 20)], [vI (-4)], hh) rfl ?_
      exact R_ret (some (vI (-4))) hh rfl ⟨by rw [eD]; rfl, Xh, fun _ => by rw [eD]; exact ⟨Mh, D⟩⟩
    · exact absurd hm (by omega)
  | succ m ih =>
    intro i z hh hm hi Xh Mh D p6 eR lv hlv
    subst hlv
    refine R_s 2 (16, [(0, vR 8 20)], [vI (hh 8 20 6)], hh) rfl ?_
    refine R_top (nI i) p6 ?_
    refine R_s 2 (20, [(0, vR 8 20)], [vI (hh 8 20 5), vI (nI i)], hh) rfl ?_
    refine R_top (nI len) (T.fd Xh).1 ?_
    refine R_s 1 (cond (if2 .ge (nI i) (nI len)) 40 23, [(0, vR 8 20)], [], hh) rfl ?_
    refine R_bp (len ≤ i) (i2_ge (by omega) (by omega)) (fun c1 => ?_) (fun c1 => ?_)
    · have eD : rd ch len = (none, z) := by rw [eR, show len - i = 0 by omega, pC_0, if_neg (by omega)]
      refine R_s 1 (42, [(0, vR 8 20)], [vI (-4)], hh) rfl ?_
      exact R_ret (some (vI (-4))) hh rfl ⟨by rw [eD]; rfl, Xh, fun _ => by rw [eD]; exact ⟨Mh, D⟩⟩
    · obtain ⟨s, n, p, k⟩ := z
      have F : WF s n p k := D.1
      obtain ⟨u1, u2⟩ := pC_stM (ch := ch) (len := len) (i := i) (z := (s, n, p, k)) ⟨F.2.1.1, F.2.1.2.1, F.2.1.2.2⟩ (by omega)
      refine R_s 2 (27, [(0, vR 8 20)], [vI (hh 8 20 6)], hh) rfl ?_
      refine R_top (nI i) p6 ?_
      refine R_s 2 (29, [(1, vI (nI i)), (0, vR 8 20)], [vR 8 20], hh) rfl ?_
      refine R_call mM_statement [vR 8 20] [] rfl (t_M_statement (T.fd Xh) p6 (by omega) Mh F) (fun r h2 e2 => ?_)
      obtain ⟨X2, e2⟩ := e2
      cases hs : stM ch len i (s, n, p, k) with
      | none =>
        rw [hs] at e2
        dsimp only at e2
        subst e2
        show R _ mM_readAll (32, [(1, vI (nI i)), (0, vR 8 20)], [vI (nI 0)], h2) _
        refine R_s 1 (cond (if0 .ne (nI 0)) 37 35, [(1, vI (nI i)), (0, vR 8 20)], [], h2) rfl ?_
        refine R_bf rfl ?_
        refine R_s 1 (36, [(1, vI (nI i)), (0, vR 8 20)], [vI (nI i)], h2) rfl ?_
        exact R_ret (some (vI (nI i))) h2 rfl ⟨by rw [eR, u1 hs]; rfl, Xh.tr X2, fun q => by rw [eR, u1 hs] at q; cases q⟩
      | some q =>
        obtain ⟨z2, j⟩ := q
        rw [hs] at e2
        dsimp only at e2
        obtain ⟨rfl, M3, p3⟩ := e2
        show R _ mM_readAll (32, [(1, vI (nI i)), (0, vR 8 20)], [vI (nI 1)], h2) _
        refine R_s 1 (cond (if0 .ne (nI 1)) 37 35, [(1, vI (nI i)), (0, vR 8 20)], [], h2) rfl ?_
        refine R_bt rfl ?_
        refine R_s 1 (12, [(1, vI (nI i)), (0, vR 8 20)], [], h2) rfl ?_
        refine R_fg (lv' := [(0, vR 8 20)]) [1] rfl [1, 0] rfl (by decide) ?_
        obtain ⟨v1, v2, v3, e, v4⟩ := u2 z2 j hs
        exact ih j z2 h2 (by omega) v2 (Xh.tr X2) M3 (stC_DW D v4) p3 (by rw [eR, v3]) _ rfl
set_option maxRecDepth 100000 in
theorem t_M_firstError {d : Nat} {h : HP} {A : AS} (V : VA A) (I : MI h A) : MT (d + 5) mM_firstError [vR 8 20] h (fun r h' => r = some (vI (oFirst A).1) ∧ MI h' (oFirst A).2) := by
  obtain ⟨⟨s, n, p, k⟩, kp, ch, len⟩ := A
  have M : MS 21 h s := I.1
  have F : WF s n p k := V.1.1
  have O : WO s n := V.1.2.1.1
  have hn1 : 1 ≤ n := V.1.2.2.1
  have hp1 : 1 ≤ p := V.1.2.2.2.1
  have hk1 : 1 ≤ k := V.1.2.2.2.2
  have h8 := F.2.1.1
  have h5 := F.2.1.2.1
  have h6 := F.2.1.2.2
  have T := I.2.2
  refine R_s 1 (1, [(0, vR 8 20)], [vR 8 20], h) rfl ?_
  refine R_call mM_readAll [vR 8 20] [] rfl (t_M_readAll T) (fun r h1 e1 => ?_)
  obtain ⟨rfl, X1, -⟩ := e1
  show R _ mM_firstError (4, [(0, vR 8 20)], [vI (fe (rd ch len).1)], h1) _
  exact R_ret (some (vI (fe (rd ch len).1))) h1 rfl ⟨rfl, I.fd X1⟩
theorem fe_ne {o : Option Nat} (h : ∀ c, o = some c → c < 1000) : if2 .ne (fe o) (-4) = true ↔ ¬ o = none := by
  rw [x2_ne]
  cases o with
  | none => exact ⟨fun q => absurd rfl q, fun q => absurd rfl q⟩
  | some c =>
    have hc := h c rfl
    refine ⟨fun _ q => (by cases q), fun _ q => ?_⟩
    have h1 := congrArg Int32.toInt (show nI c = -4 from q)
    rw [nI_toInt (by omega)] at h1
    have h2 : (-4 : Int32).toInt = -4 := by decide
    omega
theorem i0_m {n : Nat} (h : n < 1000) : if0 .ne (nI n) = true ↔ ¬ n = 0 := by rw [x0_ne, ← nI_0, nI_eq (by omega) (by decide)]
set_option maxRecDepth 100000 in
theorem t_M_configure {d : Nat} {h : HP} {A : AS} (V : VA A) (I : MI h A) : MT (d + 5) mM_configure [vR 8 20] h (fun r h' => r = some (vI (oConf A).1) ∧ MI h' (oConf A).2) := by
  obtain ⟨⟨s, n, p, k⟩, kp, ch, len⟩ := A
  have M : MS 21 h s := I.1
  have F : WF s n p k := V.1.1
  have O : WO s n := V.1.2.1.1
  have hn1 : 1 ≤ n := V.1.2.2.1
  have hp1 : 1 ≤ p := V.1.2.2.2.1
  have hk1 : 1 ≤ k := V.1.2.2.2.2
  have h8 := F.2.1.1
  have h5 := F.2.1.2.1
  have h6 := F.2.1.2.2
  have T := I.2.2
  have hlen := T.2.1
  refine R_s 1 (1, [(0, vR 8 20)], [vR 8 20], h) rfl ?_
  refine R_call mM_readAll [vR 8 20] [] rfl (t_M_readAll T) (fun r h1 e1 => ?_)
  obtain ⟨rfl, X1, K1⟩ := e1
  show R _ mM_configure (4, [(0, vR 8 20)], [vI (fe (rd ch len).1)], h1) _
  have I1 := I.fd X1
  have hrd : ∀ c, (rd ch len).1 = some c → c < 1000 := fun c q => by have := rd_lt q; have : len ≤ 300 := hlen; omega
  refine R_s 2 (cond (if2 .ne (fe (rd ch len).1) (-4)) 38 9, [(0, vR 8 20)], [], h1) rfl ?_
  refine R_bp (¬ (rd ch len).1 = none) (fe_ne hrd) (fun c1 => ?_) (fun c1 => ?_)
  · refine R_s 1 (40, [(0, vR 8 20)], [vI (-2)], h1) rfl ?_
    exact R_ret (some (vI (-2))) h1 rfl ⟨by unfold oConf; dsimp only; rw [if_neg (fun q => c1 q.1)], by unfold oConf; dsimp only; rw [if_neg (fun q => c1 q.1)]; exact I1⟩
  · have c1 := Classical.not_not.mp c1
    obtain ⟨M1, D1⟩ := K1 c1
    unfold oConf
    dsimp only
    generalize (rd ch len).2 = z2 at M1 D1 ⊢
    obtain ⟨s2, n2, p2, k2⟩ := z2
    have M1 : MS 22 h1 s2 := M1
    have F2 : WF s2 n2 p2 k2 := D1.1
    have g8 := F2.2.1.1
    have g5 := F2.2.1.2.1
    have g6 := F2.2.1.2.2
    rw [c1]
    dsimp only
    refine R_s 3 (14, [(0, vR 8 20)], [vI (nI 0), vR 8 22], h1) rfl ?_
    refine R_ld 8 22 0 125 rfl rfl (by omega) (by decide) ?_
    refine R_top (nI n2) ((M1 0 (by decide)).trans F2.1.1) ?_
    refine R_s 1 (cond (if0 .eq (nI n2)) 38 18, [(0, vR 8 20)], [], h1) rfl ?_
    refine R_bp (n2 = 0) (i0_n (by omega)) (fun c2 => ?_) (fun c2 => ?_)
    · rw [if_neg (fun q => absurd q.2.1 (by omega))]
      refine R_s 1 (40, [(0, vR 8 20)], [vI (-2)], h1) rfl ?_
      exact R_ret (some (vI (-2))) h1 rfl ⟨rfl, I1⟩
    · refine R_s 3 (24, [(0, vR 8 20)], [vI (nI 26), vR 8 22], h1) rfl ?_
      refine R_ld 8 22 26 125 rfl rfl (by omega) (by decide) ?_
      refine R_top (nI p2) ((M1 26 (by decide)).trans F2.1.2.1) ?_
      refine R_s 1 (cond (if0 .eq (nI p2)) 38 28, [(0, vR 8 20)], [], h1) rfl ?_
      refine R_bp (p2 = 0) (i0_n (by omega)) (fun c3 => ?_) (fun c3 => ?_)
      · rw [if_neg (fun q => absurd q.2.2.1 (by omega))]
        refine R_s 1 (40, [(0, vR 8 20)], [vI (-2)], h1) rfl ?_
        exact R_ret (some (vI (-2))) h1 rfl ⟨rfl, I1⟩
      · refine R_s 3 (34, [(0, vR 8 20)], [vI (nI 32), vR 8 22], h1) rfl ?_
        refine R_ld 8 22 32 125 rfl rfl (by omega) (by decide) ?_
        refine R_top (nI k2) ((M1 32 (by decide)).trans F2.1.2.2) ?_
        refine R_s 1 (cond (if0 .ne (nI k2)) 41 38, [(0, vR 8 20)], [], h1) rfl ?_
        refine R_bp (¬ k2 = 0) (i0_m (by omega)) (fun c4 => ?_) (fun c4 => ?_)
        · rw [if_pos ⟨rfl, by omega, by omega, by omega⟩]
          refine R_s 2 (43, [(1, vI (nI 0)), (0, vR 8 20)], [], h1) rfl ?_
          suffices ∀ m (i : Nat) (hh : HP) (hm : i + m = 125) (Kh : ∀ x, x < i → hh 8 21 x = s2 x) (Xh : ∀ g' j', ¬ (g' = 8 ∧ j' = 21) → hh g' j' = h1 g' j'), R (d + 5) mM_configure (43, [(1, vI (nI i)), (0, vR 8 20)], [], hh) _ from this 125 0 h1 (by omega) (fun x hx => absurd hx (by omega)) (fun _ _ _ => rfl)
          intro m
          induction m with
          | zero =>
            intro i hh hm Kh Xh
            refine R_s 3 (cond (if2 .ge (nI i) (nI 125)) 67 49, [(1, vI (nI i)), (0, vR 8 20)], [], hh) rfl ?_
            refine R_bp (125 ≤ i) (i2_ge (by omega) (by omega)) (fun c5 => ?_) (fun c5 => ?_)
            · refine R_s 3 (72, [(1, vI (nI i)), (0, vR 8 20)], [], (hset hh 8 20 3 (nI 0))) rfl ?_
              refine R_hp (fun h2 eh2 => ?_)
              refine R_s 3 (77, [(1, vI (nI i)), (0, vR 8 20)], [vI (nI 0), vR 8 21], h2) rfl ?_
              refine R_ld 8 21 0 125 rfl rfl (by omega) (by decide) ?_
              refine R_top (nI n2) (by rw [eh2, hs_ne (by omega), Kh 0 (by omega)]; exact F2.1.1) ?_
              have T1 := T.fd X1
              exact R_ret (some (vI (nI n2))) h2 rfl ⟨rfl, fun x hx => by rw [eh2, hs_ne (by omega)]; exact Kh x (by omega), ⟨by rw [eh2, hs_same, up_same]; rfl, fun j z hj => by cases hj⟩, by rw [eh2, hs_same, up_ne (by omega), Xh 8 20 (by omega)]; exact T1.1, T1.2.1, fun j hj => by rw [eh2, hs_ne (by omega), Xh 8 24 (by omega)]; exact T1.2.2 j hj⟩
            · exact absurd hm (by omega)
          | succ m ih =>
            intro i hh hm Kh Xh
            refine R_s 3 (cond (if2 .ge (nI i) (nI 125)) 67 49, [(1, vI (nI i)), (0, vR 8 20)], [], hh) rfl ?_
            refine R_bp (125 ≤ i) (i2_ge (by omega) (by omega)) (fun c5 => ?_) (fun c5 => ?_)
            · refine R_s 3 (72, [(1, vI (nI i)), (0, vR 8 20)], [], (hset hh 8 20 3 (nI 0))) rfl ?_
              refine R_hp (fun h3 eh3 => ?_)
              refine R_s 3 (77, [(1, vI (nI i)), (0, vR 8 20)], [vI (nI 0), vR 8 21], h3) rfl ?_
              refine R_ld 8 21 0 125 rfl rfl (by omega) (by decide) ?_
              refine R_top (nI n2) (by rw [eh3, hs_ne (by omega), Kh 0 (by omega)]; exact F2.1.1) ?_
              have T1 := T.fd X1
              exact R_ret (some (vI (nI n2))) h3 rfl ⟨rfl, fun x hx => by rw [eh3, hs_ne (by omega)]; exact Kh x (by omega), ⟨by rw [eh3, hs_same, up_same]; rfl, fun j z hj => by cases hj⟩, by rw [eh3, hs_same, up_ne (by omega), Xh 8 20 (by omega)]; exact T1.1, T1.2.1, fun j hj => by rw [eh3, hs_ne (by omega), Xh 8 24 (by omega)]; exact T1.2.2 j hj⟩
            · refine R_s 6 (59, [(1, vI (nI i)), (0, vR 8 20)], [vI (nI i), vR 8 22, vI (nI i), vR 8 21], hh) rfl ?_
              refine R_ld 8 22 i 125 rfl rfl (by omega) (by decide) ?_
              refine R_top (s2 i) ((congrFun (Xh 8 22 (by omega)) i).trans (M1 i (by omega))) ?_
              refine R_st 8 21 i 125 (s2 i) rfl rfl (by omega) (by decide) (fun h4 eh4 => ?_)
              refine R_s 1 (64, [(1, vI (nI i + Int32.ofInt 1)), (0, vR 8 20)], [], h4) rfl ?_
              refine R_lv (lv' := [(1, vI (nI (i + 1))), (0, vR 8 20)]) (by rw [show nI i + Int32.ofInt 1 = nI (i + 1) from nI_add _ _]) ?_
              refine R_s 1 (43, [(1, vI (nI (i + 1))), (0, vR 8 20)], [], h4) rfl ?_
              refine ih (i + 1) h4 (by omega) (fun x hx => ?_) (fun g' j' e => by rw [eh4, hs_ne e]; exact Xh g' j' e)
              rw [eh4, hs_same]
              by_cases q : x = i
              · rw [q, up_same]
              · rw [up_ne q]; exact Kh x (by omega)
        · rw [if_neg (fun q => absurd q.2.2.2 (by omega))]
          refine R_s 1 (40, [(0, vR 8 20)], [vI (-2)], h1) rfl ?_
          exact R_ret (some (vI (-2))) h1 rfl ⟨rfl, I1⟩
