theorem MI.fm {h h' : HP} {A : AS} (I : MI h A) (X : FM h h') : MI h' A := by
  obtain ⟨M, ⟨k1, k2⟩, T⟩ := I
  exact ⟨M.fm X, ⟨by rw [X 8 20 (by omega)]; exact k1, fun j z hj i hi => by rw [X 8 23 (by omega)]; exact k2 j z hj i hi⟩, by rw [X 8 20 (by omega)]; exact T.1, T.2.1, fun j hj => by rw [X 8 24 (by omega)]; exact T.2.2 j hj⟩
def laS (S l : Nat) : Int32 := if S = 0 then -1 else nI l
theorem laS_ne {S l : Nat} (hl : l < 1000) : if2 .ne (laS S l) (-1) = true ↔ ¬ S = 0 := by
  rw [x2_ne]
  unfold laS
  by_cases h : S = 0
  · rw [if_pos h]; exact ⟨fun q => absurd rfl q, fun q => absurd h q⟩
  · rw [if_neg h]; exact ⟨fun _ => h, fun _ => nI_ne_m1 (by omega)⟩
theorem fs_ex {f : Nat → Option Nat} {c : Nat} : ∀ m x, (∃ y, x ≤ y ∧ y < x + m ∧ f y = some c) → ∃ y, fs f (some c) m x = some y := by
  intro m
  induction m with
  | zero => intro x ⟨y, h1, h2, _⟩; omega
  | succ m ih =>
    intro x ⟨y, h1, h2, h3⟩
    unfold fs
    by_cases e : (f x).isSome = true ∧ f x = some c
    · rw [if_pos e]; exact ⟨x, rfl⟩
    · rw [if_neg e]
      refine ih (x + 1) ⟨y, ?_, by omega, h3⟩
      rcases Nat.lt_or_ge x y with q | q
      · omega
      · exfalso
        apply e
        rw [show x = y by omega, h3]
        exact ⟨rfl, rfl⟩
theorem fs_hit {f : Nat → Option Nat} {c m x y : Nat} (h : fs f (some c) (m + 1) x = some y) (e : f x = some c) : x = y := by
  unfold fs at h
  rw [if_pos ⟨by rw [e]; rfl, e⟩] at h
  exact Option.some.inj h
theorem fs_miss {f : Nat → Option Nat} {c m x y : Nat} (h : fs f (some c) (m + 1) x = some y) (e : ¬ f x = some c) : fs f (some c) m (x + 1) = some y := by
  unfold fs at h
  rw [if_neg (fun q => e q.2)] at h
  exact h
/-- the order as it is found -/
def FN8 (h h' : HP) (n : Nat) (W : Nat → Nat → Nat) (may : Nat → Nat → Bool) (j : Nat) : Prop := (∀ i, i < j → ∃ x, x < n ∧ bsg n W may i = some x ∧ h' 8 28 i = nI x) ∧ ∀ g' j', ¬ (g' = 8 ∧ j' = 28) → h' g' j' = h g' j'
theorem FN8.fm {h h' : HP} {n j : Nat} {W : Nat → Nat → Nat} {may : Nat → Nat → Bool} (a : FN8 h h' n W may j) : FM h h' := fun g' j' e => a.2 g' j' (by omega)
theorem TM.fn {h h' : HP} {n j : Nat} {W : Nat → Nat → Nat} {may : Nat → Nat → Bool} (T : TM h n W may) (a : FN8 h h' n W may j) : TM h' n W may := ⟨fun x y hx hy => by rw [a.2 8 27 (by omega)]; exact T.1 x y hx hy, fun S h1 h2 l hl => ⟨by rw [a.2 8 25 (by omega)]; exact (T.2 S h1 h2 l hl).1, by rw [a.2 8 26 (by omega)]; exact (T.2 S h1 h2 l hl).2⟩⟩
set_option maxRecDepth 100000 in
theorem t_M_layOrder {d n p k : Nat} {h : HP} {s : Nat → Int32} {m : Int32} {c : Nat} (T : TM h n (Wc s m p) (mcm (s, n, p, k))) (hg : (GT n (Wc s m p) (mcm (s, n, p, k)) 0 0).1 = some c) (M : MS 21 h s) (F : WF s n p k) : MT (d + 2) mM_layOrder [vR 8 20, vI (nI c)] h (fun r h' => r = none ∧ FN8 h h' n (Wc s m p) (mcm (s, n, p, k)) n) := by
  have h8 := F.2.1.1
  have h5 := F.2.1.2.1
  have h6 := F.2.1.2.2
  have hW := Wc_le (m := m) F
  have p8 := pw_le h8
  refine R_s 8 (10, [(5, vI (nI 0)), (4, vI (-1)), (3, vI (nI c)), (2, vI (nI 0)), (0, vR 8 20), (1, vI (nI c))], [], h) rfl ?_
  refine R_lv (lv' := [(5, vI (nI 0)), (4, vI (laS 0 0)), (3, vI (nI c)), (2, vI (nI 0)), (0, vR 8 20), (1, vI (nI c))]) rfl ?_
  refine R_fg (lv' := [(5, vI (nI 0)), (4, vI (laS 0 0)), (3, vI (nI c)), (2, vI (nI 0)), (0, vR 8 20)]) [0, 1, 2, 3, 4] rfl [5, 4, 3, 2, 0, 1] rfl (by decide) ?_
  suffices ∀ mm (j S l v : Nat) (hh : HP) (hm : j + mm = n) (B : bch n (Wc s m p) (mcm (s, n, p, k)) j = some (S, l)) (V : (GT n (Wc s m p) (mcm (s, n, p, k)) S l).1 = some v) (A : FN8 h hh n (Wc s m p) (mcm (s, n, p, k)) j), R (d + 2) mM_layOrder (10, [(5, vI (nI j)), (4, vI (laS S l)), (3, vI (nI v)), (2, vI (nI S)), (0, vR 8 20)], [], hh) _ from this n 0 0 0 c h (by omega) rfl hg ⟨fun i hi => absurd hi (by omega), fun _ _ _ => rfl⟩
  intro mm
  induction mm with
  | zero =>
    intro j S l v hh hm B V A
    refine R_s 4 (17, [(5, vI (nI j)), (4, vI (laS S l)), (3, vI (nI v)), (2, vI (nI S)), (0, vR 8 20)], [vI (nI 0), vR 8 21, vI (nI j)], hh) rfl ?_
    refine R_ld 8 21 0 125 rfl rfl (by omega) (by decide) ?_
    refine R_top (nI n) (((M.fm A.fm) 0 (by decide)).trans F.1.1) ?_
    refine R_s 1 (cond (if2 .ge (nI j) (nI n)) 129 21, [(5, vI (nI j)), (4, vI (laS S l)), (3, vI (nI v)), (2, vI (nI S)), (0, vR 8 20)], [], hh) rfl ?_
    refine R_bp (n ≤ j) (i2_ge (by omega) (by omega)) (fun c1 => ?_) (fun c1 => ?_)
    · exact R_ret none hh rfl ⟨rfl, by rw [show j = n by omega] at A; exact A⟩
    · exact absurd hm (by omega)
  | succ mm ih =>
    intro j S l v hh hm B V A
    refine R_s 4 (17, [(5, vI (nI j)), (4, vI (laS S l)), (3, vI (nI v)), (2, vI (nI S)), (0, vR 8 20)], [vI (nI 0), vR 8 21, vI (nI j)], hh) rfl ?_
    refine R_ld 8 21 0 125 rfl rfl (by omega) (by decide) ?_
    refine R_top (nI n) (((M.fm A.fm) 0 (by decide)).trans F.1.1) ?_
    refine R_s 1 (cond (if2 .ge (nI j) (nI n)) 129 21, [(5, vI (nI j)), (4, vI (laS S l)), (3, vI (nI v)), (2, vI (nI S)), (0, vR 8 20)], [], hh) rfl ?_
    refine R_bp (n ≤ j) (i2_ge (by omega) (by omega)) (fun c1 => ?_) (fun c1 => ?_)
    · exact R_ret none hh rfl ⟨rfl, by rw [show j = n by omega] at A; exact A⟩
    · obtain ⟨b1, b2, b3⟩ := bch_ok h8 mcm_bit j (by omega) (S, l) B
      dsimp only at b1 b2 b3
      have hl : l < n := by rcases b3 with q | q <;> omega
      have hG : (fd (cand (Wc s m p) (mcm (s, n, p, k)) (GT n (Wc s m p) (mcm (s, n, p, k))) S l) n).1 = some v := by rw [← GT_step h8 mcm_bit b1 (by omega)]; exact V
      have hv := GT_lt h8 hW v V
      obtain ⟨x0, hx0, ex0⟩ := fd_at n hG
      obtain ⟨y, hy⟩ := fs_ex (f := fun x => (cand (Wc s m p) (mcm (s, n, p, k)) (GT n (Wc s m p) (mcm (s, n, p, k))) S l x).1) (c := v) n 0 ⟨x0, Nat.zero_le _, by omega, ex0⟩
      have hnx : nxt n (Wc s m p) (mcm (s, n, p, k)) S l = some y := by unfold nxt; rw [V]; exact hy
      refine R_s 2 (24, [(6, vI (nI 0)), (5, vI (nI j)), (4, vI (laS S l)), (3, vI (nI v)), (2, vI (nI S)), (0, vR 8 20)], [], hh) rfl ?_
      suffices ∀ m2 (x : Nat) (hm2 : x + m2 = n) (hf : fs (fun x => (cand (Wc s m p) (mcm (s, n, p, k)) (GT n (Wc s m p) (mcm (s, n, p, k))) S l x).1) (some v) m2 x = some y), R (d + 2) mM_layOrder (24, [(6, vI (nI x)), (5, vI (nI j)), (4, vI (laS S l)), (3, vI (nI v)), (2, vI (nI S)), (0, vR 8 20)], [], hh) _ from this n 0 (by omega) hy
      intro m2
      induction m2 with
      | zero =>
        intro x hm2 hf
        cases hf
      | succ m2 ih2 =>
        intro x hm2 hf
        have hor := or_lt (n := n) (S := S) (x := x) b1 (by omega)
        refine R_s 3 (28, [(6, vI (nI x)), (5, vI (nI j)), (4, vI (laS S l)), (3, vI (nI v)), (2, vI (nI S)), (0, vR 8 20)], [vI (nI x), vI (nI S), vR 8 20], hh) rfl ?_
        refine R_calli mM_mayCome [vR 8 20, vI (nI S), vI (nI x)] [] (bI (mcm (s, n, p, k) S x)) hh rfl (t_M_mayCome (show S < 256 by omega) (show x < n by omega) (M.fm A.fm) F) ?_
        refine R_s 1 (cond (if0 .eq (bI (mcm (s, n, p, k) S x))) 79 34, [(6, vI (nI x)), (5, vI (nI j)), (4, vI (laS S l)), (3, vI (nI v)), (2, vI (nI S)), (0, vR 8 20)], [], hh) rfl ?_
        refine R_bp (mcm (s, n, p, k) S x = false) (x0_eq.trans bI_eq) (fun c3 => ?_) (fun c3 => ?_)
        · refine R_s 1 (82, [(6, vI (nI x + Int32.ofInt 1)), (5, vI (nI j)), (4, vI (laS S l)), (3, vI (nI v)), (2, vI (nI S)), (0, vR 8 20)], [], hh) rfl ?_
          refine R_lv (lv' := [(6, vI (nI (x + 1))), (5, vI (nI j)), (4, vI (laS S l)), (3, vI (nI v)), (2, vI (nI S)), (0, vR 8 20)]) (by rw [show nI x + Int32.ofInt 1 = nI (x + 1) from nI_add _ _]) ?_
          refine R_s 1 (24, [(6, vI (nI (x + 1))), (5, vI (nI j)), (4, vI (laS S l)), (3, vI (nI v)), (2, vI (nI S)), (0, vR 8 20)], [], hh) rfl ?_
          exact ih2 (x + 1) (by omega) (fs_miss hf (by unfold cand; rw [if_neg (by rw [c3]; decide)]; exact fun q => by cases q))
        · have c3 := tf c3
          have hE := (T.fn A).2 (S ||| 2 ^ x) (Nat.lt_of_le_of_lt (Nat.zero_le _) (or_gt (mcm_bit S x c3))) hor x (by omega)
          have hcd : (cand (Wc s m p) (mcm (s, n, p, k)) (GT n (Wc s m p) (mcm (s, n, p, k))) S l x).1 = ((GT n (Wc s m p) (mcm (s, n, p, k)) (S ||| 2 ^ x) x).1.map (fun c => (if S = 0 then 0 else Wc s m p l x) + c)) := by unfold cand; rw [if_pos c3]
          refine R_s 3 (cond (if2 .ne (laS S l) (-1)) 44 40, [(6, vI (nI x)), (5, vI (nI j)), (4, vI (laS S l)), (3, vI (nI v)), (2, vI (nI S)), (0, vR 8 20)], [], hh) rfl ?_
          refine R_bp (¬ S = 0) (laS_ne (by omega)) (fun c4 => ?_) (fun c4 => ?_)
          · refine R_lv (lv' := [(6, vI (nI x)), (5, vI (nI j)), (4, vI (nI l)), (3, vI (nI v)), (2, vI (nI S)), (0, vR 8 20)]) (by unfold laS; rw [if_neg c4]) ?_
            have hwl := hW l x
            cases hu : (GT n (Wc s m p) (mcm (s, n, p, k)) (S ||| 2 ^ x) x).1 with
            | none =>
              refine R_s 4 (52, [(6, vI (nI x)), (5, vI (nI j)), (4, vI (nI l)), (3, vI (nI v)), (2, vI (nI S)), (0, vR 8 20)], [vI (nI l), vI (nI 8), vR 8 27], hh) rfl ?_
              refine R_mul 8 l rfl ?_
              refine R_s 1 (55, [(6, vI (nI x)), (5, vI (nI j)), (4, vI (nI l)), (3, vI (nI v)), (2, vI (nI S)), (0, vR 8 20)], [vI (nI x), vI (nI (8 * l)), vR 8 27], hh) rfl ?_
              refine R_add (8 * l) x rfl ?_
              refine R_ld 8 27 ((8 * l) + x) 64 rfl rfl (by omega) (by decide) ?_
              refine R_top (nI (Wc s m p l x)) ((T.fn A).1 l x (by omega) (by omega)) ?_
              refine R_s 8 (69, [(6, vI (nI x)), (5, vI (nI j)), (4, vI (nI l)), (3, vI (nI v)), (2, vI (nI S)), (0, vR 8 20)], [vI ((nI S) ||| ((nI 1) <<< ((nI x) &&& 31))), vI (nI 8), vR 8 25, vI (nI (Wc s m p l x))], hh) rfl ?_
              refine R_top (nI (S ||| 2 ^ x)) (bit_or S (by omega) x (by omega)) ?_
              refine R_mul 8 (S ||| 2 ^ x) rfl ?_
              refine R_s 1 (72, [(6, vI (nI x)), (5, vI (nI j)), (4, vI (nI l)), (3, vI (nI v)), (2, vI (nI S)), (0, vR 8 20)], [vI (nI x), vI (nI (8 * (S ||| 2 ^ x))), vR 8 25, vI (nI (Wc s m p l x))], hh) rfl ?_
              refine R_add (8 * (S ||| 2 ^ x)) x rfl ?_
              refine R_ld 8 25 ((8 * (S ||| 2 ^ x)) + x) 2048 rfl rfl (by omega) (by decide) ?_
              refine R_top (nI 1000000) (hE.1.trans (by rw [hu]; rfl)) ?_
              refine R_add (Wc s m p l x) 1000000 rfl ?_
              refine R_s 2 (cond (if2 .eq (nI ((Wc s m p l x) + 1000000)) (nI v)) 85 79, [(6, vI (nI x)), (5, vI (nI j)), (4, vI (nI l)), (3, vI (nI v)), (2, vI (nI S)), (0, vR 8 20)], [], hh) rfl ?_
              refine R_bf (by cases q : if2 .eq (nI (Wc s m p l x + 1000000)) (nI v) with
                | false => rfl
                | true => exact absurd ((i2_eq (by omega) (by omega)).mp q) (by omega)) ?_
              refine R_lv (lv' := [(6, vI (nI x)), (5, vI (nI j)), (4, vI (laS S l)), (3, vI (nI v)), (2, vI (nI S)), (0, vR 8 20)]) (by unfold laS; rw [if_neg c4]) ?_
              refine R_s 1 (82, [(6, vI (nI x + Int32.ofInt 1)), (5, vI (nI j)), (4, vI (laS S l)), (3, vI (nI v)), (2, vI (nI S)), (0, vR 8 20)], [], hh) rfl ?_
              refine R_lv (lv' := [(6, vI (nI (x + 1))), (5, vI (nI j)), (4, vI (laS S l)), (3, vI (nI v)), (2, vI (nI S)), (0, vR 8 20)]) (by rw [show nI x + Int32.ofInt 1 = nI (x + 1) from nI_add _ _]) ?_
              refine R_s 1 (24, [(6, vI (nI (x + 1))), (5, vI (nI j)), (4, vI (laS S l)), (3, vI (nI v)), (2, vI (nI S)), (0, vR 8 20)], [], hh) rfl ?_
              exact ih2 (x + 1) (by omega) (fs_miss hf (by rw [hcd, hu]; exact fun q => by cases q))
            | some u =>
              have hu1 := GT_lt h8 hW u hu
              have hcu : (cand (Wc s m p) (mcm (s, n, p, k)) (GT n (Wc s m p) (mcm (s, n, p, k))) S l x).1 = some (Wc s m p l x + u) := by rw [hcd, hu]; show some ((if S = 0 then 0 else Wc s m p l x) + u) = _; rw [if_neg c4]
              refine R_s 4 (52, [(6, vI (nI x)), (5, vI (nI j)), (4, vI (nI l)), (3, vI (nI v)), (2, vI (nI S)), (0, vR 8 20)], [vI (nI l), vI (nI 8), vR 8 27], hh) rfl ?_
              refine R_mul 8 l rfl ?_
              refine R_s 1 (55, [(6, vI (nI x)), (5, vI (nI j)), (4, vI (nI l)), (3, vI (nI v)), (2, vI (nI S)), (0, vR 8 20)], [vI (nI x), vI (nI (8 * l)), vR 8 27], hh) rfl ?_
              refine R_add (8 * l) x rfl ?_
              refine R_ld 8 27 ((8 * l) + x) 64 rfl rfl (by omega) (by decide) ?_
              refine R_top (nI (Wc s m p l x)) ((T.fn A).1 l x (by omega) (by omega)) ?_
              refine R_s 8 (69, [(6, vI (nI x)), (5, vI (nI j)), (4, vI (nI l)), (3, vI (nI v)), (2, vI (nI S)), (0, vR 8 20)], [vI ((nI S) ||| ((nI 1) <<< ((nI x) &&& 31))), vI (nI 8), vR 8 25, vI (nI (Wc s m p l x))], hh) rfl ?_
              refine R_top (nI (S ||| 2 ^ x)) (bit_or S (by omega) x (by omega)) ?_
              refine R_mul 8 (S ||| 2 ^ x) rfl ?_
              refine R_s 1 (72, [(6, vI (nI x)), (5, vI (nI j)), (4, vI (nI l)), (3, vI (nI v)), (2, vI (nI S)), (0, vR 8 20)], [vI (nI x), vI (nI (8 * (S ||| 2 ^ x))), vR 8 25, vI (nI (Wc s m p l x))], hh) rfl ?_
              refine R_add (8 * (S ||| 2 ^ x)) x rfl ?_
              refine R_ld 8 25 ((8 * (S ||| 2 ^ x)) + x) 2048 rfl rfl (by omega) (by decide) ?_
              refine R_top (nI u) (hE.1.trans (by rw [hu]; rfl)) ?_
              refine R_add (Wc s m p l x) u rfl ?_
              refine R_s 2 (cond (if2 .eq (nI ((Wc s m p l x) + u)) (nI v)) 85 79, [(6, vI (nI x)), (5, vI (nI j)), (4, vI (nI l)), (3, vI (nI v)), (2, vI (nI S)), (0, vR 8 20)], [], hh) rfl ?_
              refine R_bp (((Wc s m p l x) + u) = v) (i2_eq (by omega) (by omega)) (fun c5 => ?_) (fun c5 => ?_)
              · have hxy := fs_hit hf (by rw [← c5]; exact hcu)
                subst hxy
                refine R_s 8 (97, [(6, vI (nI x)), (5, vI (nI j)), (4, vI (nI l)), (3, vI (nI v)), (2, vI (nI S)), (0, vR 8 20)], [vI ((nI S) ||| ((nI 1) <<< ((nI x) &&& 31))), vI (nI 8), vR 8 25], hh) rfl ?_
                refine R_top (nI (S ||| 2 ^ x)) (bit_or S (by omega) x (by omega)) ?_
                refine R_mul 8 (S ||| 2 ^ x) rfl ?_
                refine R_s 1 (100, [(6, vI (nI x)), (5, vI (nI j)), (4, vI (nI l)), (3, vI (nI v)), (2, vI (nI S)), (0, vR 8 20)], [vI (nI x), vI (nI (8 * (S ||| 2 ^ x))), vR 8 25], hh) rfl ?_
                refine R_add (8 * (S ||| 2 ^ x)) x rfl ?_
                refine R_ld 8 25 ((8 * (S ||| 2 ^ x)) + x) 2048 rfl rfl (by omega) (by decide) ?_
                refine R_top (nI u) (hE.1.trans (by rw [hu]; rfl)) ?_
                refine R_s 5 (111, [(3, vI (nI u)), (6, vI (nI x)), (5, vI (nI j)), (4, vI (nI l)), (2, vI (nI S)), (0, vR 8 20)], [vI (nI x), vI (nI j), vR 8 28], hh) rfl ?_
                refine R_st 8 28 j 8 (nI x) rfl rfl (by omega) (by decide) (fun h1 eh1 => ?_)
                refine R_s 5 (118, [(3, vI (nI u)), (6, vI (nI x)), (5, vI (nI j)), (4, vI (nI l)), (2, vI (nI S)), (0, vR 8 20)], [vI ((nI S) ||| ((nI 1) <<< ((nI x) &&& 31)))], h1) rfl ?_
                refine R_top (nI (S ||| 2 ^ x)) (bit_or S (by omega) x (by omega)) ?_
                refine R_s 3 (123, [(4, vI (nI x)), (2, vI (nI (S ||| 2 ^ x))), (3, vI (nI u)), (6, vI (nI x)), (5, vI (nI j)), (0, vR 8 20)], [], h1) rfl ?_
                refine R_s 1 (126, [(5, vI (nI j + Int32.ofInt 1)), (4, vI (nI x)), (2, vI (nI (S ||| 2 ^ x))), (3, vI (nI u)), (6, vI (nI x)), (0, vR 8 20)], [], h1) rfl ?_
                refine R_lv (lv' := [(5, vI (nI (j + 1))), (4, vI (nI x)), (2, vI (nI (S ||| 2 ^ x))), (3, vI (nI u)), (6, vI (nI x)), (0, vR 8 20)]) (by rw [show nI j + Int32.ofInt 1 = nI (j + 1) from nI_add _ _]) ?_
                refine R_s 1 (10, [(5, vI (nI (j + 1))), (4, vI (nI x)), (2, vI (nI (S ||| 2 ^ x))), (3, vI (nI u)), (6, vI (nI x)), (0, vR 8 20)], [], h1) rfl ?_
                refine R_fg (lv' := [(5, vI (nI (j + 1))), (4, vI (nI x)), (3, vI (nI u)), (2, vI (nI (S ||| 2 ^ x))), (0, vR 8 20)]) [0, 1, 3, 2, 5] rfl [5, 4, 2, 3, 6, 0] rfl (by decide) ?_
                refine R_lv (lv' := [(5, vI (nI (j + 1))), (4, vI (laS (S ||| 2 ^ x) x)), (3, vI (nI u)), (2, vI (nI (S ||| 2 ^ x))), (0, vR 8 20)]) (by unfold laS; rw [if_neg (by have := or_gt (mcm_bit S x c3); omega)]) ?_
                have B2 : bch n (Wc s m p) (mcm (s, n, p, k)) (j + 1) = some (S ||| 2 ^ x, x) := by rw [bch_s B, hnx]; rfl
                refine ih (j + 1) (S ||| 2 ^ x) x u h1 (by omega) B2 hu ⟨fun i hi => ?_, fun g' j' e => by rw [eh1, hs_ne e]; exact A.2 g' j' e⟩
                by_cases q : i = j
                · exact ⟨x, by omega, by rw [q]; unfold bsg; rw [B2]; rfl, by rw [eh1, hs_same, q, up_same]⟩
                · obtain ⟨w, w1, w2, w3⟩ := A.1 i (by omega)
                  exact ⟨w, w1, w2, by rw [eh1, hs_same, up_ne q]; exact w3⟩
              · refine R_lv (lv' := [(6, vI (nI x)), (5, vI (nI j)), (4, vI (laS S l)), (3, vI (nI v)), (2, vI (nI S)), (0, vR 8 20)]) (by unfold laS; rw [if_neg c4]) ?_
                refine R_s 1 (82, [(6, vI (nI x + Int32.ofInt 1)), (5, vI (nI j)), (4, vI (laS S l)), (3, vI (nI v)), (2, vI (nI S)), (0, vR 8 20)], [], hh) rfl ?_
                refine R_lv (lv' := [(6, vI (nI (x + 1))), (5, vI (nI j)), (4, vI (laS S l)), (3, vI (nI v)), (2, vI (nI S)), (0, vR 8 20)]) (by rw [show nI x + Int32.ofInt 1 = nI (x + 1) from nI_add _ _]) ?_
                refine R_s 1 (24, [(6, vI (nI (x + 1))), (5, vI (nI j)), (4, vI (laS S l)), (3, vI (nI v)), (2, vI (nI S)), (0, vR 8 20)], [], hh) rfl ?_
                exact ih2 (x + 1) (by omega) (fs_miss hf (by rw [hcu]; exact fun q => c5 (Option.some.inj q)))
          · have c4 := Classical.not_not.mp c4
            cases hu : (GT n (Wc s m p) (mcm (s, n, p, k)) (S ||| 2 ^ x) x).1 with
            | none =>
              refine R_s 10 (69, [(6, vI (nI x)), (5, vI (nI j)), (4, vI (laS S l)), (3, vI (nI v)), (2, vI (nI S)), (0, vR 8 20)], [vI ((nI S) ||| ((nI 1) <<< ((nI x) &&& 31))), vI (nI 8), vR 8 25, vI (nI 0)], hh) rfl ?_
              refine R_top (nI (S ||| 2 ^ x)) (bit_or S (by omega) x (by omega)) ?_
              refine R_mul 8 (S ||| 2 ^ x) rfl ?_
              refine R_s 1 (72, [(6, vI (nI x)), (5, vI (nI j)), (4, vI (laS S l)), (3, vI (nI v)), (2, vI (nI S)), (0, vR 8 20)], [vI (nI x), vI (nI (8 * (S ||| 2 ^ x))), vR 8 25, vI (nI 0)], hh) rfl ?_
              refine R_add (8 * (S ||| 2 ^ x)) x rfl ?_
              refine R_ld 8 25 ((8 * (S ||| 2 ^ x)) + x) 2048 rfl rfl (by omega) (by decide) ?_
              refine R_top (nI 1000000) (hE.1.trans (by rw [hu]; rfl)) ?_
              refine R_add 0 1000000 rfl ?_
              refine R_s 2 (cond (if2 .eq (nI (0 + 1000000)) (nI v)) 85 79, [(6, vI (nI x)), (5, vI (nI j)), (4, vI (laS S l)), (3, vI (nI v)), (2, vI (nI S)), (0, vR 8 20)], [], hh) rfl ?_
              refine R_bf (by cases q : if2 .eq (nI (0 + 1000000)) (nI v) with
                | false => rfl
                | true => exact absurd ((i2_eq (by omega) (by omega)).mp q) (by omega)) ?_
              refine R_s 1 (82, [(6, vI (nI x + Int32.ofInt 1)), (5, vI (nI j)), (4, vI (laS S l)), (3, vI (nI v)), (2, vI (nI S)), (0, vR 8 20)], [], hh) rfl ?_
              refine R_lv (lv' := [(6, vI (nI (x + 1))), (5, vI (nI j)), (4, vI (laS S l)), (3, vI (nI v)), (2, vI (nI S)), (0, vR 8 20)]) (by rw [show nI x + Int32.ofInt 1 = nI (x + 1) from nI_add _ _]) ?_
              refine R_s 1 (24, [(6, vI (nI (x + 1))), (5, vI (nI j)), (4, vI (laS S l)), (3, vI (nI v)), (2, vI (nI S)), (0, vR 8 20)], [], hh) rfl ?_
              exact ih2 (x + 1) (by omega) (fs_miss hf (by rw [hcd, hu]; exact fun q => by cases q))
            | some u =>
              have hu1 := GT_lt h8 hW u hu
              have hcu : (cand (Wc s m p) (mcm (s, n, p, k)) (GT n (Wc s m p) (mcm (s, n, p, k))) S l x).1 = some (0 + u) := by rw [hcd, hu]; show some ((if S = 0 then 0 else Wc s m p l x) + u) = _; rw [if_pos c4]
              refine R_s 10 (69, [(6, vI (nI x)), (5, vI (nI j)), (4, vI (laS S l)), (3, vI (nI v)), (2, vI (nI S)), (0, vR 8 20)], [vI ((nI S) ||| ((nI 1) <<< ((nI x) &&& 31))), vI (nI 8), vR 8 25, vI (nI 0)], hh) rfl ?_
              refine R_top (nI (S ||| 2 ^ x)) (bit_or S (by omega) x (by omega)) ?_
              refine R_mul 8 (S ||| 2 ^ x) rfl ?_
              refine R_s 1 (72, [(6, vI (nI x)), (5, vI (nI j)), (4, vI (laS S l)), (3, vI (nI v)), (2, vI (nI S)), (0, vR 8 20)], [vI (nI x), vI (nI (8 * (S ||| 2 ^ x))), vR 8 25, vI (nI 0)], hh) rfl ?_
              refine R_add (8 * (S ||| 2 ^ x)) x rfl ?_
              refine R_ld 8 25 ((8 * (S ||| 2 ^ x)) + x) 2048 rfl rfl (by omega) (by decide) ?_
              refine R_top (nI u) (hE.1.trans (by rw [hu]; rfl)) ?_
              refine R_add 0 u rfl ?_
              refine R_s 2 (cond (if2 .eq (nI (0 + u)) (nI v)) 85 79, [(6, vI (nI x)), (5, vI (nI j)), (4, vI (laS S l)), (3, vI (nI v)), (2, vI (nI S)), (0, vR 8 20)], [], hh) rfl ?_
              refine R_bp ((0 + u) = v) (i2_eq (by omega) (by omega)) (fun c5 => ?_) (fun c5 => ?_)
              · have hxy := fs_hit hf (by rw [← c5]; exact hcu)
                subst hxy
                refine R_s 8 (97, [(6, vI (nI x)), (5, vI (nI j)), (4, vI (laS S l)), (3, vI (nI v)), (2, vI (nI S)), (0, vR 8 20)], [vI ((nI S) ||| ((nI 1) <<< ((nI x) &&& 31))), vI (nI 8), vR 8 25], hh) rfl ?_
                refine R_top (nI (S ||| 2 ^ x)) (bit_or S (by omega) x (by omega)) ?_
                refine R_mul 8 (S ||| 2 ^ x) rfl ?_
                refine R_s 1 (100, [(6, vI (nI x)), (5, vI (nI j)), (4, vI (laS S l)), (3, vI (nI v)), (2, vI (nI S)), (0, vR 8 20)], [vI (nI x), vI (nI (8 * (S ||| 2 ^ x))), vR 8 25], hh) rfl ?_
                refine R_add (8 * (S ||| 2 ^ x)) x rfl ?_
                refine R_ld 8 25 ((8 * (S ||| 2 ^ x)) + x) 2048 rfl rfl (by omega) (by decide) ?_
                refine R_top (nI u) (hE.1.trans (by rw [hu]; rfl)) ?_
                refine R_s 5 (111, [(3, vI (nI u)), (6, vI (nI x)), (5, vI (nI j)), (4, vI (laS S l)), (2, vI (nI S)), (0, vR 8 20)], [vI (nI x), vI (nI j), vR 8 28], hh) rfl ?_
                refine R_st 8 28 j 8 (nI x) rfl rfl (by omega) (by decide) (fun h2 eh2 => ?_)
                refine R_s 5 (118, [(3, vI (nI u)), (6, vI (nI x)), (5, vI (nI j)), (4, vI (laS S l)), (2, vI (nI S)), (0, vR 8 20)], [vI ((nI S) ||| ((nI 1) <<< ((nI x) &&& 31)))], h2) rfl ?_
                refine R_top (nI (S ||| 2 ^ x)) (bit_or S (by omega) x (by omega)) ?_
                refine R_s 3 (123, [(4, vI (nI x)), (2, vI (nI (S ||| 2 ^ x))), (3, vI (nI u)), (6, vI (nI x)), (5, vI (nI j)), (0, vR 8 20)], [], h2) rfl ?_
                refine R_s 1 (126, [(5, vI (nI j + Int32.ofInt 1)), (4, vI (nI x)), (2, vI (nI (S ||| 2 ^ x))), (3, vI (nI u)), (6, vI (nI x)), (0, vR 8 20)], [], h2) rfl ?_
                refine R_lv (lv' := [(5, vI (nI (j + 1))), (4, vI (nI x)), (2, vI (nI (S ||| 2 ^ x))), (3, vI (nI u)), (6, vI (nI x)), (0, vR 8 20)]) (by rw [show nI j + Int32.ofInt 1 = nI (j + 1) from nI_add _ _]) ?_
                refine R_s 1 (10, [(5, vI (nI (j + 1))), (4, vI (nI x)), (2, vI (nI (S ||| 2 ^ x))), (3, vI (nI u)), (6, vI (nI x)), (0, vR 8 20)], [], h2) rfl ?_
                refine R_fg (lv' := [(5, vI (nI (j + 1))), (4, vI (nI x)), (3, vI (nI u)), (2, vI (nI (S ||| 2 ^ x))), (0, vR 8 20)]) [0, 1, 3, 2, 5] rfl [5, 4, 2, 3, 6, 0] rfl (by decide) ?_
                refine R_lv (lv' := [(5, vI (nI (j + 1))), (4, vI (laS (S ||| 2 ^ x) x)), (3, vI (nI u)), (2, vI (nI (S ||| 2 ^ x))), (0, vR 8 20)]) (by unfold laS; rw [if_neg (by have := or_gt (mcm_bit S x c3); omega)]) ?_
                have B2 : bch n (Wc s m p) (mcm (s, n, p, k)) (j + 1) = some (S ||| 2 ^ x, x) := by rw [bch_s B, hnx]; rfl
                refine ih (j + 1) (S ||| 2 ^ x) x u h2 (by omega) B2 hu ⟨fun i hi => ?_, fun g' j' e => by rw [eh2, hs_ne e]; exact A.2 g' j' e⟩
                by_cases q : i = j
                · exact ⟨x, by omega, by rw [q]; unfold bsg; rw [B2]; rfl, by rw [eh2, hs_same, q, up_same]⟩
                · obtain ⟨w, w1, w2, w3⟩ := A.1 i (by omega)
                  exact ⟨w, w1, w2, by rw [eh2, hs_same, up_ne q]; exact w3⟩
              · refine R_s 1 (82, [(6, vI (nI x + Int32.ofInt 1)), (5, vI (nI j)), (4, vI (laS S l)), (3, vI (nI v)), (2, vI (nI S)), (0, vR 8 20)], [], hh) rfl ?_
                refine R_lv (lv' := [(6, vI (nI (x + 1))), (5, vI (nI j)), (4, vI (laS S l)), (3, vI (nI v)), (2, vI (nI S)), (0, vR 8 20)]) (by rw [show nI x + Int32.ofInt 1 = nI (x + 1) from nI_add _ _]) ?_
                refine R_s 1 (24, [(6, vI (nI (x + 1))), (5, vI (nI j)), (4, vI (laS S l)), (3, vI (nI v)), (2, vI (nI S)), (0, vR 8 20)], [], hh) rfl ?_
                exact ih2 (x + 1) (by omega) (fs_miss hf (by rw [hcu]; exact fun q => c5 (Option.some.inj q)))
theorem zG_m {z : ST} (F : WF z.1 z.2.1 z.2.2.1 z.2.2.2) : GT z.2.1 (Wc z.1 (-1) z.2.2.1) (mcm z) 0 0 = zG z := GT_gd F _ 0 (Nat.pow_pos (by decide)) gd_0
theorem zS_m {z : ST} (F : WF z.1 z.2.1 z.2.2.1 z.2.2.2) (j : Nat) : bsg z.2.1 (Wc z.1 (-1) z.2.2.1) (mcm z) j = zS z j := bsg_gd F _ j
theorem EF_lt2 {o : Option Nat} (h : ∀ c, o = some c → c < 1000) : if2 .lt (encF o) (nI 1000000) = true ↔ ¬ o = none := by
  cases o with
  | none => exact ⟨fun q => absurd ((i2_lt (a := 1000000) (b := 1000000) (by omega) (by omega)).mp q) (by omega), fun q => absurd rfl q⟩
  | some c =>
    have := h c rfl
    show if2 .lt (nI c) (nI 1000000) = true ↔ _
    rw [i2_lt (by omega) (by omega)]
    exact ⟨fun _ q => (by cases q), fun _ => by omega⟩
theorem zG_lt {z : ST} (F : WF z.1 z.2.1 z.2.2.1 z.2.2.2) : ∀ c, (zG z).1 = some c → c < 1000 := fun c h => GT_lt F.2.1.1 (Wc_le F) c h
set_option maxRecDepth 100000 in
theorem t_M_bestCost {d : Nat} {h : HP} {A : AS} (V : VA A) (I : MI h A) : MT (d + 6) mM_bestCost [vR 8 20] h (fun r h' => r = some (vI (oBest A)) ∧ MI h' A) := by
  obtain ⟨⟨s, n, p, k⟩, kp, ch, len⟩ := A
  have M : MS 21 h s := I.1
  have F : WF s n p k := V.1.1
  have O : WO s n := V.1.2.1.1
  have hn1 : 1 ≤ n := V.1.2.2.1
  have hp1 : 1 ≤ p := V.1.2.2.2.1
  have hk1 : 1 ≤ k := V.1.2.2.2.2
  have h8 := F.2.1.1
  have h5 := F.2.1.2.1
  have h6 := F.2.1.2.2
  refine R_s 2 (2, [(0, vR 8 20)], [vI (-1), vR 8 20], h) rfl ?_
  refine R_call mM_layBest [vR 8 20, vI (-1)] [] rfl (t_M_layBest (m := -1) hn1 M F) (fun r h1 e1 => ?_)
  obtain ⟨rfl, T, X⟩ := e1
  have eG := zG_m (z := (s, n, p, k)) F
  dsimp only at eG
  have hlt := zG_lt (z := (s, n, p, k)) F
  have I1 := I.fm X
  rw [eG]
  show R _ mM_bestCost (5, [(0, vR 8 20)], [vI (encF (zG (s, n, p, k)).1)], h1) _
  refine R_s 4 (cond (if2 .lt (encF (zG (s, n, p, k)).1) (nI 1000000)) 17 12, [(1, vI (encF (zG (s, n, p, k)).1)), (0, vR 8 20)], [], h1) rfl ?_
  refine R_bp (¬ (zG (s, n, p, k)).1 = none) (EF_lt2 hlt) (fun c1 => ?_) (fun c1 => ?_)
  · refine R_s 1 (18, [(1, vI (encF (zG (s, n, p, k)).1)), (0, vR 8 20)], [vI (encF (zG (s, n, p, k)).1)], h1) rfl ?_
    exact R_ret (some (vI (encF (zG (s, n, p, k)).1))) h1 rfl ⟨by unfold oBest; dsimp only; cases q : (zG (s, n, p, k)).1 with
      | none => exact absurd q c1
      | some v => rfl, I1⟩
  · refine R_s 2 (18, [(1, vI (encF (zG (s, n, p, k)).1)), (0, vR 8 20)], [vI (-4)], h1) rfl ?_
    exact R_ret (some (vI (-4))) h1 rfl ⟨by unfold oBest; dsimp only; rw [Classical.not_not.mp c1]; rfl, I1⟩
theorem zS_none {z : ST} {j : Nat} (hn1 : 1 ≤ z.2.1) (h8 : z.2.1 ≤ 8) (h : (zG z).1 = none) : zS z j = none := by
  have h0 : nxt z.2.1 (zW z) (mCl (zB z)) 0 0 = none := by
    cases q : nxt z.2.1 (zW z) (mCl (zB z)) 0 0 with
    | none => rfl
    | some x =>
      unfold nxt at q
      have h1 := fs_lt _ _ _ q
      have h2 := h1.2.2.1
      rw [h1.2.2.2] at h2
      unfold zG at h
      rw [h] at h2
      cases h2
  have h1 : bch z.2.1 (zW z) (mCl (zB z)) 1 = none := by
    rw [bch_s (i := 0) (S := 0) (l := 0) rfl, h0]
    rfl
  unfold zS bsg
  rw [show j + 1 = 1 + j by omega, bch_none h1 j]
  rfl
set_option maxRecDepth 100000 in
theorem t_M_bestSongAt {d : Nat} {h : HP} {A : AS} {x : Int32} (V : VA A) (I : MI h A) : MT (d + 6) mM_bestSongAt [vR 8 20, vI x] h (fun r h' => r = some (vI (oBestAt A x)) ∧ MI h' A) := by
  obtain ⟨⟨s, n, p, k⟩, kp, ch, len⟩ := A
  have M : MS 21 h s := I.1
  have F : WF s n p k := V.1.1
  have O : WO s n := V.1.2.1.1
  have hn1 : 1 ≤ n := V.1.2.2.1
  have hp1 : 1 ≤ p := V.1.2.2.2.1
  have hk1 : 1 ≤ k := V.1.2.2.2.2
  have h8 := F.2.1.1
  have h5 := F.2.1.2.1
  have h6 := F.2.1.2.2
  refine R_s 2 (2, [(0, vR 8 20), (1, vI x)], [vI x, vR 8 20], h) rfl ?_
  refine R_calli mM_isPosition [vR 8 20, vI x] [] (bI (inb x n)) h rfl (t_M_isPosition ((M 0 (by decide)).trans F.1.1) h8) ?_
  refine R_s 1 (cond (if0 .ne (bI (inb x n))) 10 8, [(0, vR 8 20), (1, vI x)], [], h) rfl ?_
  refine R_bp ((inb x n) = true) (x0_ne.trans bI_ne) (fun ca => ?_) (fun ca => ?_)
  · have ca := bool_t ca
    obtain ⟨a, ha, rfl⟩ := inb_ex (by omega) (tf ca)
    unfold oBestAt
    dsimp only
    rw [sel1_t ha (by omega)]
    refine R_s 2 (12, [(0, vR 8 20), (1, vI (nI a))], [vI (-1), vR 8 20], h) rfl ?_
    refine R_call mM_layBest [vR 8 20, vI (-1)] [] rfl (t_M_layBest (m := -1) hn1 M F) (fun r h1 e1 => ?_)
    obtain ⟨rfl, T, X⟩ := e1
    have eG := zG_m (z := (s, n, p, k)) F
    dsimp only at eG
    have hlt := zG_lt (z := (s, n, p, k)) F
    have I1 := I.fm X
    rw [eG]
    show R _ mM_bestSongAt (15, [(0, vR 8 20), (1, vI (nI a))], [vI (encF (zG (s, n, p, k)).1)], h1) _
    refine R_s 4 (cond (if2 .lt (encF (zG (s, n, p, k)).1) (nI 1000000)) 25 22, [(2, vI (encF (zG (s, n, p, k)).1)), (0, vR 8 20), (1, vI (nI a))], [], h1) rfl ?_
    refine R_bp (¬ (zG (s, n, p, k)).1 = none) (EF_lt2 hlt) (fun c1 => ?_) (fun c1 => ?_)
    · obtain ⟨v, hv⟩ : ∃ v, (zG (s, n, p, k)).1 = some v := by cases q : (zG (s, n, p, k)).1 with
        | none => exact absurd q c1
        | some v => exact ⟨v, rfl⟩
      have hv8 := hlt v hv
      refine R_lv (lv' := [(2, vI (nI v)), (0, vR 8 20), (1, vI (nI a))]) (by rw [hv]; rfl) ?_
      refine R_s 2 (27, [(2, vI (nI v)), (0, vR 8 20), (1, vI (nI a))], [vI (nI v), vR 8 20], h1) rfl ?_
      refine R_call mM_layOrder [vR 8 20, vI (nI v)] [] rfl (t_M_layOrder (c := v) T (by rw [eG]; exact hv) (M.fm X) F) (fun r h2 e2 => ?_)
      obtain ⟨rfl, A⟩ := e2
      show R _ mM_bestSongAt (30, [(2, vI (nI v)), (0, vR 8 20), (1, vI (nI a))], [], h2) _
      obtain ⟨y, hy, ey, fy⟩ := A.1 a ha
      refine R_s 3 (35, [(2, vI (nI v)), (0, vR 8 20), (1, vI (nI a))], [vI (nI a), vR 8 28], h2) rfl ?_
      refine R_ld 8 28 a 8 rfl rfl (by omega) (by decide) ?_
      refine R_top (nI y) fy ?_
      exact R_ret (some (vI (nI y))) h2 rfl ⟨by rw [← zS_m (z := (s, n, p, k)) F a]; show _ = some (vI (nf (bsg n (Wc s (-1) p) (mcm (s, n, p, k)) a))); rw [ey]; rfl, I1.fm A.fm⟩
    · refine R_s 1 (24, [(2, vI (encF (zG (s, n, p, k)).1)), (0, vR 8 20), (1, vI (nI a))], [vI (-4)], h1) rfl ?_
      exact R_ret (some (vI (-4))) h1 rfl ⟨by rw [zS_none (z := (s, n, p, k)) hn1 h8 (Classical.not_not.mp c1)]; rfl, I1⟩
  · have ca := bool_f ca
    refine R_s 1 (9, [(0, vR 8 20), (1, vI x)], [vI (-1)], h) rfl ?_
    exact R_ret (some (vI (-1))) h rfl ⟨by unfold oBestAt; dsimp only; rw [sel1_f ca], I⟩
set_option maxRecDepth 100000 in
theorem t_M_bestCostFrom {d : Nat} {h : HP} {A : AS} {x : Int32} (V : VA A) (I : MI h A) : MT (d + 6) mM_bestCostFrom [vR 8 20, vI x] h (fun r h' => r = some (vI (oBestFrom A x)) ∧ MI h' A) := by
  obtain ⟨⟨s, n, p, k⟩, kp, ch, len⟩ := A
  have M : MS 21 h s := I.1
  have F : WF s n p k := V.1.1
  have O : WO s n := V.1.2.1.1
  have hn1 : 1 ≤ n := V.1.2.2.1
  have hp1 : 1 ≤ p := V.1.2.2.2.1
  have hk1 : 1 ≤ k := V.1.2.2.2.2
  have h8 := F.2.1.1
  have h5 := F.2.1.2.1
  have h6 := F.2.1.2.2
  refine R_s 2 (2, [(0, vR 8 20), (1, vI x)], [vI x, vR 8 20], h) rfl ?_
  refine R_calli mM_isSong [vR 8 20, vI x] [] (bI (inb x n)) h rfl (t_M_isSong ((M 0 (by decide)).trans F.1.1) h8) ?_
  refine R_s 1 (cond (if0 .ne (bI (inb x n))) 10 8, [(0, vR 8 20), (1, vI x)], [], h) rfl ?_
  refine R_bp ((inb x n) = true) (x0_ne.trans bI_ne) (fun ca => ?_) (fun ca => ?_)
  · have ca := bool_t ca
    obtain ⟨a, ha, rfl⟩ := inb_ex (by omega) (tf ca)
    unfold oBestFrom
    dsimp only
    rw [sel1_t ha (by omega)]
    refine R_s 2 (12, [(0, vR 8 20), (1, vI (nI a))], [vI (-1), vR 8 20], h) rfl ?_
    refine R_call mM_layBest [vR 8 20, vI (-1)] [] rfl (t_M_layBest (m := -1) hn1 M F) (fun r h1 e1 => ?_)
    obtain ⟨rfl, T, X⟩ := e1
    have eG := zG_m (z := (s, n, p, k)) F
    dsimp only at eG
    have hlt := zG_lt (z := (s, n, p, k)) F
    have I1 := I.fm X
    rw [eG]
    show R _ mM_bestCostFrom (15, [(0, vR 8 20), (1, vI (nI a))], [vI (encF (zG (s, n, p, k)).1)], h1) _
    have eC : cand (Wc s (-1) p) (mcm (s, n, p, k)) (GT n (Wc s (-1) p) (mcm (s, n, p, k))) 0 0 a = cand (zW (s, n, p, k)) (mCl (zB (s, n, p, k))) (GT n (zW (s, n, p, k)) (mCl (zB (s, n, p, k)))) 0 0 a := cand_gd (z := (s, n, p, k)) F _ 0 (Nat.pow_pos (by decide)) ha gd_0
    have hcl : ∀ c, (cand (zW (s, n, p, k)) (mCl (zB (s, n, p, k))) (GT n (zW (s, n, p, k)) (mCl (zB (s, n, p, k)))) 0 0 a).1 = some c → c < 1000 := fun c h => by have := cand_le (Wc_le F) h8 h; omega
    generalize hCC : cand (zW (s, n, p, k)) (mCl (zB (s, n, p, k))) (GT n (zW (s, n, p, k)) (mCl (zB (s, n, p, k)))) 0 0 a = cc at eC hcl ⊢
    refine R_s 3 (18, [(0, vR 8 20), (1, vI (nI a))], [vI (nI a), vR 8 20], h1) rfl ?_
    refine R_calli mM_costFrom [vR 8 20, vI (nI a)] [] (encF (cand (Wc s (-1) p) (mcm (s, n, p, k)) (GT n (Wc s (-1) p) (mcm (s, n, p, k))) 0 0 a).1) h1 rfl (t_M_costFrom T ha (M.fm X) F) ?_
    refine R_top (encF cc.1) (by rw [eC]) ?_
    refine R_s 2 (cond (if2 .lt (encF cc.1) (nI 1000000)) 31 26, [(0, vR 8 20), (1, vI (nI a))], [], h1) rfl ?_
    refine R_bp (¬ cc.1 = none) (EF_lt2 hcl) (fun c1 => ?_) (fun c1 => ?_)
    · refine R_s 2 (33, [(0, vR 8 20), (1, vI (nI a))], [vI (nI a), vR 8 20], h1) rfl ?_
      refine R_calli mM_costFrom [vR 8 20, vI (nI a)] [] (encF (cand (Wc s (-1) p) (mcm (s, n, p, k)) (GT n (Wc s (-1) p) (mcm (s, n, p, k))) 0 0 a).1) h1 rfl (t_M_costFrom T ha (M.fm X) F) ?_
      refine R_top (encF cc.1) (by rw [eC]) ?_
      exact R_ret (some (vI (encF cc.1))) h1 rfl ⟨by cases q : cc.1 with
        | none => exact absurd q c1
        | some v => rfl, I1⟩
    · refine R_s 2 (36, [(0, vR 8 20), (1, vI (nI a))], [vI (-4)], h1) rfl ?_
      exact R_ret (some (vI (-4))) h1 rfl ⟨by rw [Classical.not_not.mp c1]; rfl, I1⟩
  · have ca := bool_f ca
    refine R_s 1 (9, [(0, vR 8 20), (1, vI x)], [vI (-1)], h) rfl ?_
    exact R_ret (some (vI (-1))) h rfl ⟨by unfold oBestFrom; dsimp only; rw [sel1_f ca], I⟩
set_option maxRecDepth 100000 in
theorem t_M_bestOrderCount {d : Nat} {h : HP} {A : AS} (V : VA A) (I : MI h A) : MT (d + 6) mM_bestOrderCount [vR 8 20] h (fun r h' => r = some (vI (oBestN A)) ∧ MI h' A) := by
  obtain ⟨⟨s, n, p, k⟩, kp, ch, len⟩ := A
  have M : MS 21 h s := I.1
  have F : WF s n p k := V.1.1
  have O : WO s n := V.1.2.1.1
  have hn1 : 1 ≤ n := V.1.2.2.1
  have hp1 : 1 ≤ p := V.1.2.2.2.1
  have hk1 : 1 ≤ k := V.1.2.2.2.2
  have h8 := F.2.1.1
  have h5 := F.2.1.2.1
  have h6 := F.2.1.2.2
  refine R_s 2 (2, [(0, vR 8 20)], [vI (-1), vR 8 20], h) rfl ?_
  refine R_call mM_layBest [vR 8 20, vI (-1)] [] rfl (t_M_layBest (m := -1) hn1 M F) (fun r h1 e1 => ?_)
  obtain ⟨rfl, T, X⟩ := e1
  have eG := zG_m (z := (s, n, p, k)) F
  dsimp only at eG
  have hlt := zG_lt (z := (s, n, p, k)) F
  have I1 := I.fm X
  rw [eG]
  show R _ mM_bestOrderCount (5, [(0, vR 8 20)], [vI (encF (zG (s, n, p, k)).1)], h1) _
  have hFD : zG (s, n, p, k) = fd (cand (Wc s (-1) p) (mcm (s, n, p, k)) (GT n (Wc s (-1) p) (mcm (s, n, p, k))) 0 0) n := by rw [← eG]; exact GT_step h8 mcm_bit (Nat.pow_pos (by decide)) (show pop 0 < n from by rw [show pop 0 = 0 by decide]; omega)
  refine R_s 5 (10, [(3, vI (nI 0)), (2, vI (nI 0)), (1, vI (encF (zG (s, n, p, k)).1)), (0, vR 8 20)], [], h1) rfl ?_
  cases hv : (zG (s, n, p, k)).1 with
  | none =>
    show R _ mM_bestOrderCount (10, [(3, vI (nI 0)), (2, vI (nI 0)), (1, vI (nI 1000000)), (0, vR 8 20)], [], h1) _
    refine R_s 4 (16, [(3, vI (nI 0)), (2, vI (nI 0)), (1, vI (nI 1000000)), (0, vR 8 20)], [vI (nI 0), vR 8 21, vI (nI 0)], h1) rfl ?_
    refine R_ld 8 21 0 125 rfl rfl (by omega) (by decide) ?_
    refine R_top (nI n) (((M.fm X) 0 (by decide)).trans F.1.1) ?_
    refine R_s 1 (cond (if2 .ge (nI 0) (nI n)) 61 20, [(3, vI (nI 0)), (2, vI (nI 0)), (1, vI (nI 1000000)), (0, vR 8 20)], [], h1) rfl ?_
    refine R_bp (n ≤ 0) (i2_ge (by omega) (by omega)) (fun c1 => ?_) (fun c1 => ?_)
    · exact absurd c1 (by omega)
    · refine R_s 3 (cond (if2 .ge (nI 1000000) (nI 1000000)) 61 26, [(3, vI (nI 0)), (2, vI (nI 0)), (1, vI (nI 1000000)), (0, vR 8 20)], [], h1) rfl ?_
      refine R_bt rfl ?_
      refine R_s 1 (62, [(3, vI (nI 0)), (2, vI (nI 0)), (1, vI (nI 1000000)), (0, vR 8 20)], [vI (nI 0)], h1) rfl ?_
      exact R_ret (some (vI (nI 0))) h1 rfl ⟨by unfold oBestN; dsimp only; rw [hFD] at hv ⊢; rw [fd_none n hv], I1⟩
  | some c =>
    have hc := hlt c hv
    show R _ mM_bestOrderCount (10, [(3, vI (nI 0)), (2, vI (nI 0)), (1, vI (nI c)), (0, vR 8 20)], [], h1) _
    have hmn : ∀ x v, x < n → ((cand (Wc s (-1) p) (mcm (s, n, p, k)) (GT n (Wc s (-1) p) (mcm (s, n, p, k))) 0 0) x).1 = some v → c ≤ v := by
      intro x v hx hxv
      obtain ⟨c2, e2, e3⟩ := fd_min n hx hxv
      rw [← hFD, hv] at e2
      cases e2
      exact e3
    suffices ∀ m (j t : Nat) (hm : j + m = n) (ht : t = smw (cand (Wc s (-1) p) (mcm (s, n, p, k)) (GT n (Wc s (-1) p) (mcm (s, n, p, k))) 0 0) c j), R (d + 6) mM_bestOrderCount (10, [(3, vI (nI j)), (2, vI (nI t)), (1, vI (nI c)), (0, vR 8 20)], [], h1) _ from this n 0 0 (by omega) rfl
    intro m
    induction m with
    | zero =>
      intro j t hm ht
      refine R_s 4 (16, [(3, vI (nI j)), (2, vI (nI t)), (1, vI (nI c)), (0, vR 8 20)], [vI (nI 0), vR 8 21, vI (nI j)], h1) rfl ?_
      refine R_ld 8 21 0 125 rfl rfl (by omega) (by decide) ?_
      refine R_top (nI n) (((M.fm X) 0 (by decide)).trans F.1.1) ?_
      refine R_s 1 (cond (if2 .ge (nI j) (nI n)) 61 20, [(3, vI (nI j)), (2, vI (nI t)), (1, vI (nI c)), (0, vR 8 20)], [], h1) rfl ?_
      refine R_bp (n ≤ j) (i2_ge (by omega) (by omega)) (fun c1 => ?_) (fun c1 => ?_)
      · refine R_s 1 (62, [(3, vI (nI j)), (2, vI (nI t)), (1, vI (nI c)), (0, vR 8 20)], [vI (nI t)], h1) rfl ?_
        exact R_ret (some (vI (nI t))) h1 rfl ⟨by unfold oBestN; dsimp only; rw [ht, show j = n by omega, fd_sum n hmn, ← hFD, if_pos hv], I1⟩
      · exact absurd hm (by omega)
    | succ m ih =>
      intro j t hm ht
      refine R_s 4 (16, [(3, vI (nI j)), (2, vI (nI t)), (1, vI (nI c)), (0, vR 8 20)], [vI (nI 0), vR 8 21, vI (nI j)], h1) rfl ?_
      refine R_ld 8 21 0 125 rfl rfl (by omega) (by decide) ?_
      refine R_top (nI n) (((M.fm X) 0 (by decide)).trans F.1.1) ?_
      refine R_s 1 (cond (if2 .ge (nI j) (nI n)) 61 20, [(3, vI (nI j)), (2, vI (nI t)), (1, vI (nI c)), (0, vR 8 20)], [], h1) rfl ?_
      refine R_bp (n ≤ j) (i2_ge (by omega) (by omega)) (fun c1 => ?_) (fun c1 => ?_)
      · refine R_s 1 (62, [(3, vI (nI j)), (2, vI (nI t)), (1, vI (nI c)), (0, vR 8 20)], [vI (nI t)], h1) rfl ?_
        exact R_ret (some (vI (nI t))) h1 rfl ⟨by unfold oBestN; dsimp only; rw [ht, show j = n by omega, fd_sum n hmn, ← hFD, if_pos hv], I1⟩
      · refine R_s 3 (cond (if2 .ge (nI c) (nI 1000000)) 61 26, [(3, vI (nI j)), (2, vI (nI t)), (1, vI (nI c)), (0, vR 8 20)], [], h1) rfl ?_
        refine R_bf (by cases q : if2 .ge (nI c) (nI 1000000) with
          | false => rfl
          | true => exact absurd ((i2_ge (by omega) (by omega)).mp q) (by omega)) ?_
        refine R_s 3 (29, [(3, vI (nI j)), (2, vI (nI t)), (1, vI (nI c)), (0, vR 8 20)], [vI (nI j), vR 8 20, vI (nI t)], h1) rfl ?_
        refine R_calli mM_costFrom [vR 8 20, vI (nI j)] [vI (nI t)] (encF ((cand (Wc s (-1) p) (mcm (s, n, p, k)) (GT n (Wc s (-1) p) (mcm (s, n, p, k))) 0 0) j).1) h1 rfl (t_M_costFrom T (by omega) (M.fm X) F) ?_
        refine R_s 2 (cond (if2 .ne (encF ((cand (Wc s (-1) p) (mcm (s, n, p, k)) (GT n (Wc s (-1) p) (mcm (s, n, p, k))) 0 0) j).1) (nI c)) 52 36, [(3, vI (nI j)), (2, vI (nI t)), (1, vI (nI c)), (0, vR 8 20)], [vI (nI t)], h1) rfl ?_
        refine R_bp (¬ ((cand (Wc s (-1) p) (mcm (s, n, p, k)) (GT n (Wc s (-1) p) (mcm (s, n, p, k))) 0 0) j).1 = some c) (EF_c (fun c h => by have := cand_le (Wc_le F) h8 h; omega) hc) (fun c2 => ?_) (fun c2 => ?_)
        · refine R_s 1 (53, [(3, vI (nI j)), (2, vI (nI t)), (1, vI (nI c)), (0, vR 8 20)], [vI (nI 0), vI (nI t)], h1) rfl ?_
          refine R_add t 0 rfl ?_
          refine R_s 2 (58, [(3, vI (nI j + Int32.ofInt 1)), (2, vI (nI (t + 0))), (1, vI (nI c)), (0, vR 8 20)], [], h1) rfl ?_
          refine R_lv (lv' := [(3, vI (nI (j + 1))), (2, vI (nI (t + 0))), (1, vI (nI c)), (0, vR 8 20)]) (by rw [show nI j + Int32.ofInt 1 = nI (j + 1) from nI_add _ _]) ?_
          refine R_s 1 (10, [(3, vI (nI (j + 1))), (2, vI (nI (t + 0))), (1, vI (nI c)), (0, vR 8 20)], [], h1) rfl ?_
          exact ih (j + 1) t (by omega) (by rw [ht]; show _ = smw (cand (Wc s (-1) p) (mcm (s, n, p, k)) (GT n (Wc s (-1) p) (mcm (s, n, p, k))) 0 0) c j + _; rw [if_neg c2]; rfl)
        · have c2 := Classical.not_not.mp c2
          have hmay : mcm (s, n, p, k) 0 j = true := by
            cases q : mcm (s, n, p, k) 0 j with
            | true => rfl
            | false => unfold cand at c2; rw [if_neg (by rw [q]; decide)] at c2; cases c2
          have pj := pw8 j (by omega)
          refine R_s 6 (45, [(3, vI (nI j)), (2, vI (nI t)), (1, vI (nI c)), (0, vR 8 20)], [vI ((nI 1) <<< ((nI j) &&& 31)), vI (nI 8), vR 8 26, vI (nI t)], h1) rfl ?_
          refine R_top (nI (2 ^ j)) (sh_1 j (by omega)) ?_
          refine R_mul 8 (2 ^ j) rfl ?_
          refine R_s 1 (47, [(3, vI (nI j)), (2, vI (nI t)), (1, vI (nI c)), (0, vR 8 20)], [vI (nI j), vI (nI (8 * (2 ^ j))), vR 8 26, vI (nI t)], h1) rfl ?_
          refine R_add (8 * (2 ^ j)) j rfl ?_
          refine R_ld 8 26 ((8 * (2 ^ j)) + j) 2048 rfl rfl (by omega) (by decide) ?_
          refine R_top (nI (((cand (Wc s (-1) p) (mcm (s, n, p, k)) (GT n (Wc s (-1) p) (mcm (s, n, p, k))) 0 0) j).2)) ((T.2 (2 ^ j) (Nat.pow_pos (by decide)) (Nat.pow_lt_pow_right (by decide) (by omega)) j (by omega)).2.trans (by unfold cand; rw [if_pos hmay, Nat.zero_or])) ?_
          refine R_s 1 (53, [(3, vI (nI j)), (2, vI (nI t)), (1, vI (nI c)), (0, vR 8 20)], [vI (nI (((cand (Wc s (-1) p) (mcm (s, n, p, k)) (GT n (Wc s (-1) p) (mcm (s, n, p, k))) 0 0) j).2)), vI (nI t)], h1) rfl ?_
          refine R_add t (((cand (Wc s (-1) p) (mcm (s, n, p, k)) (GT n (Wc s (-1) p) (mcm (s, n, p, k))) 0 0) j).2) rfl ?_
          refine R_s 2 (58, [(3, vI (nI j + Int32.ofInt 1)), (2, vI (nI (t + (((cand (Wc s (-1) p) (mcm (s, n, p, k)) (GT n (Wc s (-1) p) (mcm (s, n, p, k))) 0 0) j).2)))), (1, vI (nI c)), (0, vR 8 20)], [], h1) rfl ?_
          refine R_lv (lv' := [(3, vI (nI (j + 1))), (2, vI (nI (t + (((cand (Wc s (-1) p) (mcm (s, n, p, k)) (GT n (Wc s (-1) p) (mcm (s, n, p, k))) 0 0) j).2)))), (1, vI (nI c)), (0, vR 8 20)]) (by rw [show nI j + Int32.ofInt 1 = nI (j + 1) from nI_add _ _]) ?_
          refine R_s 1 (10, [(3, vI (nI (j + 1))), (2, vI (nI (t + (((cand (Wc s (-1) p) (mcm (s, n, p, k)) (GT n (Wc s (-1) p) (mcm (s, n, p, k))) 0 0) j).2)))), (1, vI (nI c)), (0, vR 8 20)], [], h1) rfl ?_
          exact ih (j + 1) _ (by omega) (by rw [ht]; show _ = smw (cand (Wc s (-1) p) (mcm (s, n, p, k)) (GT n (Wc s (-1) p) (mcm (s, n, p, k))) 0 0) c j + _; rw [if_pos c2])
set_option maxRecDepth 100000 in
theorem t_M_savingByUnit {d : Nat} {h : HP} {A : AS} {x : Int32} (V : VA A) (I : MI h A) : MT (d + 6) mM_savingByUnit [vR 8 20, vI x] h (fun r h' => r = some (vI (oSave A x)) ∧ MI h' A) := by
  obtain ⟨⟨s, n, p, k⟩, kp, ch, len⟩ := A
  have M : MS 21 h s := I.1
  have F : WF s n p k := V.1.1
  have O : WO s n := V.1.2.1.1
  have hn1 : 1 ≤ n := V.1.2.2.1
  have hp1 : 1 ≤ p := V.1.2.2.2.1
  have hk1 : 1 ≤ k := V.1.2.2.2.2
  have h8 := F.2.1.1
  have h5 := F.2.1.2.1
  have h6 := F.2.1.2.2
  refine R_s 2 (2, [(0, vR 8 20), (1, vI x)], [vI x, vR 8 20], h) rfl ?_
  refine R_calli mM_isKind [vR 8 20, vI x] [] (bI (inb x k)) h rfl (t_M_isKind ((M 32 (by decide)).trans F.1.2.2) (by omega)) ?_
  refine R_s 1 (cond (if0 .ne (bI (inb x k))) 10 8, [(0, vR 8 20), (1, vI x)], [], h) rfl ?_
  refine R_bp ((inb x k) = true) (x0_ne.trans bI_ne) (fun ca => ?_) (fun ca => ?_)
  · have ca := bool_t ca
    obtain ⟨a, ha, rfl⟩ := inb_ex (by omega) (tf ca)
    unfold oSave
    dsimp only
    rw [sel1_t ha (by omega)]
    refine R_s 2 (12, [(0, vR 8 20), (1, vI (nI a))], [vI (-1), vR 8 20], h) rfl ?_
    refine R_call mM_layBest [vR 8 20, vI (-1)] [] rfl (t_M_layBest (m := -1) hn1 M F) (fun r h1 e1 => ?_)
    obtain ⟨rfl, T, X⟩ := e1
    have eG := zG_m (z := (s, n, p, k)) F
    dsimp only at eG
    have hlt := zG_lt (z := (s, n, p, k)) F
    have I1 := I.fm X
    rw [eG]
    show R _ mM_savingByUnit (15, [(0, vR 8 20), (1, vI (nI a))], [vI (encF (zG (s, n, p, k)).1)], h1) _
    refine R_s 4 (cond (if2 .lt (encF (zG (s, n, p, k)).1) (nI 1000000)) 27 22, [(2, vI (encF (zG (s, n, p, k)).1)), (0, vR 8 20), (1, vI (nI a))], [], h1) rfl ?_
    refine R_bp (¬ (zG (s, n, p, k)).1 = none) (EF_lt2 hlt) (fun c1 => ?_) (fun c1 => ?_)
    · obtain ⟨v, hv⟩ : ∃ v, (zG (s, n, p, k)).1 = some v := by cases q : (zG (s, n, p, k)).1 with
        | none => exact absurd q c1
        | some v => exact ⟨v, rfl⟩
      have hv8 := hlt v hv
      refine R_lv (lv' := [(2, vI (nI v)), (0, vR 8 20), (1, vI (nI a))]) (by rw [hv]; rfl) ?_
      refine R_s 3 (30, [(2, vI (nI v)), (0, vR 8 20), (1, vI (nI a))], [vI (nI a), vR 8 20, vI (nI v)], h1) rfl ?_
      refine R_call mM_layBest [vR 8 20, vI (nI a)] [vI (nI v)] rfl (t_M_layBest (m := nI a) hn1 (M.fm X) F) (fun r h2 e2 => ?_)
      obtain ⟨rfl, T2, X2⟩ := e2
      have eZ : (GT n (Wc s (nI a) p) (mcm (s, n, p, k)) 0 0).1 = (zG (zm (s, n, p, k) a)).1 := by rw [zG_zm F ha]; rw [GT_gd (z := (s, n, p, k)) F _ 0 (Nat.pow_pos (by decide)) gd_0]
      rw [eZ]
      show R _ mM_savingByUnit (33, [(2, vI (nI v)), (0, vR 8 20), (1, vI (nI a))], [vI (encF (zG (zm (s, n, p, k) a)).1), vI (nI v)], h2) _
      obtain ⟨u, hu⟩ : ∃ u, (zG (zm (s, n, p, k) a)).1 = some u := by
        have h1 := G_some (n := n) (W := Wc s (-1) p) (W' := Wc s (nI a) p) (may := mCl (zB (s, n, p, k))) (n - pop 0) 0 0
        have h2 : (zG (s, n, p, k)).1.isSome = true := by rw [hv]; rfl
        have h3 : (zG (zm (s, n, p, k) a)).1.isSome = true := by rw [zG_zm F ha]; exact h1.symm.trans h2
        exact Option.isSome_iff_exists.mp h3
      refine R_top (nI u) (by rw [hu]; rfl) ?_
      refine R_s 1 (34, [(2, vI (nI v)), (0, vR 8 20), (1, vI (nI a))], [vI (nI v - nI u)], h2) rfl ?_
      exact R_ret (some (vI (nI v - nI u))) h2 rfl ⟨by rw [hv, hu]; rfl, (I1.fm X2)⟩
    · refine R_s 2 (34, [(2, vI (encF (zG (s, n, p, k)).1)), (0, vR 8 20), (1, vI (nI a))], [vI (-4)], h1) rfl ?_
      exact R_ret (some (vI (-4))) h1 rfl ⟨by rw [Classical.not_not.mp c1], I1⟩
  · have ca := bool_f ca
    refine R_s 1 (9, [(0, vR 8 20), (1, vI x)], [vI (-1)], h) rfl ?_
    exact R_ret (some (vI (-1))) h rfl ⟨by unfold oSave; dsimp only; rw [sel1_f ca], I⟩
