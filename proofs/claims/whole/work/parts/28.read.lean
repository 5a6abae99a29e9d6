def FT (h h' : HP) : Prop := (∀ g' j', ¬ g' = 1 → ¬ (g' = 7 ∧ (j' = 10 ∨ j' = 12)) → h' g' j' = h g' j') ∧ (∀ x, ¬ x = 3 → h' 7 10 x = h 7 10 x)
theorem FT.rf {h : HP} : FT h h := ⟨fun _ _ _ _ => rfl, fun _ _ => rfl⟩
theorem FT.fr {h h1 h2 : HP} (a : FT h h1) (b : FR 1 h1 h2) : FT h h2 := ⟨fun g' j' e f => (b g' j' e).trans (a.1 g' j' e f), fun x e => by rw [b 7 10 (by omega)]; exact a.2 x e⟩
theorem FT.fn {h h1 h2 : HP} (a : FT h h1) (b : FN h1 h2) : FT h h2 := ⟨fun g' j' e f => (b.1 g' j' f).trans (a.1 g' j' e f), fun x e => (b.2 x e).trans (a.2 x e)⟩
theorem TXT.ft {h h' : HP} {ch : Nat → Nat} {len : Nat} (T : TXT h ch len) (F : FT h h') : TXT h' ch len := ⟨by rw [F.2 1 (by omega)]; exact T.1, T.2.1, fun j hj => by rw [F.1 7 11 (by omega) (by omega)]; exact T.2.2 j hj⟩
theorem CO.fn {h h' : HP} {s : Nat → Int32} {n p k : Nat} (C : CO h 1 s n p k) (F : FN h h') : CO h' 1 s n p k := co_frame C (fun j => F.1 1 j (by omega))
def z0 : ST := (emp, 0, 0, 0)
theorem z0_DW : DW z0 := ⟨emp_WF, emp_WD, emp_WP⟩
theorem pC_0 {ch : Nat → Nat} {len i a : Nat} {z : ST} : pC ch len 0 i a z = (if a < len then some a else none, z) := rfl
theorem pC_n {ch : Nat → Nat} {len m i a : Nat} {z : ST} (h : ¬ ch i = 59) : pC ch len (m + 1) i a z = pC ch len m (i + 1) a z := by rw [pC, if_neg h]
theorem pC_b {ch : Nat → Nat} {len m i a : Nat} {z : ST} (h : ch i = 59) (hs : stC ch a i z = none) : pC ch len (m + 1) i a z = (some a, z) := by rw [pC, if_pos h, hs]
theorem pC_g {ch : Nat → Nat} {len m i a : Nat} {z z' : ST} (h : ch i = 59) (hs : stC ch a i z = some z') : pC ch len (m + 1) i a z = pC ch len m (i + 1) (i + 1) z' := by rw [pC, if_pos h, hs]
theorem stC_n {ch : Nat → Nat} {a i : Nat} {z : ST} (h : rn ch (i + 1 - (a + 1)) (a + 1) 0 0 [] = none) : stC ch a i z = none := by unfold stC; rw [← Nat.add_sub_add_right i 1 a, h]
theorem stC_s {ch : Nat → Nat} {a i : Nat} {z : ST} {L : List Nat} (h : rn ch (i + 1 - (a + 1)) (a + 1) 0 0 [] = some L) : stC ch a i z = apl (ch a) L z := by unfold stC; rw [← Nat.add_sub_add_right i 1 a, h]
/-- the reading of a whole text -/
def rd (ch : Nat → Nat) (len : Nat) : Option Nat × ST := pC ch len len 0 0 z0
set_option maxRecDepth 100000 in
theorem t_T_readInto {d len : Nat} {h : HP} {ch : Nat → Nat} (T : TXT h ch len) : MT (d + 4) mT_readInto [vR 7 10, vR 1 0] h (fun r h' => r = some (vI (enc (rd ch len).1)) ∧ FT h h' ∧ ((rd ch len).1 = none → CO h' 1 (rd ch len).2.1 (rd ch len).2.2.1 (rd ch len).2.2.2.1 (rd ch len).2.2.2.2 ∧ DW (rd ch len).2)) := by
  have hlen := T.2.1
  refine R_s 1 (1, [(0, vR 7 10), (1, vR 1 0)], [vR 1 0], h) rfl ?_
  refine R_call mC_makeEmpty [vR 1 0] [] rfl t_C_makeEmpty (fun r h1 e1 => ?_)
  obtain ⟨rfl, C1, F1⟩ := e1
  show R (d + 4) mT_readInto (4, [(0, vR 7 10), (1, vR 1 0)], [], h1) _
  refine R_s 4 (8, [(3, vI (nI 0)), (2, vI (nI 0)), (0, vR 7 10), (1, vR 1 0)], [], h1) rfl ?_
  suffices ∀ m i a z hh, i + m = len → a ≤ i → rd ch len = pC ch len m i a z → CO hh 1 z.1 z.2.1 z.2.2.1 z.2.2.2 → DW z → FT h hh → R (d + 4) mT_readInto (8, [(3, vI (nI i)), (2, vI (nI a)), (0, vR 7 10), (1, vR 1 0)], [], hh) (fun r h' => r = some (vI (enc (rd ch len).1)) ∧ FT h h' ∧ ((rd ch len).1 = none → CO h' 1 (rd ch len).2.1 (rd ch len).2.2.1 (rd ch len).2.2.2.1 (rd ch len).2.2.2.2 ∧ DW (rd ch len).2)) from this len 0 0 z0 h1 (by omega) (by omega) rfl C1 z0_DW (FT.rf.fr F1)
  intro m
  induction m with
  | zero =>
    intro i a z hh hm hai hI C D F
    refine R_s 3 (13, [(3, vI (nI i)), (2, vI (nI a)), (0, vR 7 10), (1, vR 1 0)], [vI (hh 7 10 1), vI (nI i)], hh) rfl ?_
    refine R_top (nI len) (T.ft F).1 ?_
    refine R_s 1 (cond (if2 .ge (nI i) (nI len)) 64 16, [(3, vI (nI i)), (2, vI (nI a)), (0, vR 7 10), (1, vR 1 0)], [], hh) rfl ?_
    refine R_bp (len ≤ i) (i2_ge (by omega) (by omega)) (fun c1 => ?_) (fun c1 => ?_)
    · rw [show 0 = 0 by omega, pC_0] at hI
      refine R_s 3 (69, [(3, vI (nI i)), (2, vI (nI a)), (0, vR 7 10), (1, vR 1 0)], [vI (hh 7 10 1), vI (nI a)], hh) rfl ?_
      refine R_top (nI len) (T.ft F).1 ?_
      refine R_s 1 (cond (if2 .ge (nI a) (nI len)) 76 72, [(3, vI (nI i)), (2, vI (nI a)), (0, vR 7 10), (1, vR 1 0)], [], hh) rfl ?_
      refine R_bp (len ≤ a) (i2_ge (by omega) (by omega)) (fun c2 => ?_) (fun c2 => ?_)
      · refine R_s 1 (77, [(3, vI (nI i)), (2, vI (nI a)), (0, vR 7 10), (1, vR 1 0)], [vI (-1)], hh) rfl ?_
        exact R_ret (some (vI (-1))) hh rfl ⟨by rw [hI, if_neg (by omega)]; rfl, F, fun _ => by rw [hI]; exact ⟨C, D⟩⟩
      · refine R_s 2 (77, [(3, vI (nI i)), (2, vI (nI a)), (0, vR 7 10), (1, vR 1 0)], [vI (nI a)], hh) rfl ?_
        exact R_ret (some (vI (nI a))) hh rfl ⟨by rw [hI, if_pos (by omega)]; rfl, F, fun q => by rw [hI, if_pos (by omega)] at q; cases q⟩
    · exact absurd hm (by omega)
  | succ m ih =>
    intro i a z hh hm hai hI C D F
    refine R_s 3 (13, [(3, vI (nI i)), (2, vI (nI a)), (0, vR 7 10), (1, vR 1 0)], [vI (hh 7 10 1), vI (nI i)], hh) rfl ?_
    refine R_top (nI len) (T.ft F).1 ?_
    refine R_s 1 (cond (if2 .ge (nI i) (nI len)) 64 16, [(3, vI (nI i)), (2, vI (nI a)), (0, vR 7 10), (1, vR 1 0)], [], hh) rfl ?_
    refine R_bp (len ≤ i) (i2_ge (by omega) (by omega)) (fun c1 => ?_) (fun c1 => ?_)
    · rw [show m + 1 = 0 by omega, pC_0] at hI
      refine R_s 3 (69, [(3, vI (nI i)), (2, vI (nI a)), (0, vR 7 10), (1, vR 1 0)], [vI (hh 7 10 1), vI (nI a)], hh) rfl ?_
      refine R_top (nI len) (T.ft F).1 ?_
      refine R_s 1 (cond (if2 .ge (nI a) (nI len)) 76 72, [(3, vI (nI i)), (2, vI (nI a)), (0, vR 7 10), (1, vR 1 0)], [], hh) rfl ?_
      refine R_bp (len ≤ a) (i2_ge (by omega) (by omega)) (fun c2 => ?_) (fun c2 => ?_)
      · refine R_s 1 (77, [(3, vI (nI i)), (2, vI (nI a)), (0, vR 7 10), (1, vR 1 0)], [vI (-1)], hh) rfl ?_
        exact R_ret (some (vI (-1))) hh rfl ⟨by rw [hI, if_neg (by omega)]; rfl, F, fun _ => by rw [hI]; exact ⟨C, D⟩⟩
      · refine R_s 2 (77, [(3, vI (nI i)), (2, vI (nI a)), (0, vR 7 10), (1, vR 1 0)], [vI (nI a)], hh) rfl ?_
        exact R_ret (some (vI (nI a))) hh rfl ⟨by rw [hI, if_pos (by omega)]; rfl, F, fun q => by rw [hI, if_pos (by omega)] at q; cases q⟩
    · have hci := (T.2.2 i (by omega)).2
      refine R_s 3 (21, [(3, vI (nI i)), (2, vI (nI a)), (0, vR 7 10), (1, vR 1 0)], [vI (nI i), vR 7 11], hh) rfl ?_
      refine R_ldc 7 11 i 300 rfl rfl (by omega) (by decide) ?_
      refine R_top (nI (ch i)) ((T.ft F).2.2 i (by omega)).1 ?_
      refine R_s 2 (cond (if2 .ne (nI (ch i)) (nI 59)) 58 27, [(3, vI (nI i)), (2, vI (nI a)), (0, vR 7 10), (1, vR 1 0)], [], hh) rfl ?_
      refine R_bp (¬ (ch i) = 59) (i2_ne (by omega) (by omega)) (fun c2 => ?_) (fun c2 => ?_)
      · refine R_s 1 (61, [(3, vI (nI i + Int32.ofInt 1)), (2, vI (nI a)), (0, vR 7 10), (1, vR 1 0)], [], hh) rfl ?_
        refine R_lv (lv' := [(3, vI (nI (i + 1))), (2, vI (nI a)), (0, vR 7 10), (1, vR 1 0)]) (by rw [show nI i + Int32.ofInt 1 = nI (i + 1) from nI_add _ _]) ?_
        refine R_s 1 (8, [(3, vI (nI (i + 1))), (2, vI (nI a)), (0, vR 7 10), (1, vR 1 0)], [], hh) rfl ?_
        exact ih (i + 1) a z hh (by omega) (by omega) (by rw [hI, pC_n c2]) C D F
      · have c2 := Classical.not_not.mp c2
        refine R_s 3 (30, [(3, vI (nI i)), (2, vI (nI a)), (0, vR 7 10), (1, vR 1 0)], [vI (nI 1), vI (nI a), vR 7 10], hh) rfl ?_
        refine R_add a 1 rfl ?_
        refine R_s 1 (32, [(3, vI (nI i)), (2, vI (nI a)), (0, vR 7 10), (1, vR 1 0)], [vI (nI i), vI (nI (a + 1)), vR 7 10], hh) rfl ?_
        refine R_call mT_readNumbers [vR 7 10, vI (nI (a + 1)), vI (nI i)] [] rfl (t_T_readNumbers (T.ft F) (by omega) (by omega)) (fun r h2 e2 => ?_)
        obtain ⟨ns, B, F2, hr⟩ := e2
        cases hrn : rn ch (i + 1 - (a + 1)) (a + 1) 0 0 [] with
        | none =>
          rw [hrn] at hr
          have hr : r = some (vI (nI 0)) := hr
          subst hr
          show R (d + 4) mT_readInto (35, [(3, vI (nI i)), (2, vI (nI a)), (0, vR 7 10), (1, vR 1 0)], [vI (nI 0)], h2) _
          refine R_s 1 (cond (if0 .eq (nI 0)) 52 38, [(3, vI (nI i)), (2, vI (nI a)), (0, vR 7 10), (1, vR 1 0)], [], h2) rfl ?_
          refine R_bt rfl ?_
          refine R_s 1 (53, [(3, vI (nI i)), (2, vI (nI a)), (0, vR 7 10), (1, vR 1 0)], [vI (nI a)], h2) rfl ?_
          exact R_ret (some (vI (nI a))) h2 rfl ⟨by rw [hI, pC_b c2 (stC_n hrn)]; rfl, F.fn F2, fun q => by rw [hI, pC_b c2 (stC_n hrn)] at q; cases q⟩
        | some L =>
          rw [hrn] at hr
          obtain ⟨rfl, rfl⟩ := hr
          show R (d + 4) mT_readInto (35, [(3, vI (nI i)), (2, vI (nI a)), (0, vR 7 10), (1, vR 1 0)], [vI (nI 1)], h2) _
          refine R_s 1 (cond (if0 .eq (nI 1)) 52 38, [(3, vI (nI i)), (2, vI (nI a)), (0, vR 7 10), (1, vR 1 0)], [], h2) rfl ?_
          refine R_bf rfl ?_
          refine R_s 4 (44, [(3, vI (nI i)), (2, vI (nI a)), (0, vR 7 10), (1, vR 1 0)], [vI (nI a), vR 7 11, vR 7 10], h2) rfl ?_
          refine R_ldc 7 11 a 300 rfl rfl (by omega) (by decide) ?_
          refine R_top (nI (ch a)) (((T.ft F).mv F2).2.2 a (by omega)).1 ?_
          refine R_s 1 (46, [(3, vI (nI i)), (2, vI (nI a)), (0, vR 7 10), (1, vR 1 0)], [vR 1 0, vI (nI (ch a)), vR 7 10], h2) rfl ?_
          have hca := (T.2.2 a (by omega)).2
          have hn1 : ∀ x ∈ ns, x < 100 := rn_lt _ _ _ _ _ _ (by simp) (fun _ => rfl) (by omega) (by omega) hrn
          have hn4 : ns.length ≤ 4 := rn_len _ _ _ _ _ _ (by simp) hrn
          have hsc := stC_s (z := z) hrn
          obtain ⟨s, n, p, k⟩ := z
          refine R_call mT_state [vR 7 10, vI (nI (ch a)), vR 1 0] [] rfl (t_T_state (c := ch a) hca.2 B hn1 hn4 (C.fn F2) D) (fun r h3 e3 => ?_)
          cases hap : apl (ch a) ns (s, n, p, k) with
          | none =>
            rw [hap] at e3 hsc
            obtain ⟨rfl, rfl⟩ := e3
            show R (d + 4) mT_readInto (49, [(3, vI (nI i)), (2, vI (nI a)), (0, vR 7 10), (1, vR 1 0)], [vI (nI 0)], h3) _
            refine R_s 1 (cond (if0 .ne (nI 0)) 54 52, [(3, vI (nI i)), (2, vI (nI a)), (0, vR 7 10), (1, vR 1 0)], [], h3) rfl ?_
            refine R_bf rfl ?_
            refine R_s 1 (53, [(3, vI (nI i)), (2, vI (nI a)), (0, vR 7 10), (1, vR 1 0)], [vI (nI a)], h3) rfl ?_
            exact R_ret (some (vI (nI a))) h3 rfl ⟨by rw [hI, pC_b c2 hsc]; rfl, F.fn F2, fun q => by rw [hI, pC_b c2 hsc] at q; cases q⟩
          | some z =>
            rw [hap] at e3 hsc
            obtain ⟨rfl, C3, F3⟩ := e3
            show R (d + 4) mT_readInto (49, [(3, vI (nI i)), (2, vI (nI a)), (0, vR 7 10), (1, vR 1 0)], [vI (nI 1)], h3) _
            refine R_s 1 (cond (if0 .ne (nI 1)) 54 52, [(3, vI (nI i)), (2, vI (nI a)), (0, vR 7 10), (1, vR 1 0)], [], h3) rfl ?_
            refine R_bt rfl ?_
            refine R_s 2 (56, [(3, vI (nI i)), (2, vI (nI a)), (0, vR 7 10), (1, vR 1 0)], [vI (nI 1), vI (nI i)], h3) rfl ?_
            refine R_add i 1 rfl ?_
            refine R_s 2 (61, [(3, vI (nI i + Int32.ofInt 1)), (2, vI (nI (i + 1))), (0, vR 7 10), (1, vR 1 0)], [], h3) rfl ?_
            refine R_lv (lv' := [(3, vI (nI (i + 1))), (2, vI (nI (i + 1))), (0, vR 7 10), (1, vR 1 0)]) (by rw [show nI i + Int32.ofInt 1 = nI (i + 1) from nI_add _ _]) ?_
            refine R_s 1 (8, [(3, vI (nI (i + 1))), (2, vI (nI (i + 1))), (0, vR 7 10), (1, vR 1 0)], [], h3) rfl ?_
            exact ih (i + 1) (i + 1) z h3 (by omega) (by omega) (by rw [hI, pC_g c2 hsc]) C3 (apl_DW D hap) ((F.fn F2).fr F3)
theorem rem5 : ∀ a, a < 20 → nI a - nI a / nI 5 * nI 5 = nI (a % 5) := by decide +kernel
theorem min5 : ∀ a, a < 6 → (if nI 5 < nI (a + 1) then nI 5 else nI (a + 1)) = nI (min (a + 1) 5) := by decide +kernel
set_option maxRecDepth 100000 in
theorem t_H_forget {d : Nat} {h : HP} : MT d mH_forget [vR 7 13] h (fun r h' => r = none ∧ h' = hset h 7 13 2 (nI 0)) := by
  refine R_s 3 (5, [(0, vR 7 13)], [], (hset h 7 13 2 (nI 0))) rfl ?_
  refine R_hp (fun h1 eh1 => ?_)
  exact R_ret none h1 rfl ⟨rfl, by rw [eh1]⟩
/-- only the history's numbers and one of its concerts change -/
def FH (h h' : HP) (b : Nat) : Prop := ∀ g' j', ¬ g' = b → ¬ (g' = 7 ∧ j' = 13) → h' g' j' = h g' j'
set_option maxRecDepth 100000 in
theorem t_H_keep {d i c n p k : Nat} {h : HP} {s : Nat → Int32} (hi : h 7 13 1 = nI i) (hi5 : i < 5) (hc : h 7 13 2 = nI c) (hc5 : c ≤ 5) (C : CO h 0 s n p k) (h8 : n ≤ 8) (h5 : p ≤ 5) (h6 : k ≤ 6) : MT (d + 2) mH_keep [vR 7 13, vR 0 0] h (fun r h' => r = none ∧ CO h' (i + 2) s n p k ∧ FH h h' (i + 2) ∧ h' 7 13 1 = nI ((i + 1) % 5) ∧ h' 7 13 2 = nI (min (c + 1) 5)) := by
  refine R_s 4 (8, [(0, vR 7 13), (1, vR 0 0)], [vI (h 7 13 1), vR 7 14], h) rfl ?_
  refine R_top (nI i) hi ?_
  refine R_ldq 7 i rfl (by omega) ?_
  refine R_s 1 (10, [(0, vR 7 13), (1, vR 0 0)], [vR 0 0, vR (i + 2) 0], h) rfl ?_
  refine R_call mC_copyFrom [vR (i + 2) 0, vR 0 0] [] rfl (t_C_copyFrom (show ¬ 0 = i + 2 by omega) C h8 h5 h6) (fun r h1 e1 => ?_)
  obtain ⟨rfl, C1, F1⟩ := e1
  show R (d + 2) mH_keep (13, [(0, vR 7 13), (1, vR 0 0)], [], h1) _
  refine R_s 3 (18, [(0, vR 7 13), (1, vR 0 0)], [vI (h1 7 13 1), vR 7 13], h1) rfl ?_
  refine R_top (nI i) (by rw [F1 7 13 (by omega)]; exact hi) ?_
  refine R_s 1 (19, [(0, vR 7 13), (1, vR 0 0)], [vI (nI 1), vI (nI i), vR 7 13], h1) rfl ?_
  refine R_add i 1 rfl ?_
  refine R_s 2 (22, [(0, vR 7 13), (1, vR 0 0)], [vI ((nI (i + 1)) - (nI (i + 1)) / (nI 5) * (nI 5)), vR 7 13], h1) rfl ?_
  refine R_top (nI ((i + 1) % 5)) (rem5 (i + 1) (by omega)) ?_
  refine R_s 1 (25, [(0, vR 7 13), (1, vR 0 0)], [], (hset h1 7 13 1 (nI ((i + 1) % 5)))) rfl ?_
  refine R_hp (fun h2 eh2 => ?_)
  refine R_s 3 (30, [(0, vR 7 13), (1, vR 0 0)], [vI (h2 7 13 2), vR 7 13], h2) rfl ?_
  refine R_top (nI c) (by rw [eh2, hs_same, up_ne (by omega), F1 7 13 (by omega)]; exact hc) ?_
  refine R_s 1 (31, [(0, vR 7 13), (1, vR 0 0)], [vI (nI 1), vI (nI c), vR 7 13], h2) rfl ?_
  refine R_add c 1 rfl ?_
  refine R_s 2 (36, [(0, vR 7 13), (1, vR 0 0)], [vI (if (nI 5) < (nI (c + 1)) then (nI 5) else (nI (c + 1))), vR 7 13], h2) rfl ?_
  refine R_top (nI (min (c + 1) 5)) (min5 c (by omega)) ?_
  refine R_s 1 (39, [(0, vR 7 13), (1, vR 0 0)], [], (hset h2 7 13 2 (nI (min (c + 1) 5)))) rfl ?_
  refine R_hp (fun h3 eh3 => ?_)
  exact R_ret none h3 rfl ⟨rfl, co_frame C1 (fun j => by rw [eh3, hs_ne (by omega), eh2, hs_ne (by omega)]), fun g' j' q1 q2 => by rw [eh3, hs_ne q2, eh2, hs_ne q2]; exact F1 g' j' q1, by rw [eh3, hs_same, up_ne (by omega), eh2, hs_same, up_same], by rw [eh3, hs_same, up_same]⟩
theorem pre5 : ∀ i, i < 5 → (i + 5 - 1) % 5 = (i + 4) % 5 := by decide
set_option maxRecDepth 100000 in
theorem t_H_takeBack {d i c n p k : Nat} {h : HP} {s : Nat → Int32} (hi : h 7 13 1 = nI i) (hi5 : i < 5) (hc : h 7 13 2 = nI c) (hc1 : 1 ≤ c) (hc5 : c ≤ 5) (C : CO h ((i + 4) % 5 + 2) s n p k) (h8 : n ≤ 8) (h5 : p ≤ 5) (h6 : k ≤ 6) : MT (d + 2) mH_takeBack [vR 7 13, vR 0 0] h (fun r h' => r = none ∧ CO h' 0 s n p k ∧ FH h h' 0 ∧ h' 7 13 1 = nI ((i + 4) % 5) ∧ h' 7 13 2 = nI (c - 1)) := by
  refine R_s 2 (4, [(0, vR 7 13), (1, vR 0 0)], [vI (h 7 13 2)], h) rfl ?_
  refine R_top (nI c) hc ?_
  refine R_s 1 (cond (if0 .le (nI c)) 44 7, [(0, vR 7 13), (1, vR 0 0)], [], h) rfl ?_
  refine R_bp (c = 0) (i0_le (by omega)) (fun c1 => ?_) (fun c1 => ?_)
  · exact absurd c1 (by omega)
  · refine R_s 3 (12, [(0, vR 7 13), (1, vR 0 0)], [vI (h 7 13 1), vR 7 13], h) rfl ?_
    refine R_top (nI i) hi ?_
    refine R_s 1 (13, [(0, vR 7 13), (1, vR 0 0)], [vI (nI 5), vI (nI i), vR 7 13], h) rfl ?_
    refine R_add i 5 rfl ?_
    refine R_s 1 (15, [(0, vR 7 13), (1, vR 0 0)], [vI (nI 1), vI (nI (i + 5)), vR 7 13], h) rfl ?_
    refine R_sub (i + 5) 1 rfl (by omega) ?_
    refine R_s 2 (18, [(0, vR 7 13), (1, vR 0 0)], [vI ((nI ((i + 5) - 1)) - (nI ((i + 5) - 1)) / (nI 5) * (nI 5)), vR 7 13], h) rfl ?_
    refine R_top (nI ((i + 4) % 5)) (by rw [rem5 ((i + 5) - 1) (by omega), pre5 i hi5]) ?_
    refine R_s 1 (21, [(0, vR 7 13), (1, vR 0 0)], [], (hset h 7 13 1 (nI ((i + 4) % 5)))) rfl ?_
    refine R_hp (fun h1 eh1 => ?_)
    refine R_s 5 (30, [(0, vR 7 13), (1, vR 0 0)], [vI (h1 7 13 1), vR 7 14, vR 0 0], h1) rfl ?_
    refine R_top (nI ((i + 4) % 5)) (by rw [eh1, hs_same, up_same]) ?_
    refine R_ldq 7 ((i + 4) % 5) rfl (Nat.mod_lt _ (by decide)) ?_
    refine R_call mC_copyFrom [vR 0 0, vR (((i + 4) % 5) + 2) 0] [] rfl (t_C_copyFrom (g := 0) (g2 := (i + 4) % 5 + 2) (by omega) (co_frame C (fun j => by rw [eh1, hs_ne (by omega)])) h8 h5 h6) (fun r h2 e2 => ?_)
    obtain ⟨rfl, C2, F2⟩ := e2
    show R (d + 2) mH_takeBack (34, [(0, vR 7 13), (1, vR 0 0)], [], h2) _
    refine R_s 3 (39, [(0, vR 7 13), (1, vR 0 0)], [vI (h2 7 13 2), vR 7 13], h2) rfl ?_
    refine R_top (nI c) (by rw [F2 7 13 (by omega), eh1, hs_same, up_ne (by omega)]; exact hc) ?_
    refine R_s 1 (40, [(0, vR 7 13), (1, vR 0 0)], [vI (nI 1), vI (nI c), vR 7 13], h2) rfl ?_
    refine R_sub c 1 rfl hc1 ?_
    refine R_s 1 (44, [(0, vR 7 13), (1, vR 0 0)], [], (hset h2 7 13 2 (nI (c - 1)))) rfl ?_
    refine R_hp (fun h3 eh3 => ?_)
    exact R_ret none h3 rfl ⟨rfl, co_frame C2 (fun j => by rw [eh3, hs_ne (by omega)]), fun g' j' q1 q2 => by rw [eh3, hs_ne q2, F2 g' j' q1, eh1, hs_ne q2], by rw [eh3, hs_same, up_ne (by omega), F2 7 13 (by omega), eh1, hs_same, up_same], by rw [eh3, hs_same, up_same]⟩
