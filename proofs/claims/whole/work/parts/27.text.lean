set_option maxRecDepth 100000 in
theorem t_T_add_t {d n : Nat} {h : HP} {x : Int32} (hn : h 7 10 1 = nI n) (h3 : n < 300) : MT d mT_add [vR 7 10, vI x] h (fun r h' => r = some (vI (nI 1)) ∧ h' = hset (hset h 7 11 n (vp_nar .char x)) 7 10 1 (nI (n + 1))) := by
  refine R_s 2 (4, [(0, vR 7 10), (1, vI x)], [vI (h 7 10 1)], h) rfl ?_
  refine R_top (nI n) hn ?_
  refine R_s 2 (cond (if2 .lt (nI n) (nI 300)) 12 10, [(0, vR 7 10), (1, vI x)], [], h) rfl ?_
  refine R_bp (n < 300) (i2_lt (by omega) (by omega)) (fun c1 => ?_) (fun c1 => ?_)
  · refine R_s 4 (20, [(0, vR 7 10), (1, vI x)], [vI (h 7 10 1), vR 7 11], h) rfl ?_
    refine R_top (nI n) hn ?_
    refine R_s 1 (21, [(0, vR 7 10), (1, vI x)], [vI x, vI (nI n), vR 7 11], h) rfl ?_
    refine R_stc 7 11 n 300 x rfl rfl (by omega) (by decide) (fun h1 eh1 => ?_)
    refine R_s 3 (27, [(0, vR 7 10), (1, vI x)], [vI (h1 7 10 1), vR 7 10], h1) rfl ?_
    refine R_top (nI n) (by rw [eh1, hs_ne (by omega)]; exact hn) ?_
    refine R_s 1 (28, [(0, vR 7 10), (1, vI x)], [vI (nI 1), vI (nI n), vR 7 10], h1) rfl ?_
    refine R_add n 1 rfl ?_
    refine R_s 1 (32, [(0, vR 7 10), (1, vI x)], [], (hset h1 7 10 1 (nI (n + 1)))) rfl ?_
    refine R_hp (fun h2 eh2 => ?_)
    refine R_s 1 (33, [(0, vR 7 10), (1, vI x)], [vI (nI 1)], h2) rfl ?_
    exact R_ret (some (vI (nI 1))) h2 rfl ⟨rfl, by rw [eh2, eh1]⟩
  · exact absurd h3 c1
set_option maxRecDepth 100000 in
theorem t_T_add_f {d : Nat} {h : HP} {x : Int32} (hn : h 7 10 1 = nI 300) : MT d mT_add [vR 7 10, vI x] h (fun r h' => r = some (vI (nI 0)) ∧ h' = h) := by
  refine R_s 2 (4, [(0, vR 7 10), (1, vI x)], [vI (h 7 10 1)], h) rfl ?_
  refine R_top (nI 300) hn ?_
  refine R_s 2 (cond (if2 .lt (nI 300) (nI 300)) 12 10, [(0, vR 7 10), (1, vI x)], [], h) rfl ?_
  refine R_bf (by decide) ?_
  refine R_s 1 (11, [(0, vR 7 10), (1, vI x)], [vI (nI 0)], h) rfl ?_
  exact R_ret (some (vI (nI 0))) h rfl ⟨rfl, rfl⟩
theorem rn_dig {ch : Nat → Nat} {m i v dg : Nat} {ns : List Nat} (h : 48 ≤ ch i ∧ ch i ≤ 57) : rn ch (m + 1) i v dg ns = rn ch m (i + 1) (v * 10 + (ch i - 48)) (dg + 1) ns := by
  rw [rn, if_pos h]
theorem rn_sep {ch : Nat → Nat} {m i v dg : Nat} {ns : List Nat} (h0 : ¬ (48 ≤ ch i ∧ ch i ≤ 57)) (h : (ch i = 44 ∨ ch i = 59) ∧ (1 ≤ dg ∧ dg ≤ 2) ∧ ns.length < 4) : rn ch (m + 1) i v dg ns = rn ch m (i + 1) 0 0 (ns ++ [v]) := by
  rw [rn, if_neg h0, if_pos h]
theorem rn_bad {ch : Nat → Nat} {m i v dg : Nat} {ns : List Nat} (h0 : ¬ (48 ≤ ch i ∧ ch i ≤ 57)) (h : ¬ ((ch i = 44 ∨ ch i = 59) ∧ (1 ≤ dg ∧ dg ≤ 2) ∧ ns.length < 4)) : rn ch (m + 1) i v dg ns = none := by
  rw [rn, if_neg h0, if_neg h]
theorem apl_s {v : Nat} {z : ST} : apl 115 [v] z = (if z.2.1 < 8 ∧ 1 ≤ v ∧ v ≤ 20 then some (upd (upd z.1 (1 + z.2.1) (nI v)) 0 (nI (z.2.1 + 1)), z.2.1 + 1, z.2.2.1, z.2.2.2) else none) := rfl
theorem apl_p {v : Nat} {z : ST} : apl 112 [v] z = (if z.2.2.1 < 5 ∧ v ≤ 1 then some (upd (upd z.1 (27 + z.2.2.1) (nI v)) 26 (nI (z.2.2.1 + 1)), z.2.1, z.2.2.1 + 1, z.2.2.2) else none) := rfl
theorem apl_e {v : Nat} {z : ST} : apl 101 [v] z = (if v < z.2.1 then some (upd z.1 9 (nI ((z.1 9).toNatClampNeg ||| 2 ^ v)), z.2) else none) := rfl
theorem apl_k {u v : Nat} {z : ST} : apl 107 [u, v] z = (if 107 = 107 ∧ z.2.2.2 < 6 ∧ 1 ≤ u ∧ u ≤ 5 ∧ v ≤ 1 then some (upd (upd (upd z.1 (33 + z.2.2.2) (nI u)) (39 + z.2.2.2) (nI v)) 32 (nI (z.2.2.2 + 1)), z.2.1, z.2.2.1, z.2.2.2 + 1) else none) := rfl
theorem apl_u {a b e t : Nat} {z : ST} : apl 117 [a, b, e, t] z = (if 117 = 117 ∧ a < z.2.1 ∧ b < z.2.2.1 ∧ e < z.2.2.2 ∧ t ≤ 5 ∧ oth z.1 a (nI e) b z.2.2.1 < (z.1 (33 + e)).toNatClampNeg then some (upd (upd z.1 (45 + 2 * (a * 5 + b)) (nI e)) (46 + 2 * (a * 5 + b)) (nI t), z.2) else none) := rfl
def FN (h h' : HP) : Prop := (∀ g' j', ¬ (g' = 7 ∧ (j' = 10 ∨ j' = 12)) → h' g' j' = h g' j') ∧ (∀ x, ¬ x = 3 → h' 7 10 x = h 7 10 x)
theorem FN.rf {h : HP} : FN h h := ⟨fun _ _ _ => rfl, fun _ _ => rfl⟩
theorem FN.tr {h h1 h2 : HP} (a : FN h h1) (b : FN h1 h2) : FN h h2 := ⟨fun g' j' e => (b.1 g' j' e).trans (a.1 g' j' e), fun x e => (b.2 x e).trans (a.2 x e)⟩
def NB (h : HP) (ns : List Nat) : Prop := h 7 10 3 = nI ns.length ∧ ∀ j, j < ns.length → h 7 12 j = nI (ns.getD j 0)
theorem NB.push {hh : HP} {ns : List Nat} {v : Nat} (B : NB hh ns) : NB (hset (hset hh 7 12 ns.length (nI v)) 7 10 3 (nI (ns.length + 1))) (ns ++ [v]) := by
  refine ⟨?_, fun j hj => ?_⟩
  · rw [hs_same, up_same, List.length_append, List.length_singleton]
  · rw [List.length_append, List.length_singleton] at hj
    rw [hs_ne (by omega), hs_same]
    by_cases q : j = ns.length
    · rw [q, up_same, List.getD_eq_getElem?_getD, List.getElem?_append_right (Nat.le_refl _), Nat.sub_self]; rfl
    · rw [up_ne q, List.getD_eq_getElem?_getD, List.getElem?_append_left (by omega), ← List.getD_eq_getElem?_getD]; exact B.2 j (by omega)
theorem FN.push {h hh : HP} {i : Nat} {u v : Int32} (F : FN h hh) : FN h (hset (hset hh 7 12 i u) 7 10 3 v) := by
  refine ⟨fun g' j' q => ?_, fun x q => ?_⟩
  · rw [hs_ne (by omega), hs_ne (by omega)]; exact F.1 g' j' q
  · rw [hs_same, up_ne q, hs_ne (by omega)]; exact F.2 x q
def TXT (h : HP) (ch : Nat → Nat) (len : Nat) : Prop := h 7 10 1 = nI len ∧ len ≤ 300 ∧ ∀ j, j < len → h 7 11 j = nI (ch j) ∧ 32 ≤ ch j ∧ ch j ≤ 126
theorem TXT.mv {h h' : HP} {ch : Nat → Nat} {len : Nat} (T : TXT h ch len) (F : FN h h') : TXT h' ch len := ⟨by rw [F.2 1 (by omega)]; exact T.1, T.2.1, fun j hj => by rw [F.1 7 11 (by omega)]; exact T.2.2 j hj⟩
set_option maxRecDepth 100000 in
theorem t_T_readNumbers {d f e len : Nat} {h : HP} {ch : Nat → Nat} (T : TXT h ch len) (hf : f ≤ e + 1) (he : e < len) : MT d mT_readNumbers [vR 7 10, vI (nI f), vI (nI e)] h (fun r h' => ∃ ns, NB h' ns ∧ FN h h' ∧ match rn ch (e + 1 - f) f 0 0 [] with
  | none => r = some (vI (nI 0))
  | some L => r = some (vI (nI 1)) ∧ ns = L) := by
  have hlen := T.2.1
  refine R_s 3 (5, [(0, vR 7 10), (1, vI (nI f)), (2, vI (nI e))], [], (hset h 7 10 3 (nI 0))) rfl ?_
  refine R_hp (fun h1 eh1 => ?_)
  refine R_s 6 (13, [(5, vI (nI f)), (4, vI (nI 0)), (3, vI (nI 0)), (0, vR 7 10), (1, vI (nI f)), (2, vI (nI e))], [], h1) rfl ?_
  have B0 : NB h1 [] := ⟨by rw [eh1, hs_same, up_same]; rfl, fun j hj => absurd hj (by simp)⟩
  have F0 : FN h h1 := by rw [eh1]; exact ⟨fun g' j' q => hs_ne (by omega), fun x q => by rw [hs_same, up_ne q]⟩
  suffices ∀ m i v dg ns hh, i + m = e + 1 → rn ch (e + 1 - f) f 0 0 [] = rn ch m i v dg ns → ns.length ≤ 4 → dg ≤ i → NB hh ns → FN h hh → R d mT_readNumbers (13, [(5, vI (nI i)), (4, vI (nI dg)), (3, vI (nI v)), (0, vR 7 10), (1, vI (nI f)), (2, vI (nI e))], [], hh) (fun r h' => ∃ ns, NB h' ns ∧ FN h h' ∧ match rn ch (e + 1 - f) f 0 0 [] with
  | none => r = some (vI (nI 0))
  | some L => r = some (vI (nI 1)) ∧ ns = L) from this (e + 1 - f) f 0 0 [] h1 (by omega) rfl (by decide) (Nat.zero_le _) B0 F0
  intro m
  induction m with
  | zero =>
    intro i v dg ns hh hm hI hns hdg B F
    refine R_s 3 (cond (if2 .gt (nI i) (nI e)) 138 19, [(5, vI (nI i)), (4, vI (nI dg)), (3, vI (nI v)), (0, vR 7 10), (1, vI (nI f)), (2, vI (nI e))], [], hh) rfl ?_
    refine R_bp (e < i) (i2_gt (by omega) (by omega)) (fun c1 => ?_) (fun c1 => ?_)
    · refine R_s 1 (139, [(5, vI (nI i)), (4, vI (nI dg)), (3, vI (nI v)), (0, vR 7 10), (1, vI (nI f)), (2, vI (nI e))], [vI (nI 1)], hh) rfl ?_
      exact R_ret (some (vI (nI 1))) hh rfl ⟨ns, B, F, by rw [hI, show 0 = 0 by omega]; exact ⟨rfl, rfl⟩⟩
    · exact absurd hm (by omega)
  | succ m ih =>
    intro i v dg ns hh hm hI hns hdg B F
    refine R_s 3 (cond (if2 .gt (nI i) (nI e)) 138 19, [(5, vI (nI i)), (4, vI (nI dg)), (3, vI (nI v)), (0, vR 7 10), (1, vI (nI f)), (2, vI (nI e))], [], hh) rfl ?_
    refine R_bp (e < i) (i2_gt (by omega) (by omega)) (fun c1 => ?_) (fun c1 => ?_)
    · refine R_s 1 (139, [(5, vI (nI i)), (4, vI (nI dg)), (3, vI (nI v)), (0, vR 7 10), (1, vI (nI f)), (2, vI (nI e))], [vI (nI 1)], hh) rfl ?_
      exact R_ret (some (vI (nI 1))) hh rfl ⟨ns, B, F, by rw [hI, show m + 1 = 0 by omega]; exact ⟨rfl, rfl⟩⟩
    · have hci := (T.2.2 i (by omega)).2
      refine R_s 3 (25, [(5, vI (nI i)), (4, vI (nI dg)), (3, vI (nI v)), (0, vR 7 10), (1, vI (nI f)), (2, vI (nI e))], [vI (nI i), vR 7 11], hh) rfl ?_
      refine R_ldc 7 11 i 300 rfl rfl (by omega) (by decide) ?_
      refine R_top (nI (ch i)) ((T.mv F).2.2 i (by omega)).1 ?_
      refine R_s 4 (cond (if2 .lt (nI (ch i)) (nI 48)) 59 35, [(6, vI (nI (ch i))), (5, vI (nI i)), (4, vI (nI dg)), (3, vI (nI v)), (0, vR 7 10), (1, vI (nI f)), (2, vI (nI e))], [], hh) rfl ?_
      refine R_bp ((ch i) < 48) (i2_lt (by omega) (by omega)) (fun c2 => ?_) (fun c2 => ?_)
      · refine R_s 3 (cond (if2 .eq (nI (ch i)) (nI 44)) 73 66, [(6, vI (nI (ch i))), (5, vI (nI i)), (4, vI (nI dg)), (3, vI (nI v)), (0, vR 7 10), (1, vI (nI f)), (2, vI (nI e))], [], hh) rfl ?_
        refine R_bp ((ch i) = 44) (i2_eq (by omega) (by omega)) (fun c5 => ?_) (fun c5 => ?_)
        · refine R_s 5 (cond (if0 .eq (nI 1)) 105 85, [(7, vI (nI 1)), (6, vI (nI (ch i))), (5, vI (nI i)), (4, vI (nI dg)), (3, vI (nI v)), (0, vR 7 10), (1, vI (nI f)), (2, vI (nI e))], [], hh) rfl ?_
          refine R_bf (by decide) ?_
          refine R_s 3 (cond (if2 .lt (nI dg) (nI 1)) 105 91, [(7, vI (nI 1)), (6, vI (nI (ch i))), (5, vI (nI i)), (4, vI (nI dg)), (3, vI (nI v)), (0, vR 7 10), (1, vI (nI f)), (2, vI (nI e))], [], hh) rfl ?_
          refine R_bp (dg < 1) (i2_lt (by omega) (by omega)) (fun c7 => ?_) (fun c7 => ?_)
          · refine R_s 1 (106, [(7, vI (nI 1)), (6, vI (nI (ch i))), (5, vI (nI i)), (4, vI (nI dg)), (3, vI (nI v)), (0, vR 7 10), (1, vI (nI f)), (2, vI (nI e))], [vI (nI 0)], hh) rfl ?_
            exact R_ret (some (vI (nI 0))) hh rfl ⟨ns, B, F, by rw [hI, rn_bad (by omega) (by omega)]⟩
          · refine R_s 3 (cond (if2 .gt (nI dg) (nI 2)) 105 97, [(7, vI (nI 1)), (6, vI (nI (ch i))), (5, vI (nI i)), (4, vI (nI dg)), (3, vI (nI v)), (0, vR 7 10), (1, vI (nI f)), (2, vI (nI e))], [], hh) rfl ?_
            refine R_bp (2 < dg) (i2_gt (by omega) (by omega)) (fun c8 => ?_) (fun c8 => ?_)
            · refine R_s 1 (106, [(7, vI (nI 1)), (6, vI (nI (ch i))), (5, vI (nI i)), (4, vI (nI dg)), (3, vI (nI v)), (0, vR 7 10), (1, vI (nI f)), (2, vI (nI e))], [vI (nI 0)], hh) rfl ?_
              exact R_ret (some (vI (nI 0))) hh rfl ⟨ns, B, F, by rw [hI, rn_bad (by omega) (by omega)]⟩
            · refine R_s 2 (101, [(7, vI (nI 1)), (6, vI (nI (ch i))), (5, vI (nI i)), (4, vI (nI dg)), (3, vI (nI v)), (0, vR 7 10), (1, vI (nI f)), (2, vI (nI e))], [vI (hh 7 10 3)], hh) rfl ?_
              refine R_top (nI (ns.length)) B.1 ?_
              refine R_s 2 (cond (if2 .lt (nI (ns.length)) (nI 4)) 107 105, [(7, vI (nI 1)), (6, vI (nI (ch i))), (5, vI (nI i)), (4, vI (nI dg)), (3, vI (nI v)), (0, vR 7 10), (1, vI (nI f)), (2, vI (nI e))], [], hh) rfl ?_
              refine R_bp ((ns.length) < 4) (i2_lt (by omega) (by omega)) (fun c9 => ?_) (fun c9 => ?_)
              · refine R_s 4 (115, [(7, vI (nI 1)), (6, vI (nI (ch i))), (5, vI (nI i)), (4, vI (nI dg)), (3, vI (nI v)), (0, vR 7 10), (1, vI (nI f)), (2, vI (nI e))], [vI (hh 7 10 3), vR 7 12], hh) rfl ?_
                refine R_top (nI (ns.length)) B.1 ?_
                refine R_s 1 (116, [(7, vI (nI 1)), (6, vI (nI (ch i))), (5, vI (nI i)), (4, vI (nI dg)), (3, vI (nI v)), (0, vR 7 10), (1, vI (nI f)), (2, vI (nI e))], [vI (nI v), vI (nI (ns.length)), vR 7 12], hh) rfl ?_
                refine R_st 7 12 (ns.length) 4 (nI v) rfl rfl c9 (by decide) (fun h2 eh2 => ?_)
                refine R_s 3 (122, [(7, vI (nI 1)), (6, vI (nI (ch i))), (5, vI (nI i)), (4, vI (nI dg)), (3, vI (nI v)), (0, vR 7 10), (1, vI (nI f)), (2, vI (nI e))], [vI (h2 7 10 3), vR 7 10], h2) rfl ?_
                refine R_top (nI (ns.length)) (by rw [eh2, hs_ne (by omega)]; exact B.1) ?_
                refine R_s 1 (123, [(7, vI (nI 1)), (6, vI (nI (ch i))), (5, vI (nI i)), (4, vI (nI dg)), (3, vI (nI v)), (0, vR 7 10), (1, vI (nI f)), (2, vI (nI e))], [vI (nI 1), vI (nI (ns.length)), vR 7 10], h2) rfl ?_
                refine R_add (ns.length) 1 rfl ?_
                refine R_s 1 (127, [(7, vI (nI 1)), (6, vI (nI (ch i))), (5, vI (nI i)), (4, vI (nI dg)), (3, vI (nI v)), (0, vR 7 10), (1, vI (nI f)), (2, vI (nI e))], [], (hset h2 7 10 3 (nI ((ns.length) + 1)))) rfl ?_
                refine R_hp (fun h3 eh3 => ?_)
                refine R_s 5 (135, [(5, vI (nI i + Int32.ofInt 1)), (4, vI (nI 0)), (3, vI (nI 0)), (7, vI (nI 1)), (6, vI (nI (ch i))), (0, vR 7 10), (1, vI (nI f)), (2, vI (nI e))], [], h3) rfl ?_
                refine R_lv (lv' := [(5, vI (nI (i + 1))), (4, vI (nI 0)), (3, vI (nI 0)), (7, vI (nI 1)), (6, vI (nI (ch i))), (0, vR 7 10), (1, vI (nI f)), (2, vI (nI e))]) (by rw [show nI i + Int32.ofInt 1 = nI (i + 1) from nI_add _ _]) ?_
                refine R_s 1 (13, [(5, vI (nI (i + 1))), (4, vI (nI 0)), (3, vI (nI 0)), (7, vI (nI 1)), (6, vI (nI (ch i))), (0, vR 7 10), (1, vI (nI f)), (2, vI (nI e))], [], h3) rfl ?_
                refine R_fg (lv' := [(5, vI (nI (i + 1))), (4, vI (nI 0)), (3, vI (nI 0)), (0, vR 7 10), (1, vI (nI f)), (2, vI (nI e))]) [0, 1, 2, 5, 6, 7] rfl [5, 4, 3, 7, 6, 0, 1, 2] rfl (by decide) ?_
                exact ih (i + 1) 0 0 (ns ++ [v]) _ (by omega) (by rw [hI, rn_sep (by omega) (by omega)]) (by rw [List.length_append, List.length_singleton]; omega) (by omega) (by rw [eh3, eh2]; exact B.push) (by rw [eh3, eh2]; exact F.push)
              · refine R_s 1 (106, [(7, vI (nI 1)), (6, vI (nI (ch i))), (5, vI (nI i)), (4, vI (nI dg)), (3, vI (nI v)), (0, vR 7 10), (1, vI (nI f)), (2, vI (nI e))], [vI (nI 0)], hh) rfl ?_
                exact R_ret (some (vI (nI 0))) hh rfl ⟨ns, B, F, by rw [hI, rn_bad (by omega) (by omega)]⟩
        · refine R_s 3 (cond (if2 .ne (nI (ch i)) (nI 59)) 77 73, [(6, vI (nI (ch i))), (5, vI (nI i)), (4, vI (nI dg)), (3, vI (nI v)), (0, vR 7 10), (1, vI (nI f)), (2, vI (nI e))], [], hh) rfl ?_
          refine R_bp (¬ (ch i) = 59) (i2_ne (by omega) (by omega)) (fun c6 => ?_) (fun c6 => ?_)
          · refine R_s 4 (cond (if0 .eq (nI 0)) 105 85, [(7, vI (nI 0)), (6, vI (nI (ch i))), (5, vI (nI i)), (4, vI (nI dg)), (3, vI (nI v)), (0, vR 7 10), (1, vI (nI f)), (2, vI (nI e))], [], hh) rfl ?_
            refine R_bt (by decide) ?_
            refine R_s 1 (106, [(7, vI (nI 0)), (6, vI (nI (ch i))), (5, vI (nI i)), (4, vI (nI dg)), (3, vI (nI v)), (0, vR 7 10), (1, vI (nI f)), (2, vI (nI e))], [vI (nI 0)], hh) rfl ?_
            exact R_ret (some (vI (nI 0))) hh rfl ⟨ns, B, F, by rw [hI, rn_bad (by omega) (by omega)]⟩
          · refine R_s 5 (cond (if0 .eq (nI 1)) 105 85, [(7, vI (nI 1)), (6, vI (nI (ch i))), (5, vI (nI i)), (4, vI (nI dg)), (3, vI (nI v)), (0, vR 7 10), (1, vI (nI f)), (2, vI (nI e))], [], hh) rfl ?_
            refine R_bf (by decide) ?_
            refine R_s 3 (cond (if2 .lt (nI dg) (nI 1)) 105 91, [(7, vI (nI 1)), (6, vI (nI (ch i))), (5, vI (nI i)), (4, vI (nI dg)), (3, vI (nI v)), (0, vR 7 10), (1, vI (nI f)), (2, vI (nI e))], [], hh) rfl ?_
            refine R_bp (dg < 1) (i2_lt (by omega) (by omega)) (fun c7 => ?_) (fun c7 => ?_)
            · refine R_s 1 (106, [(7, vI (nI 1)), (6, vI (nI (ch i))), (5, vI (nI i)), (4, vI (nI dg)), (3, vI (nI v)), (0, vR 7 10), (1, vI (nI f)), (2, vI (nI e))], [vI (nI 0)], hh) rfl ?_
              exact R_ret (some (vI (nI 0))) hh rfl ⟨ns, B, F, by rw [hI, rn_bad (by omega) (by omega)]⟩
            · refine R_s 3 (cond (if2 .gt (nI dg) (nI 2)) 105 97, [(7, vI (nI 1)), (6, vI (nI (ch i))), (5, vI (nI i)), (4, vI (nI dg)), (3, vI (nI v)), (0, vR 7 10), (1, vI (nI f)), (2, vI (nI e))], [], hh) rfl ?_
              refine R_bp (2 < dg) (i2_gt (by omega) (by omega)) (fun c8 => ?_) (fun c8 => ?_)
              · refine R_s 1 (106, [(7, vI (nI 1)), (6, vI (nI (ch i))), (5, vI (nI i)), (4, vI (nI dg)), (3, vI (nI v)), (0, vR 7 10), (1, vI (nI f)), (2, vI (nI e))], [vI (nI 0)], hh) rfl ?_
                exact R_ret (some (vI (nI 0))) hh rfl ⟨ns, B, F, by rw [hI, rn_bad (by omega) (by omega)]⟩
              · refine R_s 2 (101, [(7, vI (nI 1)), (6, vI (nI (ch i))), (5, vI (nI i)), (4, vI (nI dg)), (3, vI (nI v)), (0, vR 7 10), (1, vI (nI f)), (2, vI (nI e))], [vI (hh 7 10 3)], hh) rfl ?_
                refine R_top (nI (ns.length)) B.1 ?_
                refine R_s 2 (cond (if2 .lt (nI (ns.length)) (nI 4)) 107 105, [(7, vI (nI 1)), (6, vI (nI (ch i))), (5, vI (nI i)), (4, vI (nI dg)), (3, vI (nI v)), (0, vR 7 10), (1, vI (nI f)), (2, vI (nI e))], [], hh) rfl ?_
                refine R_bp ((ns.length) < 4) (i2_lt (by omega) (by omega)) (fun c9 => ?_) (fun c9 => ?_)
                · refine R_s 4 (115, [(7, vI (nI 1)), (6, vI (nI (ch i))), (5, vI (nI i)), (4, vI (nI dg)), (3, vI (nI v)), (0, vR 7 10), (1, vI (nI f)), (2, vI (nI e))], [vI (hh 7 10 3), vR 7 12], hh) rfl ?_
                  refine R_top (nI (ns.length)) B.1 ?_
                  refine R_s 1 (116, [(7, vI (nI 1)), (6, vI (nI (ch i))), (5, vI (nI i)), (4, vI (nI dg)), (3, vI (nI v)), (0, vR 7 10), (1, vI (nI f)), (2, vI (nI e))], [vI (nI v), vI (nI (ns.length)), vR 7 12], hh) rfl ?_
                  refine R_st 7 12 (ns.length) 4 (nI v) rfl rfl c9 (by decide) (fun h4 eh4 => ?_)
                  refine R_s 3 (122, [(7, vI (nI 1)), (6, vI (nI (ch i))), (5, vI (nI i)), (4, vI (nI dg)), (3, vI (nI v)), (0, vR 7 10), (1, vI (nI f)), (2, vI (nI e))], [vI (h4 7 10 3), vR 7 10], h4) rfl ?_
                  refine R_top (nI (ns.length)) (by rw [eh4, hs_ne (by omega)]; exact B.1) ?_
                  refine R_s 1 (123, [(7, vI (nI 1)), (6, vI (nI (ch i))), (5, vI (nI i)), (4, vI (nI dg)), (3, vI (nI v)), (0, vR 7 10), (1, vI (nI f)), (2, vI (nI e))], [vI (nI 1), vI (nI (ns.length)), vR 7 10], h4) rfl ?_
                  refine R_add (ns.length) 1 rfl ?_
                  refine R_s 1 (127, [(7, vI (nI 1)), (6, vI (nI (ch i))), (5, vI (nI i)), (4, vI (nI dg)), (3, vI (nI v)), (0, vR 7 10), (1, vI (nI f)), (2, vI (nI e))], [], (hset h4 7 10 3 (nI ((ns.length) + 1)))) rfl ?_
                  refine R_hp (fun h5 eh5 => ?_)
                  refine R_s 5 (135, [(5, vI (nI i + Int32.ofInt 1)), (4, vI (nI 0)), (3, vI (nI 0)), (7, vI (nI 1)), (6, vI (nI (ch i))), (0, vR 7 10), (1, vI (nI f)), (2, vI (nI e))], [], h5) rfl ?_
                  refine R_lv (lv' := [(5, vI (nI (i + 1))), (4, vI (nI 0)), (3, vI (nI 0)), (7, vI (nI 1)), (6, vI (nI (ch i))), (0, vR 7 10), (1, vI (nI f)), (2, vI (nI e))]) (by rw [show nI i + Int32.ofInt 1 = nI (i + 1) from nI_add _ _]) ?_
                  refine R_s 1 (13, [(5, vI (nI (i + 1))), (4, vI (nI 0)), (3, vI (nI 0)), (7, vI (nI 1)), (6, vI (nI (ch i))), (0, vR 7 10), (1, vI (nI f)), (2, vI (nI e))], [], h5) rfl ?_
                  refine R_fg (lv' := [(5, vI (nI (i + 1))), (4, vI (nI 0)), (3, vI (nI 0)), (0, vR 7 10), (1, vI (nI f)), (2, vI (nI e))]) [0, 1, 2, 5, 6, 7] rfl [5, 4, 3, 7, 6, 0, 1, 2] rfl (by decide) ?_
                  exact ih (i + 1) 0 0 (ns ++ [v]) _ (by omega) (by rw [hI, rn_sep (by omega) (by omega)]) (by rw [List.length_append, List.length_singleton]; omega) (by omega) (by rw [eh5, eh4]; exact B.push) (by rw [eh5, eh4]; exact F.push)
                · refine R_s 1 (106, [(7, vI (nI 1)), (6, vI (nI (ch i))), (5, vI (nI i)), (4, vI (nI dg)), (3, vI (nI v)), (0, vR 7 10), (1, vI (nI f)), (2, vI (nI e))], [vI (nI 0)], hh) rfl ?_
                  exact R_ret (some (vI (nI 0))) hh rfl ⟨ns, B, F, by rw [hI, rn_bad (by omega) (by omega)]⟩
      · refine R_s 3 (cond (if2 .gt (nI (ch i)) (nI 57)) 59 42, [(6, vI (nI (ch i))), (5, vI (nI i)), (4, vI (nI dg)), (3, vI (nI v)), (0, vR 7 10), (1, vI (nI f)), (2, vI (nI e))], [], hh) rfl ?_
        refine R_bp (57 < (ch i)) (i2_gt (by omega) (by omega)) (fun c3 => ?_) (fun c3 => ?_)
        · refine R_s 3 (cond (if2 .eq (nI (ch i)) (nI 44)) 73 66, [(6, vI (nI (ch i))), (5, vI (nI i)), (4, vI (nI dg)), (3, vI (nI v)), (0, vR 7 10), (1, vI (nI f)), (2, vI (nI e))], [], hh) rfl ?_
          refine R_bp ((ch i) = 44) (i2_eq (by omega) (by omega)) (fun c5 => ?_) (fun c5 => ?_)
          · refine R_s 5 (cond (if0 .eq (nI 1)) 105 85, [(7, vI (nI 1)), (6, vI (nI (ch i))), (5, vI (nI i)), (4, vI (nI dg)), (3, vI (nI v)), (0, vR 7 10), (1, vI (nI f)), (2, vI (nI e))], [], hh) rfl ?_
            refine R_bf (by decide) ?_
            refine R_s 3 (cond (if2 .lt (nI dg) (nI 1)) 105 91, [(7, vI (nI 1)), (6, vI (nI (ch i))), (5, vI (nI i)), (4, vI (nI dg)), (3, vI (nI v)), (0, vR 7 10), (1, vI (nI f)), (2, vI (nI e))], [], hh) rfl ?_
            refine R_bp (dg < 1) (i2_lt (by omega) (by omega)) (fun c7 => ?_) (fun c7 => ?_)
            · refine R_s 1 (106, [(7, vI (nI 1)), (6, vI (nI (ch i))), (5, vI (nI i)), (4, vI (nI dg)), (3, vI (nI v)), (0, vR 7 10), (1, vI (nI f)), (2, vI (nI e))], [vI (nI 0)], hh) rfl ?_
              exact R_ret (some (vI (nI 0))) hh rfl ⟨ns, B, F, by rw [hI, rn_bad (by omega) (by omega)]⟩
            · refine R_s 3 (cond (if2 .gt (nI dg) (nI 2)) 105 97, [(7, vI (nI 1)), (6, vI (nI (ch i))), (5, vI (nI i)), (4, vI (nI dg)), (3, vI (nI v)), (0, vR 7 10), (1, vI (nI f)), (2, vI (nI e))], [], hh) rfl ?_
              refine R_bp (2 < dg) (i2_gt (by omega) (by omega)) (fun c8 => ?_) (fun c8 => ?_)
              · refine R_s 1 (106, [(7, vI (nI 1)), (6, vI (nI (ch i))), (5, vI (nI i)), (4, vI (nI dg)), (3, vI (nI v)), (0, vR 7 10), (1, vI (nI f)), (2, vI (nI e))], [vI (nI 0)], hh) rfl ?_
                exact R_ret (some (vI (nI 0))) hh rfl ⟨ns, B, F, by rw [hI, rn_bad (by omega) (by omega)]⟩
              · refine R_s 2 (101, [(7, vI (nI 1)), (6, vI (nI (ch i))), (5, vI (nI i)), (4, vI (nI dg)), (3, vI (nI v)), (0, vR 7 10), (1, vI (nI f)), (2, vI (nI e))], [vI (hh 7 10 3)], hh) rfl ?_
                refine R_top (nI (ns.length)) B.1 ?_
                refine R_s 2 (cond (if2 .lt (nI (ns.length)) (nI 4)) 107 105, [(7, vI (nI 1)), (6, vI (nI (ch i))), (5, vI (nI i)), (4, vI (nI dg)), (3, vI (nI v)), (0, vR 7 10), (1, vI (nI f)), (2, vI (nI e))], [], hh) rfl ?_
                refine R_bp ((ns.length) < 4) (i2_lt (by omega) (by omega)) (fun c9 => ?_) (fun c9 => ?_)
                · refine R_s 4 (115, [(7, vI (nI 1)), (6, vI (nI (ch i))), (5, vI (nI i)), (4, vI (nI dg)), (3, vI (nI v)), (0, vR 7 10), (1, vI (nI f)), (2, vI (nI e))], [vI (hh 7 10 3), vR 7 12], hh) rfl ?_
                  refine R_top (nI (ns.length)) B.1 ?_
                  refine R_s 1 (116, [(7, vI (nI 1)), (6, vI (nI (ch i))), (5, vI (nI i)), (4, vI (nI dg)), (3, vI (nI v)), (0, vR 7 10), (1, vI (nI f)), (2, vI (nI e))], [vI (nI v), vI (nI (ns.length)), vR 7 12], hh) rfl ?_
                  refine R_st 7 12 (ns.length) 4 (nI v) rfl rfl c9 (by decide) (fun h6 eh6 => ?_)
                  refine R_s 3 (122, [(7, vI (nI 1)), (6, vI (nI (ch i))), (5, vI (nI i)), (4, vI (nI dg)), (3, vI (nI v)), (0, vR 7 10), (1, vI (nI f)), (2, vI (nI e))], [vI (h6 7 10 3), vR 7 10], h6) rfl ?_
                  refine R_top (nI (ns.length)) (by rw [eh6, hs_ne (by omega)]; exact B.1) ?_
                  refine R_s 1 (123, [(7, vI (nI 1)), (6, vI (nI (ch i))), (5, vI (nI i)), (4, vI (nI dg)), (3, vI (nI v)), (0, vR 7 10), (1, vI (nI f)), (2, vI (nI e))], [vI (nI 1), vI (nI (ns.length)), vR 7 10], h6) rfl ?_
                  refine R_add (ns.length) 1 rfl ?_
                  refine R_s 1 (127, [(7, vI (nI 1)), (6, vI (nI (ch i))), (5, vI (nI i)), (4, vI (nI dg)), (3, vI (nI v)), (0, vR 7 10), (1, vI (nI f)), (2, vI (nI e))], [], (hset h6 7 10 3 (nI ((ns.length) + 1)))) rfl ?_
                  refine R_hp (fun h7 eh7 => ?_)
                  refine R_s 5 (135, [(5, vI (nI i + Int32.ofInt 1)), (4, vI (nI 0)), (3, vI (nI 0)), (7, vI (nI 1)), (6, vI (nI (ch i))), (0, vR 7 10), (1, vI (nI f)), (2, vI (nI e))], [], h7) rfl ?_
                  refine R_lv (lv' := [(5, vI (nI (i + 1))), (4, vI (nI 0)), (3, vI (nI 0)), (7, vI (nI 1)), (6, vI (nI (ch i))), (0, vR 7 10), (1, vI (nI f)), (2, vI (nI e))]) (by rw [show nI i + Int32.ofInt 1 = nI (i + 1) from nI_add _ _]) ?_
                  refine R_s 1 (13, [(5, vI (nI (i + 1))), (4, vI (nI 0)), (3, vI (nI 0)), (7, vI (nI 1)), (6, vI (nI (ch i))), (0, vR 7 10), (1, vI (nI f)), (2, vI (nI e))], [], h7) rfl ?_
                  refine R_fg (lv' := [(5, vI (nI (i + 1))), (4, vI (nI 0)), (3, vI (nI 0)), (0, vR 7 10), (1, vI (nI f)), (2, vI (nI e))]) [0, 1, 2, 5, 6, 7] rfl [5, 4, 3, 7, 6, 0, 1, 2] rfl (by decide) ?_
                  exact ih (i + 1) 0 0 (ns ++ [v]) _ (by omega) (by rw [hI, rn_sep (by omega) (by omega)]) (by rw [List.length_append, List.length_singleton]; omega) (by omega) (by rw [eh7, eh6]; exact B.push) (by rw [eh7, eh6]; exact F.push)
                · refine R_s 1 (106, [(7, vI (nI 1)), (6, vI (nI (ch i))), (5, vI (nI i)), (4, vI (nI dg)), (3, vI (nI v)), (0, vR 7 10), (1, vI (nI f)), (2, vI (nI e))], [vI (nI 0)], hh) rfl ?_
                  exact R_ret (some (vI (nI 0))) hh rfl ⟨ns, B, F, by rw [hI, rn_bad (by omega) (by omega)]⟩
          · refine R_s 3 (cond (if2 .ne (nI (ch i)) (nI 59)) 77 73, [(6, vI (nI (ch i))), (5, vI (nI i)), (4, vI (nI dg)), (3, vI (nI v)), (0, vR 7 10), (1, vI (nI f)), (2, vI (nI e))], [], hh) rfl ?_
            refine R_bp (¬ (ch i) = 59) (i2_ne (by omega) (by omega)) (fun c6 => ?_) (fun c6 => ?_)
            · refine R_s 4 (cond (if0 .eq (nI 0)) 105 85, [(7, vI (nI 0)), (6, vI (nI (ch i))), (5, vI (nI i)), (4, vI (nI dg)), (3, vI (nI v)), (0, vR 7 10), (1, vI (nI f)), (2, vI (nI e))], [], hh) rfl ?_
              refine R_bt (by decide) ?_
              refine R_s 1 (106, [(7, vI (nI 0)), (6, vI (nI (ch i))), (5, vI (nI i)), (4, vI (nI dg)), (3, vI (nI v)), (0, vR 7 10), (1, vI (nI f)), (2, vI (nI e))], [vI (nI 0)], hh) rfl ?_
              exact R_ret (some (vI (nI 0))) hh rfl ⟨ns, B, F, by rw [hI, rn_bad (by omega) (by omega)]⟩
            · refine R_s 5 (cond (if0 .eq (nI 1)) 105 85, [(7, vI (nI 1)), (6, vI (nI (ch i))), (5, vI (nI i)), (4, vI (nI dg)), (3, vI (nI v)), (0, vR 7 10), (1, vI (nI f)), (2, vI (nI e))], [], hh) rfl ?_
              refine R_bf (by decide) ?_
              refine R_s 3 (cond (if2 .lt (nI dg) (nI 1)) 105 91, [(7, vI (nI 1)), (6, vI (nI (ch i))), (5, vI (nI i)), (4, vI (nI dg)), (3, vI (nI v)), (0, vR 7 10), (1, vI (nI f)), (2, vI (nI e))], [], hh) rfl ?_
              refine R_bp (dg < 1) (i2_lt (by omega) (by omega)) (fun c7 => ?_) (fun c7 => ?_)
              · refine R_s 1 (106, [(7, vI (nI 1)), (6, vI (nI (ch i))), (5, vI (nI i)), (4, vI (nI dg)), (3, vI (nI v)), (0, vR 7 10), (1, vI (nI f)), (2, vI (nI e))], [vI (nI 0)], hh) rfl ?_
                exact R_ret (some (vI (nI 0))) hh rfl ⟨ns, B, F, by rw [hI, rn_bad (by omega) (by omega)]⟩
              · refine R_s 3 (cond (if2 .gt (nI dg) (nI 2)) 105 97, [(7, vI (nI 1)), (6, vI (nI (ch i))), (5, vI (nI i)), (4, vI (nI dg)), (3, vI (nI v)), (0, vR 7 10), (1, vI (nI f)), (2, vI (nI e))], [], hh) rfl ?_
                refine R_bp (2 < dg) (i2_gt (by omega) (by omega)) (fun c8 => ?_) (fun c8 => ?_)
                · refine R_s 1 (106, [(7, vI (nI 1)), (6, vI (nI (ch i))), (5, vI (nI i)), (4, vI (nI dg)), (3, vI (nI v)), (0, vR 7 10), (1, vI (nI f)), (2, vI (nI e))], [vI (nI 0)], hh) rfl ?_
                  exact R_ret (some (vI (nI 0))) hh rfl ⟨ns, B, F, by rw [hI, rn_bad (by omega) (by omega)]⟩
                · refine R_s 2 (101, [(7, vI (nI 1)), (6, vI (nI (ch i))), (5, vI (nI i)), (4, vI (nI dg)), (3, vI (nI v)), (0, vR 7 10), (1, vI (nI f)), (2, vI (nI e))], [vI (hh 7 10 3)], hh) rfl ?_
                  refine R_top (nI (ns.length)) B.1 ?_
                  refine R_s 2 (cond (if2 .lt (nI (ns.length)) (nI 4)) 107 105, [(7, vI (nI 1)), (6, vI (nI (ch i))), (5, vI (nI i)), (4, vI (nI dg)), (3, vI (nI v)), (0, vR 7 10), (1, vI (nI f)), (2, vI (nI e))], [], hh) rfl ?_
                  refine R_bp ((ns.length) < 4) (i2_lt (by omega) (by omega)) (fun c9 => ?_) (fun c9 => ?_)
                  · refine R_s 4 (115, [(7, vI (nI 1)), (6, vI (nI (ch i))), (5, vI (nI i)), (4, vI (nI dg)), (3, vI (nI v)), (0, vR 7 10), (1, vI (nI f)), (2, vI (nI e))], [vI (hh 7 10 3), vR 7 12], hh) rfl ?_
                    refine R_top (nI (ns.length)) B.1 ?_
                    refine R_s 1 (116, [(7, vI (nI 1)), (6, vI (nI (ch i))), (5, vI (nI i)), (4, vI (nI dg)), (3, vI (nI v)), (0, vR 7 10), (1, vI (nI f)), (2, vI (nI e))], [vI (nI v), vI (nI (ns.length)), vR 7 12], hh) rfl ?_
                    refine R_st 7 12 (ns.length) 4 (nI v) rfl rfl c9 (by decide) (fun h8 eh8 => ?_)
                    refine R_s 3 (122, [(7, vI (nI 1)), (6, vI (nI (ch i))), (5, vI (nI i)), (4, vI (nI dg)), (3, vI (nI v)), (0, vR 7 10), (1, vI (nI f)), (2, vI (nI e))], [vI (h8 7 10 3), vR 7 10], h8) rfl ?_
                    refine R_top (nI (ns.length)) (by rw [eh8, hs_ne (by omega)]; exact B.1) ?_
                    refine R_s 1 (123, [(7, vI (nI 1)), (6, vI (nI (ch i))), (5, vI (nI i)), (4, vI (nI dg)), (3, vI (nI v)), (0, vR 7 10), (1, vI (nI f)), (2, vI (nI e))], [vI (nI 1), vI (nI (ns.length)), vR 7 10], h8) rfl ?_
                    refine R_add (ns.length) 1 rfl ?_
                    refine R_s 1 (127, [(7, vI (nI 1)), (6, vI (nI (ch i))), (5, vI (nI i)), (4, vI (nI dg)), (3, vI (nI v)), (0, vR 7 10), (1, vI (nI f)), (2, vI (nI e))], [], (hset h8 7 10 3 (nI ((ns.length) + 1)))) rfl ?_
                    refine R_hp (fun h9 eh9 => ?_)
                    refine R_s 5 (135, [(5, vI (nI i + Int32.ofInt 1)), (4, vI (nI 0)), (3, vI (nI 0)), (7, vI (nI 1)), (6, vI (nI (ch i))), (0, vR 7 10), (1, vI (nI f)), (2, vI (nI e))], [], h9) rfl ?_
                    refine R_lv (lv' := [(5, vI (nI (i + 1))), (4, vI (nI 0)), (3, vI (nI 0)), (7, vI (nI 1)), (6, vI (nI (ch i))), (0, vR 7 10), (1, vI (nI f)), (2, vI (nI e))]) (by rw [show nI i + Int32.ofInt 1 = nI (i + 1) from nI_add _ _]) ?_
                    refine R_s 1 (13, [(5, vI (nI (i + 1))), (4, vI (nI 0)), (3, vI (nI 0)), (7, vI (nI 1)), (6, vI (nI (ch i))), (0, vR 7 10), (1, vI (nI f)), (2, vI (nI e))], [], h9) rfl ?_
                    refine R_fg (lv' := [(5, vI (nI (i + 1))), (4, vI (nI 0)), (3, vI (nI 0)), (0, vR 7 10), (1, vI (nI f)), (2, vI (nI e))]) [0, 1, 2, 5, 6, 7] rfl [5, 4, 3, 7, 6, 0, 1, 2] rfl (by decide) ?_
                    exact ih (i + 1) 0 0 (ns ++ [v]) _ (by omega) (by rw [hI, rn_sep (by omega) (by omega)]) (by rw [List.length_append, List.length_singleton]; omega) (by omega) (by rw [eh9, eh8]; exact B.push) (by rw [eh9, eh8]; exact F.push)
                  · refine R_s 1 (106, [(7, vI (nI 1)), (6, vI (nI (ch i))), (5, vI (nI i)), (4, vI (nI dg)), (3, vI (nI v)), (0, vR 7 10), (1, vI (nI f)), (2, vI (nI e))], [vI (nI 0)], hh) rfl ?_
                    exact R_ret (some (vI (nI 0))) hh rfl ⟨ns, B, F, by rw [hI, rn_bad (by omega) (by omega)]⟩
        · refine R_s 2 (45, [(6, vI (nI (ch i))), (5, vI (nI i)), (4, vI (nI dg)), (3, vI (nI v)), (0, vR 7 10), (1, vI (nI f)), (2, vI (nI e))], [vI (nI 10), vI (nI v)], hh) rfl ?_
          refine R_mul v 10 rfl ?_
          refine R_s 2 (50, [(6, vI (nI (ch i))), (5, vI (nI i)), (4, vI (nI dg)), (3, vI (nI v)), (0, vR 7 10), (1, vI (nI f)), (2, vI (nI e))], [vI (nI 48), vI (nI (ch i)), vI (nI (v * 10))], hh) rfl ?_
          refine R_sub (ch i) 48 rfl (by omega) ?_
          refine R_add (v * 10) ((ch i) - 48) rfl ?_
          refine R_s 2 (56, [(4, vI (nI dg + Int32.ofInt 1)), (3, vI (nI ((v * 10) + ((ch i) - 48)))), (6, vI (nI (ch i))), (5, vI (nI i)), (0, vR 7 10), (1, vI (nI f)), (2, vI (nI e))], [], hh) rfl ?_
          refine R_lv (lv' := [(4, vI (nI (dg + 1))), (3, vI (nI ((v * 10) + ((ch i) - 48)))), (6, vI (nI (ch i))), (5, vI (nI i)), (0, vR 7 10), (1, vI (nI f)), (2, vI (nI e))]) (by rw [show nI dg + Int32.ofInt 1 = nI (dg + 1) from nI_add _ _]) ?_
          refine R_s 2 (135, [(5, vI (nI i + Int32.ofInt 1)), (4, vI (nI (dg + 1))), (3, vI (nI ((v * 10) + ((ch i) - 48)))), (6, vI (nI (ch i))), (0, vR 7 10), (1, vI (nI f)), (2, vI (nI e))], [], hh) rfl ?_
          refine R_lv (lv' := [(5, vI (nI (i + 1))), (4, vI (nI (dg + 1))), (3, vI (nI ((v * 10) + ((ch i) - 48)))), (6, vI (nI (ch i))), (0, vR 7 10), (1, vI (nI f)), (2, vI (nI e))]) (by rw [show nI i + Int32.ofInt 1 = nI (i + 1) from nI_add _ _]) ?_
          refine R_s 1 (13, [(5, vI (nI (i + 1))), (4, vI (nI (dg + 1))), (3, vI (nI ((v * 10) + ((ch i) - 48)))), (6, vI (nI (ch i))), (0, vR 7 10), (1, vI (nI f)), (2, vI (nI e))], [], hh) rfl ?_
          refine R_fg (lv' := [(5, vI (nI (i + 1))), (4, vI (nI (dg + 1))), (3, vI (nI ((v * 10) + ((ch i) - 48)))), (0, vR 7 10), (1, vI (nI f)), (2, vI (nI e))]) [0, 1, 2, 4, 5, 6] rfl [5, 4, 3, 6, 0, 1, 2] rfl (by decide) ?_
          exact ih (i + 1) (v * 10 + (ch i - 48)) (dg + 1) ns hh (by omega) (by rw [hI, rn_dig (by omega)]) hns (by omega) B F
theorem R_lk {d : Nat} {M : MR} {pc : Nat} {lv : List (Nat × AV)} {st : List AV} {h : HP} {Q : Option AV → HP → Prop} {x : Int32} {dflt : Int} {ps : Array (Int × Int)} {len : Nat} (off : Int) (t : Nat) (hs : lk (mI M) pc = some (.lookupswitch dflt ps, len)) (hp : (ps.toList.zip (ps.toList.drop 1)).all (fun (a, next) => a.1 < next.1) = true) (ho : Op.lookupswitch.offset ps.toList dflt x.toInt = off) (ht : tgo pc off = some t) (k : R d M (t, lv, st, h) Q) : R d M (pc, lv, vI x :: st, h) Q := by
  refine R_next (c' := (t, lv, st, h)) ?_ k
  unfold stp opt
  rw [hs]
  simp only [sti, hp, ho, ht]
  rfl
theorem nI_ne {a b : Nat} (ha : a < 2147483648) (hb : b < 2147483648) (h : ¬ a = b) : ¬ nI a = nI b := fun q => h ((nI_eq ha hb).mp q)
theorem lst1 {ns : List Nat} (h : ns.length = 1) : ∃ v, ns = [v] := by
  match ns, h with
  | [v], _ => exact ⟨v, rfl⟩
theorem lst2 {ns : List Nat} (h : ns.length = 2) : ∃ u v, ns = [u, v] := by
  match ns, h with
  | [u, v], _ => exact ⟨u, v, rfl⟩
theorem lst4 {ns : List Nat} (h : ns.length = 4) : ∃ a b e t, ns = [a, b, e, t] := by
  match ns, h with
  | [a, b, e, t], _ => exact ⟨a, b, e, t, rfl⟩
theorem apl_len1 {c : Nat} {ns : List Nat} {z : ST} (hc : c = 115 ∨ c = 112 ∨ c = 101) (h : ¬ ns.length = 1) : apl c ns z = none := by
  unfold apl
  split
  · exact absurd rfl h
  · rw [if_neg (by omega)]
  · rw [if_neg (by omega)]
  · rfl
theorem apl_len107 {ns : List Nat} {z : ST} (h : ¬ ns.length = 2) : apl 107 ns z = none := by
  unfold apl
  split
  · rw [if_neg (by decide), if_neg (by decide), if_neg (by decide)]
  · exact absurd rfl h
  · rw [if_neg (by omega)]
  · rfl
theorem apl_len117 {ns : List Nat} {z : ST} (h : ¬ ns.length = 4) : apl 117 ns z = none := by
  unfold apl
  split
  · rw [if_neg (by decide), if_neg (by decide), if_neg (by decide)]
  · rw [if_neg (by omega)]
  · exact absurd rfl h
  · rfl
theorem apl_no {c : Nat} {ns : List Nat} {z : ST} (h1 : ¬ c = 101) (h2 : ¬ c = 107) (h3 : ¬ c = 112) (h4 : ¬ c = 115) (h5 : ¬ c = 117) : apl c ns z = none := by
  unfold apl
  split
  · rw [if_neg h4, if_neg h3, if_neg h1]
  · rw [if_neg (by omega)]
  · rw [if_neg (by omega)]
  · rfl
set_option maxRecDepth 100000 in
theorem t_T_state {d c n p k : Nat} {h : HP} {s : Nat → Int32} {ns : List Nat} (hc : c ≤ 126) (B : NB h ns) (hns : ∀ x ∈ ns, x < 100) (hl4 : ns.length ≤ 4) (C : CO h 1 s n p k) (D : DW (s, n, p, k)) : MT (d + 3) mT_state [vR 7 10, vI (nI c), vR 1 0] h (fun r h' => match apl c ns (s, n, p, k) with
  | none => r = some (vI (nI 0)) ∧ h' = h
  | some z => r = some (vI (nI 1)) ∧ CO h' 1 z.1 z.2.1 z.2.2.1 z.2.2.2 ∧ FR 1 h h') := by
  obtain ⟨F, D1, P⟩ := D
  dsimp only at F D1 P
  have b8 := F.2.1.1
  have b5 := F.2.1.2.1
  have b6 := F.2.1.2.2
  have bg : ∀ j, j < ns.length → ns.getD j 0 < 100 := fun j hj => hns _ (by rw [List.getD_eq_getElem?_getD, List.getElem?_eq_getElem hj]; exact List.getElem_mem hj)
  refine R_s 1 (1, [(0, vR 7 10), (1, vI (nI c)), (2, vR 1 0)], [vI (nI c)], h) rfl ?_
  by_cases hc101 : c = 101
  · subst hc101
    refine R_s 1 (184, [(0, vR 7 10), (1, vI (nI 101)), (2, vR 1 0)], [], h) rfl ?_
    refine R_s 2 (188, [(0, vR 7 10), (1, vI (nI 101)), (2, vR 1 0)], [vI (h 7 10 3)], h) rfl ?_
    refine R_top (nI (ns.length)) B.1 ?_
    refine R_s 2 (cond (if2 .ne (nI (ns.length)) (nI 1)) 209 192, [(0, vR 7 10), (1, vI (nI 101)), (2, vR 1 0)], [], h) rfl ?_
    refine R_bp (¬ (ns.length) = 1) (i2_ne (by omega) (by omega)) (fun c1 => ?_) (fun c1 => ?_)
    · refine R_s 1 (210, [(0, vR 7 10), (1, vI (nI 101)), (2, vR 1 0)], [vI (nI 0)], h) rfl ?_
      exact R_ret (some (vI (nI 0))) h rfl (show match apl 101 ns (s, n, p, k) with
      | none => _
      | some z => _ from by
        rw [show apl 101 ns (s, n, p, k) = none from apl_len1 (by decide) (fun q => c1 q)]
        exact ⟨rfl, rfl⟩)
    · obtain ⟨v, rfl⟩ : ∃ v, ns = [v] := lst1 (Classical.not_not.mp c1)
      have g0 : v < 100 := hns v (by simp)
      obtain ⟨e, e1, e2⟩ := F.2.2.1
      have he8 : e < 256 := Nat.lt_of_lt_of_le e2 (pw_le b8)
      have he : (s 9).toNatClampNeg = e := by rw [e1, nI_cl (by omega)]
      refine R_s 4 (198, [(0, vR 7 10), (1, vI (nI 101)), (2, vR 1 0)], [vI (nI 0), vR 7 12, vR 1 0], h) rfl ?_
      refine R_ld 7 12 0 4 rfl rfl (by omega) (by decide) ?_
      refine R_top (nI v) (B.2 0 (by simp)) ?_
      by_cases q : v < n
      · refine R_calli mC_addEncore [vR 1 0, vI (nI v)] [] (nI 1) (hset h 1 0 3 (nI (e ||| 2 ^ v))) rfl (t_C_addEncore_t C.1.1 b8 (C.1.2.2.2.trans e1) he8 (by omega) q) ?_
        refine R_hp (fun h1 eh1 => ?_)
        refine R_s 1 (cond (if0 .eq (nI 1)) 209 205, [(0, vR 7 10), (1, vI (nI 101)), (2, vR 1 0)], [], h1) rfl ?_
        refine R_bf rfl ?_
        refine R_s 2 (210, [(0, vR 7 10), (1, vI (nI 101)), (2, vR 1 0)], [vI (nI 1)], h1) rfl ?_
        exact R_ret (some (vI (nI 1))) h1 rfl (by
      rw [show apl 101 [v] (s, n, p, k) = some (upd s 9 (nI (e ||| 2 ^ v)), n, p, k) by rw [apl_e, if_pos q, he]]
      refine ⟨rfl, ?_, ?_⟩
      · rw [eh1]; exact co_enc b8 b5 b6 C
      · rw [eh1]; exact FR.rf.set)
      · refine R_calli mC_addEncore [vR 1 0, vI (nI v)] [] (nI 0) h rfl (t_C_addEncore_f C.1.1 b8 (C.1.2.2.2.trans e1) he8 (by omega) (by omega)) ?_
        refine R_s 1 (cond (if0 .eq (nI 0)) 209 205, [(0, vR 7 10), (1, vI (nI 101)), (2, vR 1 0)], [], h) rfl ?_
        refine R_bt rfl ?_
        refine R_s 1 (210, [(0, vR 7 10), (1, vI (nI 101)), (2, vR 1 0)], [vI (nI 0)], h) rfl ?_
        exact R_ret (some (vI (nI 0))) h rfl (by
      rw [show apl 101 [v] (s, n, p, k) = none by rw [apl_e, if_neg q]]
      exact ⟨rfl, rfl⟩)
  by_cases hc107 : c = 107
  · subst hc107
    refine R_s 1 (106, [(0, vR 7 10), (1, vI (nI 107)), (2, vR 1 0)], [], h) rfl ?_
    refine R_s 2 (110, [(0, vR 7 10), (1, vI (nI 107)), (2, vR 1 0)], [vI (h 7 10 3)], h) rfl ?_
    refine R_top (nI (ns.length)) B.1 ?_
    refine R_s 2 (cond (if2 .ne (nI (ns.length)) (nI 2)) 137 114, [(0, vR 7 10), (1, vI (nI 107)), (2, vR 1 0)], [], h) rfl ?_
    refine R_bp (¬ (ns.length) = 2) (i2_ne (by omega) (by omega)) (fun c1 => ?_) (fun c1 => ?_)
    · refine R_s 1 (138, [(0, vR 7 10), (1, vI (nI 107)), (2, vR 1 0)], [vI (nI 0)], h) rfl ?_
      exact R_ret (some (vI (nI 0))) h rfl (show match apl 107 ns (s, n, p, k) with
      | none => _
      | some z => _ from by
        rw [show apl 107 ns (s, n, p, k) = none from apl_len107 (fun q => c1 q)]
        exact ⟨rfl, rfl⟩)
    · obtain ⟨u, v, rfl⟩ : ∃ u v, ns = [u, v] := lst2 (Classical.not_not.mp c1)
      have g0 : u < 100 := hns u (by simp)
      have g1 : v < 100 := hns v (by simp)
      refine R_s 4 (120, [(0, vR 7 10), (1, vI (nI 107)), (2, vR 1 0)], [vI (nI 0), vR 7 12, vR 1 0], h) rfl ?_
      refine R_ld 7 12 0 4 rfl rfl (by omega) (by decide) ?_
      refine R_top (nI u) (B.2 0 (by simp)) ?_
      refine R_s 3 (126, [(0, vR 7 10), (1, vI (nI 107)), (2, vR 1 0)], [vI (nI 1), vR 7 12, vI (nI u), vR 1 0], h) rfl ?_
      refine R_ld 7 12 1 4 rfl rfl (by omega) (by decide) ?_
      refine R_top (nI v) (B.2 1 (by simp)) ?_
      by_cases q : k < 6 ∧ 1 ≤ u ∧ u ≤ 5 ∧ v ≤ 1
      · refine R_calli mC_addKind [vR 1 0, vI (nI u), vI (nI v)] [] (nI 1) (hset (hset (hset h 1 3 k (nI u)) 1 4 k (nI v)) 1 0 2 (nI (k + 1))) rfl (t_C_addKind_t C.1.2.2.1 b6 (by omega) (by omega) q.1 q.2.1 q.2.2.1 q.2.2.2) ?_
        refine R_hp (fun h2 eh2 => ?_)
        refine R_s 1 (cond (if0 .eq (nI 1)) 137 133, [(0, vR 7 10), (1, vI (nI 107)), (2, vR 1 0)], [], h2) rfl ?_
        refine R_bf rfl ?_
        refine R_s 2 (138, [(0, vR 7 10), (1, vI (nI 107)), (2, vR 1 0)], [vI (nI 1)], h2) rfl ?_
        exact R_ret (some (vI (nI 1))) h2 rfl (by
      rw [show apl 107 [u, v] (s, n, p, k) = some (upd (upd (upd s (33 + k) (nI u)) (39 + k) (nI v)) 32 (nI (k + 1)), n, p, k + 1) by rw [apl_k, if_pos ⟨rfl, q⟩]]
      refine ⟨rfl, ?_, ?_⟩
      · rw [eh2]; exact co_kind b8 b5 b6 q.1 C
      · rw [eh2]; exact FR.rf.set.set.set)
      · refine R_calli mC_addKind [vR 1 0, vI (nI u), vI (nI v)] [] (nI 0) h rfl (t_C_addKind_f C.1.2.2.1 b6 (by omega) (by omega) (by omega)) ?_
        refine R_s 1 (cond (if0 .eq (nI 0)) 137 133, [(0, vR 7 10), (1, vI (nI 107)), (2, vR 1 0)], [], h) rfl ?_
        refine R_bt rfl ?_
        refine R_s 1 (138, [(0, vR 7 10), (1, vI (nI 107)), (2, vR 1 0)], [vI (nI 0)], h) rfl ?_
        exact R_ret (some (vI (nI 0))) h rfl (by
      rw [show apl 107 [u, v] (s, n, p, k) = none by rw [apl_k, if_neg (fun z => q z.2)]]
      exact ⟨rfl, rfl⟩)
  by_cases hc112 : c = 112
  · subst hc112
    refine R_s 1 (79, [(0, vR 7 10), (1, vI (nI 112)), (2, vR 1 0)], [], h) rfl ?_
    refine R_s 2 (83, [(0, vR 7 10), (1, vI (nI 112)), (2, vR 1 0)], [vI (h 7 10 3)], h) rfl ?_
    refine R_top (nI (ns.length)) B.1 ?_
    refine R_s 2 (cond (if2 .ne (nI (ns.length)) (nI 1)) 104 87, [(0, vR 7 10), (1, vI (nI 112)), (2, vR 1 0)], [], h) rfl ?_
    refine R_bp (¬ (ns.length) = 1) (i2_ne (by omega) (by omega)) (fun c1 => ?_) (fun c1 => ?_)
    · refine R_s 1 (105, [(0, vR 7 10), (1, vI (nI 112)), (2, vR 1 0)], [vI (nI 0)], h) rfl ?_
      exact R_ret (some (vI (nI 0))) h rfl (show match apl 112 ns (s, n, p, k) with
      | none => _
      | some z => _ from by
        rw [show apl 112 ns (s, n, p, k) = none from apl_len1 (by decide) (fun q => c1 q)]
        exact ⟨rfl, rfl⟩)
    · obtain ⟨v, rfl⟩ : ∃ v, ns = [v] := lst1 (Classical.not_not.mp c1)
      have g0 : v < 100 := hns v (by simp)
      refine R_s 4 (93, [(0, vR 7 10), (1, vI (nI 112)), (2, vR 1 0)], [vI (nI 0), vR 7 12, vR 1 0], h) rfl ?_
      refine R_ld 7 12 0 4 rfl rfl (by omega) (by decide) ?_
      refine R_top (nI v) (B.2 0 (by simp)) ?_
      by_cases q : p < 5 ∧ v ≤ 1
      · refine R_calli mC_addPlayer [vR 1 0, vI (nI v)] [] (nI 1) (hset (hset h 1 2 p (nI v)) 1 0 1 (nI (p + 1))) rfl (t_C_addPlayer_t C.1.2.1 b5 (by omega) q.1 q.2) ?_
        refine R_hp (fun h3 eh3 => ?_)
        refine R_s 1 (cond (if0 .eq (nI 1)) 104 100, [(0, vR 7 10), (1, vI (nI 112)), (2, vR 1 0)], [], h3) rfl ?_
        refine R_bf rfl ?_
        refine R_s 2 (105, [(0, vR 7 10), (1, vI (nI 112)), (2, vR 1 0)], [vI (nI 1)], h3) rfl ?_
        exact R_ret (some (vI (nI 1))) h3 rfl (by
      rw [show apl 112 [v] (s, n, p, k) = some (upd (upd s (27 + p) (nI v)) 26 (nI (p + 1)), n, p + 1, k) by rw [apl_p, if_pos q]]
      refine ⟨rfl, ?_, ?_⟩
      · rw [eh3]; exact co_player b8 b5 b6 q.1 C
      · rw [eh3]; exact FR.rf.set.set)
      · refine R_calli mC_addPlayer [vR 1 0, vI (nI v)] [] (nI 0) h rfl (t_C_addPlayer_f C.1.2.1 b5 (by omega) (by omega)) ?_
        refine R_s 1 (cond (if0 .eq (nI 0)) 104 100, [(0, vR 7 10), (1, vI (nI 112)), (2, vR 1 0)], [], h) rfl ?_
        refine R_bt rfl ?_
        refine R_s 1 (105, [(0, vR 7 10), (1, vI (nI 112)), (2, vR 1 0)], [vI (nI 0)], h) rfl ?_
        exact R_ret (some (vI (nI 0))) h rfl (by
      rw [show apl 112 [v] (s, n, p, k) = none by rw [apl_p, if_neg q]]
      exact ⟨rfl, rfl⟩)
  by_cases hc115 : c = 115
  · subst hc115
    refine R_s 1 (52, [(0, vR 7 10), (1, vI (nI 115)), (2, vR 1 0)], [], h) rfl ?_
    refine R_s 2 (56, [(0, vR 7 10), (1, vI (nI 115)), (2, vR 1 0)], [vI (h 7 10 3)], h) rfl ?_
    refine R_top (nI (ns.length)) B.1 ?_
    refine R_s 2 (cond (if2 .ne (nI (ns.length)) (nI 1)) 77 60, [(0, vR 7 10), (1, vI (nI 115)), (2, vR 1 0)], [], h) rfl ?_
    refine R_bp (¬ (ns.length) = 1) (i2_ne (by omega) (by omega)) (fun c1 => ?_) (fun c1 => ?_)
    · refine R_s 1 (78, [(0, vR 7 10), (1, vI (nI 115)), (2, vR 1 0)], [vI (nI 0)], h) rfl ?_
      exact R_ret (some (vI (nI 0))) h rfl (show match apl 115 ns (s, n, p, k) with
      | none => _
      | some z => _ from by
        rw [show apl 115 ns (s, n, p, k) = none from apl_len1 (by decide) (fun q => c1 q)]
        exact ⟨rfl, rfl⟩)
    · obtain ⟨v, rfl⟩ : ∃ v, ns = [v] := lst1 (Classical.not_not.mp c1)
      have g0 : v < 100 := hns v (by simp)
      refine R_s 4 (66, [(0, vR 7 10), (1, vI (nI 115)), (2, vR 1 0)], [vI (nI 0), vR 7 12, vR 1 0], h) rfl ?_
      refine R_ld 7 12 0 4 rfl rfl (by omega) (by decide) ?_
      refine R_top (nI v) (B.2 0 (by simp)) ?_
      by_cases q : n < 8 ∧ 1 ≤ v ∧ v ≤ 20
      · refine R_calli mC_addSong [vR 1 0, vI (nI v)] [] (nI 1) (hset (hset h 1 1 n (nI v)) 1 0 0 (nI (n + 1))) rfl (t_C_addSong_t C.1.1 b8 (by omega) q.1 q.2.1 q.2.2) ?_
        refine R_hp (fun h4 eh4 => ?_)
        refine R_s 1 (cond (if0 .eq (nI 1)) 77 73, [(0, vR 7 10), (1, vI (nI 115)), (2, vR 1 0)], [], h4) rfl ?_
        refine R_bf rfl ?_
        refine R_s 2 (78, [(0, vR 7 10), (1, vI (nI 115)), (2, vR 1 0)], [vI (nI 1)], h4) rfl ?_
        exact R_ret (some (vI (nI 1))) h4 rfl (by
      rw [show apl 115 [v] (s, n, p, k) = some (upd (upd s (1 + n) (nI v)) 0 (nI (n + 1)), n + 1, p, k) by rw [apl_s, if_pos q]]
      refine ⟨rfl, ?_, ?_⟩
      · rw [eh4]; exact co_song b8 b5 b6 q.1 C
      · rw [eh4]; exact FR.rf.set.set)
      · refine R_calli mC_addSong [vR 1 0, vI (nI v)] [] (nI 0) h rfl (t_C_addSong_f C.1.1 b8 (by omega) (by omega)) ?_
        refine R_s 1 (cond (if0 .eq (nI 0)) 77 73, [(0, vR 7 10), (1, vI (nI 115)), (2, vR 1 0)], [], h) rfl ?_
        refine R_bt rfl ?_
        refine R_s 1 (78, [(0, vR 7 10), (1, vI (nI 115)), (2, vR 1 0)], [vI (nI 0)], h) rfl ?_
        exact R_ret (some (vI (nI 0))) h rfl (by
      rw [show apl 115 [v] (s, n, p, k) = none by rw [apl_s, if_neg q]]
      exact ⟨rfl, rfl⟩)
  by_cases hc117 : c = 117
  · subst hc117
    refine R_s 1 (139, [(0, vR 7 10), (1, vI (nI 117)), (2, vR 1 0)], [], h) rfl ?_
    refine R_s 2 (143, [(0, vR 7 10), (1, vI (nI 117)), (2, vR 1 0)], [vI (h 7 10 3)], h) rfl ?_
    refine R_top (nI (ns.length)) B.1 ?_
    refine R_s 2 (cond (if2 .ne (nI (ns.length)) (nI 4)) 182 147, [(0, vR 7 10), (1, vI (nI 117)), (2, vR 1 0)], [], h) rfl ?_
    refine R_bp (¬ (ns.length) = 4) (i2_ne (by omega) (by omega)) (fun c1 => ?_) (fun c1 => ?_)
    · refine R_s 1 (183, [(0, vR 7 10), (1, vI (nI 117)), (2, vR 1 0)], [vI (nI 0)], h) rfl ?_
      exact R_ret (some (vI (nI 0))) h rfl (show match apl 117 ns (s, n, p, k) with
      | none => _
      | some z => _ from by
        rw [show apl 117 ns (s, n, p, k) = none from apl_len117 (fun q => c1 q)]
        exact ⟨rfl, rfl⟩)
    · obtain ⟨a, b, e, t, rfl⟩ : ∃ a b e t, ns = [a, b, e, t] := lst4 (Classical.not_not.mp c1)
      have g0 : a < 100 := hns a (by simp)
      have g1 : b < 100 := hns b (by simp)
      have g2 : e < 100 := hns e (by simp)
      have g3 : t < 100 := hns t (by simp)
      refine R_s 4 (153, [(0, vR 7 10), (1, vI (nI 117)), (2, vR 1 0)], [vI (nI 0), vR 7 12, vR 1 0], h) rfl ?_
      refine R_ld 7 12 0 4 rfl rfl (by omega) (by decide) ?_
      refine R_top (nI a) (B.2 0 (by simp)) ?_
      refine R_s 3 (159, [(0, vR 7 10), (1, vI (nI 117)), (2, vR 1 0)], [vI (nI 1), vR 7 12, vI (nI a), vR 1 0], h) rfl ?_
      refine R_ld 7 12 1 4 rfl rfl (by omega) (by decide) ?_
      refine R_top (nI b) (B.2 1 (by simp)) ?_
      refine R_s 3 (165, [(0, vR 7 10), (1, vI (nI 117)), (2, vR 1 0)], [vI (nI 2), vR 7 12, vI (nI b), vI (nI a), vR 1 0], h) rfl ?_
      refine R_ld 7 12 2 4 rfl rfl (by omega) (by decide) ?_
      refine R_top (nI e) (B.2 2 (by simp)) ?_
      refine R_s 3 (171, [(0, vR 7 10), (1, vI (nI 117)), (2, vR 1 0)], [vI (nI 3), vR 7 12, vI (nI e), vI (nI b), vI (nI a), vR 1 0], h) rfl ?_
      refine R_ld 7 12 3 4 rfl rfl (by omega) (by decide) ?_
      refine R_top (nI t) (B.2 3 (by simp)) ?_
      by_cases q : a < n ∧ b < p ∧ e < k ∧ t ≤ 5
      · obtain ⟨q1, q2, q3, q4⟩ := q
        obtain ⟨u, hu, hu6⟩ := F.2.2.2.2.1 e q3
        have hmp := may_part F q1 q2 q3 hu hu6
        have hun : (s (33 + e)).toNatClampNeg = u := by rw [hu, nI_cl (by omega)]
        by_cases q5 : oth s a (nI e) b p < u
        · refine R_calli mC_addPart [vR 1 0, vI (nI a), vI (nI b), vI (nI e), vI (nI t)] [] (nI 1) (hset (hset h 1 5 (a * 5 + b) (nI e)) 1 6 (a * 5 + b) (nI t)) rfl (t_C_addPart_t C F (by omega) (by omega) (by omega) (by omega) q1 q2 q3 q4 hu hu6 (hmp.mpr q5)) ?_
          refine R_hp (fun h5 eh5 => ?_)
          refine R_s 1 (cond (if0 .eq (nI 1)) 182 178, [(0, vR 7 10), (1, vI (nI 117)), (2, vR 1 0)], [], h5) rfl ?_
          refine R_bf rfl ?_
          refine R_s 2 (183, [(0, vR 7 10), (1, vI (nI 117)), (2, vR 1 0)], [vI (nI 1)], h5) rfl ?_
          exact R_ret (some (vI (nI 1))) h5 rfl (by
        rw [show apl 117 [a, b, e, t] (s, n, p, k) = some (upd (upd s (45 + 2 * (a * 5 + b)) (nI e)) (46 + 2 * (a * 5 + b)) (nI t), n, p, k) by rw [apl_u, if_pos ⟨rfl, q1, q2, q3, q4, by rw [hun]; exact q5⟩]]
        refine ⟨rfl, ?_, ?_⟩
        · rw [eh5]; exact co_part b8 b5 b6 (by omega) C
        · rw [eh5]; exact FR.rf.set.set)
        · refine R_calli mC_addPart [vR 1 0, vI (nI a), vI (nI b), vI (nI e), vI (nI t)] [] (nI 0) h rfl (t_C_addPart_u C F (by omega) (by omega) (by omega) (by omega) q1 q2 q3 q4 hu hu6 (fun z => q5 (hmp.mp z))) ?_
          refine R_s 1 (cond (if0 .eq (nI 0)) 182 178, [(0, vR 7 10), (1, vI (nI 117)), (2, vR 1 0)], [], h) rfl ?_
          refine R_bt rfl ?_
          refine R_s 1 (183, [(0, vR 7 10), (1, vI (nI 117)), (2, vR 1 0)], [vI (nI 0)], h) rfl ?_
          exact R_ret (some (vI (nI 0))) h rfl (by
        rw [show apl 117 [a, b, e, t] (s, n, p, k) = none by rw [apl_u, if_neg (fun z => q5 (by have := z.2.2.2.2.2; rw [hun] at this; exact this))]]
        exact ⟨rfl, rfl⟩)
      · refine R_calli mC_addPart [vR 1 0, vI (nI a), vI (nI b), vI (nI e), vI (nI t)] [] (nI 0) h rfl (t_C_addPart_f C F (by omega) (by omega) (by omega) (by omega) q) ?_
        refine R_s 1 (cond (if0 .eq (nI 0)) 182 178, [(0, vR 7 10), (1, vI (nI 117)), (2, vR 1 0)], [], h) rfl ?_
        refine R_bt rfl ?_
        refine R_s 1 (183, [(0, vR 7 10), (1, vI (nI 117)), (2, vR 1 0)], [vI (nI 0)], h) rfl ?_
        exact R_ret (some (vI (nI 0))) h rfl (by
      rw [show apl 117 [a, b, e, t] (s, n, p, k) = none by rw [apl_u, if_neg (fun z => q ⟨z.2.1, z.2.2.1, z.2.2.2.1, z.2.2.2.2.1⟩)]]
      exact ⟨rfl, rfl⟩)
  refine R_lk 210 211 (len := 51) rfl (by decide) (by
    rw [show (#[(101, 183), (107, 105), (112, 78), (115, 51), (117, 138)] : Array (Int × Int)).toList = [(101, 183), (107, 105), (112, 78), (115, 51), (117, 138)] from rfl, lv_osw (k := nI 101) (nI_ne (by omega) (by decide) hc101) (by decide), lv_osw (k := nI 107) (nI_ne (by omega) (by decide) hc107) (by decide), lv_osw (k := nI 112) (nI_ne (by omega) (by decide) hc112) (by decide), lv_osw (k := nI 115) (nI_ne (by omega) (by decide) hc115) (by decide), lv_osw (k := nI 117) (nI_ne (by omega) (by decide) hc117) (by decide)]; rfl) rfl ?_
  refine R_s 1 (212, [(0, vR 7 10), (1, vI (nI c)), (2, vR 1 0)], [vI (nI 0)], h) rfl ?_
  exact R_ret (some (vI (nI 0))) h rfl (by rw [apl_no hc101 hc107 hc112 hc115 hc117]; exact ⟨rfl, rfl⟩)
