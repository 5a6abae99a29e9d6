/-! the reference reads -/
def FS (h h' : HP) : Prop := (∀ g' j', ¬ (g' = 8 ∧ j' = 20) → h' g' j' = h g' j') ∧ ∀ x, ¬ (x = 6 ∨ x = 7) → h' 8 20 x = h 8 20 x
theorem FS.rf {h : HP} : FS h h := ⟨fun _ _ _ => rfl, fun _ _ => rfl⟩
theorem FS.tr {h h1 h2 : HP} (a : FS h h1) (b : FS h1 h2) : FS h h2 := ⟨fun g' j' e => (b.1 g' j' e).trans (a.1 g' j' e), fun x e => (b.2 x e).trans (a.2 x e)⟩
theorem FS.set {h h1 : HP} {k : Nat} {x : Int32} (a : FS h h1) (hk : k = 6 ∨ k = 7) : FS h (hset h1 8 20 k x) := ⟨fun g' j' e => (hs_ne e).trans (a.1 g' j' e), fun y e => by rw [hs_same, up_ne (by omega)]; exact a.2 y e⟩
theorem TXM.fs {h h' : HP} {ch : Nat → Nat} {len : Nat} (T : TXM h ch len) (a : FS h h') : TXM h' ch len := ⟨by rw [a.2 5 (by omega)]; exact T.1, T.2.1, fun j hj => by rw [a.1 8 24 (by omega)]; exact T.2.2 j hj⟩
theorem MS.fs {c : Nat} {h h' : HP} {s : Nat → Int32} (M : MS c h s) (hc : ¬ c = 20) (a : FS h h') : MS c h' s := fun i hi => by rw [a.1 8 c (by omega)]; exact M i hi
/-- and the reading's row may have changed -/
def FD (h h' : HP) : Prop := (∀ g' j', ¬ (g' = 8 ∧ (j' = 20 ∨ j' = 22)) → h' g' j' = h g' j') ∧ ∀ x, ¬ (x = 6 ∨ x = 7) → h' 8 20 x = h 8 20 x
theorem FD.rf {h : HP} : FD h h := ⟨fun _ _ _ => rfl, fun _ _ => rfl⟩
theorem FD.tr {h h1 h2 : HP} (a : FD h h1) (b : FD h1 h2) : FD h h2 := ⟨fun g' j' e => (b.1 g' j' e).trans (a.1 g' j' e), fun x e => (b.2 x e).trans (a.2 x e)⟩
theorem FS.fd {h h' : HP} (a : FS h h') : FD h h' := ⟨fun g' j' e => a.1 g' j' (by omega), a.2⟩
theorem FD.r {h h1 : HP} {k : Nat} {x : Int32} (a : FD h h1) : FD h (hset h1 8 22 k x) := ⟨fun g' j' e => by rw [hs_ne (by omega)]; exact a.1 g' j' e, fun y e => by rw [hs_ne (by omega)]; exact a.2 y e⟩
theorem FD.o {h h1 : HP} {k : Nat} {x : Int32} (a : FD h h1) (hk : k = 6 ∨ k = 7) : FD h (hset h1 8 20 k x) := ⟨fun g' j' e => by rw [hs_ne (by omega)]; exact a.1 g' j' e, fun y e => by rw [hs_same, up_ne (by omega)]; exact a.2 y e⟩
theorem TXM.fd {h h' : HP} {ch : Nat → Nat} {len : Nat} (T : TXM h ch len) (a : FD h h') : TXM h' ch len := ⟨by rw [a.2 5 (by omega)]; exact T.1, T.2.1, fun j hj => by rw [a.1 8 24 (by omega)]; exact T.2.2 j hj⟩
theorem hr_le {h : HP} {ch : Nat → Nat} {len i : Nat} (T : TXM h ch len) : hr ch len i ≤ 126 := by
  unfold hr
  by_cases q : i < len
  · rw [if_pos q]; exact (T.2.2 i q).2.2
  · rw [if_neg q]; omega
theorem in_nn {a b c : Nat} (ha : a < 1000) (hb : b < 1000) (hc : c < 1000) : (decide ((nI a).toInt64 ≤ (nI c).toInt64) && decide ((nI c).toInt64 ≤ (nI b).toInt64)) = (decide (a ≤ c) && decide (c ≤ b)) := by
  rw [w_in]
  congr 1
  · exact decide_eq_decide.mpr (nI_leI (by omega) (by omega))
  · exact decide_eq_decide.mpr (nI_leI (by omega) (by omega))
theorem in_dig {c : Nat} (hc : c < 1000) : (decide ((48 : Int64) ≤ (nI c).toInt64) && decide ((nI c).toInt64 ≤ 57)) = decide (isD c) := by
  rw [show (48 : Int64) = (nI 48).toInt64 by decide, show (57 : Int64) = (nI 57).toInt64 by decide, in_nn (by decide) (by decide) hc, ← Bool.decide_and]
set_option maxRecDepth 100000 in
theorem t_M_here {d i len : Nat} {h : HP} {ch : Nat → Nat} (T : TXM h ch len) (hi : h 8 20 6 = nI i) (h1 : i < 1000) : MT d mM_here [vR 8 20] h (fun r h' => r = some (vI (nI (hr ch len i))) ∧ h' = h) := by
  have hlen := T.2.1
  refine R_s 2 (4, [(0, vR 8 20)], [vI (h 8 20 6)], h) rfl ?_
  refine R_top (nI i) hi ?_
  refine R_s 2 (8, [(0, vR 8 20)], [vI (h 8 20 5), vI (nI i)], h) rfl ?_
  refine R_top (nI len) T.1 ?_
  refine R_s 1 (cond (if2 .ge (nI i) (nI len)) 23 11, [(0, vR 8 20)], [], h) rfl ?_
  refine R_bp (len ≤ i) (i2_ge (by omega) (by omega)) (fun c1 => ?_) (fun c1 => ?_)
  · refine R_s 1 (24, [(0, vR 8 20)], [vI (nI 0)], h) rfl ?_
    exact R_ret (some (vI (nI 0))) h rfl ⟨by unfold hr; rw [if_neg (by omega)], rfl⟩
  · refine R_s 4 (19, [(0, vR 8 20)], [vI (h 8 20 6), vR 8 24], h) rfl ?_
    refine R_top (nI i) hi ?_
    refine R_ld 8 24 i 300 rfl rfl (by omega) (by decide) ?_
    refine R_top (nI (ch i)) (T.2.2 i (by omega)).1 ?_
    refine R_s 1 (24, [(0, vR 8 20)], [vI (nI (ch i))], h) rfl ?_
    exact R_ret (some (vI (nI (ch i)))) h rfl ⟨by unfold hr; rw [if_pos (by omega)], rfl⟩
set_option maxRecDepth 100000 in
theorem t_M_isNumber {d i len lo hi b : Nat} {h : HP} {ch : Nat → Nat} {hx : Int32} (T : TXM h ch len) (hi6 : h 8 20 6 = nI i) (hi9 : i < 900) (hl : lo < 1000) (hb : b < 1000) (hh : ∀ v, v < 100 → (nI v ≤ hx ↔ v < hi)) : MT (d + 1) mM_isNumber [vR 8 20, vI (nI lo), vI hx, vI (nI b)] h (fun r h' => r = some (vI (bI (isn ch len i lo hi b))) ∧ FS h h' ∧ h' 8 20 6 = nI (nxp ch len i) ∧ h' 8 20 7 = nI (nm ch len i).1) := by
  have hlen := T.2.1
  have hr0 : ∀ j, hr ch len j ≤ 126 := fun j => hr_le T
  refine R_s 3 (5, [(0, vR 8 20), (1, vI (nI lo)), (2, vI hx), (3, vI (nI b))], [], (hset h 8 20 7 (nI 0))) rfl ?_
  refine R_hp (fun h1 eh1 => ?_)
  refine R_s 2 (8, [(4, vI (nI 0)), (0, vR 8 20), (1, vI (nI lo)), (2, vI hx), (3, vI (nI b))], [], h1) rfl ?_
  have X0 : FS h h1 := by rw [eh1]; exact FS.rf.set (Or.inr rfl)
  have p0 : h1 8 20 6 = nI i := by rw [eh1, hs_same, up_ne (by omega)]; exact hi6
  have q0 : h1 8 20 7 = nI 0 := by rw [eh1, hs_same, up_same]
  have g0 := hr0 i
  refine R_s 1 (9, [(4, vI (nI 0)), (0, vR 8 20), (1, vI (nI lo)), (2, vI hx), (3, vI (nI b))], [vR 8 20], h1) rfl ?_
  refine R_calli mM_here [vR 8 20] [] (nI (hr ch len i)) h1 rfl (t_M_here (T.fs X0) p0 (by omega)) ?_
  refine R_s 3 (19, [(4, vI (nI 0)), (0, vR 8 20), (1, vI (nI lo)), (2, vI hx), (3, vI (nI b))], [vL 57, vL 48, vL ((nI (hr ch len i)).toInt64)], h1) rfl ?_
  refine R_calli mM_in [vL ((nI (hr ch len i)).toInt64), vL 48, vL 57] [] (bI (decide ((48 : Int64) ≤ (nI (hr ch len i)).toInt64) && decide ((nI (hr ch len i)).toInt64 ≤ 57))) h1 rfl t_M_in ?_
  refine R_top (bI (decide (isD (hr ch len i)))) (by rw [in_dig (by omega)]) ?_
  refine R_s 1 (cond (if0 .eq (bI (decide (isD (hr ch len i))))) 66 25, [(4, vI (nI 0)), (0, vR 8 20), (1, vI (nI lo)), (2, vI hx), (3, vI (nI b))], [], h1) rfl ?_
  refine R_bp (decide (isD (hr ch len i)) = false) (x0_eq.trans bI_eq) (fun d0 => ?_) (fun d0 => ?_)
  · have d0 : ¬ isD (hr ch len i) := of_decide_eq_false d0
    have hnm : nm ch len i = (0, 0) := by unfold nm; rw [if_neg d0]
    have hv : 0 < 100 := by omega
    have qv := q0
    refine R_s 2 (cond (if0 .le (nI 0)) 98 71, [(4, vI (nI 0)), (0, vR 8 20), (1, vI (nI lo)), (2, vI hx), (3, vI (nI b))], [], h1) rfl ?_
    refine R_bt rfl ?_
    refine R_s 5 (106, [(5, vI (nI 0)), (4, vI (nI 0)), (0, vR 8 20), (1, vI (nI lo)), (2, vI hx), (3, vI (nI b))], [vI (h1 8 20 6), vR 8 20], h1) rfl ?_
    refine R_top (nI i) p0 ?_
    refine R_s 1 (107, [(5, vI (nI 0)), (4, vI (nI 0)), (0, vR 8 20), (1, vI (nI lo)), (2, vI hx), (3, vI (nI b))], [vI (nI 1), vI (nI i), vR 8 20], h1) rfl ?_
    refine R_add i 1 rfl ?_
    refine R_s 1 (111, [(5, vI (nI 0)), (4, vI (nI 0)), (0, vR 8 20), (1, vI (nI lo)), (2, vI hx), (3, vI (nI b))], [], (hset h1 8 20 6 (nI (i + 1)))) rfl ?_
    refine R_hp (fun h2 eh2 => ?_)
    refine R_s 1 (113, [(5, vI (nI 0)), (4, vI (nI 0)), (0, vR 8 20), (1, vI (nI lo)), (2, vI hx), (3, vI (nI b))], [vI (nI 0)], h2) rfl ?_
    exact R_ret (some (vI (nI 0))) h2 rfl ⟨by unfold isn; rw [hnm]; rfl, by rw [eh2]; exact X0.set (Or.inl rfl), (by rw [eh2, hs_same, up_same] : h2 8 20 6 = nI (i + 1)).trans (by unfold nxp; simp only [hnm, Nat.add_zero]), by rw [hnm, eh2, hs_same, up_ne (by omega)]; exact qv⟩
  · have d0 : isD (hr ch len i) := of_decide_eq_true (tf d0)
    refine R_s 3 (cond (if2 .ge (nI 0) (nI 2)) 66 31, [(4, vI (nI 0)), (0, vR 8 20), (1, vI (nI lo)), (2, vI hx), (3, vI (nI b))], [], h1) rfl ?_
    refine R_bf (by decide) ?_
    refine R_s 4 (38, [(4, vI (nI 0)), (0, vR 8 20), (1, vI (nI lo)), (2, vI hx), (3, vI (nI b))], [vI (h1 8 20 7), vI (nI 10), vR 8 20], h1) rfl ?_
    refine R_top (nI 0) q0 ?_
    refine R_mul 10 0 rfl ?_
    refine R_s 1 (40, [(4, vI (nI 0)), (0, vR 8 20), (1, vI (nI lo)), (2, vI hx), (3, vI (nI b))], [vR 8 20, vI (nI (10 * 0)), vR 8 20], h1) rfl ?_
    refine R_calli mM_here [vR 8 20] [vI (nI (10 * 0)), vR 8 20] (nI (hr ch len i)) h1 rfl (t_M_here (T.fs X0) p0 (by omega)) ?_
    refine R_add (10 * 0) (hr ch len i) rfl ?_
    refine R_s 1 (46, [(4, vI (nI 0)), (0, vR 8 20), (1, vI (nI lo)), (2, vI hx), (3, vI (nI b))], [vI (nI 48), vI (nI ((10 * 0) + (hr ch len i))), vR 8 20], h1) rfl ?_
    refine R_sub ((10 * 0) + (hr ch len i)) 48 rfl (by have := d0.1; omega) ?_
    refine R_s 1 (50, [(4, vI (nI 0)), (0, vR 8 20), (1, vI (nI lo)), (2, vI hx), (3, vI (nI b))], [], (hset h1 8 20 7 (nI (((10 * 0) + (hr ch len i)) - 48)))) rfl ?_
    refine R_hp (fun h3 eh3 => ?_)
    refine R_s 1 (53, [(4, vI (nI 0 + Int32.ofInt 1)), (0, vR 8 20), (1, vI (nI lo)), (2, vI hx), (3, vI (nI b))], [], h3) rfl ?_
    refine R_lv (lv' := [(4, vI (nI (0 + 1))), (0, vR 8 20), (1, vI (nI lo)), (2, vI hx), (3, vI (nI b))]) (by rw [show nI 0 + Int32.ofInt 1 = nI (0 + 1) from nI_add _ _]) ?_
    refine R_s 3 (58, [(4, vI (nI (0 + 1))), (0, vR 8 20), (1, vI (nI lo)), (2, vI hx), (3, vI (nI b))], [vI (h3 8 20 6), vR 8 20], h3) rfl ?_
    refine R_top (nI i) (by rw [eh3, hs_same, up_ne (by omega)]; exact p0) ?_
    refine R_s 1 (59, [(4, vI (nI (0 + 1))), (0, vR 8 20), (1, vI (nI lo)), (2, vI hx), (3, vI (nI b))], [vI (nI 1), vI (nI i), vR 8 20], h3) rfl ?_
    refine R_add i 1 rfl ?_
    refine R_s 1 (63, [(4, vI (nI (0 + 1))), (0, vR 8 20), (1, vI (nI lo)), (2, vI hx), (3, vI (nI b))], [], (hset h3 8 20 6 (nI (i + 1)))) rfl ?_
    refine R_hp (fun h4 eh4 => ?_)
    have X1 : FS h h4 := by rw [eh4, eh3]; exact (X0.set (Or.inr rfl)).set (Or.inl rfl)
    have p1 : h4 8 20 6 = nI (i + 1) := by rw [eh4, hs_same, up_same]
    have w0 : 10 * (0) + (hr ch len i) - 48 = hr ch len i - 48 := by have := d0.1; omega
    have q1 : h4 8 20 7 = nI (hr ch len i - 48) := by rw [eh4, hs_same, up_ne (by omega), eh3, hs_same, up_same, w0]
    refine R_s 1 (8, [(4, vI (nI (0 + 1))), (0, vR 8 20), (1, vI (nI lo)), (2, vI hx), (3, vI (nI b))], [], h4) rfl ?_
    have g1 := hr0 (i + 1)
    refine R_s 1 (9, [(4, vI (nI (0 + 1))), (0, vR 8 20), (1, vI (nI lo)), (2, vI hx), (3, vI (nI b))], [vR 8 20], h4) rfl ?_
    refine R_calli mM_here [vR 8 20] [] (nI (hr ch len (i + 1))) h4 rfl (t_M_here (T.fs X1) p1 (by omega)) ?_
    refine R_s 3 (19, [(4, vI (nI (0 + 1))), (0, vR 8 20), (1, vI (nI lo)), (2, vI hx), (3, vI (nI b))], [vL 57, vL 48, vL ((nI (hr ch len (i + 1))).toInt64)], h4) rfl ?_
    refine R_calli mM_in [vL ((nI (hr ch len (i + 1))).toInt64), vL 48, vL 57] [] (bI (decide ((48 : Int64) ≤ (nI (hr ch len (i + 1))).toInt64) && decide ((nI (hr ch len (i + 1))).toInt64 ≤ 57))) h4 rfl t_M_in ?_
    refine R_top (bI (decide (isD (hr ch len (i + 1))))) (by rw [in_dig (by omega)]) ?_
    refine R_s 1 (cond (if0 .eq (bI (decide (isD (hr ch len (i + 1)))))) 66 25, [(4, vI (nI (0 + 1))), (0, vR 8 20), (1, vI (nI lo)), (2, vI hx), (3, vI (nI b))], [], h4) rfl ?_
    refine R_bp (decide (isD (hr ch len (i + 1))) = false) (x0_eq.trans bI_eq) (fun d1 => ?_) (fun d1 => ?_)
    · have d1 : ¬ isD (hr ch len (i + 1)) := of_decide_eq_false d1
      have hnm : nm ch len i = (hr ch len i - 48, 1) := by unfold nm; rw [if_pos d0, if_neg d1]
      have hv : hr ch len i - 48 < 100 := by have := d0.2; omega
      have qv := q1
      refine R_s 2 (cond (if0 .le (nI (0 + 1))) 98 71, [(4, vI (nI (0 + 1))), (0, vR 8 20), (1, vI (nI lo)), (2, vI hx), (3, vI (nI b))], [], h4) rfl ?_
      refine R_bf rfl ?_
      refine R_s 2 (75, [(4, vI (nI (0 + 1))), (0, vR 8 20), (1, vI (nI lo)), (2, vI hx), (3, vI (nI b))], [vI (h4 8 20 7)], h4) rfl ?_
      refine R_top (nI (hr ch len i - 48)) qv ?_
      refine R_s 5 (80, [(4, vI (nI (0 + 1))), (0, vR 8 20), (1, vI (nI lo)), (2, vI hx), (3, vI (nI b))], [vL ((hx).toInt64), vL ((nI lo).toInt64), vL ((nI (hr ch len i - 48)).toInt64)], h4) rfl ?_
      refine R_calli mM_in [vL ((nI (hr ch len i - 48)).toInt64), vL ((nI lo).toInt64), vL ((hx).toInt64)] [] (bI (decide ((nI lo).toInt64 ≤ (nI (hr ch len i - 48)).toInt64) && decide ((nI (hr ch len i - 48)).toInt64 ≤ hx.toInt64))) h4 rfl t_M_in ?_
      refine R_top (bI (decide (lo ≤ hr ch len i - 48) && decide (hr ch len i - 48 < hi))) (by rw [w_in, show decide (nI lo ≤ nI (hr ch len i - 48)) = decide (lo ≤ hr ch len i - 48) from decide_eq_decide.mpr (nI_leI (by omega) (by omega)), show decide (nI (hr ch len i - 48) ≤ hx) = decide (hr ch len i - 48 < hi) from decide_eq_decide.mpr (hh _ hv)]) ?_
      refine R_s 1 (cond (if0 .eq (bI (decide (lo ≤ hr ch len i - 48) && decide (hr ch len i - 48 < hi)))) 98 86, [(4, vI (nI (0 + 1))), (0, vR 8 20), (1, vI (nI lo)), (2, vI hx), (3, vI (nI b))], [], h4) rfl ?_
      refine R_bp ((decide (lo ≤ hr ch len i - 48) && decide (hr ch len i - 48 < hi)) = false) (x0_eq.trans bI_eq) (fun c8 => ?_) (fun c8 => ?_)
      · refine R_s 5 (106, [(5, vI (nI 0)), (4, vI (nI (0 + 1))), (0, vR 8 20), (1, vI (nI lo)), (2, vI hx), (3, vI (nI b))], [vI (h4 8 20 6), vR 8 20], h4) rfl ?_
        refine R_top (nI (i + 1)) p1 ?_
        refine R_s 1 (107, [(5, vI (nI 0)), (4, vI (nI (0 + 1))), (0, vR 8 20), (1, vI (nI lo)), (2, vI hx), (3, vI (nI b))], [vI (nI 1), vI (nI (i + 1)), vR 8 20], h4) rfl ?_
        refine R_add (i + 1) 1 rfl ?_
        refine R_s 1 (111, [(5, vI (nI 0)), (4, vI (nI (0 + 1))), (0, vR 8 20), (1, vI (nI lo)), (2, vI hx), (3, vI (nI b))], [], (hset h4 8 20 6 (nI ((i + 1) + 1)))) rfl ?_
        refine R_hp (fun h5 eh5 => ?_)
        refine R_s 1 (113, [(5, vI (nI 0)), (4, vI (nI (0 + 1))), (0, vR 8 20), (1, vI (nI lo)), (2, vI hx), (3, vI (nI b))], [vI (nI 0)], h5) rfl ?_
        exact R_ret (some (vI (nI 0))) h5 rfl ⟨by unfold isn; rw [hnm]; dsimp only; rw [c8]; rfl, by rw [eh5]; exact X1.set (Or.inl rfl), (by rw [eh5, hs_same, up_same] : h5 8 20 6 = nI (i + 1 + 1)).trans (by unfold nxp; simp only [hnm, Nat.add_zero]), by rw [hnm, eh5, hs_same, up_ne (by omega)]; exact qv⟩
      · have c8 := tf c8
        refine R_s 1 (87, [(4, vI (nI (0 + 1))), (0, vR 8 20), (1, vI (nI lo)), (2, vI hx), (3, vI (nI b))], [vR 8 20], h4) rfl ?_
        refine R_calli mM_here [vR 8 20] [] (nI (hr ch len (i + 1))) h4 rfl (t_M_here (T.fs X1) p1 (by omega)) ?_
        have gf := hr0 (i + 1)
        refine R_s 2 (cond (if2 .ne (nI (hr ch len (i + 1))) (nI b)) 98 94, [(4, vI (nI (0 + 1))), (0, vR 8 20), (1, vI (nI lo)), (2, vI hx), (3, vI (nI b))], [], h4) rfl ?_
        refine R_bp (¬ (hr ch len (i + 1)) = b) (i2_ne (by omega) (by omega)) (fun c9 => ?_) (fun c9 => ?_)
        · refine R_s 5 (106, [(5, vI (nI 0)), (4, vI (nI (0 + 1))), (0, vR 8 20), (1, vI (nI lo)), (2, vI hx), (3, vI (nI b))], [vI (h4 8 20 6), vR 8 20], h4) rfl ?_
          refine R_top (nI (i + 1)) p1 ?_
          refine R_s 1 (107, [(5, vI (nI 0)), (4, vI (nI (0 + 1))), (0, vR 8 20), (1, vI (nI lo)), (2, vI hx), (3, vI (nI b))], [vI (nI 1), vI (nI (i + 1)), vR 8 20], h4) rfl ?_
          refine R_add (i + 1) 1 rfl ?_
          refine R_s 1 (111, [(5, vI (nI 0)), (4, vI (nI (0 + 1))), (0, vR 8 20), (1, vI (nI lo)), (2, vI hx), (3, vI (nI b))], [], (hset h4 8 20 6 (nI ((i + 1) + 1)))) rfl ?_
          refine R_hp (fun h6 eh6 => ?_)
          refine R_s 1 (113, [(5, vI (nI 0)), (4, vI (nI (0 + 1))), (0, vR 8 20), (1, vI (nI lo)), (2, vI hx), (3, vI (nI b))], [vI (nI 0)], h6) rfl ?_
          exact R_ret (some (vI (nI 0))) h6 rfl ⟨by unfold isn; rw [hnm]; dsimp only; rw [c8, decide_eq_false c9]; rfl, by rw [eh6]; exact X1.set (Or.inl rfl), (by rw [eh6, hs_same, up_same] : h6 8 20 6 = nI (i + 1 + 1)).trans (by unfold nxp; simp only [hnm, Nat.add_zero]), by rw [hnm, eh6, hs_same, up_ne (by omega)]; exact qv⟩
        · have c9 := Classical.not_not.mp c9
          refine R_s 6 (106, [(5, vI (nI 1)), (4, vI (nI (0 + 1))), (0, vR 8 20), (1, vI (nI lo)), (2, vI hx), (3, vI (nI b))], [vI (h4 8 20 6), vR 8 20], h4) rfl ?_
          refine R_top (nI (i + 1)) p1 ?_
          refine R_s 1 (107, [(5, vI (nI 1)), (4, vI (nI (0 + 1))), (0, vR 8 20), (1, vI (nI lo)), (2, vI hx), (3, vI (nI b))], [vI (nI 1), vI (nI (i + 1)), vR 8 20], h4) rfl ?_
          refine R_add (i + 1) 1 rfl ?_
          refine R_s 1 (111, [(5, vI (nI 1)), (4, vI (nI (0 + 1))), (0, vR 8 20), (1, vI (nI lo)), (2, vI hx), (3, vI (nI b))], [], (hset h4 8 20 6 (nI ((i + 1) + 1)))) rfl ?_
          refine R_hp (fun h7 eh7 => ?_)
          refine R_s 1 (113, [(5, vI (nI 1)), (4, vI (nI (0 + 1))), (0, vR 8 20), (1, vI (nI lo)), (2, vI hx), (3, vI (nI b))], [vI (nI 1)], h7) rfl ?_
          exact R_ret (some (vI (nI 1))) h7 rfl ⟨by unfold isn; rw [hnm]; dsimp only; rw [c8, decide_eq_true c9]; rfl, by rw [eh7]; exact X1.set (Or.inl rfl), (by rw [eh7, hs_same, up_same] : h7 8 20 6 = nI (i + 1 + 1)).trans (by unfold nxp; simp only [hnm, Nat.add_zero]), by rw [hnm, eh7, hs_same, up_ne (by omega)]; exact qv⟩
    · have d1 : isD (hr ch len (i + 1)) := of_decide_eq_true (tf d1)
      refine R_s 3 (cond (if2 .ge (nI (0 + 1)) (nI 2)) 66 31, [(4, vI (nI (0 + 1))), (0, vR 8 20), (1, vI (nI lo)), (2, vI hx), (3, vI (nI b))], [], h4) rfl ?_
      refine R_bf (by decide) ?_
      refine R_s 4 (38, [(4, vI (nI (0 + 1))), (0, vR 8 20), (1, vI (nI lo)), (2, vI hx), (3, vI (nI b))], [vI (h4 8 20 7), vI (nI 10), vR 8 20], h4) rfl ?_
      refine R_top (nI (hr ch len i - 48)) q1 ?_
      refine R_mul 10 (hr ch len i - 48) rfl ?_
      refine R_s 1 (40, [(4, vI (nI (0 + 1))), (0, vR 8 20), (1, vI (nI lo)), (2, vI hx), (3, vI (nI b))], [vR 8 20, vI (nI (10 * (hr ch len i - 48))), vR 8 20], h4) rfl ?_
      refine R_calli mM_here [vR 8 20] [vI (nI (10 * (hr ch len i - 48))), vR 8 20] (nI (hr ch len (i + 1))) h4 rfl (t_M_here (T.fs X1) p1 (by omega)) ?_
      refine R_add (10 * (hr ch len i - 48)) (hr ch len (i + 1)) rfl ?_
      refine R_s 1 (46, [(4, vI (nI (0 + 1))), (0, vR 8 20), (1, vI (nI lo)), (2, vI hx), (3, vI (nI b))], [vI (nI 48), vI (nI ((10 * (hr ch len i - 48)) + (hr ch len (i + 1)))), vR 8 20], h4) rfl ?_
      refine R_sub ((10 * (hr ch len i - 48)) + (hr ch len (i + 1))) 48 rfl (by have := d1.1; omega) ?_
      refine R_s 1 (50, [(4, vI (nI (0 + 1))), (0, vR 8 20), (1, vI (nI lo)), (2, vI hx), (3, vI (nI b))], [], (hset h4 8 20 7 (nI (((10 * (hr ch len i - 48)) + (hr ch len (i + 1))) - 48)))) rfl ?_
      refine R_hp (fun h8 eh8 => ?_)
      refine R_s 1 (53, [(4, vI (nI (0 + 1) + Int32.ofInt 1)), (0, vR 8 20), (1, vI (nI lo)), (2, vI hx), (3, vI (nI b))], [], h8) rfl ?_
      refine R_lv (lv' := [(4, vI (nI (0 + 1 + 1))), (0, vR 8 20), (1, vI (nI lo)), (2, vI hx), (3, vI (nI b))]) (by rw [show nI (0 + 1) + Int32.ofInt 1 = nI (0 + 1 + 1) from nI_add _ _]) ?_
      refine R_s 3 (58, [(4, vI (nI (0 + 1 + 1))), (0, vR 8 20), (1, vI (nI lo)), (2, vI hx), (3, vI (nI b))], [vI (h8 8 20 6), vR 8 20], h8) rfl ?_
      refine R_top (nI (i + 1)) (by rw [eh8, hs_same, up_ne (by omega)]; exact p1) ?_
      refine R_s 1 (59, [(4, vI (nI (0 + 1 + 1))), (0, vR 8 20), (1, vI (nI lo)), (2, vI hx), (3, vI (nI b))], [vI (nI 1), vI (nI (i + 1)), vR 8 20], h8) rfl ?_
      refine R_add (i + 1) 1 rfl ?_
      refine R_s 1 (63, [(4, vI (nI (0 + 1 + 1))), (0, vR 8 20), (1, vI (nI lo)), (2, vI hx), (3, vI (nI b))], [], (hset h8 8 20 6 (nI ((i + 1) + 1)))) rfl ?_
      refine R_hp (fun h9 eh9 => ?_)
      have X2 : FS h h9 := by rw [eh9, eh8]; exact (X1.set (Or.inr rfl)).set (Or.inl rfl)
      have p2 : h9 8 20 6 = nI (i + 2) := by rw [eh9, hs_same, up_same]
      have w1 : 10 * (hr ch len i - 48) + (hr ch len (i + 1)) - 48 = 10 * (hr ch len i - 48) + (hr ch len (i + 1) - 48) := by have := d1.1; omega
      have q2 : h9 8 20 7 = nI (10 * (hr ch len i - 48) + (hr ch len (i + 1) - 48)) := by rw [eh9, hs_same, up_ne (by omega), eh8, hs_same, up_same, w1]
      refine R_s 1 (8, [(4, vI (nI (0 + 1 + 1))), (0, vR 8 20), (1, vI (nI lo)), (2, vI hx), (3, vI (nI b))], [], h9) rfl ?_
      have g2 := hr0 (i + 2)
      refine R_s 1 (9, [(4, vI (nI (0 + 1 + 1))), (0, vR 8 20), (1, vI (nI lo)), (2, vI hx), (3, vI (nI b))], [vR 8 20], h9) rfl ?_
      refine R_calli mM_here [vR 8 20] [] (nI (hr ch len (i + 2))) h9 rfl (t_M_here (T.fs X2) p2 (by omega)) ?_
      refine R_s 3 (19, [(4, vI (nI (0 + 1 + 1))), (0, vR 8 20), (1, vI (nI lo)), (2, vI hx), (3, vI (nI b))], [vL 57, vL 48, vL ((nI (hr ch len (i + 2))).toInt64)], h9) rfl ?_
      refine R_calli mM_in [vL ((nI (hr ch len (i + 2))).toInt64), vL 48, vL 57] [] (bI (decide ((48 : Int64) ≤ (nI (hr ch len (i + 2))).toInt64) && decide ((nI (hr ch len (i + 2))).toInt64 ≤ 57))) h9 rfl t_M_in ?_
      refine R_top (bI (decide (isD (hr ch len (i + 2))))) (by rw [in_dig (by omega)]) ?_
      refine R_s 1 (cond (if0 .eq (bI (decide (isD (hr ch len (i + 2)))))) 66 25, [(4, vI (nI (0 + 1 + 1))), (0, vR 8 20), (1, vI (nI lo)), (2, vI hx), (3, vI (nI b))], [], h9) rfl ?_
      refine R_bp (decide (isD (hr ch len (i + 2))) = false) (x0_eq.trans bI_eq) (fun d2 => ?_) (fun d2 => ?_)
      · have d2 : ¬ isD (hr ch len (i + 2)) := of_decide_eq_false d2
        have hnm : nm ch len i = (10 * (hr ch len i - 48) + (hr ch len (i + 1) - 48), 2) := by unfold nm; rw [if_pos d0, if_pos d1]
        have hv : 10 * (hr ch len i - 48) + (hr ch len (i + 1) - 48) < 100 := by have := d0.2; have := d1.2; omega
        have qv := q2
        refine R_s 2 (cond (if0 .le (nI (0 + 1 + 1))) 98 71, [(4, vI (nI (0 + 1 + 1))), (0, vR 8 20), (1, vI (nI lo)), (2, vI hx), (3, vI (nI b))], [], h9) rfl ?_
        refine R_bf rfl ?_
        refine R_s 2 (75, [(4, vI (nI (0 + 1 + 1))), (0, vR 8 20), (1, vI (nI lo)), (2, vI hx), (3, vI (nI b))], [vI (h9 8 20 7)], h9) rfl ?_
        refine R_top (nI (10 * (hr ch len i - 48) + (hr ch len (i + 1) - 48))) qv ?_
        refine R_s 5 (80, [(4, vI (nI (0 + 1 + 1))), (0, vR 8 20), (1, vI (nI lo)), (2, vI hx), (3, vI (nI b))], [vL ((hx).toInt64), vL ((nI lo).toInt64), vL ((nI (10 * (hr ch len i - 48) + (hr ch len (i + 1) - 48))).toInt64)], h9) rfl ?_
        refine R_calli mM_in [vL ((nI (10 * (hr ch len i - 48) + (hr ch len (i + 1) - 48))).toInt64), vL ((nI lo).toInt64), vL ((hx).toInt64)] [] (bI (decide ((nI lo).toInt64 ≤ (nI (10 * (hr ch len i - 48) + (hr ch len (i + 1) - 48))).toInt64) && decide ((nI (10 * (hr ch len i - 48) + (hr ch len (i + 1) - 48))).toInt64 ≤ hx.toInt64))) h9 rfl t_M_in ?_
        refine R_top (bI (decide (lo ≤ 10 * (hr ch len i - 48) + (hr ch len (i + 1) - 48)) && decide (10 * (hr ch len i - 48) + (hr ch len (i + 1) - 48) < hi))) (by rw [w_in, show decide (nI lo ≤ nI (10 * (hr ch len i - 48) + (hr ch len (i + 1) - 48))) = decide (lo ≤ 10 * (hr ch len i - 48) + (hr ch len (i + 1) - 48)) from decide_eq_decide.mpr (nI_leI (by omega) (by omega)), show decide (nI (10 * (hr ch len i - 48) + (hr ch len (i + 1) - 48)) ≤ hx) = decide (10 * (hr ch len i - 48) + (hr ch len (i + 1) - 48) < hi) from decide_eq_decide.mpr (hh _ hv)]) ?_
        refine R_s 1 (cond (if0 .eq (bI (decide (lo ≤ 10 * (hr ch len i - 48) + (hr ch len (i + 1) - 48)) && decide (10 * (hr ch len i - 48) + (hr ch len (i + 1) - 48) < hi)))) 98 86, [(4, vI (nI (0 + 1 + 1))), (0, vR 8 20), (1, vI (nI lo)), (2, vI hx), (3, vI (nI b))], [], h9) rfl ?_
        refine R_bp ((decide (lo ≤ 10 * (hr ch len i - 48) + (hr ch len (i + 1) - 48)) && decide (10 * (hr ch len i - 48) + (hr ch len (i + 1) - 48) < hi)) = false) (x0_eq.trans bI_eq) (fun c8 => ?_) (fun c8 => ?_)
        · refine R_s 5 (106, [(5, vI (nI 0)), (4, vI (nI (0 + 1 + 1))), (0, vR 8 20), (1, vI (nI lo)), (2, vI hx), (3, vI (nI b))], [vI (h9 8 20 6), vR 8 20], h9) rfl ?_
          refine R_top (nI (i + 2)) p2 ?_
          refine R_s 1 (107, [(5, vI (nI 0)), (4, vI (nI (0 + 1 + 1))), (0, vR 8 20), (1, vI (nI lo)), (2, vI hx), (3, vI (nI b))], [vI (nI 1), vI (nI (i + 2)), vR 8 20], h9) rfl ?_
          refine R_add (i + 2) 1 rfl ?_
          refine R_s 1 (111, [(5, vI (nI 0)), (4, vI (nI (0 + 1 + 1))), (0, vR 8 20), (1, vI (nI lo)), (2, vI hx), (3, vI (nI b))], [], (hset h9 8 20 6 (nI ((i + 2) + 1)))) rfl ?_
          refine R_hp (fun h10 eh10 => ?_)
          refine R_s 1 (113, [(5, vI (nI 0)), (4, vI (nI (0 + 1 + 1))), (0, vR 8 20), (1, vI (nI lo)), (2, vI hx), (3, vI (nI b))], [vI (nI 0)], h10) rfl ?_
          exact R_ret (some (vI (nI 0))) h10 rfl ⟨by unfold isn; rw [hnm]; dsimp only; rw [c8]; rfl, by rw [eh10]; exact X2.set (Or.inl rfl), (by rw [eh10, hs_same, up_same] : h10 8 20 6 = nI (i + 2 + 1)).trans (by unfold nxp; simp only [hnm, Nat.add_zero]), by rw [hnm, eh10, hs_same, up_ne (by omega)]; exact qv⟩
        · have c8 := tf c8
          refine R_s 1 (87, [(4, vI (nI (0 + 1 + 1))), (0, vR 8 20), (1, vI (nI lo)), (2, vI hx), (3, vI (nI b))], [vR 8 20], h9) rfl ?_
          refine R_calli mM_here [vR 8 20] [] (nI (hr ch len (i + 2))) h9 rfl (t_M_here (T.fs X2) p2 (by omega)) ?_
          have gf := hr0 (i + 2)
          refine R_s 2 (cond (if2 .ne (nI (hr ch len (i + 2))) (nI b)) 98 94, [(4, vI (nI (0 + 1 + 1))), (0, vR 8 20), (1, vI (nI lo)), (2, vI hx), (3, vI (nI b))], [], h9) rfl ?_
          refine R_bp (¬ (hr ch len (i + 2)) = b) (i2_ne (by omega) (by omega)) (fun c9 => ?_) (fun c9 => ?_)
          · refine R_s 5 (106, [(5, vI (nI 0)), (4, vI (nI (0 + 1 + 1))), (0, vR 8 20), (1, vI (nI lo)), (2, vI hx), (3, vI (nI b))], [vI (h9 8 20 6), vR 8 20], h9) rfl ?_
            refine R_top (nI (i + 2)) p2 ?_
            refine R_s 1 (107, [(5, vI (nI 0)), (4, vI (nI (0 + 1 + 1))), (0, vR 8 20), (1, vI (nI lo)), (2, vI hx), (3, vI (nI b))], [vI (nI 1), vI (nI (i + 2)), vR 8 20], h9) rfl ?_
            refine R_add (i + 2) 1 rfl ?_
            refine R_s 1 (111, [(5, vI (nI 0)), (4, vI (nI (0 + 1 + 1))), (0, vR 8 20), (1, vI (nI lo)), (2, vI hx), (3, vI (nI b))], [], (hset h9 8 20 6 (nI ((i + 2) + 1)))) rfl ?_
            refine R_hp (fun h11 eh11 => ?_)
            refine R_s 1 (113, [(5, vI (nI 0)), (4, vI (nI (0 + 1 + 1))), (0, vR 8 20), (1, vI (nI lo)), (2, vI hx), (3, vI (nI b))], [vI (nI 0)], h11) rfl ?_
            exact R_ret (some (vI (nI 0))) h11 rfl ⟨by unfold isn; rw [hnm]; dsimp only; rw [c8, decide_eq_false c9]; rfl, by rw [eh11]; exact X2.set (Or.inl rfl), (by rw [eh11, hs_same, up_same] : h11 8 20 6 = nI (i + 2 + 1)).trans (by unfold nxp; simp only [hnm, Nat.add_zero]), by rw [hnm, eh11, hs_same, up_ne (by omega)]; exact qv⟩
          · have c9 := Classical.not_not.mp c9
            refine R_s 6 (106, [(5, vI (nI 1)), (4, vI (nI (0 + 1 + 1))), (0, vR 8 20), (1, vI (nI lo)), (2, vI hx), (3, vI (nI b))], [vI (h9 8 20 6), vR 8 20], h9) rfl ?_
            refine R_top (nI (i + 2)) p2 ?_
            refine R_s 1 (107, [(5, vI (nI 1)), (4, vI (nI (0 + 1 + 1))), (0, vR 8 20), (1, vI (nI lo)), (2, vI hx), (3, vI (nI b))], [vI (nI 1), vI (nI (i + 2)), vR 8 20], h9) rfl ?_
            refine R_add (i + 2) 1 rfl ?_
            refine R_s 1 (111, [(5, vI (nI 1)), (4, vI (nI (0 + 1 + 1))), (0, vR 8 20), (1, vI (nI lo)), (2, vI hx), (3, vI (nI b))], [], (hset h9 8 20 6 (nI ((i + 2) + 1)))) rfl ?_
            refine R_hp (fun h12 eh12 => ?_)
            refine R_s 1 (113, [(5, vI (nI 1)), (4, vI (nI (0 + 1 + 1))), (0, vR 8 20), (1, vI (nI lo)), (2, vI hx), (3, vI (nI b))], [vI (nI 1)], h12) rfl ?_
            exact R_ret (some (vI (nI 1))) h12 rfl ⟨by unfold isn; rw [hnm]; dsimp only; rw [c8, decide_eq_true c9]; rfl, by rw [eh12]; exact X2.set (Or.inl rfl), (by rw [eh12, hs_same, up_same] : h12 8 20 6 = nI (i + 2 + 1)).trans (by unfold nxp; simp only [hnm, Nat.add_zero]), by rw [hnm, eh12, hs_same, up_ne (by omega)]; exact qv⟩
      · have d2 : isD (hr ch len (i + 2)) := of_decide_eq_true (tf d2)
        refine R_s 3 (cond (if2 .ge (nI (0 + 1 + 1)) (nI 2)) 66 31, [(4, vI (nI (0 + 1 + 1))), (0, vR 8 20), (1, vI (nI lo)), (2, vI hx), (3, vI (nI b))], [], h9) rfl ?_
        refine R_bt (by decide) ?_
        have hnm : nm ch len i = (10 * (hr ch len i - 48) + (hr ch len (i + 1) - 48), 2) := by unfold nm; rw [if_pos d0, if_pos d1]
        have hv : 10 * (hr ch len i - 48) + (hr ch len (i + 1) - 48) < 100 := by have := d0.2; have := d1.2; omega
        have qv := q2
        refine R_s 2 (cond (if0 .le (nI (0 + 1 + 1))) 98 71, [(4, vI (nI (0 + 1 + 1))), (0, vR 8 20), (1, vI (nI lo)), (2, vI hx), (3, vI (nI b))], [], h9) rfl ?_
        refine R_bf rfl ?_
        refine R_s 2 (75, [(4, vI (nI (0 + 1 + 1))), (0, vR 8 20), (1, vI (nI lo)), (2, vI hx), (3, vI (nI b))], [vI (h9 8 20 7)], h9) rfl ?_
        refine R_top (nI (10 * (hr ch len i - 48) + (hr ch len (i + 1) - 48))) qv ?_
        refine R_s 5 (80, [(4, vI (nI (0 + 1 + 1))), (0, vR 8 20), (1, vI (nI lo)), (2, vI hx), (3, vI (nI b))], [vL ((hx).toInt64), vL ((nI lo).toInt64), vL ((nI (10 * (hr ch len i - 48) + (hr ch len (i + 1) - 48))).toInt64)], h9) rfl ?_
        refine R_calli mM_in [vL ((nI (10 * (hr ch len i - 48) + (hr ch len (i + 1) - 48))).toInt64), vL ((nI lo).toInt64), vL ((hx).toInt64)] [] (bI (decide ((nI lo).toInt64 ≤ (nI (10 * (hr ch len i - 48) + (hr ch len (i + 1) - 48))).toInt64) && decide ((nI (10 * (hr ch len i - 48) + (hr ch len (i + 1) - 48))).toInt64 ≤ hx.toInt64))) h9 rfl t_M_in ?_
        refine R_top (bI (decide (lo ≤ 10 * (hr ch len i - 48) + (hr ch len (i + 1) - 48)) && decide (10 * (hr ch len i - 48) + (hr ch len (i + 1) - 48) < hi))) (by rw [w_in, show decide (nI lo ≤ nI (10 * (hr ch len i - 48) + (hr ch len (i + 1) - 48))) = decide (lo ≤ 10 * (hr ch len i - 48) + (hr ch len (i + 1) - 48)) from decide_eq_decide.mpr (nI_leI (by omega) (by omega)), show decide (nI (10 * (hr ch len i - 48) + (hr ch len (i + 1) - 48)) ≤ hx) = decide (10 * (hr ch len i - 48) + (hr ch len (i + 1) - 48) < hi) from decide_eq_decide.mpr (hh _ hv)]) ?_
        refine R_s 1 (cond (if0 .eq (bI (decide (lo ≤ 10 * (hr ch len i - 48) + (hr ch len (i + 1) - 48)) && decide (10 * (hr ch len i - 48) + (hr ch len (i + 1) - 48) < hi)))) 98 86, [(4, vI (nI (0 + 1 + 1))), (0, vR 8 20), (1, vI (nI lo)), (2, vI hx), (3, vI (nI b))], [], h9) rfl ?_
        refine R_bp ((decide (lo ≤ 10 * (hr ch len i - 48) + (hr ch len (i + 1) - 48)) && decide (10 * (hr ch len i - 48) + (hr ch len (i + 1) - 48) < hi)) = false) (x0_eq.trans bI_eq) (fun c8 => ?_) (fun c8 => ?_)
        · refine R_s 5 (106, [(5, vI (nI 0)), (4, vI (nI (0 + 1 + 1))), (0, vR 8 20), (1, vI (nI lo)), (2, vI hx), (3, vI (nI b))], [vI (h9 8 20 6), vR 8 20], h9) rfl ?_
          refine R_top (nI (i + 2)) p2 ?_
          refine R_s 1 (107, [(5, vI (nI 0)), (4, vI (nI (0 + 1 + 1))), (0, vR 8 20), (1, vI (nI lo)), (2, vI hx), (3, vI (nI b))], [vI (nI 1), vI (nI (i + 2)), vR 8 20], h9) rfl ?_
          refine R_add (i + 2) 1 rfl ?_
          refine R_s 1 (111, [(5, vI (nI 0)), (4, vI (nI (0 + 1 + 1))), (0, vR 8 20), (1, vI (nI lo)), (2, vI hx), (3, vI (nI b))], [], (hset h9 8 20 6 (nI ((i + 2) + 1)))) rfl ?_
          refine R_hp (fun h13 eh13 => ?_)
          refine R_s 1 (113, [(5, vI (nI 0)), (4, vI (nI (0 + 1 + 1))), (0, vR 8 20), (1, vI (nI lo)), (2, vI hx), (3, vI (nI b))], [vI (nI 0)], h13) rfl ?_
          exact R_ret (some (vI (nI 0))) h13 rfl ⟨by unfold isn; rw [hnm]; dsimp only; rw [c8]; rfl, by rw [eh13]; exact X2.set (Or.inl rfl), (by rw [eh13, hs_same, up_same] : h13 8 20 6 = nI (i + 2 + 1)).trans (by unfold nxp; simp only [hnm, Nat.add_zero]), by rw [hnm, eh13, hs_same, up_ne (by omega)]; exact qv⟩
        · have c8 := tf c8
          refine R_s 1 (87, [(4, vI (nI (0 + 1 + 1))), (0, vR 8 20), (1, vI (nI lo)), (2, vI hx), (3, vI (nI b))], [vR 8 20], h9) rfl ?_
          refine R_calli mM_here [vR 8 20] [] (nI (hr ch len (i + 2))) h9 rfl (t_M_here (T.fs X2) p2 (by omega)) ?_
          have gf := hr0 (i + 2)
          refine R_s 2 (cond (if2 .ne (nI (hr ch len (i + 2))) (nI b)) 98 94, [(4, vI (nI (0 + 1 + 1))), (0, vR 8 20), (1, vI (nI lo)), (2, vI hx), (3, vI (nI b))], [], h9) rfl ?_
          refine R_bp (¬ (hr ch len (i + 2)) = b) (i2_ne (by omega) (by omega)) (fun c9 => ?_) (fun c9 => ?_)
          · refine R_s 5 (106, [(5, vI (nI 0)), (4, vI (nI (0 + 1 + 1))), (0, vR 8 20), (1, vI (nI lo)), (2, vI hx), (3, vI (nI b))], [vI (h9 8 20 6), vR 8 20], h9) rfl ?_
            refine R_top (nI (i + 2)) p2 ?_
            refine R_s 1 (107, [(5, vI (nI 0)), (4, vI (nI (0 + 1 + 1))), (0, vR 8 20), (1, vI (nI lo)), (2, vI hx), (3, vI (nI b))], [vI (nI 1), vI (nI (i + 2)), vR 8 20], h9) rfl ?_
            refine R_add (i + 2) 1 rfl ?_
            refine R_s 1 (111, [(5, vI (nI 0)), (4, vI (nI (0 + 1 + 1))), (0, vR 8 20), (1, vI (nI lo)), (2, vI hx), (3, vI (nI b))], [], (hset h9 8 20 6 (nI ((i + 2) + 1)))) rfl ?_
            refine R_hp (fun h14 eh14 => ?_)
            refine R_s 1 (113, [(5, vI (nI 0)), (4, vI (nI (0 + 1 + 1))), (0, vR 8 20), (1, vI (nI lo)), (2, vI hx), (3, vI (nI b))], [vI (nI 0)], h14) rfl ?_
            exact R_ret (some (vI (nI 0))) h14 rfl ⟨by unfold isn; rw [hnm]; dsimp only; rw [c8, decide_eq_false c9]; rfl, by rw [eh14]; exact X2.set (Or.inl rfl), (by rw [eh14, hs_same, up_same] : h14 8 20 6 = nI (i + 2 + 1)).trans (by unfold nxp; simp only [hnm, Nat.add_zero]), by rw [hnm, eh14, hs_same, up_ne (by omega)]; exact qv⟩
          · have c9 := Classical.not_not.mp c9
            refine R_s 6 (106, [(5, vI (nI 1)), (4, vI (nI (0 + 1 + 1))), (0, vR 8 20), (1, vI (nI lo)), (2, vI hx), (3, vI (nI b))], [vI (h9 8 20 6), vR 8 20], h9) rfl ?_
            refine R_top (nI (i + 2)) p2 ?_
            refine R_s 1 (107, [(5, vI (nI 1)), (4, vI (nI (0 + 1 + 1))), (0, vR 8 20), (1, vI (nI lo)), (2, vI hx), (3, vI (nI b))], [vI (nI 1), vI (nI (i + 2)), vR 8 20], h9) rfl ?_
            refine R_add (i + 2) 1 rfl ?_
            refine R_s 1 (111, [(5, vI (nI 1)), (4, vI (nI (0 + 1 + 1))), (0, vR 8 20), (1, vI (nI lo)), (2, vI hx), (3, vI (nI b))], [], (hset h9 8 20 6 (nI ((i + 2) + 1)))) rfl ?_
            refine R_hp (fun h15 eh15 => ?_)
            refine R_s 1 (113, [(5, vI (nI 1)), (4, vI (nI (0 + 1 + 1))), (0, vR 8 20), (1, vI (nI lo)), (2, vI hx), (3, vI (nI b))], [vI (nI 1)], h15) rfl ?_
            exact R_ret (some (vI (nI 1))) h15 rfl ⟨by unfold isn; rw [hnm]; dsimp only; rw [c8, decide_eq_true c9]; rfl, by rw [eh15]; exact X2.set (Or.inl rfl), (by rw [eh15, hs_same, up_same] : h15 8 20 6 = nI (i + 2 + 1)).trans (by unfold nxp; simp only [hnm, Nat.add_zero]), by rw [hnm, eh15, hs_same, up_ne (by omega)]; exact qv⟩
theorem up_19 {v : Nat} (hv : v < 100) : nI v ≤ nI 20 ↔ v < 21 := by rw [nI_leI (by omega) (by omega)]; omega
theorem up_k {v k : Nat} (hk : k < 1000) (hv : v < 100) : nI v ≤ nI k ↔ v < k + 1 := by rw [nI_leI (by omega) (by omega)]; omega
theorem up_n {n v : Nat} (hn : n ≤ 8) (hv : v < 100) : nI v ≤ nI n - nI 1 ↔ v < n := by
  have h : ∀ n, n < 9 → ∀ v, v < 100 → (nI v ≤ nI n - nI 1 ↔ v < n) := by decide +kernel
  exact h n (by omega) v hv
theorem nxp_le {ch : Nat → Nat} {len i : Nat} : nxp ch len i ≤ i + 3 := by
  unfold nxp nm
  repeat' split
  all_goals (dsimp only; omega)
theorem MS.up2 {h : HP} {s : Nat → Int32} {i : Nat} {v : Int32} (M : MS 22 h s) : MS 22 (hset h 8 22 i v) (upd s i v) := by
  intro x hx
  rw [hs_same]
  by_cases q : x = i
  · rw [q, up_same, up_same]
  · rw [up_ne q, up_ne q]; exact M x hx
set_option maxRecDepth 100000 in
theorem t_M_partIs {d i len n p k : Nat} {h : HP} {s : Nat → Int32} {ch : Nat → Nat} (T : TXM h ch len) (hi6 : h 8 20 6 = nI i) (h1 : i < 800) (M : MS 22 h s) (F : WF s n p k) : MT (d + 2) mM_partIs [vR 8 20] h (fun r h' => FD h h' ∧ ((¬ (isn ch len i 0 n 44 = true ∧ isn ch len (nxp ch len i) 0 p 44 = true ∧ isn ch len (nxp ch len (nxp ch len i)) 0 k 44 = true ∧ isn ch len (nxp ch len (nxp ch len (nxp ch len i))) 0 6 59 = true ∧ oth s (nm ch len i).1 (nI (nm ch len (nxp ch len (nxp ch len i))).1) (nm ch len (nxp ch len i)).1 p < (s (33 + (nm ch len (nxp ch len (nxp ch len i))).1)).toNatClampNeg) ∧ r = some (vI (nI 0))) ∨ ((isn ch len i 0 n 44 = true ∧ isn ch len (nxp ch len i) 0 p 44 = true ∧ isn ch len (nxp ch len (nxp ch len i)) 0 k 44 = true ∧ isn ch len (nxp ch len (nxp ch len (nxp ch len i))) 0 6 59 = true ∧ oth s (nm ch len i).1 (nI (nm ch len (nxp ch len (nxp ch len i))).1) (nm ch len (nxp ch len i)).1 p < (s (33 + (nm ch len (nxp ch len (nxp ch len i))).1)).toNatClampNeg) ∧ r = some (vI (nI 1)) ∧ MS 22 h' (upd (upd s (45 + 2 * ((nm ch len i).1 * 5 + (nm ch len (nxp ch len i)).1)) (nI (nm ch len (nxp ch len (nxp ch len i))).1)) (46 + 2 * ((nm ch len i).1 * 5 + (nm ch len (nxp ch len i)).1)) (nI (nm ch len (nxp ch len (nxp ch len (nxp ch len i)))).1)) ∧ h' 8 20 6 = nI (nxp ch len (nxp ch len (nxp ch len (nxp ch len i))))))) := by
  have h8 := F.2.1.1
  have h5 := F.2.1.2.1
  have h6 := F.2.1.2.2
  have y1 := nxp_le (ch := ch) (len := len) (i := i)
  have y2 := nxp_le (ch := ch) (len := len) (i := nxp ch len i)
  have y3 := nxp_le (ch := ch) (len := len) (i := nxp ch len (nxp ch len i))
  refine R_s 5 (7, [(0, vR 8 20)], [vI (nI 0), vR 8 22, vI (nI 0), vR 8 20], h) rfl ?_
  refine R_ld 8 22 0 125 rfl rfl (by omega) (by decide) ?_
  refine R_top (nI n) ((M 0 (by decide)).trans F.1.1) ?_
  refine R_s 3 (12, [(0, vR 8 20)], [vI (nI 44), vI (nI n - nI 1), vI (nI 0), vR 8 20], h) rfl ?_
  refine R_call mM_isNumber [vR 8 20, vI (nI 0), vI (nI n - nI 1), vI (nI 44)] [] rfl (t_M_isNumber (hi := n) (T.fs FS.rf) hi6 (by omega) (by omega) (by omega) (fun v hv => up_n (by omega) hv)) (fun r h10 e10 => ?_)
  obtain ⟨rfl, F10, p10, n10⟩ := e10
  show R _ mM_partIs (15, [(0, vR 8 20)], [vI (bI (isn ch len i 0 n 44))], h10) _
  have X10 : FS h h10 := FS.tr FS.rf F10
  have M10 : MS 22 h10 s := M.fs (by decide) X10
  refine R_s 1 (cond (if0 .ne (bI (isn ch len i 0 n 44))) 20 18, [(0, vR 8 20)], [], h10) rfl ?_
  refine R_bp (isn ch len i 0 n 44 = true) (x0_ne.trans bI_ne) (fun s0 => ?_) (fun s0 => ?_)
  · have s0 : isn ch len i 0 n 44 = true := s0
    refine R_s 2 (24, [(0, vR 8 20)], [vI (h10 8 20 7)], h10) rfl ?_
    refine R_top (nI ((nm ch len i).1)) n10 ?_
    refine R_s 6 (33, [(1, vI (nI ((nm ch len i).1))), (0, vR 8 20)], [vI (nI 26), vR 8 22, vI (nI 0), vR 8 20], h10) rfl ?_
    refine R_ld 8 22 26 125 rfl rfl (by omega) (by decide) ?_
    refine R_top (nI p) ((M10 26 (by decide)).trans F.1.2.1) ?_
    refine R_s 3 (38, [(1, vI (nI ((nm ch len i).1))), (0, vR 8 20)], [vI (nI 44), vI (nI p - nI 1), vI (nI 0), vR 8 20], h10) rfl ?_
    refine R_call mM_isNumber [vR 8 20, vI (nI 0), vI (nI p - nI 1), vI (nI 44)] [] rfl (t_M_isNumber (hi := p) (T.fs X10) p10 (by omega) (by omega) (by omega) (fun v hv => up_n (by omega) hv)) (fun r h11 e11 => ?_)
    obtain ⟨rfl, F11, p11, n11⟩ := e11
    show R _ mM_partIs (41, [(1, vI (nI ((nm ch len i).1))), (0, vR 8 20)], [vI (bI (isn ch len (nxp ch len i) 0 p 44))], h11) _
    have X11 : FS h h11 := FS.tr X10 F11
    have M11 : MS 22 h11 s := M.fs (by decide) X11
    refine R_s 1 (cond (if0 .ne (bI (isn ch len (nxp ch len i) 0 p 44))) 46 44, [(1, vI (nI ((nm ch len i).1))), (0, vR 8 20)], [], h11) rfl ?_
    refine R_bp (isn ch len (nxp ch len i) 0 p 44 = true) (x0_ne.trans bI_ne) (fun s1 => ?_) (fun s1 => ?_)
    · have s1 : isn ch len (nxp ch len i) 0 p 44 = true := s1
      refine R_s 2 (50, [(1, vI (nI ((nm ch len i).1))), (0, vR 8 20)], [vI (h11 8 20 7)], h11) rfl ?_
      refine R_top (nI ((nm ch len (nxp ch len i)).1)) n11 ?_
      refine R_s 6 (59, [(2, vI (nI ((nm ch len (nxp ch len i)).1))), (1, vI (nI ((nm ch len i).1))), (0, vR 8 20)], [vI (nI 32), vR 8 22, vI (nI 0), vR 8 20], h11) rfl ?_
      refine R_ld 8 22 32 125 rfl rfl (by omega) (by decide) ?_
      refine R_top (nI k) ((M11 32 (by decide)).trans F.1.2.2) ?_
      refine R_s 3 (64, [(2, vI (nI ((nm ch len (nxp ch len i)).1))), (1, vI (nI ((nm ch len i).1))), (0, vR 8 20)], [vI (nI 44), vI (nI k - nI 1), vI (nI 0), vR 8 20], h11) rfl ?_
      refine R_call mM_isNumber [vR 8 20, vI (nI 0), vI (nI k - nI 1), vI (nI 44)] [] rfl (t_M_isNumber (hi := k) (T.fs X11) p11 (by omega) (by omega) (by omega) (fun v hv => up_n (by omega) hv)) (fun r h12 e12 => ?_)
      obtain ⟨rfl, F12, p12, n12⟩ := e12
      show R _ mM_partIs (67, [(2, vI (nI ((nm ch len (nxp ch len i)).1))), (1, vI (nI ((nm ch len i).1))), (0, vR 8 20)], [vI (bI (isn ch len (nxp ch len (nxp ch len i)) 0 k 44))], h12) _
      have X12 : FS h h12 := FS.tr X11 F12
      have M12 : MS 22 h12 s := M.fs (by decide) X12
      refine R_s 1 (cond (if0 .ne (bI (isn ch len (nxp ch len (nxp ch len i)) 0 k 44))) 72 70, [(2, vI (nI ((nm ch len (nxp ch len i)).1))), (1, vI (nI ((nm ch len i).1))), (0, vR 8 20)], [], h12) rfl ?_
      refine R_bp (isn ch len (nxp ch len (nxp ch len i)) 0 k 44 = true) (x0_ne.trans bI_ne) (fun s2 => ?_) (fun s2 => ?_)
      · have s2 : isn ch len (nxp ch len (nxp ch len i)) 0 k 44 = true := s2
        refine R_s 2 (76, [(2, vI (nI ((nm ch len (nxp ch len i)).1))), (1, vI (nI ((nm ch len i).1))), (0, vR 8 20)], [vI (h12 8 20 7)], h12) rfl ?_
        refine R_top (nI ((nm ch len (nxp ch len (nxp ch len i))).1)) n12 ?_
        refine R_s 5 (82, [(3, vI (nI ((nm ch len (nxp ch len (nxp ch len i))).1))), (2, vI (nI ((nm ch len (nxp ch len i)).1))), (1, vI (nI ((nm ch len i).1))), (0, vR 8 20)], [vI (nI 59), vI (nI 5), vI (nI 0), vR 8 20], h12) rfl ?_
        refine R_call mM_isNumber [vR 8 20, vI (nI 0), vI (nI 5), vI (nI 59)] [] rfl (t_M_isNumber (hi := 6) (T.fs X12) p12 (by omega) (by omega) (by omega) (fun v hv => up_k (k := 5) (by omega) hv)) (fun r h13 e13 => ?_)
        obtain ⟨rfl, F13, p13, n13⟩ := e13
        show R _ mM_partIs (85, [(3, vI (nI ((nm ch len (nxp ch len (nxp ch len i))).1))), (2, vI (nI ((nm ch len (nxp ch len i)).1))), (1, vI (nI ((nm ch len i).1))), (0, vR 8 20)], [vI (bI (isn ch len (nxp ch len (nxp ch len (nxp ch len i))) 0 6 59))], h13) _
        have X13 : FS h h13 := FS.tr X12 F13
        have M13 : MS 22 h13 s := M.fs (by decide) X13
        refine R_s 1 (cond (if0 .eq (bI (isn ch len (nxp ch len (nxp ch len (nxp ch len i))) 0 6 59))) 110 88, [(3, vI (nI ((nm ch len (nxp ch len (nxp ch len i))).1))), (2, vI (nI ((nm ch len (nxp ch len i)).1))), (1, vI (nI ((nm ch len i).1))), (0, vR 8 20)], [], h13) rfl ?_
        refine R_bp (isn ch len (nxp ch len (nxp ch len (nxp ch len i))) 0 6 59 = false) (x0_eq.trans bI_eq) (fun s3 => ?_) (fun s3 => ?_)
        · have s3 : ¬ isn ch len (nxp ch len (nxp ch len (nxp ch len i))) 0 6 59 = true := by rw [s3]; decide
          refine R_s 1 (111, [(3, vI (nI ((nm ch len (nxp ch len (nxp ch len i))).1))), (2, vI (nI ((nm ch len (nxp ch len i)).1))), (1, vI (nI ((nm ch len i).1))), (0, vR 8 20)], [vI (nI 0)], h13) rfl ?_
          exact R_ret (some (vI (nI 0))) h13 rfl ⟨X13.fd, Or.inl ⟨fun q => s3 q.2.2.2.1, rfl⟩⟩
        · have s3 : isn ch len (nxp ch len (nxp ch len (nxp ch len i))) 0 6 59 = true := tf s3
          obtain ⟨-, -, a0, -⟩ := isn_ok s0
          obtain ⟨-, -, a1, -⟩ := isn_ok s1
          obtain ⟨-, -, a2, -⟩ := isn_ok s2
          obtain ⟨-, -, a3, -⟩ := isn_ok s3
          obtain ⟨u, hu, hu6⟩ := F.2.2.2.2.1 (nm ch len (nxp ch len (nxp ch len i))).1 a2
          have hucl : (s (33 + (nm ch len (nxp ch len (nxp ch len i))).1)).toNatClampNeg = u := by rw [hu, nI_cl (by omega)]
          have hol := oth_le s (nm ch len i).1 (nI (nm ch len (nxp ch len (nxp ch len i))).1) (nm ch len (nxp ch len i)).1 p
          refine R_s 5 (95, [(3, vI (nI ((nm ch len (nxp ch len (nxp ch len i))).1))), (2, vI (nI ((nm ch len (nxp ch len i)).1))), (1, vI (nI ((nm ch len i).1))), (0, vR 8 20)], [vI (nI ((nm ch len (nxp ch len i)).1)), vI (nI ((nm ch len (nxp ch len (nxp ch len i))).1)), vI (nI ((nm ch len i).1)), vR 8 22], h13) rfl ?_
          refine R_calli mM_others [vR 8 22, vI (nI ((nm ch len i).1)), vI (nI ((nm ch len (nxp ch len (nxp ch len i))).1)), vI (nI ((nm ch len (nxp ch len i)).1))] [] (nI (otm s (nm ch len i).1 (nI (nm ch len (nxp ch len (nxp ch len i))).1) (nI (nm ch len (nxp ch len i)).1) p)) h13 rfl (t_M_others22 M13 F.1.2.1 h5 (by omega)) ?_
          refine R_top (nI (oth s (nm ch len i).1 (nI (nm ch len (nxp ch len (nxp ch len i))).1) (nm ch len (nxp ch len i)).1 p)) (by rw [otm_oth (by omega) p h5]) ?_
          refine R_s 4 (105, [(3, vI (nI ((nm ch len (nxp ch len (nxp ch len i))).1))), (2, vI (nI ((nm ch len (nxp ch len i)).1))), (1, vI (nI ((nm ch len i).1))), (0, vR 8 20)], [vI (nI ((nm ch len (nxp ch len (nxp ch len i))).1)), vI (nI 33), vR 8 22, vI (nI (oth s (nm ch len i).1 (nI (nm ch len (nxp ch len (nxp ch len i))).1) (nm ch len (nxp ch len i)).1 p))], h13) rfl ?_
          refine R_add 33 ((nm ch len (nxp ch len (nxp ch len i))).1) rfl ?_
          refine R_ld 8 22 (33 + ((nm ch len (nxp ch len (nxp ch len i))).1)) 125 rfl rfl (by omega) (by decide) ?_
          refine R_top (nI u) ((M13 _ (by omega)).trans hu) ?_
          refine R_s 1 (cond (if2 .lt (nI (oth s (nm ch len i).1 (nI (nm ch len (nxp ch len (nxp ch len i))).1) (nm ch len (nxp ch len i)).1 p)) (nI u)) 112 110, [(3, vI (nI ((nm ch len (nxp ch len (nxp ch len i))).1))), (2, vI (nI ((nm ch len (nxp ch len i)).1))), (1, vI (nI ((nm ch len i).1))), (0, vR 8 20)], [], h13) rfl ?_
          refine R_bp ((oth s (nm ch len i).1 (nI (nm ch len (nxp ch len (nxp ch len i))).1) (nm ch len (nxp ch len i)).1 p) < u) (i2_lt (by omega) (by omega)) (fun c5 => ?_) (fun c5 => ?_)
          · refine R_s 7 (123, [(3, vI (nI ((nm ch len (nxp ch len (nxp ch len i))).1))), (2, vI (nI ((nm ch len (nxp ch len i)).1))), (1, vI (nI ((nm ch len i).1))), (0, vR 8 20)], [vI (h13 8 20 7), vI (nI ((nm ch len (nxp ch len (nxp ch len i))).1)), vI (nI ((nm ch len (nxp ch len i)).1)), vI (nI ((nm ch len i).1)), vR 8 22], h13) rfl ?_
            refine R_top (nI ((nm ch len (nxp ch len (nxp ch len (nxp ch len i)))).1)) n13 ?_
            refine R_callv mM_part [vR 8 22, vI (nI ((nm ch len i).1)), vI (nI ((nm ch len (nxp ch len i)).1)), vI (nI ((nm ch len (nxp ch len (nxp ch len i))).1)), vI (nI ((nm ch len (nxp ch len (nxp ch len (nxp ch len i)))).1))] [] (hset (hset h13 8 22 (45 + 2 * ((nm ch len i).1 * 5 + (nm ch len (nxp ch len i)).1)) (nI (nm ch len (nxp ch len (nxp ch len i))).1)) 8 22 (46 + 2 * ((nm ch len i).1 * 5 + (nm ch len (nxp ch len i)).1)) (nI (nm ch len (nxp ch len (nxp ch len (nxp ch len i)))).1)) rfl (t_M_part22 (by omega) (by omega)) ?_
            refine R_hp (fun h1 eh1 => ?_)
            refine R_s 1 (127, [(3, vI (nI ((nm ch len (nxp ch len (nxp ch len i))).1))), (2, vI (nI ((nm ch len (nxp ch len i)).1))), (1, vI (nI ((nm ch len i).1))), (0, vR 8 20)], [vI (nI 1)], h1) rfl ?_
            exact R_ret (some (vI (nI 1))) h1 rfl ⟨by rw [eh1]; exact (X13.fd.r).r, Or.inr ⟨⟨s0, s1, s2, s3, by omega⟩, rfl, by rw [eh1]; exact M13.up2.up2, by rw [eh1, hs_ne (by omega), hs_ne (by omega)]; exact p13⟩⟩
          · refine R_s 1 (111, [(3, vI (nI ((nm ch len (nxp ch len (nxp ch len i))).1))), (2, vI (nI ((nm ch len (nxp ch len i)).1))), (1, vI (nI ((nm ch len i).1))), (0, vR 8 20)], [vI (nI 0)], h13) rfl ?_
            exact R_ret (some (vI (nI 0))) h13 rfl ⟨X13.fd, Or.inl ⟨fun q => absurd q.2.2.2.2 (by omega), rfl⟩⟩
      · have s2 : ¬ isn ch len (nxp ch len (nxp ch len i)) 0 k 44 = true := s2
        refine R_s 1 (71, [(2, vI (nI ((nm ch len (nxp ch len i)).1))), (1, vI (nI ((nm ch len i).1))), (0, vR 8 20)], [vI (nI 0)], h12) rfl ?_
        exact R_ret (some (vI (nI 0))) h12 rfl ⟨X12.fd, Or.inl ⟨fun q => s2 q.2.2.1, rfl⟩⟩
    · have s1 : ¬ isn ch len (nxp ch len i) 0 p 44 = true := s1
      refine R_s 1 (45, [(1, vI (nI ((nm ch len i).1))), (0, vR 8 20)], [vI (nI 0)], h11) rfl ?_
      exact R_ret (some (vI (nI 0))) h11 rfl ⟨X11.fd, Or.inl ⟨fun q => s1 q.2.1, rfl⟩⟩
  · have s0 : ¬ isn ch len i 0 n 44 = true := s0
    refine R_s 1 (19, [(0, vR 8 20)], [vI (nI 0)], h10) rfl ?_
    exact R_ret (some (vI (nI 0))) h10 rfl ⟨X10.fd, Or.inl ⟨fun q => s0 q.1, rfl⟩⟩
theorem sw_d {c : Nat} (hc : c < 127) (h1 : ¬ c = 101) (h2 : ¬ c = 107) (h3 : ¬ c = 112) (h4 : ¬ c = 115) (h5 : ¬ c = 117) : Op.lookupswitch.offset #[((101 : Int), (256 : Int)), (107, 162), (112, 106), (115, 52), (117, 251)].toList 294 (nI c).toInt = 294 := by
  have h : ∀ c, c < 127 → (decide (c = 101) || decide (c = 107) || decide (c = 112) || decide (c = 115) || decide (c = 117) || decide (Op.lookupswitch.offset #[((101 : Int), (256 : Int)), (107, 162), (112, 106), (115, 52), (117, 251)].toList 294 (nI c).toInt = 294)) = true := by decide +kernel
  have e := h c hc
  rw [decide_eq_false h1, decide_eq_false h2, decide_eq_false h3, decide_eq_false h4, decide_eq_false h5] at e
  exact of_decide_eq_true e
theorem R_swd {d c : Nat} {lv : List (Nat × AV)} {st : List AV} {h : HP} {Q : Option AV → HP → Prop} (hc : c < 127) (h1 : ¬ c = 101) (h2 : ¬ c = 107) (h3 : ¬ c = 112) (h4 : ¬ c = 115) (h5 : ¬ c = 117) (k : R d mM_statement (310, lv, st, h) Q) : R d mM_statement (16, lv, vI (nI c) :: st, h) Q := by
  refine R_next (c' := (310, lv, st, h)) ?_ k
  unfold stp opt
  rw [show lk (mI mM_statement) 16 = some (.lookupswitch 294 #[(101, 256), (107, 162), (112, 106), (115, 52), (117, 251)], 52) from rfl]
  simp only [sti, sw_d hc h1 h2 h3 h4 h5]
  rfl
set_option maxRecDepth 100000 in
theorem t_M_statement {d a len n p k : Nat} {h : HP} {s : Nat → Int32} {ch : Nat → Nat} (T : TXM h ch len) (ha6 : h 8 20 6 = nI a) (ha : a < len) (M : MS 22 h s) (F : WF s n p k) : MT (d + 3) mM_statement [vR 8 20] h (fun r h' => FD h h' ∧ match stM ch len a (s, n, p, k) with
    | none => r = some (vI (nI 0))
    | some q => r = some (vI (nI 1)) ∧ MS 22 h' q.1.1 ∧ h' 8 20 6 = nI q.2) := by
  have h8 := F.2.1.1
  have h5 := F.2.1.2.1
  have h6 := F.2.1.2.2
  have hlen := T.2.1
  have hch := (T.2.2 a ha).2
  refine R_s 1 (1, [(0, vR 8 20)], [vR 8 20], h) rfl ?_
  refine R_calli mM_here [vR 8 20] [] (nI (hr ch len a)) h rfl (t_M_here T ha6 (by omega)) ?_
  refine R_top (nI (ch a)) (by rw [hr_in ha]) ?_
  refine R_s 4 (10, [(1, vI (nI (ch a))), (0, vR 8 20)], [vI (h 8 20 6), vR 8 20], h) rfl ?_
  refine R_top (nI a) ha6 ?_
  refine R_s 1 (11, [(1, vI (nI (ch a))), (0, vR 8 20)], [vI (nI 1), vI (nI a), vR 8 20], h) rfl ?_
  refine R_add a 1 rfl ?_
  refine R_s 1 (15, [(1, vI (nI (ch a))), (0, vR 8 20)], [], (hset h 8 20 6 (nI (a + 1)))) rfl ?_
  refine R_hp (fun h1 eh1 => ?_)
  have X0 : FS h h1 := by rw [eh1]; exact FS.rf.set (Or.inl rfl)
  have p0 : h1 8 20 6 = nI (a + 1) := by rw [eh1, hs_same, up_same]
  have M0 : MS 22 h1 s := M.fs (by decide) X0
  refine R_s 1 (16, [(1, vI (nI (ch a))), (0, vR 8 20)], [vI (nI (ch a))], h1) rfl ?_
  unfold stM
  dsimp only
  by_cases l0 : ch a = 115
  · rw [if_pos l0]
    refine R_lv (lv' := [(1, vI (nI 115)), (0, vR 8 20)]) (by rw [l0]) ?_
    refine R_top (nI 115) (by rw [l0]) ?_
    refine R_s 1 (68, [(1, vI (nI 115)), (0, vR 8 20)], [], h1) rfl ?_
    refine R_s 4 (74, [(1, vI (nI 115)), (0, vR 8 20)], [vI (nI 59), vI (nI 20), vI (nI 1), vR 8 20], h1) rfl ?_
    refine R_call mM_isNumber [vR 8 20, vI (nI 1), vI (nI 20), vI (nI 59)] [] rfl (t_M_isNumber (lo := 1) (hi := 21) (T.fd X0.fd) p0 (by omega) (by omega) (by omega) (fun v hv => up_k (k := 20) (by omega) hv)) (fun r h10 e10 => ?_)
    obtain ⟨rfl, F10, p10, n10⟩ := e10
    show R _ mM_statement (77, [(1, vI (nI 115)), (0, vR 8 20)], [vI (bI (isn ch len (a + 1) 1 21 59))], h10) _
    have X10 : FD h h10 := FD.tr X0.fd F10.fd
    have M10 : MS 22 h10 _ := MS.fs M0 (by decide) F10
    refine R_s 1 (cond (if0 .eq (bI (isn ch len (a + 1) 1 21 59))) 91 80, [(1, vI (nI 115)), (0, vR 8 20)], [], h10) rfl ?_
    refine R_bp (isn ch len (a + 1) 1 21 59 = false) (x0_eq.trans bI_eq) (fun s0 => ?_) (fun s0 => ?_)
    · have s0 : ¬ isn ch len (a + 1) 1 21 59 = true := by rw [s0]; decide
      rw [if_neg (fun q => s0 q.1)]
      refine R_s 1 (92, [(1, vI (nI 115)), (0, vR 8 20)], [vI (nI 0)], h10) rfl ?_
      exact R_ret (some (vI (nI 0))) h10 rfl ⟨X10, rfl⟩
    · have s0 : isn ch len (a + 1) 1 21 59 = true := tf s0
      refine R_s 3 (85, [(1, vI (nI 115)), (0, vR 8 20)], [vI (nI 0), vR 8 22], h10) rfl ?_
      refine R_ld 8 22 0 125 rfl rfl (by omega) (by decide) ?_
      refine R_top (nI n) ((M10 0 (by decide)).trans F.1.1) ?_
      refine R_s 2 (cond (if2 .ne (nI n) (nI 8)) 93 91, [(1, vI (nI 115)), (0, vR 8 20)], [], h10) rfl ?_
      refine R_bp (¬ n = 8) (i2_ne (by omega) (by omega)) (fun c2 => ?_) (fun c2 => ?_)
      · rw [if_pos ⟨s0, c2⟩]
        refine R_s 6 (103, [(1, vI (nI 115)), (0, vR 8 20)], [vI (nI 0), vR 8 22, vI (nI 1), vR 8 22], h10) rfl ?_
        refine R_ld 8 22 0 125 rfl rfl (by omega) (by decide) ?_
        refine R_top (nI n) ((M10 0 (by decide)).trans F.1.1) ?_
        refine R_add 1 n rfl ?_
        refine R_s 2 (109, [(1, vI (nI 115)), (0, vR 8 20)], [vI (h10 8 20 7), vI (nI (1 + n)), vR 8 22], h10) rfl ?_
        refine R_top (nI ((nm ch len (a + 1)).1)) n10 ?_
        refine R_st 8 22 (1 + n) 125 (nI ((nm ch len (a + 1)).1)) rfl rfl (by omega) (by decide) (fun h2 eh2 => ?_)
        have M5 : MS 22 h2 (upd s (1 + n) (nI (nm ch len (a + 1)).1)) := by rw [eh2]; exact M10.up2
        refine R_s 4 (116, [(1, vI (nI 115)), (0, vR 8 20)], [vI (nI 0), vR 8 22, vI (nI 0), vR 8 22], h2) rfl ?_
        refine R_ld 8 22 0 125 rfl rfl (by omega) (by decide) ?_
        refine R_top (nI n) ((M5 0 (by decide)).trans ((up_ne (by omega)).trans F.1.1)) ?_
        refine R_s 1 (118, [(1, vI (nI 115)), (0, vR 8 20)], [vI (nI 1), vI (nI n), vI (nI 0), vR 8 22], h2) rfl ?_
        refine R_add n 1 rfl ?_
        refine R_st 8 22 0 125 (nI (n + 1)) rfl rfl (by omega) (by decide) (fun h3 eh3 => ?_)
        refine R_s 1 (121, [(1, vI (nI 115)), (0, vR 8 20)], [vI (nI 1)], h3) rfl ?_
        exact R_ret (some (vI (nI 1))) h3 rfl ⟨by rw [eh3, eh2]; exact X10.r.r, rfl, by rw [eh3]; exact M5.up2, by rw [eh3, hs_ne (by omega), eh2, hs_ne (by omega)]; exact p10⟩
      · rw [if_neg (fun q => c2 q.2)]
        refine R_s 1 (92, [(1, vI (nI 115)), (0, vR 8 20)], [vI (nI 0)], h10) rfl ?_
        exact R_ret (some (vI (nI 0))) h10 rfl ⟨X10, rfl⟩
  · rw [if_neg l0]
    by_cases l1 : ch a = 112
    · rw [if_pos l1]
      refine R_lv (lv' := [(1, vI (nI 112)), (0, vR 8 20)]) (by rw [l1]) ?_
      refine R_top (nI 112) (by rw [l1]) ?_
      refine R_s 1 (122, [(1, vI (nI 112)), (0, vR 8 20)], [], h1) rfl ?_
      refine R_s 4 (127, [(1, vI (nI 112)), (0, vR 8 20)], [vI (nI 59), vI (nI 1), vI (nI 0), vR 8 20], h1) rfl ?_
      refine R_call mM_isNumber [vR 8 20, vI (nI 0), vI (nI 1), vI (nI 59)] [] rfl (t_M_isNumber (lo := 0) (hi := 2) (T.fd X0.fd) p0 (by omega) (by omega) (by omega) (fun v hv => up_k (k := 1) (by omega) hv)) (fun r h10 e10 => ?_)
      obtain ⟨rfl, F10, p10, n10⟩ := e10
      show R _ mM_statement (130, [(1, vI (nI 112)), (0, vR 8 20)], [vI (bI (isn ch len (a + 1) 0 2 59))], h10) _
      have X10 : FD h h10 := FD.tr X0.fd F10.fd
      have M10 : MS 22 h10 _ := MS.fs M0 (by decide) F10
      refine R_s 1 (cond (if0 .eq (bI (isn ch len (a + 1) 0 2 59))) 144 133, [(1, vI (nI 112)), (0, vR 8 20)], [], h10) rfl ?_
      refine R_bp (isn ch len (a + 1) 0 2 59 = false) (x0_eq.trans bI_eq) (fun s0 => ?_) (fun s0 => ?_)
      · have s0 : ¬ isn ch len (a + 1) 0 2 59 = true := by rw [s0]; decide
        rw [if_neg (fun q => s0 q.1)]
        refine R_s 1 (145, [(1, vI (nI 112)), (0, vR 8 20)], [vI (nI 0)], h10) rfl ?_
        exact R_ret (some (vI (nI 0))) h10 rfl ⟨X10, rfl⟩
      · have s0 : isn ch len (a + 1) 0 2 59 = true := tf s0
        refine R_s 3 (139, [(1, vI (nI 112)), (0, vR 8 20)], [vI (nI 26), vR 8 22], h10) rfl ?_
        refine R_ld 8 22 26 125 rfl rfl (by omega) (by decide) ?_
        refine R_top (nI p) ((M10 26 (by decide)).trans F.1.2.1) ?_
        refine R_s 2 (cond (if2 .ne (nI p) (nI 5)) 146 144, [(1, vI (nI 112)), (0, vR 8 20)], [], h10) rfl ?_
        refine R_bp (¬ p = 5) (i2_ne (by omega) (by omega)) (fun c2 => ?_) (fun c2 => ?_)
        · rw [if_pos ⟨s0, c2⟩]
          refine R_s 6 (158, [(1, vI (nI 112)), (0, vR 8 20)], [vI (nI 26), vR 8 22, vI (nI 27), vR 8 22], h10) rfl ?_
          refine R_ld 8 22 26 125 rfl rfl (by omega) (by decide) ?_
          refine R_top (nI p) ((M10 26 (by decide)).trans F.1.2.1) ?_
          refine R_add 27 p rfl ?_
          refine R_s 2 (164, [(1, vI (nI 112)), (0, vR 8 20)], [vI (h10 8 20 7), vI (nI (27 + p)), vR 8 22], h10) rfl ?_
          refine R_top (nI ((nm ch len (a + 1)).1)) n10 ?_
          refine R_st 8 22 (27 + p) 125 (nI ((nm ch len (a + 1)).1)) rfl rfl (by omega) (by decide) (fun h4 eh4 => ?_)
          have M5 : MS 22 h4 (upd s (27 + p) (nI (nm ch len (a + 1)).1)) := by rw [eh4]; exact M10.up2
          refine R_s 4 (172, [(1, vI (nI 112)), (0, vR 8 20)], [vI (nI 26), vR 8 22, vI (nI 26), vR 8 22], h4) rfl ?_
          refine R_ld 8 22 26 125 rfl rfl (by omega) (by decide) ?_
          refine R_top (nI p) ((M5 26 (by decide)).trans ((up_ne (by omega)).trans F.1.2.1)) ?_
          refine R_s 1 (174, [(1, vI (nI 112)), (0, vR 8 20)], [vI (nI 1), vI (nI p), vI (nI 26), vR 8 22], h4) rfl ?_
          refine R_add p 1 rfl ?_
          refine R_st 8 22 26 125 (nI (p + 1)) rfl rfl (by omega) (by decide) (fun h5 eh5 => ?_)
          refine R_s 1 (177, [(1, vI (nI 112)), (0, vR 8 20)], [vI (nI 1)], h5) rfl ?_
          exact R_ret (some (vI (nI 1))) h5 rfl ⟨by rw [eh5, eh4]; exact X10.r.r, rfl, by rw [eh5]; exact M5.up2, by rw [eh5, hs_ne (by omega), eh4, hs_ne (by omega)]; exact p10⟩
        · rw [if_neg (fun q => c2 q.2)]
          refine R_s 1 (145, [(1, vI (nI 112)), (0, vR 8 20)], [vI (nI 0)], h10) rfl ?_
          exact R_ret (some (vI (nI 0))) h10 rfl ⟨X10, rfl⟩
    · rw [if_neg l1]
      by_cases l2 : ch a = 107
      · rw [if_pos l2]
        refine R_lv (lv' := [(1, vI (nI 107)), (0, vR 8 20)]) (by rw [l2]) ?_
        refine R_top (nI 107) (by rw [l2]) ?_
        refine R_s 1 (178, [(1, vI (nI 107)), (0, vR 8 20)], [], h1) rfl ?_
        refine R_s 4 (183, [(1, vI (nI 107)), (0, vR 8 20)], [vI (nI 44), vI (nI 5), vI (nI 1), vR 8 20], h1) rfl ?_
        refine R_call mM_isNumber [vR 8 20, vI (nI 1), vI (nI 5), vI (nI 44)] [] rfl (t_M_isNumber (lo := 1) (hi := 6) (T.fd X0.fd) p0 (by omega) (by omega) (by omega) (fun v hv => up_k (k := 5) (by omega) hv)) (fun r h10 e10 => ?_)
        obtain ⟨rfl, F10, p10, n10⟩ := e10
        show R _ mM_statement (186, [(1, vI (nI 107)), (0, vR 8 20)], [vI (bI (isn ch len (a + 1) 1 6 44))], h10) _
        have X10 : FD h h10 := FD.tr X0.fd F10.fd
        have M10 : MS 22 h10 _ := MS.fs M0 (by decide) F10
        refine R_s 1 (cond (if0 .eq (bI (isn ch len (a + 1) 1 6 44))) 201 189, [(1, vI (nI 107)), (0, vR 8 20)], [], h10) rfl ?_
        refine R_bp (isn ch len (a + 1) 1 6 44 = false) (x0_eq.trans bI_eq) (fun s0 => ?_) (fun s0 => ?_)
        · have s0 : ¬ isn ch len (a + 1) 1 6 44 = true := by rw [s0]; decide
          rw [if_neg (fun q => s0 q.1)]
          refine R_s 1 (202, [(1, vI (nI 107)), (0, vR 8 20)], [vI (nI 0)], h10) rfl ?_
          exact R_ret (some (vI (nI 0))) h10 rfl ⟨X10, rfl⟩
        · have s0 : isn ch len (a + 1) 1 6 44 = true := tf s0
          refine R_s 3 (195, [(1, vI (nI 107)), (0, vR 8 20)], [vI (nI 32), vR 8 22], h10) rfl ?_
          refine R_ld 8 22 32 125 rfl rfl (by omega) (by decide) ?_
          refine R_top (nI k) ((M10 32 (by decide)).trans F.1.2.2) ?_
          refine R_s 2 (cond (if2 .ne (nI k) (nI 6)) 203 201, [(1, vI (nI 107)), (0, vR 8 20)], [], h10) rfl ?_
          refine R_bp (¬ k = 6) (i2_ne (by omega) (by omega)) (fun c2 => ?_) (fun c2 => ?_)
          · refine R_s 6 (215, [(1, vI (nI 107)), (0, vR 8 20)], [vI (nI 32), vR 8 22, vI (nI 33), vR 8 22], h10) rfl ?_
            refine R_ld 8 22 32 125 rfl rfl (by omega) (by decide) ?_
            refine R_top (nI k) ((M10 32 (by decide)).trans F.1.2.2) ?_
            refine R_add 33 k rfl ?_
            refine R_s 2 (221, [(1, vI (nI 107)), (0, vR 8 20)], [vI (h10 8 20 7), vI (nI (33 + k)), vR 8 22], h10) rfl ?_
            refine R_top (nI ((nm ch len (a + 1)).1)) n10 ?_
            refine R_st 8 22 (33 + k) 125 (nI ((nm ch len (a + 1)).1)) rfl rfl (by omega) (by decide) (fun h6 eh6 => ?_)
            have M5 : MS 22 h6 (upd s (33 + k) (nI (nm ch len (a + 1)).1)) := by rw [eh6]; exact M10.up2
            have X5 : FD h h6 := by rw [eh6]; exact X10.r
            have p5 : h6 8 20 6 = nI (nxp ch len (a + 1)) := by rw [eh6, hs_ne (by omega)]; exact p10
            have y1 := nxp_le (ch := ch) (len := len) (i := a + 1)
            refine R_s 4 (227, [(1, vI (nI 107)), (0, vR 8 20)], [vI (nI 59), vI (nI 1), vI (nI 0), vR 8 20], h6) rfl ?_
            refine R_call mM_isNumber [vR 8 20, vI (nI 0), vI (nI 1), vI (nI 59)] [] rfl (t_M_isNumber (lo := 0) (hi := 2) (T.fd X5) p5 (by omega) (by omega) (by omega) (fun v hv => up_k (k := 1) (by omega) hv)) (fun r h11 e11 => ?_)
            obtain ⟨rfl, F11, p11, n11⟩ := e11
            show R _ mM_statement (230, [(1, vI (nI 107)), (0, vR 8 20)], [vI (bI (isn ch len (nxp ch len (a + 1)) 0 2 59))], h11) _
            have X11 : FD h h11 := FD.tr X5 F11.fd
            have M11 : MS 22 h11 _ := MS.fs M5 (by decide) F11
            refine R_s 1 (cond (if0 .ne (bI (isn ch len (nxp ch len (a + 1)) 0 2 59))) 235 233, [(1, vI (nI 107)), (0, vR 8 20)], [], h11) rfl ?_
            refine R_bp (isn ch len (nxp ch len (a + 1)) 0 2 59 = true) (x0_ne.trans bI_ne) (fun s1 => ?_) (fun s1 => ?_)
            · have s1 : isn ch len (nxp ch len (a + 1)) 0 2 59 = true := s1
              rw [if_pos ⟨s0, c2, s1⟩]
              refine R_s 6 (247, [(1, vI (nI 107)), (0, vR 8 20)], [vI (nI 32), vR 8 22, vI (nI 39), vR 8 22], h11) rfl ?_
              refine R_ld 8 22 32 125 rfl rfl (by omega) (by decide) ?_
              refine R_top (nI k) ((M11 32 (by decide)).trans ((up_ne (by omega)).trans F.1.2.2)) ?_
              refine R_add 39 k rfl ?_
              refine R_s 2 (253, [(1, vI (nI 107)), (0, vR 8 20)], [vI (h11 8 20 7), vI (nI (39 + k)), vR 8 22], h11) rfl ?_
              refine R_top (nI ((nm ch len (nxp ch len (a + 1))).1)) n11 ?_
              refine R_st 8 22 (39 + k) 125 (nI ((nm ch len (nxp ch len (a + 1))).1)) rfl rfl (by omega) (by decide) (fun h7 eh7 => ?_)
              have M6 : MS 22 h7 (upd (upd s (33 + k) (nI (nm ch len (a + 1)).1)) (39 + k) (nI (nm ch len (nxp ch len (a + 1))).1)) := by rw [eh7]; exact M11.up2
              refine R_s 4 (261, [(1, vI (nI 107)), (0, vR 8 20)], [vI (nI 32), vR 8 22, vI (nI 32), vR 8 22], h7) rfl ?_
              refine R_ld 8 22 32 125 rfl rfl (by omega) (by decide) ?_
              refine R_top (nI k) ((M6 32 (by decide)).trans ((up_ne (by omega)).trans ((up_ne (by omega)).trans F.1.2.2))) ?_
              refine R_s 1 (263, [(1, vI (nI 107)), (0, vR 8 20)], [vI (nI 1), vI (nI k), vI (nI 32), vR 8 22], h7) rfl ?_
              refine R_add k 1 rfl ?_
              refine R_st 8 22 32 125 (nI (k + 1)) rfl rfl (by omega) (by decide) (fun h8 eh8 => ?_)
              refine R_s 1 (266, [(1, vI (nI 107)), (0, vR 8 20)], [vI (nI 1)], h8) rfl ?_
              exact R_ret (some (vI (nI 1))) h8 rfl ⟨by rw [eh8, eh7]; exact X11.r.r, rfl, by rw [eh8]; exact M6.up2, by rw [eh8, hs_ne (by omega), eh7, hs_ne (by omega)]; exact p11⟩
            · have s1 : ¬ isn ch len (nxp ch len (a + 1)) 0 2 59 = true := s1
              rw [if_neg (fun q => s1 q.2.2)]
              refine R_s 1 (234, [(1, vI (nI 107)), (0, vR 8 20)], [vI (nI 0)], h11) rfl ?_
              exact R_ret (some (vI (nI 0))) h11 rfl ⟨X11, rfl⟩
          · rw [if_neg (fun q => c2 q.2.1)]
            refine R_s 1 (202, [(1, vI (nI 107)), (0, vR 8 20)], [vI (nI 0)], h10) rfl ?_
            exact R_ret (some (vI (nI 0))) h10 rfl ⟨X10, rfl⟩
      · rw [if_neg l2]
        by_cases l3 : ch a = 117
        · rw [if_pos l3]
          refine R_lv (lv' := [(1, vI (nI 117)), (0, vR 8 20)]) (by rw [l3]) ?_
          refine R_top (nI 117) (by rw [l3]) ?_
          refine R_s 1 (267, [(1, vI (nI 117)), (0, vR 8 20)], [], h1) rfl ?_
          refine R_s 1 (268, [(1, vI (nI 117)), (0, vR 8 20)], [vR 8 20], h1) rfl ?_
          refine R_call mM_partIs [vR 8 20] [] rfl (t_M_partIs (T.fs X0) p0 (by omega) M0 F) (fun r h9 e9 => ?_)
          obtain ⟨X9, ⟨q9, rfl⟩ | ⟨q9, rfl, M9, p9⟩⟩ := e9
          · rw [if_neg q9]
            show R _ mM_statement (271, [(1, vI (nI 117)), (0, vR 8 20)], [vI (nI 0)], h9) _
            exact R_ret (some (vI (nI 0))) h9 rfl ⟨X0.fd.tr X9, rfl⟩
          · rw [if_pos q9]
            show R _ mM_statement (271, [(1, vI (nI 117)), (0, vR 8 20)], [vI (nI 1)], h9) _
            exact R_ret (some (vI (nI 1))) h9 rfl ⟨X0.fd.tr X9, rfl, M9, p9⟩
        · rw [if_neg l3]
          by_cases l4 : ch a = 101
          · rw [if_pos l4]
            refine R_lv (lv' := [(1, vI (nI 101)), (0, vR 8 20)]) (by rw [l4]) ?_
            refine R_top (nI 101) (by rw [l4]) ?_
            refine R_s 1 (272, [(1, vI (nI 101)), (0, vR 8 20)], [], h1) rfl ?_
            refine R_s 5 (279, [(1, vI (nI 101)), (0, vR 8 20)], [vI (nI 0), vR 8 22, vI (nI 0), vR 8 20], h1) rfl ?_
            refine R_ld 8 22 0 125 rfl rfl (by omega) (by decide) ?_
            refine R_top (nI n) ((M0 0 (by decide)).trans F.1.1) ?_
            refine R_s 3 (284, [(1, vI (nI 101)), (0, vR 8 20)], [vI (nI 59), vI (nI n - nI 1), vI (nI 0), vR 8 20], h1) rfl ?_
            refine R_call mM_isNumber [vR 8 20, vI (nI 0), vI (nI n - nI 1), vI (nI 59)] [] rfl (t_M_isNumber (lo := 0) (hi := n) (T.fd X0.fd) p0 (by omega) (by omega) (by omega) (fun v hv => up_n (by omega) hv)) (fun r h10 e10 => ?_)
            obtain ⟨rfl, F10, p10, n10⟩ := e10
            show R _ mM_statement (287, [(1, vI (nI 101)), (0, vR 8 20)], [vI (bI (isn ch len (a + 1) 0 n 59))], h10) _
            have X10 : FD h h10 := FD.tr X0.fd F10.fd
            have M10 : MS 22 h10 _ := MS.fs M0 (by decide) F10
            refine R_s 1 (cond (if0 .ne (bI (isn ch len (a + 1) 0 n 59))) 292 290, [(1, vI (nI 101)), (0, vR 8 20)], [], h10) rfl ?_
            refine R_bp (isn ch len (a + 1) 0 n 59 = true) (x0_ne.trans bI_ne) (fun s0 => ?_) (fun s0 => ?_)
            · have s0 : isn ch len (a + 1) 0 n 59 = true := s0
              obtain ⟨-, -, a0, -⟩ := isn_ok s0
              obtain ⟨e, e1, e2⟩ := F.2.2.1
              have e8 : e < 256 := Nat.lt_of_lt_of_le e2 (pw_le h8)
              rw [if_pos s0]
              refine R_s 4 (299, [(1, vI (nI 101)), (0, vR 8 20)], [vI (nI 9), vR 8 22, vI (nI 9), vR 8 22], h10) rfl ?_
              refine R_ld 8 22 9 125 rfl rfl (by omega) (by decide) ?_
              refine R_top (nI e) ((M10 9 (by decide)).trans e1) ?_
              refine R_s 3 (305, [(1, vI (nI 101)), (0, vR 8 20)], [vI (h10 8 20 7), vI (nI 1), vI (nI e), vI (nI 9), vR 8 22], h10) rfl ?_
              refine R_top (nI ((nm ch len (a + 1)).1)) n10 ?_
              refine R_s 2 (307, [(1, vI (nI 101)), (0, vR 8 20)], [vI ((nI e) ||| ((nI 1) <<< ((nI ((nm ch len (a + 1)).1)) &&& 31))), vI (nI 9), vR 8 22], h10) rfl ?_
              refine R_top (nI (e ||| 2 ^ (nm ch len (a + 1)).1)) (bit_or e e8 (nm ch len (a + 1)).1 (by omega)) ?_
              refine R_st 8 22 9 125 (nI (e ||| 2 ^ (nm ch len (a + 1)).1)) rfl rfl (by omega) (by decide) (fun h9 eh9 => ?_)
              refine R_s 1 (309, [(1, vI (nI 101)), (0, vR 8 20)], [vI (nI 1)], h9) rfl ?_
              exact R_ret (some (vI (nI 1))) h9 rfl ⟨by rw [eh9]; exact X10.r, rfl, by rw [eh9, e1, nI_cl (by omega)]; exact M10.up2, by rw [eh9, hs_ne (by omega)]; exact p10⟩
            · have s0 : ¬ isn ch len (a + 1) 0 n 59 = true := s0
              rw [if_neg s0]
              refine R_s 1 (291, [(1, vI (nI 101)), (0, vR 8 20)], [vI (nI 0)], h10) rfl ?_
              exact R_ret (some (vI (nI 0))) h10 rfl ⟨X10, rfl⟩
          · rw [if_neg l4]
            refine R_swd (c := ch a) (by omega) l4 l2 l1 l0 l3 ?_
            refine R_s 1 (311, [(1, vI (nI (ch a))), (0, vR 8 20)], [vI (nI 0)], h1) rfl ?_
            exact R_ret (some (vI (nI 0))) h1 rfl ⟨X0.fd, rfl⟩
