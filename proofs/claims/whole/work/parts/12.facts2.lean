theorem gw_ml (a : String) (i : Nat) (y : MethodName) : goodWord (.methodLink a i y) = true := rfl
theorem gw_cd (y : MethodName) (b : ByteArray) (n : Nat) (r : Option FieldType) : goodWord (.code y b n r) = true := rfl
theorem gw_in (a : String) : goodWord (.initialized a) = true := rfl
theorem gw_st (y : MethodName) : goodWord (.static y) = true := rfl
theorem gw_im (y : MethodName) : goodWord (.instanceMethod y) = true := rfl
theorem gw_se (a : String) (y z : MethodName) : goodWord (.selects a y z) = true := rfl
theorem pn : ∀ c, c < 7 → plainName (cnm c) = true ∧ cnm c ≠ "java/lang/invoke/MethodHandle" ∧ cnm c ≠ "java/lang/invoke/VarHandle" := by decide +kernel
theorem cal_lk : ∀ c, ∀ q ∈ calT c, lnk c q = true
  | 0 => cal_l0
  | 1 => cal_l1
  | 2 => cal_l2
  | 3 => cal_l3
  | 4 => cal_l4
  | 5 => cal_l5
  | 6 => cal_l6
  | n + 7 => fun _ h => absurd h List.not_mem_nil
theorem cal_gm : ∀ c, ∀ q ∈ calT c, GM q.2.1
  | 0 => cal_g0
  | 1 => cal_g1
  | 2 => cal_g2
  | 3 => cal_g3
  | 4 => cal_g4
  | 5 => cal_g5
  | 6 => cal_g6
  | n + 7 => cal_g7
theorem cal_ok {c idx : Nat} {M : MR} {w : List Nat} (h : (idx, M, w) ∈ calT c) : GM M ∧ Cond.methodLink (cnm c) idx (mN M) ∈ gT ∧ Cond.code (mN M) (mC M) (mL M) (mR M) ∈ gT ∧ Cond.initialized (mN M).cls ∈ gT ∧ (mS M = true → Cond.static (mN M) ∈ gT) ∧ (mS M = false → Cond.instanceMethod (mN M) ∈ gT ∧ Cond.selects (mN M).cls (mN M) (mN M) ∈ gT) := by
  have h0 : GM M := cal_gm c (idx, M, w) h
  have h1 : lnk c (idx, M, w) = true := cal_lk c _ h
  unfold lnk at h1
  rw [Bool.and_eq_true, Bool.and_eq_true, Bool.and_eq_true] at h1
  obtain ⟨⟨⟨q1, q2⟩, q3⟩, q4⟩ := h1
  have q1 := of_decide_eq_true q1
  have q2 := of_decide_eq_true q2
  have q3 := of_decide_eq_true q3
  have r1 : Cond.methodLink (cnm c) idx (mN M) ∈ gT := gT_in q1 (gw_ml _ _ _)
  have r2 : Cond.code (mN M) (mC M) (mL M) (mR M) ∈ gT := gT_in q2 (gw_cd _ _ _ _)
  have r3 : Cond.initialized (mN M).cls ∈ gT := gT_in q3 (gw_in _)
  have r4 : mS M = true → Cond.static (mN M) ∈ gT := by
    intro e
    have q4 : cond (mS M) _ _ = true := q4
    rw [e] at q4
    exact gT_in (of_decide_eq_true q4) (gw_st _)
  have r5 : mS M = false → Cond.instanceMethod (mN M) ∈ gT ∧ Cond.selects (mN M).cls (mN M) (mN M) ∈ gT := by
    intro e
    have q4 : cond (mS M) _ _ = true := q4
    rw [e, cond_false, Bool.and_eq_true] at q4
    exact ⟨gT_in (of_decide_eq_true q4.1) (gw_im _), gT_in (of_decide_eq_true q4.2) (gw_se _ _ _)⟩
  exact ⟨h0, r1, r2, r3, r4, r5⟩
theorem cst_ok : ∀ c, (cstT c).all (fun q => decide (lw_tbl[q.2.2]? = some (.constant (cnm c) q.1 q.2.1))) = true
  | 0 => rfl
  | 1 => rfl
  | 2 => rfl
  | 3 => rfl
  | 4 => rfl
  | 5 => by decide +kernel
  | 6 => by decide +kernel
  | n + 7 => rfl
theorem csl_ok : ∀ c, (cslT c).all (fun q => decide (lw_tbl[q.2.2]? = some (.constantLong (cnm c) q.1 q.2.1))) = true
  | 0 => rfl
  | 1 => rfl
  | 2 => rfl
  | 3 => rfl
  | 4 => rfl
  | 5 => by decide +kernel
  | n + 6 => rfl
theorem cst_in {c k w : Nat} {v : Int32} (h : (k, v, w) ∈ cstT c) : Cond.constant (cnm c) k v ∈ gT := gT_in (of_decide_eq_true (List.all_eq_true.mp (cst_ok c) _ h)) rfl
theorem csl_in {c k w : Nat} {v : Int64} (h : (k, v, w) ∈ cslT c) : Cond.constantLong (cnm c) k v ∈ gT := gT_in (of_decide_eq_true (List.all_eq_true.mp (csl_ok c) _ h)) rfl
def mnm : Nat → MethodName
  | 1 => Lib.Math.max.name
  | 2 => Lib.Math.min.name
  | _ => Lib.Math.abs.name
def mok (c : Nat) (q : Nat × Nat × Nat) : Bool := decide (lw_tbl[q.2.2]? = some (.methodLink (cnm c) q.1 (mnm q.2.1)))
theorem mth_all : ∀ c, (mthT c).all (mok c) = true
  | 0 => by decide +kernel
  | 1 => by decide +kernel
  | 2 => by decide +kernel
  | 3 => by decide +kernel
  | n + 4 => rfl
theorem mth_ok {c idx op w : Nat} (h : (idx, op, w) ∈ mthT c) : Cond.methodLink (cnm c) idx (mnm op) ∈ gT := gT_in (of_decide_eq_true (show decide (lw_tbl[w]? = some (.methodLink (cnm c) idx (mnm op))) = true from List.all_eq_true.mp (mth_all c) _ h)) (gw_ml _ _ _)
theorem mt_i : Cond.initialized "java/lang/Math" ∈ gT := gT_in (i := 43) (by decide +kernel) rfl
theorem mt_smin : Cond.static Lib.Math.min.name ∈ gT := gT_in (i := 359) (by decide +kernel) rfl
theorem mt_cmin : Cond.code Lib.Math.min.name Lib.Math.min.code 2 (some .int) ∈ gT := gT_in (i := 360) (by decide +kernel) rfl
theorem mt_smax : Cond.static Lib.Math.max.name ∈ gT := gT_in (i := 384) (by decide +kernel) rfl
theorem mt_cmax : Cond.code Lib.Math.max.name Lib.Math.max.code 2 (some .int) ∈ gT := gT_in (i := 385) (by decide +kernel) rfl
theorem mt_sabs : Cond.static Lib.Math.abs.name ∈ gT := gT_in (i := 451) (by decide +kernel) rfl
theorem mt_cabs : Cond.code Lib.Math.abs.name Lib.Math.abs.code 1 (some .int) ∈ gT := gT_in (i := 452) (by decide +kernel) rfl
theorem acp_l : Cond.methodLink (cnm 0) 49 arraycopyName ∈ gT := gT_in (i := 296) (by decide +kernel) rfl
theorem acp_n : Cond.native arraycopyName ∈ gT := gT_in (i := 298) (by decide +kernel) rfl
theorem acp_s : Cond.static arraycopyName ∈ gT := gT_in (i := 297) (by decide +kernel) rfl
theorem acp_t : Cond.initialized "java/lang/System" ∈ gT := gT_in (i := 41) (by decide +kernel) rfl
theorem oC_ok {j ci nf : Nat} (h : oC j = some (ci, nf)) : ci < 6 ∧ nf = kN ci := by
  unfold oC at h
  split at h <;> first | (cases h; decide) | cases h
theorem tg_g {g j k : Nat} (h : tg g j k = none) : tg 0 j k = none := by
  unfold tg at h ⊢
  split at h <;> first | (cases h; done) | rfl
theorem ty_dec : ∀ j, j < 29 → ∀ k, k < 12 → ∀ o, oC j = some o → k < o.2 → tg 0 j k = none → kF o.1 k = (cond (isZ j k) .boolean .int) ∧ (kT o.1 k).2.2.2 = false := by
  intro j hj k hk o ho
  have h : ∀ j, j < 29 → ∀ k, k < 12 → (match oC j with
    | none => true
    | some o => !(Nat.blt k o.2) || !(tg 0 j k).isNone || (decide (kF o.1 k = (cond (isZ j k) .boolean .int)) && decide ((kT o.1 k).2.2.2 = false))) = true := by decide +kernel
  have h1 := h j hj k hk
  rw [ho] at h1
  intro h2 h3
  have e1 : Nat.blt k o.2 = true := Nat.ble_eq_true_of_le h2
  simp only [e1, h3, Option.isNone_none, Bool.not_true, Bool.false_or, Bool.and_eq_true, decide_eq_true_eq] at h1
  exact h1
theorem oC_lt {j : Nat} {o : Nat × Nat} (h : oC j = some o) : j < 29 := by
  unfold oC at h
  split at h <;> first | decide | cases h
theorem kN_le {ci : Nat} : kN ci ≤ 12 := by
  unfold kN
  split <;> decide
