/-! references stay among the cells -/
def okv (cs : List (Nat × Nat)) : AV → Prop
  | .inr (.inr q) => q ∈ cs
  | _ => True
def clo (cs : List (Nat × Nat)) : Prop := cs.Nodup ∧ (∀ q ∈ cs, ∀ k t, tg q.1 q.2 k = some t → t ∈ cs) ∧ (∀ q ∈ cs, q.2 = 14 → ∀ i, i < 5 → (i + 2, 0) ∈ cs) ∧ (∀ q ∈ cs, oC q.2 = none → aC q.2 = none → q.2 = 14)
def OKC (cs : List (Nat × Nat)) (c : CF) : Prop := (∀ q ∈ c.2.1, okv cs q.2) ∧ ∀ v ∈ c.2.2.1, okv cs v
def OKR (cs : List (Nat × Nat)) : SR → Prop
  | .inl c => OKC cs c
  | .inr (.inl r) => ∀ v, r.1 = some v → okv cs v
  | .inr (.inr x) => (∀ v ∈ x.2.1, okv cs v) ∧ ∀ v ∈ x.2.2, okv cs v
theorem okv_cons {cs : List (Nat × Nat)} {v : AV} {r : List AV} (h : ∀ x ∈ v :: r, okv cs x) : okv cs v ∧ ∀ x ∈ r, okv cs x := ⟨h v List.mem_cons_self, fun x hx => h x (List.mem_cons_of_mem _ hx)⟩
theorem okv_mk {cs : List (Nat × Nat)} {v : AV} {r : List AV} (h1 : okv cs v) (h2 : ∀ x ∈ r, okv cs x) : ∀ x ∈ v :: r, okv cs x := fun x hx => (List.mem_cons.mp hx).elim (fun e => by rw [e]; exact h1) (h2 x)
theorem okv_lst {cs : List (Nat × Nat)} {lv : List (Nat × AV)} {k : Nat} {v : AV} (h1 : okv cs v) (h2 : ∀ q ∈ lv, okv cs q.2) : ∀ q ∈ lst lv k v, okv cs q.2 := by
  intro q hq
  unfold lst at hq
  rcases List.mem_cons.mp hq with e | e
  · rw [e]; exact h1
  · exact h2 q (List.mem_filter.mp e).1
theorem inb_lt {i : Int32} {n : Nat} (h : inb i n = true) : i.toNatClampNeg < n := Nat.not_le.mp fun q => inb_vp h (Or.inr q)
theorem okv_fA {cs : List (Nat × Nat)} (hc : clo cs) {h : HP} {g j k : Nat} (hq : (g, j) ∈ cs) : okv cs (fA h g j k) := by
  unfold fA
  split
  · rename_i q e
    exact hc.2.1 _ hq k q e
  · trivial
theorem sti_okv {cs : List (Nat × Nat)} {d : Nat} {M : MR} {i : Instr} {pc : Nat} {lv : List (Nat × AV)} {st : List AV} {h : HP} {z : SR} (hc : clo cs) (hl : ∀ q ∈ lv, okv cs q.2) (hv : ∀ v ∈ st, okv cs v) (hs : sti d M i pc lv st h = some z) : OKR cs z := by
  cases i with
  | iconst n => rw [nx_i hs]; exact ⟨hl, okv_mk trivial hv⟩
  | bipush n => rw [nx_i hs]; exact ⟨hl, okv_mk trivial hv⟩
  | sipush n => rw [nx_i hs]; exact ⟨hl, okv_mk trivial hv⟩
  | lconst n => rw [nx_i hs]; exact ⟨hl, okv_mk trivial hv⟩
  | ldc k => obtain ⟨q, -, hs⟩ := opt_some hs; rw [nx_i hs]; exact ⟨hl, okv_mk trivial hv⟩
  | ldc_w k => obtain ⟨q, -, hs⟩ := opt_some hs; rw [nx_i hs]; exact ⟨hl, okv_mk trivial hv⟩
  | ldc2_w k => obtain ⟨q, -, hs⟩ := opt_some hs; rw [nx_i hs]; exact ⟨hl, okv_mk trivial hv⟩
  | iload_n k => obtain ⟨x, -, rfl⟩ := ldI_i hs; exact ⟨hl, okv_mk trivial hv⟩
  | iload k => obtain ⟨x, -, rfl⟩ := ldI_i hs; exact ⟨hl, okv_mk trivial hv⟩
  | lload_n k => obtain ⟨x, -, rfl⟩ := ldL_i hs; exact ⟨hl, okv_mk trivial hv⟩
  | lload k => obtain ⟨x, -, rfl⟩ := ldL_i hs; exact ⟨hl, okv_mk trivial hv⟩
  | aload_n k => obtain ⟨x, y, e, rfl⟩ := ldR_i hs; exact ⟨hl, okv_mk (hl _ e) hv⟩
  | aload k => obtain ⟨x, y, e, rfl⟩ := ldR_i hs; exact ⟨hl, okv_mk (hl _ e) hv⟩
  | istore_n k => obtain ⟨x, r, rfl, -, rfl⟩ := stI_i hs; exact ⟨okv_lst trivial hl, (okv_cons hv).2⟩
  | istore k => obtain ⟨x, r, rfl, -, rfl⟩ := stI_i hs; exact ⟨okv_lst trivial hl, (okv_cons hv).2⟩
  | astore_n k => obtain ⟨x, y, r, rfl, -, rfl⟩ := stR_i hs; exact ⟨okv_lst (okv_cons hv).1 hl, (okv_cons hv).2⟩
  | iinc k n =>
    simp only [sti] at hs
    split at hs
    · obtain ⟨-, hs⟩ := cond_l hs
      rw [nx_i hs]; exact ⟨okv_lst trivial hl, hv⟩
    · cases hs
  | iadd => obtain ⟨x, y, r, rfl, rfl⟩ := o2_i hs; exact ⟨hl, okv_mk trivial (okv_cons (okv_cons hv).2).2⟩
  | isub => obtain ⟨x, y, r, rfl, rfl⟩ := o2_i hs; exact ⟨hl, okv_mk trivial (okv_cons (okv_cons hv).2).2⟩
  | imul => obtain ⟨x, y, r, rfl, rfl⟩ := o2_i hs; exact ⟨hl, okv_mk trivial (okv_cons (okv_cons hv).2).2⟩
  | iand => obtain ⟨x, y, r, rfl, rfl⟩ := o2_i hs; exact ⟨hl, okv_mk trivial (okv_cons (okv_cons hv).2).2⟩
  | ior => obtain ⟨x, y, r, rfl, rfl⟩ := o2_i hs; exact ⟨hl, okv_mk trivial (okv_cons (okv_cons hv).2).2⟩
  | ixor => obtain ⟨x, y, r, rfl, rfl⟩ := o2_i hs; exact ⟨hl, okv_mk trivial (okv_cons (okv_cons hv).2).2⟩
  | ishl => obtain ⟨x, y, r, rfl, rfl⟩ := o2_i hs; exact ⟨hl, okv_mk trivial (okv_cons (okv_cons hv).2).2⟩
  | ishr => obtain ⟨x, y, r, rfl, rfl⟩ := o2_i hs; exact ⟨hl, okv_mk trivial (okv_cons (okv_cons hv).2).2⟩
  | iushr => obtain ⟨x, y, r, rfl, rfl⟩ := o2_i hs; exact ⟨hl, okv_mk trivial (okv_cons (okv_cons hv).2).2⟩
  | irem =>
    simp only [sti] at hs
    split at hs
    · obtain ⟨-, hs⟩ := cond_r hs
      rw [nx_i hs]; exact ⟨hl, okv_mk trivial (okv_cons (okv_cons hv).2).2⟩
    · cases hs
  | ineg => obtain ⟨x, r, rfl, rfl⟩ := o1_i hs; exact ⟨hl, okv_mk trivial (okv_cons hv).2⟩
  | i2l => obtain ⟨x, r, rfl, rfl⟩ := o1_i hs; exact ⟨hl, okv_mk trivial (okv_cons hv).2⟩
  | i2c => obtain ⟨x, r, rfl, rfl⟩ := o1_i hs; exact ⟨hl, okv_mk trivial (okv_cons hv).2⟩
  | lcmp =>
    simp only [sti] at hs
    split at hs
    · rw [nx_i hs]; exact ⟨hl, okv_mk trivial (okv_cons (okv_cons hv).2).2⟩
    · cases hs
  | dup =>
    simp only [sti] at hs
    split at hs
    · obtain ⟨-, hs⟩ := cond_r hs
      rw [nx_i hs]; exact ⟨hl, okv_mk (okv_cons hv).1 hv⟩
    · cases hs
  | pop =>
    simp only [sti] at hs
    split at hs
    · obtain ⟨-, hs⟩ := cond_r hs
      rw [nx_i hs]; exact ⟨hl, (okv_cons hv).2⟩
    · cases hs
  | dup2 =>
    simp only [sti] at hs
    split at hs
    · obtain ⟨-, hs⟩ := cond_r hs
      rw [nx_i hs]; exact ⟨hl, okv_mk (okv_cons hv).1 (okv_mk (okv_cons (okv_cons hv).2).1 hv)⟩
    · cases hs
  | ifCond c off =>
    simp only [sti] at hs
    split at hs
    · obtain ⟨t, -, rfl⟩ := jmp_i hs; exact ⟨hl, (okv_cons hv).2⟩
    · cases hs
  | if_icmp c off =>
    simp only [sti] at hs
    split at hs
    · obtain ⟨t, -, rfl⟩ := jmp_i hs; exact ⟨hl, (okv_cons (okv_cons hv).2).2⟩
    · cases hs
  | goto off => obtain ⟨t, -, hs⟩ := opt_some hs; rw [nx_i hs]; exact ⟨hl, hv⟩
  | tableswitch dflt lo hi offs =>
    simp only [sti] at hs
    split at hs
    · rename_i x r
      cases hb : (decide (x.toInt < lo) || decide (hi < x.toInt)) with
      | true => rw [hb] at hs; obtain ⟨t, -, hs⟩ := opt_some hs; rw [nx_i hs]; exact ⟨hl, (okv_cons hv).2⟩
      | false => rw [hb] at hs; obtain ⟨o, -, hs⟩ := opt_some hs; obtain ⟨t, -, hs⟩ := opt_some hs; rw [nx_i hs]; exact ⟨hl, (okv_cons hv).2⟩
    · cases hs
  | lookupswitch dflt ps =>
    simp only [sti] at hs
    split at hs
    · obtain ⟨-, hs⟩ := cond_l hs
      obtain ⟨t, -, hs⟩ := opt_some hs; rw [nx_i hs]; exact ⟨hl, (okv_cons hv).2⟩
    · cases hs
  | getfield idx => obtain ⟨g, j, r, ci, k, w, nf, rfl, -, -, -, rfl⟩ := getF_i hs; exact ⟨hl, okv_mk (okv_fA hc (okv_cons hv).1) (okv_cons hv).2⟩
  | putfield idx => obtain ⟨x, g, j, r, ci, k, w, nf, rfl, -, -, -, -, -, rfl⟩ := putF_i hs; exact ⟨hl, (okv_cons (okv_cons hv).2).2⟩
  | arraylength =>
    simp only [sti] at hs
    split at hs
    · obtain ⟨t, -, hs⟩ := opt_some hs; rw [nx_i hs]; exact ⟨hl, okv_mk trivial (okv_cons hv).2⟩
    · cases hs
  | iaload => obtain ⟨i, g, j, r, n, rfl, -, -, rfl⟩ := aLd_i hs; exact ⟨hl, okv_mk trivial (okv_cons (okv_cons hv).2).2⟩
  | caload => obtain ⟨i, g, j, r, n, rfl, -, -, rfl⟩ := aLd_i hs; exact ⟨hl, okv_mk trivial (okv_cons (okv_cons hv).2).2⟩
  | baload => obtain ⟨i, g, j, r, n, rfl, -, -, rfl⟩ := aLd_i hs; exact ⟨hl, okv_mk trivial (okv_cons (okv_cons hv).2).2⟩
  | aaload =>
    simp only [sti] at hs
    split at hs
    · rename_i i g j r
      obtain ⟨h1, hs⟩ := cond_l hs
      rw [Bool.and_eq_true] at h1
      have e : j = 14 := Nat.eq_of_beq_eq_true h1.1
      rw [nx_i hs]
      exact ⟨hl, okv_mk (hc.2.2.1 _ (okv_cons (okv_cons hv).2).1 e _ (inb_lt h1.2)) (okv_cons (okv_cons hv).2).2⟩
    · cases hs
  | iastore => obtain ⟨x, i, g, j, r, n, rfl, -, -, rfl⟩ := aSt_i hs; exact ⟨hl, (okv_cons (okv_cons (okv_cons hv).2).2).2⟩
  | castore => obtain ⟨x, i, g, j, r, n, rfl, -, -, rfl⟩ := aSt_i hs; exact ⟨hl, (okv_cons (okv_cons (okv_cons hv).2).2).2⟩
  | bastore => obtain ⟨x, i, g, j, r, n, rfl, -, -, rfl⟩ := aSt_i hs; exact ⟨hl, (okv_cons (okv_cons (okv_cons hv).2).2).2⟩
  | ireturn =>
    simp only [sti] at hs
    split at hs
    · split at hs
      · cases hs; intro v e; cases e; trivial
      · obtain ⟨-, hs⟩ := cond_l hs
        cases hs; intro v e; cases e; trivial
      · cases hs
    · cases hs
  | areturn =>
    simp only [sti] at hs
    split at hs
    · split at hs
      · cases hs; intro v e; cases e; exact (okv_cons hv).1
      · cases hs
    · cases hs
  | return_ =>
    simp only [sti] at hs
    split at hs
    · split at hs
      · cases hs; intro v e; cases e
      · cases hs
    · cases hs
  | invokevirtual idx =>
    obtain ⟨M', w, g, j, as, r, nf, -, -, rfl, -, -, -, -, rfl⟩ := inv_i hs
    exact ⟨okv_mk (hv _ (List.mem_append_right _ List.mem_cons_self)) (fun v h9 => hv v (List.mem_append_left _ (List.mem_reverse.mpr h9))), fun v h9 => hv v (List.mem_append_right _ (List.mem_cons_of_mem _ h9))⟩
  | invokestatic idx =>
    simp only [sti] at hs
    split at hs
    · obtain ⟨-, r, -, ⟨x, y, -, rfl, rfl⟩ | ⟨x, y, -, rfl, rfl⟩ | ⟨x, -, rfl, rfl⟩⟩ := mth_i hs
      · exact ⟨hl, okv_mk trivial (okv_cons (okv_cons hv).2).2⟩
      · exact ⟨hl, okv_mk trivial (okv_cons (okv_cons hv).2).2⟩
      · exact ⟨hl, okv_mk trivial (okv_cons hv).2⟩
    cases hb : (Nat.beq (mK M) 0 && Nat.beq idx 49) with
    | true =>
      rw [hb] at hs
      obtain ⟨n, g1, j1, g0, j0, n0, n1, rfl, -, -, -, -, -, -, rfl⟩ := acp_i hs
      exact ⟨hl, fun v h9 => by cases h9⟩
    | false =>
      rw [hb] at hs
      obtain ⟨M', w, as, r, -, -, rfl, -, -, -, rfl⟩ := ins_i hs
      exact ⟨fun v h9 => hv v (List.mem_append_left _ (List.mem_reverse.mpr h9)), fun v h9 => hv v (List.mem_append_right _ h9)⟩
  | _ => exact absurd (show (none : Option SR) = some z from hs) (by simp)
theorem ent_mem {v : AV} : ∀ {as : List AV} {i : Nat} {q : Nat × AV}, q ∈ ent i as → q.2 ∈ as := by
  intro as
  induction as with
  | nil => intro i q h; cases h
  | cons a r ih =>
    intro i q h
    unfold ent at h
    rcases List.mem_cons.mp h with e | e
    · rw [e]; exact List.mem_cons_self
    · exact List.mem_cons_of_mem _ (ih e)
theorem okv_ent {cs : List (Nat × Nat)} {as : List AV} {i : Nat} (h : ∀ v ∈ as, okv cs v) : ∀ q ∈ ent i as, okv cs q.2 := fun q hq => h q.2 (ent_mem (v := q.2) hq)
theorem ex_okv {cs : List (Nat × Nat)} (hc : clo cs) : ∀ (n d : Nat) (M : MR) (c : CF) (r : Option AV × HP), OKC cs c → ex n d M c = some r → ∀ v, r.1 = some v → okv cs v := by
  intro n
  induction n with
  | zero => intro d M c r _ h; cases h
  | succ n ih =>
    intro d M c r hok h
    unfold ex at h
    cases hs : stp d M c with
    | none => rw [hs] at h; cases h
    | some z =>
      rw [hs] at h
      obtain ⟨q, -, hs⟩ := opt_some hs
      have hz := sti_okv hc hok.1 hok.2 hs
      match z, h, hz with
      | .inl c', h, hz => exact ih d M c' r hz h
      | .inr (.inl r'), h, hz =>
        cases h
        exact hz
      | .inr (.inr (M', as, rest)), h, hz =>
        cases d with
        | zero => cases h
        | succ d' =>
          dsimp only at h
          cases hx : ex n d' M' (0, ent 0 as, [], c.2.2.2) with
          | none => rw [hx] at h; cases h
          | some rr =>
            obtain ⟨r1, h'⟩ := rr
            rw [hx] at h
            have h1 := ih d' M' _ _ ⟨okv_ent hz.1, fun v h9 => by cases h9⟩ hx
            refine ih (d' + 1) M (c.1 + 3, c.2.1, r1.toList ++ rest, h') r ⟨hok.1, fun v hv => ?_⟩ h
            rcases List.mem_append.mp hv with h9 | h9
            · cases r1 with
              | none => cases h9
              | some w => rw [List.mem_singleton.mp h9]; exact h1 w rfl
            · exact hz.2 v h9
