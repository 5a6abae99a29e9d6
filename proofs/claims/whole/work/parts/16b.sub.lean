/-! locals that nobody reads any more may be forgotten -/
def relv (lv : List (Nat × AV)) : SR → SR
  | .inl c => .inl (c.1, lv, c.2.2.1, c.2.2.2)
  | .inr z => .inr z
def Sb (lv' lv : List (Nat × AV)) : Prop := (∀ q ∈ lv', q ∈ lv) ∧ ∀ a ∈ lv, ∀ b ∈ lv, a.1 = b.1 → a = b
theorem o2_r {f : Int32 → Int32 → Int32} {pc : Nat} {lv lv' : List (Nat × AV)} {st : List AV} {h : HP} : o2 f pc lv st h = (o2 f pc lv' st h).map (relv lv) := by
  unfold o2
  split <;> rfl
theorem o1_r {f : Int32 → AV} {pc : Nat} {lv lv' : List (Nat × AV)} {st : List AV} {h : HP} : o1 f pc lv st h = (o1 f pc lv' st h).map (relv lv) := by
  unfold o1
  split <;> rfl
theorem cnd_r {b : Bool} {x y : Option SR} {lv : List (Nat × AV)} (h : x = y.map (relv lv)) : cond b x none = (cond b y none).map (relv lv) := by
  cases b with
  | true => exact h
  | false => rfl
theorem cnd_q {b : Bool} {x y : Option SR} {lv : List (Nat × AV)} (h : x = y.map (relv lv)) : cond b none x = (cond b none y).map (relv lv) := by
  cases b with
  | false => exact h
  | true => rfl
theorem opt_r {α : Type} {o : Option α} {f g : α → Option SR} {lv : List (Nat × AV)} (h : ∀ a, f a = (g a).map (relv lv)) : opt o f = (opt o g).map (relv lv) := by
  cases o with
  | none => rfl
  | some a => exact h a
theorem aLd_r {t pc : Nat} {lv lv' : List (Nat × AV)} {st : List AV} {h : HP} : aLd t pc lv st h = (aLd t pc lv' st h).map (relv lv) := by
  unfold aLd
  split
  · split
    · exact cnd_r rfl
    · rfl
  · rfl
theorem aSt_r {t pc : Nat} {f : Int32 → Int32} {lv lv' : List (Nat × AV)} {st : List AV} {h : HP} : aSt t f pc lv st h = (aSt t f pc lv' st h).map (relv lv) := by
  unfold aSt
  split
  · split
    · exact cnd_r rfl
    · rfl
  · rfl
theorem getF_r {M : MR} {idx pc : Nat} {lv lv' : List (Nat × AV)} {st : List AV} {h : HP} : getF M idx pc lv st h = (getF M idx pc lv' st h).map (relv lv) := by
  unfold getF
  split
  · exact opt_r (fun _ => opt_r (fun _ => cnd_r rfl))
  · rfl
theorem putF_r {M : MR} {idx pc : Nat} {lv lv' : List (Nat × AV)} {st : List AV} {h : HP} : putF M idx pc lv st h = (putF M idx pc lv' st h).map (relv lv) := by
  unfold putF
  split
  · exact opt_r (fun _ => opt_r (fun _ => cnd_r rfl))
  · rfl
theorem acp_r {d pc : Nat} {lv lv' : List (Nat × AV)} {st : List AV} {h : HP} : acp d pc lv st h = (acp d pc lv' st h).map (relv lv) := by
  unfold acp
  split
  · exact opt_r (fun _ => opt_r (fun _ => cnd_r rfl))
  · rfl
theorem mth_r {d op pc : Nat} {lv lv' : List (Nat × AV)} {st : List AV} {h : HP} : mth d op pc lv st h = (mth d op pc lv' st h).map (relv lv) := by
  unfold mth
  split
  · exact cnd_r rfl
  · exact cnd_r rfl
  · exact cnd_r rfl
  · rfl
theorem jmp_r {c : Bool} {pc : Nat} {off : Int} {lv lv' : List (Nat × AV)} {st : List AV} {h : HP} : jmp c pc off lv st h = (jmp c pc off lv' st h).map (relv lv) := by
  unfold jmp
  split <;> rfl
theorem inv_r {M : MR} {idx : Nat} {lv : List (Nat × AV)} {st : List AV} : inv M idx st = (inv M idx st).map (relv lv) := by
  cases h : inv M idx st with
  | none => rfl
  | some z =>
    obtain ⟨M', w, g, j, as, r, nf, -, -, -, -, -, -, -, rfl⟩ := inv_i h
    rfl
theorem ins_r {M : MR} {idx : Nat} {lv : List (Nat × AV)} {st : List AV} : ins M idx st = (ins M idx st).map (relv lv) := by
  cases h : ins M idx st with
  | none => rfl
  | some z =>
    obtain ⟨M', w, as, r, -, -, -, -, -, -, rfl⟩ := ins_i h
    rfl
theorem sb_lk {lv' lv : List (Nat × AV)} (hs : Sb lv' lv) {i : Nat} {v : AV} (h : lk lv' i = some v) : lk lv i = some v := by
  have h1 := hs.1 _ (lk_mem h)
  have key : ∀ l : List (Nat × AV), (i, v) ∈ l → (∀ b ∈ l, i = b.1 → (i, v) = b) → lk l i = some v := by
    intro l
    induction l with
    | nil => intro h9; cases h9
    | cons q r ih =>
      intro h9 hf
      unfold lk
      cases hb : Nat.beq q.1 i with
      | true =>
        have e := hf q List.mem_cons_self (Nat.eq_of_beq_eq_true hb).symm
        rw [← e]
        rfl
      | false =>
        refine ih ?_ (fun b hb2 => hf b (List.mem_cons_of_mem _ hb2))
        rcases List.mem_cons.mp h9 with e | e
        · rw [← e] at hb
          simp at hb
        · exact e
  exact key lv h1 (fun b hb e => hs.2 _ h1 b hb e)
theorem sb_lst {lv' lv : List (Nat × AV)} (hs : Sb lv' lv) (i : Nat) (x : AV) : Sb (lst lv' i x) (lst lv i x) := by
  unfold lst
  refine ⟨fun q hq => ?_, fun a ha b hb e => ?_⟩
  · rcases List.mem_cons.mp hq with e | e
    · rw [e]; exact List.mem_cons_self
    · have := List.mem_filter.mp e
      exact List.mem_cons_of_mem _ (List.mem_filter.mpr ⟨hs.1 _ this.1, this.2⟩)
  · rcases List.mem_cons.mp ha with e1 | e1 <;> rcases List.mem_cons.mp hb with e2 | e2
    · rw [e1, e2]
    · have := (List.mem_filter.mp e2).2
      rw [e1] at e
      rw [← e] at this
      simp at this
    · have := (List.mem_filter.mp e1).2
      rw [e2] at e
      rw [e] at this
      simp at this
    · exact hs.2 a (List.mem_filter.mp e1).1 b (List.mem_filter.mp e2).1 e
/-- the step with more locals -/
def SbR (lv' lv : List (Nat × AV)) (z z' : SR) : Prop := match z, z' with
  | .inl c, .inl c' => c.1 = c'.1 ∧ c.2.2 = c'.2.2 ∧ Sb c.2.1 c'.2.1
  | .inr a, .inr b => a = b
  | _, _ => False
theorem sbr_rel {lv' lv : List (Nat × AV)} (hs : Sb lv' lv) {x y : Option SR} (h : y = x.map (relv lv)) {z : SR} (hx : x = some z) (hz : ∀ c, z = .inl c → c.2.1 = lv') : ∃ z', y = some z' ∧ SbR lv' lv z z' := by
  refine ⟨relv lv z, by rw [h, hx]; rfl, ?_⟩
  rcases z with c | a
  · exact ⟨rfl, rfl, by rw [hz c rfl]; exact hs⟩
  · rfl
theorem sti_sub {d : Nat} {M : MR} {i : Instr} {pc : Nat} {lv' lv : List (Nat × AV)} {st : List AV} {h : HP} {z : SR} (hs : Sb lv' lv) (hz : sti d M i pc lv' st h = some z) : ∃ z', sti d M i pc lv st h = some z' ∧ SbR lv' lv z z' := by
  have rel : (sti d M i pc lv st h = (sti d M i pc lv' st h).map (relv lv)) → (∀ c, z = .inl c → c.2.1 = lv') → ∃ z', sti d M i pc lv st h = some z' ∧ SbR lv' lv z z' := fun a b => sbr_rel hs a hz b
  cases i with
  | iconst n => exact rel rfl (fun c e => by rw [nx_i hz] at e; cases e; rfl)
  | bipush n => exact rel rfl (fun c e => by rw [nx_i hz] at e; cases e; rfl)
  | sipush n => exact rel rfl (fun c e => by rw [nx_i hz] at e; cases e; rfl)
  | lconst n => exact rel rfl (fun c e => by rw [nx_i hz] at e; cases e; rfl)
  | ldc k => exact rel (opt_r (fun _ => rfl)) (fun c e => by obtain ⟨q, -, hq⟩ := opt_some hz; rw [nx_i hq] at e; cases e; rfl)
  | ldc_w k => exact rel (opt_r (fun _ => rfl)) (fun c e => by obtain ⟨q, -, hq⟩ := opt_some hz; rw [nx_i hq] at e; cases e; rfl)
  | ldc2_w k => exact rel (opt_r (fun _ => rfl)) (fun c e => by obtain ⟨q, -, hq⟩ := opt_some hz; rw [nx_i hq] at e; cases e; rfl)
  | iload_n k =>
    simp only [sti, ldI] at hz ⊢
    split at hz
    · rename_i x e
      cases nx_i hz
      rw [sb_lk hs e]
      exact ⟨_, rfl, rfl, rfl, hs⟩
    · cases hz
  | iload k =>
    simp only [sti, ldI] at hz ⊢
    split at hz
    · rename_i x e
      cases nx_i hz
      rw [sb_lk hs e]
      exact ⟨_, rfl, rfl, rfl, hs⟩
    · cases hz
  | lload_n k =>
    simp only [sti, ldL] at hz ⊢
    split at hz
    · rename_i x e
      cases nx_i hz
      rw [sb_lk hs e]
      exact ⟨_, rfl, rfl, rfl, hs⟩
    · cases hz
  | lload k =>
    simp only [sti, ldL] at hz ⊢
    split at hz
    · rename_i x e
      cases nx_i hz
      rw [sb_lk hs e]
      exact ⟨_, rfl, rfl, rfl, hs⟩
    · cases hz
  | aload_n k =>
    simp only [sti, ldR] at hz ⊢
    split at hz
    · rename_i x e
      cases nx_i hz
      rw [sb_lk hs e]
      exact ⟨_, rfl, rfl, rfl, hs⟩
    · cases hz
  | aload k =>
    simp only [sti, ldR] at hz ⊢
    split at hz
    · rename_i x e
      cases nx_i hz
      rw [sb_lk hs e]
      exact ⟨_, rfl, rfl, rfl, hs⟩
    · cases hz
  | istore_n k =>
    simp only [sti, stI] at hz ⊢
    split at hz
    · obtain ⟨h1, h2⟩ := cond_l hz
      cases nx_i h2
      rw [h1]
      exact ⟨_, rfl, rfl, rfl, sb_lst hs _ _⟩
    · cases hz
  | istore k =>
    simp only [sti, stI] at hz ⊢
    split at hz
    · obtain ⟨h1, h2⟩ := cond_l hz
      cases nx_i h2
      rw [h1]
      exact ⟨_, rfl, rfl, rfl, sb_lst hs _ _⟩
    · cases hz
  | astore_n k =>
    simp only [sti, stR] at hz ⊢
    split at hz
    · obtain ⟨h1, h2⟩ := cond_l hz
      cases nx_i h2
      rw [h1]
      exact ⟨_, rfl, rfl, rfl, sb_lst hs _ _⟩
    · cases hz
  | iinc k n =>
    simp only [sti] at hz ⊢
    split at hz
    · rename_i x e
      obtain ⟨h1, h2⟩ := cond_l hz
      cases nx_i h2
      rw [sb_lk hs e]
      simp only [h1]
      exact ⟨_, rfl, rfl, rfl, sb_lst hs _ _⟩
    · cases hz
  | iadd => exact rel o2_r (fun c e => by obtain ⟨x, y, r, -, rfl⟩ := o2_i hz; cases e; rfl)
  | isub => exact rel o2_r (fun c e => by obtain ⟨x, y, r, -, rfl⟩ := o2_i hz; cases e; rfl)
  | imul => exact rel o2_r (fun c e => by obtain ⟨x, y, r, -, rfl⟩ := o2_i hz; cases e; rfl)
  | iand => exact rel o2_r (fun c e => by obtain ⟨x, y, r, -, rfl⟩ := o2_i hz; cases e; rfl)
  | ior => exact rel o2_r (fun c e => by obtain ⟨x, y, r, -, rfl⟩ := o2_i hz; cases e; rfl)
  | ixor => exact rel o2_r (fun c e => by obtain ⟨x, y, r, -, rfl⟩ := o2_i hz; cases e; rfl)
  | ishl => exact rel o2_r (fun c e => by obtain ⟨x, y, r, -, rfl⟩ := o2_i hz; cases e; rfl)
  | ishr => exact rel o2_r (fun c e => by obtain ⟨x, y, r, -, rfl⟩ := o2_i hz; cases e; rfl)
  | iushr => exact rel o2_r (fun c e => by obtain ⟨x, y, r, -, rfl⟩ := o2_i hz; cases e; rfl)
  | ineg => exact rel o1_r (fun c e => by obtain ⟨x, r, -, rfl⟩ := o1_i hz; cases e; rfl)
  | i2l => exact rel o1_r (fun c e => by obtain ⟨x, r, -, rfl⟩ := o1_i hz; cases e; rfl)
  | i2c => exact rel o1_r (fun c e => by obtain ⟨x, r, -, rfl⟩ := o1_i hz; cases e; rfl)
  | irem =>
    refine rel ?_ (fun c e => ?_)
    · unfold sti
      dsimp only
      split
      · exact cnd_q rfl
      · rfl
    · simp only [sti] at hz
      split at hz
      · obtain ⟨-, hz⟩ := cond_r hz
        rw [nx_i hz] at e; cases e; rfl
      · cases hz
  | lcmp =>
    refine rel ?_ (fun c e => ?_)
    · unfold sti
      dsimp only
      split <;> rfl
    · simp only [sti] at hz
      split at hz
      · rw [nx_i hz] at e; cases e; rfl
      · cases hz
  | dup =>
    refine rel ?_ (fun c e => ?_)
    · unfold sti
      dsimp only
      split
      · exact cnd_q rfl
      · rfl
    · simp only [sti] at hz
      split at hz
      · obtain ⟨-, hz⟩ := cond_r hz
        rw [nx_i hz] at e; cases e; rfl
      · cases hz
  | pop =>
    refine rel ?_ (fun c e => ?_)
    · unfold sti
      dsimp only
      split
      · exact cnd_q rfl
      · rfl
    · simp only [sti] at hz
      split at hz
      · obtain ⟨-, hz⟩ := cond_r hz
        rw [nx_i hz] at e; cases e; rfl
      · cases hz
  | dup2 =>
    refine rel ?_ (fun c e => ?_)
    · unfold sti
      dsimp only
      split
      · exact cnd_q rfl
      · rfl
    · simp only [sti] at hz
      split at hz
      · obtain ⟨-, hz⟩ := cond_r hz
        rw [nx_i hz] at e; cases e; rfl
      · cases hz
  | ifCond cd off =>
    refine rel ?_ (fun c e => ?_)
    · unfold sti
      dsimp only
      split
      · exact jmp_r
      · rfl
    · simp only [sti] at hz
      split at hz
      · obtain ⟨t, -, rfl⟩ := jmp_i hz; cases e; rfl
      · cases hz
  | if_icmp cd off =>
    refine rel ?_ (fun c e => ?_)
    · unfold sti
      dsimp only
      split
      · exact jmp_r
      · rfl
    · simp only [sti] at hz
      split at hz
      · obtain ⟨t, -, rfl⟩ := jmp_i hz; cases e; rfl
      · cases hz
  | goto off => exact rel (opt_r (fun _ => rfl)) (fun c e => by obtain ⟨q, -, hq⟩ := opt_some hz; rw [nx_i hq] at e; cases e; rfl)
  | tableswitch dflt lo hi offs =>
    refine rel ?_ (fun c e => ?_)
    · unfold sti
      dsimp only
      split
      · rename_i x r
        cases (decide (x.toInt < lo) || decide (hi < x.toInt)) with
        | true => exact opt_r (fun _ => rfl)
        | false => exact opt_r (fun _ => opt_r (fun _ => rfl))
      · rfl
    · simp only [sti] at hz
      split at hz
      · rename_i x r
        cases hb : (decide (x.toInt < lo) || decide (hi < x.toInt)) with
        | true => rw [hb] at hz; obtain ⟨t, -, hz⟩ := opt_some hz; rw [nx_i hz] at e; cases e; rfl
        | false => rw [hb] at hz; obtain ⟨o, -, hz⟩ := opt_some hz; obtain ⟨t, -, hz⟩ := opt_some hz; rw [nx_i hz] at e; cases e; rfl
      · cases hz
  | lookupswitch dflt ps =>
    refine rel ?_ (fun c e => ?_)
    · unfold sti
      dsimp only
      split
      · exact cnd_r (opt_r (fun _ => rfl))
      · rfl
    · simp only [sti] at hz
      split at hz
      · obtain ⟨-, hz⟩ := cond_l hz
        obtain ⟨t, -, hz⟩ := opt_some hz; rw [nx_i hz] at e; cases e; rfl
      · cases hz
  | getfield idx => exact rel getF_r (fun c e => by obtain ⟨g, j, r, ci, k, w, nf, -, -, -, -, rfl⟩ := getF_i hz; cases e; rfl)
  | putfield idx => exact rel putF_r (fun c e => by obtain ⟨x, g, j, r, ci, k, w, nf, -, -, -, -, -, -, rfl⟩ := putF_i hz; cases e; rfl)
  | arraylength =>
    refine rel ?_ (fun c e => ?_)
    · unfold sti
      dsimp only
      split
      · exact opt_r (fun _ => rfl)
      · rfl
    · simp only [sti] at hz
      split at hz
      · obtain ⟨t, -, hz⟩ := opt_some hz; rw [nx_i hz] at e; cases e; rfl
      · cases hz
  | iaload => exact rel aLd_r (fun c e => by obtain ⟨i, g, j, r, n, -, -, -, rfl⟩ := aLd_i hz; cases e; rfl)
  | caload => exact rel aLd_r (fun c e => by obtain ⟨i, g, j, r, n, -, -, -, rfl⟩ := aLd_i hz; cases e; rfl)
  | baload => exact rel aLd_r (fun c e => by obtain ⟨i, g, j, r, n, -, -, -, rfl⟩ := aLd_i hz; cases e; rfl)
  | aaload =>
    refine rel ?_ (fun c e => ?_)
    · unfold sti
      dsimp only
      split
      · exact cnd_r rfl
      · rfl
    · simp only [sti] at hz
      split at hz
      · obtain ⟨-, hz⟩ := cond_l hz
        rw [nx_i hz] at e; cases e; rfl
      · cases hz
  | iastore => exact rel aSt_r (fun c e => by obtain ⟨x, i, g, j, r, n, -, -, -, rfl⟩ := aSt_i hz; cases e; rfl)
  | castore => exact rel aSt_r (fun c e => by obtain ⟨x, i, g, j, r, n, -, -, -, rfl⟩ := aSt_i hz; cases e; rfl)
  | bastore => exact rel aSt_r (fun c e => by obtain ⟨x, i, g, j, r, n, -, -, -, rfl⟩ := aSt_i hz; cases e; rfl)
  | ireturn =>
    have h0 : sti d M .ireturn pc lv st h = some z := hz
    simp only [sti] at hz
    split at hz
    · split at hz
      · cases hz
        exact ⟨_, h0, rfl⟩
      · obtain ⟨h8, hz⟩ := cond_l hz
        cases hz
        exact ⟨_, h0, rfl⟩
      · cases hz
    · cases hz
  | areturn =>
    have h0 : sti d M .areturn pc lv st h = some z := hz
    simp only [sti] at hz
    split at hz
    · split at hz
      · cases hz
        exact ⟨_, h0, rfl⟩
      · cases hz
    · cases hz
  | return_ =>
    have h0 : sti d M .return_ pc lv st h = some z := hz
    simp only [sti] at hz
    split at hz
    · split at hz
      · cases hz
        exact ⟨_, h0, rfl⟩
      · cases hz
    · cases hz
  | invokevirtual idx => exact ⟨z, hz, by obtain ⟨M', w, g, j, as, r, nf, -, -, -, -, -, -, -, rfl⟩ := inv_i hz; rfl⟩
  | invokestatic idx =>
    refine rel ?_ (fun c e => ?_)
    · unfold sti
      dsimp only
      split
      · exact mth_r
      · cases (Nat.beq (mK M) 0 && Nat.beq idx 49) with
        | true => exact acp_r
        | false => exact ins_r
    · simp only [sti] at hz
      split at hz
      · obtain ⟨-, r, -, ⟨x, y, -, -, rfl⟩ | ⟨x, y, -, -, rfl⟩ | ⟨x, -, -, rfl⟩⟩ := mth_i hz <;> (cases e; rfl)
      · cases hb9 : (Nat.beq (mK M) 0 && Nat.beq idx 49) with
        | true =>
          rw [hb9] at hz
          obtain ⟨n, g1, j1, g0, j0, n0, n1, -, -, -, -, -, -, -, rfl⟩ := acp_i hz
          cases e; rfl
        | false =>
          rw [hb9] at hz
          obtain ⟨M2, w, as2, r2, -, -, -, -, -, -, rfl⟩ := ins_i hz
          cases e
  | _ => exact absurd (show (none : Option SR) = some z from hz) (by simp)
theorem ex_sub : ∀ (n d : Nat) (M : MR) (pc : Nat) (lv' lv : List (Nat × AV)) (st : List AV) (h : HP) (r : Option AV × HP), Sb lv' lv → ex n d M (pc, lv', st, h) = some r → ex n d M (pc, lv, st, h) = some r := by
  intro n
  induction n with
  | zero => intro d M pc lv' lv st h r _ hx; cases hx
  | succ n ih =>
    intro d M pc lv' lv st h r hs hx
    unfold ex at hx ⊢
    cases hz : stp d M (pc, lv', st, h) with
    | none => rw [hz] at hx; cases hx
    | some z =>
      rw [hz] at hx
      obtain ⟨q, hq, hz⟩ := opt_some hz
      obtain ⟨z', hz', hr⟩ := sti_sub hs hz
      have e : stp d M (pc, lv, st, h) = some z' := by
        show opt (lk (mI M) pc) _ = _
        rw [show lk (mI M) pc = some q from hq]
        exact hz'
      rw [e]
      rcases z with c | a | ⟨M', as, rest⟩
      · rcases z' with c' | a'
        · obtain ⟨h1, h2, h3⟩ := hr
          obtain ⟨pc1, lv1, st1, hp1⟩ := c
          obtain ⟨pc2, lv2, st2, hp2⟩ := c'
          cases h1
          cases h2
          exact ih d M pc1 lv1 lv2 st1 hp1 r h3 hx
        · cases hr
      · rcases z' with c' | a'
        · cases hr
        · cases hr
          exact hx
      · rcases z' with c' | a'
        · cases hr
        · cases hr
          cases d with
          | zero => cases hx
          | succ d' =>
            dsimp only at hx ⊢
            cases h9 : ex n d' M' (0, ent 0 as, [], h) with
            | none => rw [h9] at hx; cases hx
            | some rr =>
              rw [h9] at hx
              exact ih _ _ _ _ _ _ _ _ hs hx
theorem R_fg {d : Nat} {M : MR} {pc : Nat} {lv lv' : List (Nat × AV)} {st : List AV} {h : HP} {Q : Option AV → HP → Prop} (ks : List Nat) (hk : ks.filterMap (fun k => lv[k]?) = lv') (keys : List Nat) (he : lv.map Prod.fst = keys) (hn : keys.Nodup) (k : R d M (pc, lv', st, h) Q) : R d M (pc, lv, st, h) Q := by
  obtain ⟨n, r, h1, h2⟩ := k
  refine ⟨n, r, ex_sub n d M pc lv' lv st h r ⟨fun q hq => ?_, fun a ha b hb e => ?_⟩ h1, h2⟩
  · rw [← hk] at hq
    obtain ⟨i, -, hi⟩ := List.mem_filterMap.mp hq
    exact List.mem_of_getElem? hi
  · obtain ⟨i, hi⟩ := List.getElem?_of_mem ha
    obtain ⟨j, hj⟩ := List.getElem?_of_mem hb
    have e1 : keys[i]? = some a.1 := by rw [← he, List.getElem?_map, hi]; rfl
    have e2 : keys[j]? = some b.1 := by rw [← he, List.getElem?_map, hj]; rfl
    have hl : i < keys.length := (List.getElem?_eq_some_iff.mp e1).1
    have : i = j := (List.getElem?_inj hl hn).mp (by rw [e1, e2, e])
    subst this
    exact Option.some.inj (hi.symm.trans hj)
