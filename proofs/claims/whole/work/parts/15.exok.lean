/-! a run of the small machine is a run of the great one -/
def PcX (D : va_G) (ad : Nat → Nat → Nat) (ty : Nat → ClassId) (cs : List (Nat × Nat)) (as : List AV) (h : HP) : Array Value → State → Prop := va_Pc (as.map (vl ad)) (fun U => va_P D CLS (wl ad ty cs h) U.heap ∧ va_K D CLS (tyL ty) U ∧ va_D (fun _ => True) (wl ad ty cs h))
def QcX (D : va_G) (ad : Nat → Nat → Nat) (ty : Nat → ClassId) (cs : List (Nat × Nat)) (r : Option AV × HP) : Array Value → State → Outcome → State → Prop := fun _ st oc t => oc = .returned (r.1.map (vl ad)) ∧ va_P D CLS (wl ad ty cs r.2) t.heap ∧ va_K D CLS (tyL ty) t ∧ va_F (aA ad cs) st t
def wsM (M : MR) : List Cond := .code (mN M) (mC M) (mL M) (mR M) :: gT
theorem blindX {D : va_G} {ad : Nat → Nat → Nat} {ty : Nat → ClassId} {cs : List (Nat × Nat)} {as : List AV} {h : HP} : FrameBlind (PcX D ad ty cs as h) := by
  intro a U g mk q
  obtain ⟨q0, qP, qK, qD⟩ := q
  exact ⟨q0, qP, va_K.moved (u := U) (U := U.calling g mk a) (Vm.Alike.refl U.vm) qK, qD⟩
theorem callx {p : Program} {l : Launch} {e : Env} {R : Room} {s : State} {m : MethodId} {args : Array Value} {below : List Frame} {meth : Method} {c : Code} {H H0 : Heap} {locs : List Loc} {cells slots mc ms : Nat} {Q : State → Prop} {pc : Nat} {ls : Array Slot} {rest st0 : List Value} {a : Array Value} {A0 : Nat → Prop} {free : Addr → Prop}
    {D : va_G} {ad : Nat → Nat → Nat} {ty : Nat → ClassId} {cs : List (Nat × Nat)} {r : Option AV × HP}
    (hr : va_Run p l e R s m args below meth c H locs cells slots mc ms (F0 m pc ls st0) rest (QcX D ad ty cs r a) free) (hS : va_S A0 H0 H locs) (hA : ∀ q, aA ad cs q → A0 q) (hf : ∀ q, free q → A0 q)
    (kk : ∀ (H1 : Heap) (locs1 : List Loc), va_P D CLS (wl ad ty cs r.2) H1 → H.size ≤ H1.size → (∀ q : Nat, q < H.size → ¬ aA ad cs q → H1[q]? = H[q]?) → va_S A0 H0 H1 locs1 → W p l e R s m args below meth c H1 locs1 (cells + mc) (slots + ms) Q (F0 m (pc + 3) ls ((r.1.map (vl ad)).toList ++ rest))) : W p l e R s m args below meth c H locs cells slots Q (F0 m pc ls st0) := by
  intro T hT X
  obtain ⟨v, st₀, t, T', L, h0, X', hL, e1, e2, ⟨hv, hp, hk9, hz, hk⟩, st⟩ := hr T hT X
  cases hv
  rw [h0] at hz hk
  obtain ⟨t2, a1, b1⟩ := kk T'.heap (locs ++ L) (by rw [e1]; exact hp) (by rw [e1]; exact hz) (fun q h1 h2 => by rw [e1]; exact hk q h1 h2)
    ⟨Nat.le_trans hS.1 (by rw [e1]; exact hz), fun q h1 h2 => by rw [e1, hk q (Nat.lt_of_lt_of_le h1 hS.1) (fun z => h2 (hA q z))]; exact hS.2.1 q h1 h2, fun q hq => by
      rcases List.mem_append.mp hq with h | h
      · exact hS.2.2 q h
      · exact hf _ (hL q h)⟩ T' rfl X'
  exact ⟨t2, st t2 a1, b1⟩
theorem gT_good {M : MR} (h : Cond.code (mN M) (mC M) (mL M) (mR M) ∈ gT) : GoodIn gT (wsM M) := by
  intro w hw
  unfold wsM at hw
  rcases List.mem_cons.mp hw with e | e
  · rw [e]
    exact ⟨h, good_of_word (gT_gd h)⟩
  · exact ⟨e, good_of_word (gT_gd e)⟩
theorem gm_get {M : MR} (h : GM M) : (parseMethodDescriptor (mN M).desc).map (fun d => d.parameters.length) = some (mA M) ∧ (mN M).cls = cnm (mK M) ∧ mL M ≤ 24 ∧ mK M < 7 ∧ ∀ q ∈ mI M, lenok q.2.1 q.2.2 = true := by
  have h1 := h.1
  unfold gmb at h1
  simp only [Bool.and_eq_true, decide_eq_true_eq] at h1
  obtain ⟨⟨⟨⟨q1, q2⟩, q3⟩, q4⟩, q5⟩ := h1
  exact ⟨q1, q2, Nat.le_of_ble_eq_true q3, blt_lt q4, fun q hq => List.all_eq_true.mp q5 q hq⟩
theorem cb_of {M' : MR} {own : Nat} {s : State} {args : Array Value} {d' idx : Nat} {w : List Nat} (hts : ∀ w ∈ gT, w.before args s = true) (hm : (idx, M', w) ∈ calT own) : CallB (rmD (d' + 1)) s args (cnm own) idx (mN M') (mC M') (mL M') (mR M') (wsM M') (rmD d') 0 0 (mA M') := by
  obtain ⟨hg, h1, h2, h3, -, -⟩ := cal_ok hm
  obtain ⟨g1, g2, g3, g4, -⟩ := gm_get hg
  obtain ⟨p1, p2, p3⟩ := pn _ g4
  refine ⟨rfl, rfl, Nat.le_refl _, ?_, pay_in hts (gT_good h2), List.mem_cons_self, hts _ h2, hts _ h3, ⟨by rw [g2]; exact p2, by rw [g2]; exact p3⟩, fun sig h => ?_, hts _ h1⟩
  · show 8 + (mL M' + 11) + 43 * d' ≤ 43 * (d' + 1)
    omega
  · rw [h] at g1
    exact (Option.some.inj g1).symm
theorem sti_l {d : Nat} {M : MR} {i : Instr} {pc : Nat} {lv : List (Nat × AV)} {st : List AV} {h : HP} {z : SR} (hs : sti d M i pc lv st h = some z) : (∃ c', z = .inl c') ∨ i = .ireturn ∨ i = .areturn ∨ i = .return_ ∨ (∃ k, i = .invokevirtual k) ∨ (∃ k, i = .invokestatic k) := by
  cases i with
  | iconst n => exact Or.inl ⟨_, nx_i hs⟩
  | bipush n => exact Or.inl ⟨_, nx_i hs⟩
  | sipush n => exact Or.inl ⟨_, nx_i hs⟩
  | lconst n => exact Or.inl ⟨_, nx_i hs⟩
  | ldc k => obtain ⟨q, -, hs⟩ := opt_some hs; exact Or.inl ⟨_, nx_i hs⟩
  | ldc_w k => obtain ⟨q, -, hs⟩ := opt_some hs; exact Or.inl ⟨_, nx_i hs⟩
  | ldc2_w k => obtain ⟨q, -, hs⟩ := opt_some hs; exact Or.inl ⟨_, nx_i hs⟩
  | goto off => obtain ⟨q, -, hs⟩ := opt_some hs; exact Or.inl ⟨_, nx_i hs⟩
  | iload_n k => obtain ⟨x, -, e⟩ := ldI_i hs; exact Or.inl ⟨_, e⟩
  | iload k => obtain ⟨x, -, e⟩ := ldI_i hs; exact Or.inl ⟨_, e⟩
  | lload_n k => obtain ⟨x, -, e⟩ := ldL_i hs; exact Or.inl ⟨_, e⟩
  | lload k => obtain ⟨x, -, e⟩ := ldL_i hs; exact Or.inl ⟨_, e⟩
  | aload_n k => obtain ⟨x, y, -, e⟩ := ldR_i hs; exact Or.inl ⟨_, e⟩
  | aload k => obtain ⟨x, y, -, e⟩ := ldR_i hs; exact Or.inl ⟨_, e⟩
  | istore_n k => obtain ⟨x, r, -, -, e⟩ := stI_i hs; exact Or.inl ⟨_, e⟩
  | istore k => obtain ⟨x, r, -, -, e⟩ := stI_i hs; exact Or.inl ⟨_, e⟩
  | astore_n k => obtain ⟨x, y, r, -, -, e⟩ := stR_i hs; exact Or.inl ⟨_, e⟩
  | iadd => obtain ⟨x, y, r, -, e⟩ := o2_i hs; exact Or.inl ⟨_, e⟩
  | isub => obtain ⟨x, y, r, -, e⟩ := o2_i hs; exact Or.inl ⟨_, e⟩
  | imul => obtain ⟨x, y, r, -, e⟩ := o2_i hs; exact Or.inl ⟨_, e⟩
  | iand => obtain ⟨x, y, r, -, e⟩ := o2_i hs; exact Or.inl ⟨_, e⟩
  | ior => obtain ⟨x, y, r, -, e⟩ := o2_i hs; exact Or.inl ⟨_, e⟩
  | ixor => obtain ⟨x, y, r, -, e⟩ := o2_i hs; exact Or.inl ⟨_, e⟩
  | ishl => obtain ⟨x, y, r, -, e⟩ := o2_i hs; exact Or.inl ⟨_, e⟩
  | ishr => obtain ⟨x, y, r, -, e⟩ := o2_i hs; exact Or.inl ⟨_, e⟩
  | iushr => obtain ⟨x, y, r, -, e⟩ := o2_i hs; exact Or.inl ⟨_, e⟩
  | ineg => obtain ⟨x, r, -, e⟩ := o1_i hs; exact Or.inl ⟨_, e⟩
  | i2l => obtain ⟨x, r, -, e⟩ := o1_i hs; exact Or.inl ⟨_, e⟩
  | i2c => obtain ⟨x, r, -, e⟩ := o1_i hs; exact Or.inl ⟨_, e⟩
  | iaload => obtain ⟨i, g, j, r, n, -, -, -, e⟩ := aLd_i hs; exact Or.inl ⟨_, e⟩
  | caload => obtain ⟨i, g, j, r, n, -, -, -, e⟩ := aLd_i hs; exact Or.inl ⟨_, e⟩
  | baload => obtain ⟨i, g, j, r, n, -, -, -, e⟩ := aLd_i hs; exact Or.inl ⟨_, e⟩
  | iastore => obtain ⟨x, i, g, j, r, n, -, -, -, e⟩ := aSt_i hs; exact Or.inl ⟨_, e⟩
  | castore => obtain ⟨x, i, g, j, r, n, -, -, -, e⟩ := aSt_i hs; exact Or.inl ⟨_, e⟩
  | bastore => obtain ⟨x, i, g, j, r, n, -, -, -, e⟩ := aSt_i hs; exact Or.inl ⟨_, e⟩
  | getfield idx => obtain ⟨g, j, r, ci, k, w, nf, -, -, -, -, e⟩ := getF_i hs; exact Or.inl ⟨_, e⟩
  | putfield idx => obtain ⟨x, g, j, r, ci, k, w, nf, -, -, -, -, -, -, e⟩ := putF_i hs; exact Or.inl ⟨_, e⟩
  | iinc k n =>
    simp only [sti] at hs
    split at hs
    · obtain ⟨-, hs⟩ := cond_l hs; exact Or.inl ⟨_, nx_i hs⟩
    · cases hs
  | irem =>
    simp only [sti] at hs
    split at hs
    · obtain ⟨-, hs⟩ := cond_r hs; exact Or.inl ⟨_, nx_i hs⟩
    · cases hs
  | lcmp =>
    simp only [sti] at hs
    split at hs
    · exact Or.inl ⟨_, nx_i hs⟩
    · cases hs
  | dup =>
    simp only [sti] at hs
    split at hs
    · obtain ⟨-, hs⟩ := cond_r hs; exact Or.inl ⟨_, nx_i hs⟩
    · cases hs
  | pop =>
    simp only [sti] at hs
    split at hs
    · obtain ⟨-, hs⟩ := cond_r hs; exact Or.inl ⟨_, nx_i hs⟩
    · cases hs
  | dup2 =>
    simp only [sti] at hs
    split at hs
    · obtain ⟨-, hs⟩ := cond_r hs; exact Or.inl ⟨_, nx_i hs⟩
    · cases hs
  | ifCond c off =>
    simp only [sti] at hs
    split at hs
    · obtain ⟨t, -, e⟩ := jmp_i hs; exact Or.inl ⟨_, e⟩
    · cases hs
  | if_icmp c off =>
    simp only [sti] at hs
    split at hs
    · obtain ⟨t, -, e⟩ := jmp_i hs; exact Or.inl ⟨_, e⟩
    · cases hs
  | tableswitch dflt lo hi offs =>
    simp only [sti] at hs
    split at hs
    · rename_i x r
      cases hb : (decide (x.toInt < lo) || decide (hi < x.toInt)) with
      | true => rw [hb] at hs; obtain ⟨t, -, hs⟩ := opt_some hs; exact Or.inl ⟨_, nx_i hs⟩
      | false => rw [hb] at hs; obtain ⟨o, -, hs⟩ := opt_some hs; obtain ⟨t, -, hs⟩ := opt_some hs; exact Or.inl ⟨_, nx_i hs⟩
    · cases hs
  | lookupswitch dflt ps =>
    simp only [sti] at hs
    split at hs
    · obtain ⟨-, hs⟩ := cond_l hs; obtain ⟨t, -, hs⟩ := opt_some hs; exact Or.inl ⟨_, nx_i hs⟩
    · cases hs
  | arraylength =>
    simp only [sti] at hs
    split at hs
    · obtain ⟨t, -, hs⟩ := opt_some hs; exact Or.inl ⟨_, nx_i hs⟩
    · cases hs
  | aaload =>
    simp only [sti] at hs
    split at hs
    · obtain ⟨-, hs⟩ := cond_l hs; exact Or.inl ⟨_, nx_i hs⟩
    · cases hs
  | ireturn => exact Or.inr (Or.inl rfl)
  | areturn => exact Or.inr (Or.inr (Or.inl rfl))
  | return_ => exact Or.inr (Or.inr (Or.inr (Or.inl rfl)))
  | invokevirtual k => exact Or.inr (Or.inr (Or.inr (Or.inr (Or.inl ⟨k, rfl⟩))))
  | invokestatic k => exact Or.inr (Or.inr (Or.inr (Or.inr (Or.inr ⟨k, rfl⟩))))
  | _ => exact absurd (show (none : Option SR) = some z from hs) (by simp)
set_option maxRecDepth 20000 in
set_option maxHeartbeats 4000000 in
theorem ex_ok (l : Launch) (D : va_G) (ad : Nat → Nat → Nat) (ty : Nat → ClassId) (cs : List (Nat × Nat)) (hc : clo cs) : ∀ (n d : Nat) (M : MR) (c : CF) (r : Option AV × HP), GM M → OKC cs c → ex n d M c = some r →
    ∀ {p : Program} {e : Env} {s : State} {m : MethodId} {args : Array Value} {below : List Frame} {meth : Method} {cd : Code} {H : Heap} {locs : List Loc} {ls : Array Slot}, CX p s m args meth cd D ty M → lv_has ls (mL M) (c.2.1.map (em ad)) → va_P D CLS (wl ad ty cs c.2.2.2) H → va_D (aA ad cs) (wl ad ty cs c.2.2.2) → va_S (aA ad cs) s.heap H locs →
      W p l e (rmD d) s m args below meth cd H locs 0 0 (MQ below (QcX D ad ty cs r) args s 0 0 (aA ad cs)) (F0 m c.1 ls (c.2.2.1.map (vl ad))) := by
  intro n
  induction n with
  | zero => intro d M c r _ _ h; cases h
  | succ n ih =>
    have met : ∀ (d : Nat) (M : MR) (as : List AV) (h : HP) (r : Option AV × HP), GM M → (∀ v ∈ as, okv cs v) → wds as ≤ mL M → ex n d M (0, ent 0 as, [], h) = some r → Met l (mN M) (wsM M) (rmD d) (PcX D ad ty cs as h) (QcX D ad ty cs r) 0 0 (aA ad cs) := by
      intro d M as h r hg hok hw hx
      obtain ⟨g1, g2, g3, g4, -⟩ := gm_get hg
      refine Met.ofW (cc := mC M) (maxL := mL M) (ret := mR M) (ws' := gT) (by rw [g2]; exact (pn _ g4).1) rfl ?_
      intro p e s m args below meth c s₁ B hml hv
      obtain ⟨rfl, hP, hK, hD0⟩ := hv
      have hts0 := atoms_spec (ws := wsM M) B.pre
      have hown : s.vm.findClass (mN M).cls = some m.cls := findClass_of_methodNamed B.named
      rw [g2] at hown
      have hl := lv_entry (as.map (vl ad)) (n := mL M) (by rw [wds_len]; exact hw)
      rw [← ent_map] at hl
      rw [lg_entry_eq]
      exact ih d M (0, ent 0 as, [], h) r hg ⟨okv_ent hok, fun v h9 => by cases h9⟩ hx ⟨B.exec, B.bytes, B.returns, hml, hown, fun w h9 => hts0 w (List.mem_cons_of_mem _ h9), B.notSynchronized, hK⟩ hl hP (wl_Dself hD0) va_S.rf
    intro d M c r hg hok hex p e s m args below meth cd H locs ls X hl hP hD hS
    unfold ex at hex
    cases hs : stp d M c with
    | none => rw [hs] at hex; cases hex
    | some z =>
      rw [hs] at hex
      obtain ⟨q, hq, hs⟩ := opt_some hs
      have hdec : decode (mC M) c.1 = .ok q := hg.2 (c.1, q) (lk_mem hq)
      have hlen : lenok q.1 q.2 = true := (gm_get hg).2.2.2.2 (c.1, q) (lk_mem hq)
      have hz := sti_okv hc hok.1 hok.2 hs
      rcases z with c' | r' | ⟨M', as, rest⟩
      · skip
        obtain ⟨i, len⟩ := q
        exact one hc X hdec hlen hl hP hD hS hok.2 hs (fun ls' H' locs' a1 a2 a3 a4 => ih d M c' r hg hz hex X a1 a2 a3 a4)
      · skip
        cases hex
        obtain ⟨hx, hb, hr, hml, hown, hts, hlocks, hK⟩ := X
        obtain ⟨pc, lv, st, h⟩ := c
        obtain ⟨i, len⟩ := q
        dsimp only at hs hdec hlen hP hD hl ⊢
        have fin : ∀ (v : Option Value) (t : State), v = r.1.map (vl ad) → wl ad ty cs r.2 = wl ad ty cs h → t.heap = H → s.WarmedH t.vm → QcX D ad ty cs r args s (.returned v) t := fun v t e1 e2 ht hW => ⟨by rw [e1], by rw [ht, e2]; exact hP, va_K.moved hW.alike hK, hS.F ht⟩
        cases i with
        | ireturn =>
          cases Nat.eq_of_beq_eq_true hlen
          simp only [sti] at hs
          split at hs
          · rename_i x
            split at hs
            · rename_i hR
              cases hs
              rw [hR] at hr
              exact W.iret hx hb hr (fun t ht hW => fin _ t rfl rfl ht hW) hS.2.2 hdec hlocks
            · rename_i hR
              obtain ⟨h8, hs⟩ := cond_l hs
              cases hs
              rw [hR] at hr
              unfold zero1 at h8
              rw [Bool.or_eq_true] at h8
              refine W.zret hx hb hr ?_ (fun t ht hW => fin _ t rfl rfl ht hW) hS.2.2 hdec hlocks
              rcases h8 with h8 | h8 <;> (rw [eq_of_beq h8]; rfl)
            · cases hs
          · cases hs
        | areturn =>
          cases Nat.eq_of_beq_eq_true hlen
          simp only [sti] at hs
          split at hs
          · split at hs
            · rename_i hR
              cases hs
              rw [hR] at hr
              exact W.aret hx hb hr (Or.inl ⟨_, rfl⟩) (Or.inr ⟨_, rfl⟩) (fun t ht hW => fin _ t rfl rfl ht hW) hS.2.2 hdec hlocks
            · cases hs
          · cases hs
        | return_ =>
          cases Nat.eq_of_beq_eq_true hlen
          simp only [sti] at hs
          split at hs
          · split at hs
            · rename_i hR
              cases hs
              rw [hR] at hr
              exact W.vret hx hb hr (fun t ht hW => fin _ t rfl rfl ht hW) hS.2.2 hdec hlocks
            · cases hs
          · cases hs
        | invokevirtual idx =>
          obtain ⟨M2, w, g, j, as2, r2, nf, -, -, -, -, -, -, -, e9⟩ := inv_i hs
          cases e9
        | invokestatic idx =>
          simp only [sti] at hs
          split at hs
          · obtain ⟨-, r, -, ⟨x, y, -, -, e9⟩ | ⟨x, y, -, -, e9⟩ | ⟨x, -, -, e9⟩⟩ := mth_i hs <;> cases e9
          · cases hb9 : (Nat.beq (mK M) 0 && Nat.beq idx 49) with
            | true =>
              rw [hb9] at hs
              obtain ⟨n, g1, j1, g0, j0, n0, n1, -, -, -, -, -, -, -, e9⟩ := acp_i hs
              cases e9
            | false =>
              rw [hb9] at hs
              obtain ⟨M2, w, as2, r2, -, -, -, -, -, -, e9⟩ := ins_i hs
              cases e9
        | _ =>
          rcases sti_l hs with ⟨_, e9⟩ | e9 | e9 | e9 | ⟨_, e9⟩ | ⟨_, e9⟩ <;> cases e9
      · skip
        cases d with
        | zero => cases hex
        | succ d' =>
          dsimp only at hex
          cases hx9 : ex n d' M' (0, ent 0 as, [], c.2.2.2) with
          | none => rw [hx9] at hex; cases hex
          | some rr =>
            obtain ⟨r1, h'⟩ := rr
            rw [hx9] at hex
            have ho1 : ∀ v, r1 = some v → okv cs v := ex_okv hc n d' M' _ (r1, h') ⟨okv_ent hz.1, fun v h9 => by cases h9⟩ hx9
            have hex : ex n (d' + 1) M (c.1 + 3, c.2.1, r1.toList ++ rest, h') = some r := hex
            have hokn : OKC cs (c.1 + 3, c.2.1, r1.toList ++ rest, h') := by
              refine ⟨hok.1, fun v hv => ?_⟩
              rcases List.mem_append.mp hv with h9 | h9
              · cases r1 with
                | none => cases h9
                | some w => rw [List.mem_singleton.mp h9]; exact ho1 w rfl
              · exact hz.2 v h9
            obtain ⟨pc, lv, st, h⟩ := c
            obtain ⟨i, len⟩ := q
            dsimp only at hs hdec hlen hP hD hl hex hokn hx9 ⊢
            obtain ⟨hx, hb, hr, hml, hown, hts, hlocks, hK⟩ := id X
            have hmap : ((r1.map (vl ad)).toList ++ rest.map (vl ad)) = (r1.toList ++ rest).map (vl ad) := by cases r1 <;> simp
            have fin : ∀ (H1 : Heap) (locs1 : List Loc), va_P D CLS (wl ad ty cs h') H1 → H.size ≤ H1.size → (∀ q : Nat, q < H.size → ¬ aA ad cs q → H1[q]? = H[q]?) → va_S (aA ad cs) s.heap H1 locs1 → W p l e (rmD (d' + 1)) s m args below meth cd H1 locs1 (0 + 0) (0 + 0) (MQ below (QcX D ad ty cs r) args s 0 0 (aA ad cs)) (F0 m (pc + 3) ls ((r1.map (vl ad)).toList ++ rest.map (vl ad))) := by
              intro H1 locs1 a1 _ _ a4
              rw [hmap]
              exact ih (d' + 1) M (pc + 3, lv, r1.toList ++ rest, h') r hg hokn hex X hl a1 (wl_D hD) a4
            cases i with
            | invokevirtual idx =>
              cases Nat.eq_of_beq_eq_true hlen
              obtain ⟨M2, w, g, j, as2, r2, nf, hm, hst, rfl, hn, ho, hr4, hw, e9⟩ := inv_i hs
              cases e9
              obtain ⟨hg', -, -, -, -, hi⟩ := cal_ok hm
              obtain ⟨hi1, hi2⟩ := hi hst
              obtain ⟨g1, g2, g3, g4, -⟩ := gm_get hg'
              have hci := (oC_ok ho).1
              obtain ⟨q0, -, hq0⟩ := wl_at (ad := ad) (ty := ty) h (show (g, j) ∈ cs from hz.1 _ List.mem_cons_self)
              rw [eN_o ho] at hq0
              have hrec := va_recv hK hP (cls_at _ hci) hq0
              have hcs := cat_sum ad rest
              refine callx (va_runV (As := as2.map (vl ad)) (rest := rest.map (vl ad)) (C := cnm (mK M')) ⟨hx, hb, hml, hown, hts⟩ (met d' M' (vR g j :: as2) h (r1, h') hg' hz.1 (by exact hw) hx9) ⟨cb_of hts hm, hts _ hi1, ?_⟩ ⟨blindX, hrec, fun U hU hW => ⟨rfl, by rw [hU]; exact hP, va_K.moved hW.alike hK, hD.weaken (fun _ _ _ _ => trivial)⟩⟩ rfl (by rw [List.length_map]; exact hn) hl.1 ?_ (lv_room (by omega)) hdec ⟨Nat.zero_le _, Nat.zero_le _⟩) hS (fun q h9 => h9) (fun q h9 => h9) fin
              · rw [← g2]; exact hts _ hi2
              · show (as2.reverse ++ vR g j :: rest).map (vl ad) = _
                rw [List.map_append, List.map_reverse]
                rfl
            | invokestatic idx =>
              cases Nat.eq_of_beq_eq_true hlen
              simp only [sti] at hs
              split at hs
              · obtain ⟨-, r, -, ⟨x, y, -, rfl, e9⟩ | ⟨x, y, -, rfl, e9⟩ | ⟨x, -, rfl, e9⟩⟩ := mth_i hs <;> cases e9
              · cases hb9 : (Nat.beq (mK M) 0 && Nat.beq idx 49) with
                | true =>
                  rw [hb9] at hs
                  obtain ⟨n, g1, j1, g0, j0, n0, n1, rfl, ha0, ha1, hd, hn, hn0, hn1, e9⟩ := acp_i hs
                  cases e9
                | false =>
                  rw [hb9] at hs
                  obtain ⟨M2, w, as2, r2, hm, hst, rfl, hn, hr4, hw, e9⟩ := ins_i hs
                  cases e9
                  obtain ⟨hg', -, -, -, hi, -⟩ := cal_ok hm
                  have hcs := cat_sum ad rest
                  refine callx (va_runS (As := as.map (vl ad)) (rest := rest.map (vl ad)) ⟨hx, hb, hml, hown, hts⟩ (met d' M' as h (r1, h') hg' hz.1 hw hx9) ⟨cb_of hts hm, hts _ (hi hst)⟩ ⟨blindX, fun U hU hW => ⟨rfl, by rw [hU]; exact hP, va_K.moved hW.alike hK, hD.weaken (fun _ _ _ _ => trivial)⟩⟩ rfl (by rw [List.length_map]; exact hn) hl.1 ?_ (lv_room (by omega)) hdec ⟨Nat.zero_le _, Nat.zero_le _⟩) hS (fun q h9 => h9) (fun q h9 => h9) fin
                  show (as.reverse ++ rest).map (vl ad) = _
                  rw [List.map_append, List.map_reverse]
            | ireturn =>
              simp only [sti] at hs
              split at hs
              · split at hs
                · cases hs
                · obtain ⟨-, hs⟩ := cond_l hs
                  cases hs
                · cases hs
              · cases hs
            | areturn =>
              simp only [sti] at hs
              split at hs
              · split at hs <;> cases hs
              · cases hs
            | return_ =>
              simp only [sti] at hs
              split at hs
              · split at hs <;> cases hs
              · cases hs
            | _ =>
              rcases sti_l hs with ⟨_, e9⟩ | e9 | e9 | e9 | ⟨_, e9⟩ | ⟨_, e9⟩ <;> cases e9
