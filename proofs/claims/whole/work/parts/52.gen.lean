/-! THE SMALL MACHINE INSIDE A CONSTRUCTOR: one step, k steps, a call, at any room -/
set_option maxRecDepth 20000 in
set_option maxHeartbeats 4000000 in
theorem oneR {p : Program} {l : Launch} {e : Env} {R : Room} {cells slots : Nat} {s : State} {m : MethodId} {args : Array Value} {below : List Frame} {meth : Method} {c : Code} {H H0 : Heap} {locs : List Loc} {Q : State → Prop} {ls : Array Slot}
    {ad : Nat → Nat → Nat} {ty : Nat → ClassId} {cs : List (Nat × Nat)} {D : va_G} {A : Nat → Prop} {M : MR} {i : Instr} {len pc : Nat} {lv : List (Nat × AV)} {st : List AV} {h : HP} {c' : CF}
    (hc : clo cs) (X : CX p s m args meth c D ty M) (hdec : decode (mC M) pc = .ok (i, len)) (hlen : lenok i len = true)
    (hl : lv_has ls (mL M) (lv.map (em ad))) (hP : va_P D CLS (wl ad ty cs h) H) (hD : va_D A (wl ad ty cs h)) (hS : va_S A H0 H locs) (hv : ∀ v ∈ st, okv cs v)
    (hs : sti 0 M i pc lv st h = some (.inl c'))
    (k : ∀ (ls' : Array Slot) (H' : Heap) (locs' : List Loc), lv_has ls' (mL M) (c'.2.1.map (em ad)) → va_P D CLS (wl ad ty cs c'.2.2.2) H' → va_D A (wl ad ty cs c'.2.2.2) → va_S A H0 H' locs' → W p l e R s m args below meth c H' locs' cells slots Q (F0 m c'.1 ls' (c'.2.2.1.map (vl ad)))) :
    W p l e R s m args below meth c H locs cells slots Q (F0 m pc ls (st.map (vl ad))) := by
  obtain ⟨hx, hb, hr, hml, hown, hts, hlocks, hK⟩ := X
  have hat : ∀ {k : Nat} {v : AV}, (k, v) ∈ lv → ls[k]? = some (.val (vl ad v)) := fun hm => hl.2.2 _ (List.mem_map_of_mem (f := em ad) hm)
  cases i with
  | iconst n =>
    cases Nat.eq_of_beq_eq_true hlen
    cases nx_i hs
    exact lv_iconst hx hb hdec rfl (k ls H locs hl hP hD hS)
  | bipush n =>
    cases Nat.eq_of_beq_eq_true hlen
    cases nx_i hs
    exact lv_bipush hx hb hdec rfl (k ls H locs hl hP hD hS)
  | sipush n =>
    cases Nat.eq_of_beq_eq_true hlen
    cases nx_i hs
    exact lv_sipush hx hb hdec rfl (k ls H locs hl hP hD hS)
  | lconst n =>
    cases Nat.eq_of_beq_eq_true hlen
    cases nx_i hs
    exact lv_lconst hx hb hdec rfl (k ls H locs hl hP hD hS)
  | ldc n =>
    cases Nat.eq_of_beq_eq_true hlen
    obtain ⟨q, hq, hs⟩ := opt_some hs
    cases nx_i hs
    exact lv_ldc hx hb hown (hts _ (cst_in (lk_mem hq))) hdec (k ls H locs hl hP hD hS)
  | ldc_w n =>
    cases Nat.eq_of_beq_eq_true hlen
    obtain ⟨q, hq, hs⟩ := opt_some hs
    cases nx_i hs
    exact lv_ldcw hx hb hown (hts _ (cst_in (lk_mem hq))) hdec (k ls H locs hl hP hD hS)
  | ldc2_w n =>
    cases Nat.eq_of_beq_eq_true hlen
    obtain ⟨q, hq, hs⟩ := opt_some hs
    cases nx_i hs
    exact lv_ldc2 hx hb hown (hts _ (csl_in (lk_mem hq))) hdec (k ls H locs hl hP hD hS)
  | iload_n n =>
    cases Nat.eq_of_beq_eq_true hlen
    obtain ⟨x, hm, e9⟩ := ldI_i hs
    cases e9
    exact lv_iload_n hx hb hdec rfl (hat hm) (k ls H locs hl hP hD hS)
  | iload n =>
    cases Nat.eq_of_beq_eq_true hlen
    obtain ⟨x, hm, e9⟩ := ldI_i hs
    cases e9
    exact lv_iload hx hb hdec (hat hm) (k ls H locs hl hP hD hS)
  | lload_n n =>
    cases Nat.eq_of_beq_eq_true hlen
    obtain ⟨x, hm, e9⟩ := ldL_i hs
    cases e9
    exact lv_lload_n hx hb hdec rfl (hat hm) (k ls H locs hl hP hD hS)
  | lload n =>
    cases Nat.eq_of_beq_eq_true hlen
    obtain ⟨x, hm, e9⟩ := ldL_i hs
    cases e9
    exact lv_lload hx hb hdec (hat hm) (k ls H locs hl hP hD hS)
  | aload_n n =>
    cases Nat.eq_of_beq_eq_true hlen
    obtain ⟨x, y, hm, e9⟩ := ldR_i hs
    cases e9
    exact lv_aload_n hx hb hdec rfl (hat hm) (k ls H locs hl hP hD hS)
  | aload n =>
    cases Nat.eq_of_beq_eq_true hlen
    obtain ⟨x, y, hm, e9⟩ := ldR_i hs
    cases e9
    exact lv_aload hx hb hdec (hat hm) (k ls H locs hl hP hD hS)
  | istore_n n =>
    cases Nat.eq_of_beq_eq_true hlen
    obtain ⟨x, r, rfl, hk, e9⟩ := stI_i hs
    cases e9
    exact lv_istore_n hx hb hdec rfl hl hk rfl (fun ls' hl' => k ls' H locs (by rw [lst_map]; exact hl') hP hD hS)
  | istore n =>
    cases Nat.eq_of_beq_eq_true hlen
    obtain ⟨x, r, rfl, hk, e9⟩ := stI_i hs
    cases e9
    exact lv_istore hx hb hdec hl hk rfl (fun ls' hl' => k ls' H locs (by rw [lst_map]; exact hl') hP hD hS)
  | astore_n n =>
    cases Nat.eq_of_beq_eq_true hlen
    obtain ⟨x, y, r, rfl, hk, e9⟩ := stR_i hs
    cases e9
    exact lv_astore_n hx hb hdec rfl hl hk rfl (fun ls' hl' => k ls' H locs (by rw [lst_map]; exact hl') hP hD hS)
  | iinc n z =>
    cases Nat.eq_of_beq_eq_true hlen
    simp only [sti] at hs
    split at hs
    · rename_i x e8
      obtain ⟨hk, hs⟩ := cond_l hs
      cases nx_i hs
      obtain ⟨w, hw⟩ := List.getElem?_of_mem (List.mem_map_of_mem (f := em ad) (lk_mem e8))
      exact lv_iinc hx hb hdec hl hw rfl (blt_lt hk) rfl (fun ls' hl' => k ls' H locs (by rw [lst_map]; exact hl') hP hD hS)
    · cases hs
  | iadd =>
    cases Nat.eq_of_beq_eq_true hlen
    obtain ⟨x, y, r, rfl, e9⟩ := o2_i hs
    cases e9
    exact lv_iadd hx hb hdec (k ls H locs hl hP hD hS)
  | isub =>
    cases Nat.eq_of_beq_eq_true hlen
    obtain ⟨x, y, r, rfl, e9⟩ := o2_i hs
    cases e9
    exact lv_isub hx hb hdec (k ls H locs hl hP hD hS)
  | imul =>
    cases Nat.eq_of_beq_eq_true hlen
    obtain ⟨x, y, r, rfl, e9⟩ := o2_i hs
    cases e9
    exact lv_imul hx hb hdec (k ls H locs hl hP hD hS)
  | iand =>
    cases Nat.eq_of_beq_eq_true hlen
    obtain ⟨x, y, r, rfl, e9⟩ := o2_i hs
    cases e9
    exact lv_iand hx hb hdec (k ls H locs hl hP hD hS)
  | ior =>
    cases Nat.eq_of_beq_eq_true hlen
    obtain ⟨x, y, r, rfl, e9⟩ := o2_i hs
    cases e9
    exact lv_ior hx hb hdec (k ls H locs hl hP hD hS)
  | ixor =>
    cases Nat.eq_of_beq_eq_true hlen
    obtain ⟨x, y, r, rfl, e9⟩ := o2_i hs
    cases e9
    exact lv_ixor hx hb hdec (k ls H locs hl hP hD hS)
  | ishl =>
    cases Nat.eq_of_beq_eq_true hlen
    obtain ⟨x, y, r, rfl, e9⟩ := o2_i hs
    cases e9
    exact lv_ishl hx hb hdec (k ls H locs hl hP hD hS)
  | ishr =>
    cases Nat.eq_of_beq_eq_true hlen
    obtain ⟨x, y, r, rfl, e9⟩ := o2_i hs
    cases e9
    exact lv_ishr hx hb hdec (k ls H locs hl hP hD hS)
  | iushr =>
    cases Nat.eq_of_beq_eq_true hlen
    obtain ⟨x, y, r, rfl, e9⟩ := o2_i hs
    cases e9
    exact lv_iushr hx hb hdec rfl (k ls H locs hl hP hD hS)
  | irem =>
    cases Nat.eq_of_beq_eq_true hlen
    simp only [sti] at hs
    split at hs
    · rename_i y x r
      obtain ⟨h8, hs⟩ := cond_r hs
      cases nx_i hs
      exact lv_irem hx hb hdec (fun q => by rw [q] at h8; exact absurd h8 (by decide)) (k ls H locs hl hP hD hS)
    · cases hs
  | ineg =>
    cases Nat.eq_of_beq_eq_true hlen
    obtain ⟨x, r, rfl, e9⟩ := o1_i hs
    cases e9
    exact lv_ineg hx hb hdec (k ls H locs hl hP hD hS)
  | i2l =>
    cases Nat.eq_of_beq_eq_true hlen
    obtain ⟨x, r, rfl, e9⟩ := o1_i hs
    cases e9
    exact lv_i2l hx hb hdec rfl (k ls H locs hl hP hD hS)
  | i2c =>
    cases Nat.eq_of_beq_eq_true hlen
    obtain ⟨x, r, rfl, e9⟩ := o1_i hs
    cases e9
    exact lv_i2c hx hb hdec rfl (k ls H locs hl hP hD hS)
  | lcmp =>
    cases Nat.eq_of_beq_eq_true hlen
    simp only [sti] at hs
    split at hs
    · cases nx_i hs
      exact W.lcmp hx hb hdec (k ls H locs hl hP hD hS)
    · cases hs
  | dup =>
    cases Nat.eq_of_beq_eq_true hlen
    simp only [sti] at hs
    split at hs
    · rename_i v r
      obtain ⟨h8, hs⟩ := cond_r hs
      cases nx_i hs
      exact lv_dup hx hb hdec (by rcases v with x | x | x <;> first | rfl | (exact absurd (show true = false from h8) (by decide))) (k ls H locs hl hP hD hS)
    · cases hs
  | pop =>
    cases Nat.eq_of_beq_eq_true hlen
    simp only [sti] at hs
    split at hs
    · rename_i v r
      obtain ⟨h8, hs⟩ := cond_r hs
      cases nx_i hs
      exact lv_pop hx hb hdec (by rcases v with x | x | x <;> first | rfl | (exact absurd (show true = false from h8) (by decide))) (k ls H locs hl hP hD hS)
    · cases hs
  | dup2 =>
    cases Nat.eq_of_beq_eq_true hlen
    simp only [sti] at hs
    split at hs
    · rename_i v w r
      obtain ⟨h8, hs⟩ := cond_r hs
      rw [Bool.or_eq_false_iff] at h8
      cases nx_i hs
      exact lv_dup2_11 hx hb hdec (by rcases v with x | x | x <;> first | rfl | (exact absurd (show true = false from h8.1) (by decide))) (by rcases w with x | x | x <;> first | rfl | (exact absurd (show true = false from h8.2) (by decide))) (k ls H locs hl hP hD hS)
    · cases hs
  | ifCond cd off =>
    cases Nat.eq_of_beq_eq_true hlen
    simp only [sti] at hs
    split at hs
    · rename_i x r
      obtain ⟨t, ht, e9⟩ := jmp_i hs
      cases e9
      have k3 : ∀ z : Nat, z = cond (if0 cd x) t (pc + 3) → W p l e R s m args below meth c H locs cells slots Q (F0 m z ls (r.map (vl ad))) := fun z hz => by rw [hz]; exact k ls H locs hl hP hD hS
      cases cd with
      | eq => exact lv_if_eq hx hb hdec ht (fun q => k3 t (by simp [if0, q])) (fun q => k3 (pc + 3) (by simp [if0, q]))
      | ne => exact lv_if_ne hx hb hdec ht (fun q => k3 t (by simp [if0, q])) (fun q => k3 (pc + 3) (by simp [if0, q]))
      | lt => exact lv_if_lt hx hb hdec ht (fun q => k3 t (by simp [if0, q])) (fun q => k3 (pc + 3) (by simp [if0, q]))
      | ge => exact lv_if_ge hx hb hdec ht (fun q => k3 t (by simp [if0, q])) (fun q => k3 (pc + 3) (by simp [if0, q]))
      | gt => exact lv_if_gt hx hb hdec ht (fun q => k3 t (by simp [if0, q])) (fun q => k3 (pc + 3) (by simp [if0, q]))
      | le => exact lv_if_le hx hb hdec ht (fun q => k3 t (by simp [if0, q])) (fun q => k3 (pc + 3) (by simp [if0, q]))
    · cases hs
  | if_icmp cd off =>
    cases Nat.eq_of_beq_eq_true hlen
    simp only [sti] at hs
    split at hs
    · rename_i y x r
      obtain ⟨t, ht, e9⟩ := jmp_i hs
      cases e9
      have k3 : ∀ z : Nat, z = cond (if2 cd x y) t (pc + 3) → W p l e R s m args below meth c H locs cells slots Q (F0 m z ls (r.map (vl ad))) := fun z hz => by rw [hz]; exact k ls H locs hl hP hD hS
      cases cd with
      | eq => exact lv_icmp_eq hx hb hdec ht (fun q => k3 t (by simp [if2, q])) (fun q => k3 (pc + 3) (by simp [if2, q]))
      | ne => exact lv_icmp_ne hx hb hdec ht (fun q => k3 t (by simp [if2, q])) (fun q => k3 (pc + 3) (by simp [if2, q]))
      | lt => exact lv_icmp_lt hx hb hdec ht (fun q => k3 t (by simp [if2, q])) (fun q => k3 (pc + 3) (by simp [if2, q]))
      | ge => exact lv_icmp_ge hx hb hdec ht (fun q => k3 t (by simp [if2, q])) (fun q => k3 (pc + 3) (by simp [if2, q]))
      | gt => exact lv_icmp_gt hx hb hdec ht (fun q => k3 t (by simp [if2, q])) (fun q => k3 (pc + 3) (by simp [if2, q]))
      | le => exact lv_icmp_le hx hb hdec ht (fun q => k3 t (by simp [if2, q])) (fun q => k3 (pc + 3) (by simp [if2, q]))
    · cases hs
  | goto off =>
    cases Nat.eq_of_beq_eq_true hlen
    obtain ⟨t, ht, hs⟩ := opt_some hs
    cases nx_i hs
    exact lv_goto hx hb hdec (tgo_i ht) (k ls H locs hl hP hD hS)
  | tableswitch dflt lo hi offs =>
    simp only [sti] at hs
    split at hs
    · rename_i x r
      cases hb9 : (decide (x.toInt < lo) || decide (hi < x.toInt)) with
      | true =>
        rw [hb9] at hs
        obtain ⟨t, ht, hs⟩ := opt_some hs
        cases nx_i hs
        rw [Bool.or_eq_true, decide_eq_true_eq, decide_eq_true_eq] at hb9
        exact lv_tableOut hx hb hdec hb9 (tgo_i ht) (k ls H locs hl hP hD hS)
      | false =>
        rw [hb9] at hs
        obtain ⟨o, ho, hs⟩ := opt_some hs
        obtain ⟨t, ht, hs⟩ := opt_some hs
        cases nx_i hs
        rw [Bool.or_eq_false_iff, decide_eq_false_iff_not, decide_eq_false_iff_not] at hb9
        exact lv_tableIn hx hb hdec hb9.1 hb9.2 ho (tgo_i ht) (k ls H locs hl hP hD hS)
    · cases hs
  | lookupswitch dflt ps =>
    simp only [sti] at hs
    split at hs
    · obtain ⟨h8, hs⟩ := cond_l hs
      obtain ⟨t, ht, hs⟩ := opt_some hs
      cases nx_i hs
      exact lv_lookup hx hb hdec h8 rfl (tgo_i ht) (k ls H locs hl hP hD hS)
    · cases hs
  | getfield idx =>
    cases Nat.eq_of_beq_eq_true hlen
    obtain ⟨g, j, r, ci, kk, w, nf, rfl, hf, ho, hk, e9⟩ := getF_i hs
    cases e9
    obtain ⟨hlw, hci, hkc⟩ := fld_ok hf
    obtain ⟨q0, -, hq0⟩ := wl_at (ad := ad) (ty := ty) h (okv_cons hv).1
    rw [eN_o ho] at hq0
    exact va_get (C := cnm ci) (T := kT ci) (N := kN ci) hx hb hts (uws_in ci hci) hown hK hP q0 hq0 (cls_at ci hci) kk hkc (hts _ hlw) (fun _ h9 => h9) (by rw [List.getElem?_map, List.getElem?_range hk]; rfl) hdec (k ls H locs hl hP hD hS)
  | putfield idx =>
    cases Nat.eq_of_beq_eq_true hlen
    obtain ⟨x, g, j, r, ci, kk, w, nf, rfl, hf, ho, hk, htg, hz, e9⟩ := putF_i hs
    cases e9
    obtain ⟨hlw, hci, hkc⟩ := fld_ok hf
    obtain ⟨q0, hcq, hq0⟩ := wl_at (ad := ad) (ty := ty) h (okv_cons (okv_cons hv).2).1
    have hset9 := wl_set (ad := ad) (ty := ty) (h := h) (h' := hset h g j kk x) hc.1 hcq (fun a ha => hrow_ne a ha)
    have hno := eN_os (ad := ad) (ty := ty) (h := h) (g := g) (x := x) ho hk htg
    rw [eN_o ho] at hq0
    obtain ⟨ht1, ht2⟩ := ty_dec j (oC_lt ho) kk (Nat.lt_of_lt_of_le hkc kN_le) (ci, nf) ho hk (tg_g htg)
    have hty : parseFieldDescriptor (kT ci kk).2.2.1 = some (cond (isZ j kk) .boolean .int) := by rw [← ht1]; exact kF_ok ci hci kk hkc
    have hnr : narrow (cond (isZ j kk) .boolean .int) (.int x) = .int x ∧ fits (cond (isZ j kk) .boolean .int) (.int x) = true := by
      cases hzz : isZ j kk with
      | false => exact ⟨rfl, rfl⟩
      | true =>
        have h8 := hz hzz
        unfold zero1 at h8
        rw [Bool.or_eq_true] at h8
        rcases h8 with h8 | h8 <;> (rw [eq_of_beq h8]; exact ⟨rfl, rfl⟩)
    refine va_put (C := cnm ci) (T := kT ci) (N := kN ci) (v := .int x) hx hb hts (uws_in ci hci) (kF ci) (kF_ok ci hci) (kN_ok ci hci) hown hK hP hD hS q0 hq0 (cls_at ci hci) kk hkc (hts _ hlw) (fun _ h9 => h9) ht2 hty hnr.1 hnr.2 (by rw [List.length_map, List.length_range]; exact hk) hdec (fun H1 locs1 hP1 hD1 hS1 => ?_)
    have e7 : (wl ad ty cs h).set q0 (ad g j, .inr (ci, ((List.range nf).map (fun k => vl ad (fA h g j k))).set kk (.int x))) = wl ad ty cs (hset h g j kk x) := by
      rw [← hset9, hno]
    exact k ls H1 locs1 hl (by rw [← e7]; exact hP1) (by rw [← e7]; exact hD1) hS1
  | arraylength =>
    cases Nat.eq_of_beq_eq_true hlen
    simp only [sti] at hs
    split at hs
    · rename_i g j r
      obtain ⟨a, ha, hs⟩ := opt_some hs
      cases nx_i hs
      obtain ⟨q0, -, hq0⟩ := wl_at (ad := ad) (ty := ty) h (okv_cons hv).1
      rw [eN_a ha] at hq0
      have ht : ∃ (t0 : Nat) (ft : FieldType), (tyL ty)[t0]? = some (ty a.1, ft) := by
        have : a.1 = 0 ∨ a.1 = 1 ∨ a.1 = 2 := by
          unfold aC at ha
          split at ha <;> first | (cases ha; decide) | cases ha
        rcases this with e8 | e8 | e8 <;> rw [e8]
        · exact ⟨0, _, rfl⟩
        · exact ⟨1, _, rfl⟩
        · exact ⟨2, _, rfl⟩
      obtain ⟨t0, ft, ht⟩ := ht
      exact va_alen hx hb hK hP q0 t0 hq0 ht rfl hdec (k ls H locs hl hP hD hS)
    · cases hs
  | iaload =>
    cases Nat.eq_of_beq_eq_true hlen
    obtain ⟨i, g, j, r, n, rfl, ha, hin, e9⟩ := aLd_i hs
    cases e9
    obtain ⟨q0, -, hq0⟩ := wl_at (ad := ad) (ty := ty) h (okv_cons (okv_cons hv).2).1
    rw [eN_a ha] at hq0
    exact va_iald hx hb hK hP q0 0 hq0 rfl hin hdec (k ls H locs hl hP hD hS)
  | caload =>
    cases Nat.eq_of_beq_eq_true hlen
    obtain ⟨i, g, j, r, n, rfl, ha, hin, e9⟩ := aLd_i hs
    cases e9
    obtain ⟨q0, -, hq0⟩ := wl_at (ad := ad) (ty := ty) h (okv_cons (okv_cons hv).2).1
    rw [eN_a ha] at hq0
    exact va_cald hx hb hK hP q0 1 hq0 rfl hin hdec (k ls H locs hl hP hD hS)
  | baload =>
    cases Nat.eq_of_beq_eq_true hlen
    obtain ⟨i, g, j, r, n, rfl, ha, hin, e9⟩ := aLd_i hs
    cases e9
    obtain ⟨q0, -, hq0⟩ := wl_at (ad := ad) (ty := ty) h (okv_cons (okv_cons hv).2).1
    rw [eN_a ha] at hq0
    exact va_zald hx hb hK hP q0 2 hq0 rfl hin hdec (k ls H locs hl hP hD hS)
  | aaload =>
    cases Nat.eq_of_beq_eq_true hlen
    simp only [sti] at hs
    split at hs
    · rename_i i g j r
      obtain ⟨h1, hs2⟩ := cond_l hs
      rw [Bool.and_eq_true] at h1
      have e8 : j = 14 := Nat.eq_of_beq_eq_true h1.1
      subst e8
      cases nx_i hs2
      obtain ⟨q0, -, hq0⟩ := wl_at (ad := ad) (ty := ty) h (okv_cons (okv_cons hv).2).1
      exact va_aldq (C := RX0) hx hb hK hP q0 3 hq0 rfl (inb_vp h1.2) hdec (k ls H locs hl hP hD hS)
    · cases hs
  | iastore =>
    cases Nat.eq_of_beq_eq_true hlen
    obtain ⟨x, i, g, j, r, n, rfl, ha, hin, e9⟩ := aSt_i hs
    cases e9
    obtain ⟨q0, hcq, hq0⟩ := wl_at (ad := ad) (ty := ty) h (okv_cons (okv_cons (okv_cons hv).2).2).1
    have hset9 := wl_set (ad := ad) (ty := ty) (h := h) (h' := hset h g j i.toNatClampNeg x) hc.1 hcq (fun a ha => hrow_ne a ha)
    rw [eN_a ha] at hq0 hset9
    have e8 : hset h g j i.toNatClampNeg x g j = upd (h g j) i.toNatClampNeg x := hrow_eq
    rw [e8] at hset9
    refine va_iast hx hb hK hP hD hS q0 0 hq0 rfl hin hdec (fun H1 locs1 hP1 hD1 hS1 => ?_)
    exact k ls H1 locs1 hl (by rw [← hset9]; exact hP1) (by rw [← hset9]; exact hD1) hS1
  | castore =>
    cases Nat.eq_of_beq_eq_true hlen
    obtain ⟨x, i, g, j, r, n, rfl, ha, hin, e9⟩ := aSt_i hs
    cases e9
    obtain ⟨q0, hcq, hq0⟩ := wl_at (ad := ad) (ty := ty) h (okv_cons (okv_cons (okv_cons hv).2).2).1
    have hset9 := wl_set (ad := ad) (ty := ty) (h := h) (h' := hset h g j i.toNatClampNeg (vp_nar .char x)) hc.1 hcq (fun a ha => hrow_ne a ha)
    rw [eN_a ha] at hq0 hset9
    have e8 : hset h g j i.toNatClampNeg (vp_nar .char x) g j = upd (h g j) i.toNatClampNeg (vp_nar .char x) := hrow_eq
    rw [e8] at hset9
    refine va_cast hx hb hK hP hD hS q0 1 hq0 rfl hin hdec (fun H1 locs1 hP1 hD1 hS1 => ?_)
    exact k ls H1 locs1 hl (by rw [← hset9]; exact hP1) (by rw [← hset9]; exact hD1) hS1
  | bastore =>
    cases Nat.eq_of_beq_eq_true hlen
    obtain ⟨x, i, g, j, r, n, rfl, ha, hin, e9⟩ := aSt_i hs
    cases e9
    obtain ⟨q0, hcq, hq0⟩ := wl_at (ad := ad) (ty := ty) h (okv_cons (okv_cons (okv_cons hv).2).2).1
    have hset9 := wl_set (ad := ad) (ty := ty) (h := h) (h' := hset h g j i.toNatClampNeg (vp_nar .boolean x)) hc.1 hcq (fun a ha => hrow_ne a ha)
    rw [eN_a ha] at hq0 hset9
    have e8 : hset h g j i.toNatClampNeg (vp_nar .boolean x) g j = upd (h g j) i.toNatClampNeg (vp_nar .boolean x) := hrow_eq
    rw [e8] at hset9
    refine va_zast hx hb hK hP hD hS q0 2 hq0 rfl hin hdec (fun H1 locs1 hP1 hD1 hS1 => ?_)
    exact k ls H1 locs1 hl (by rw [← hset9]; exact hP1) (by rw [← hset9]; exact hD1) hS1
  | invokestatic idx =>
    cases Nat.eq_of_beq_eq_true hlen
    simp only [sti] at hs
    split at hs
    · rename_i q hq
      obtain ⟨hd, -⟩ := mth_i hs
      exact absurd hd (Nat.not_lt_zero _)
    · cases hb9 : (Nat.beq (mK M) 0 && Nat.beq idx 49) with
      | true =>
        rw [hb9] at hs
        obtain ⟨n, g1, j1, g0, j0, n0, n1, rfl, ha0, ha1, hd, hn, hn0, hn1, e9⟩ := acp_i hs
        exact absurd hd (Nat.not_lt_zero _)
      | false =>
        rw [hb9] at hs
        obtain ⟨M', w, as, r, -, -, -, -, -, -, e9⟩ := ins_i hs
        cases e9
  | invokevirtual idx =>
    obtain ⟨M', w, g, j, as, r, nf, -, -, -, -, -, -, -, e9⟩ := inv_i hs
    cases e9
  | ireturn =>
    simp only [sti] at hs
    split at hs
    · split at hs
      · cases hs
      · obtain ⟨-, hs⟩ := cond_l hs
        cases hs
      · cases hs
    · cases hs
  | areturn =>
    simp only [sti] at hs
    split at hs
    · split at hs <;> cases hs
    · cases hs
  | return_ =>
    simp only [sti] at hs
    split at hs
    · split at hs <;> cases hs
    · cases hs
  | _ => exact absurd (show (none : Option SR) = some _ from hs) (by simp)
theorem stp_ok {cs : List (Nat × Nat)} {d : Nat} {M : MR} {c : CF} {z : SR} (hc : clo cs) (hok : OKC cs c) (hs : stp d M c = some z) : OKR cs z := by
  obtain ⟨q, -, hs⟩ := opt_some hs
  exact sti_okv hc hok.1 hok.2 hs
theorem runR {p : Program} {l : Launch} {e : Env} {R : Room} {cells slots : Nat} {s : State} {m : MethodId} {args : Array Value} {below : List Frame} {meth : Method} {cd : Code} {H0 : Heap} {Q : State → Prop}
    {ad : Nat → Nat → Nat} {ty : Nat → ClassId} {cs : List (Nat × Nat)} {D : va_G} {A : Nat → Prop} {M : MR} (hc : clo cs) (hg : GM M) (X : CX p s m args meth cd D ty M) : ∀ (k : Nat) (c c' : CF), stps k 0 M c = some c' → OKC cs c → ∀ {H : Heap} {locs : List Loc} {ls : Array Slot}, lv_has ls (mL M) (c.2.1.map (em ad)) → va_P D CLS (wl ad ty cs c.2.2.2) H → va_D A (wl ad ty cs c.2.2.2) → va_S A H0 H locs →
    (∀ (H' : Heap) (locs' : List Loc) (ls' : Array Slot), OKC cs c' → lv_has ls' (mL M) (c'.2.1.map (em ad)) → va_P D CLS (wl ad ty cs c'.2.2.2) H' → va_D A (wl ad ty cs c'.2.2.2) → va_S A H0 H' locs' → W p l e R s m args below meth cd H' locs' cells slots Q (F0 m c'.1 ls' (c'.2.2.1.map (vl ad)))) →
    W p l e R s m args below meth cd H locs cells slots Q (F0 m c.1 ls (c.2.2.1.map (vl ad))) := by
  intro k
  induction k with
  | zero =>
    intro c c' h hok H locs ls hl hP hD hS kk
    cases h
    exact kk H locs ls hok hl hP hD hS
  | succ k ih =>
    intro c c' h hok H locs ls hl hP hD hS kk
    unfold stps at h
    split at h
    · rename_i c2 e9
      have hz : OKC cs c2 := stp_ok hc hok e9
      obtain ⟨q, hq, hs⟩ := opt_some e9
      have hdec : decode (mC M) c.1 = .ok q := hg.2 (c.1, q) (lk_mem hq)
      have hlen : lenok q.1 q.2 = true := (gm_get hg).2.2.2.2 (c.1, q) (lk_mem hq)
      obtain ⟨i, len⟩ := q
      exact oneR hc X hdec hlen hl hP hD hS hok.2 hs (fun ls' H' locs' a1 a2 a3 a4 => ih c2 c' h hz a1 a2 a3 a4 kk)
    · cases h
theorem cb_R {M' : MR} {own : Nat} {s : State} {args : Array Value} {d' idx : Nat} {w : List Nat} {R : Room} (hf : d' + 1 ≤ R.frames) (hlo : 43 * (d' + 1) ≤ R.locals) (hts : ∀ w ∈ gT, w.before args s = true) (hm : (idx, M', w) ∈ calT own) : CallB R s args (cnm own) idx (mN M') (mC M') (mL M') (mR M') (wsM M') (rmD d') 0 0 (mA M') := by
  obtain ⟨a1, a2, -, -, a5, a6, a7, a8, a9, a10, a11⟩ := cb_of (d' := d') hts hm
  obtain ⟨hg, -⟩ := cal_ok hm
  have g3 := (gm_get hg).2.2.1
  refine ⟨a1, a2, hf, ?_, a5, a6, a7, a8, a9, a10, a11⟩
  show 8 + (mL M' + 11) + 43 * d' ≤ R.locals
  omega
set_option maxHeartbeats 1000000 in
theorem callR {p : Program} {l : Launch} {e : Env} {R : Room} {cells slots : Nat} {s : State} {m : MethodId} {args : Array Value} {below : List Frame} {meth : Method} {cd : Code} {H H0 : Heap} {locs : List Loc} {ls : Array Slot} {Q : State → Prop}
    {ad : Nat → Nat → Nat} {ty : Nat → ClassId} {cs : List (Nat × Nat)} {D : va_G} {A : Nat → Prop} {M M' : MR} {d pc : Nat} {lv : List (Nat × AV)} {st as rest : List AV} {h : HP} {Q' : Option AV → HP → Prop} (hc : clo cs) (hg : GM M) (X : CX p s m args meth cd D ty M) (hok : OKC cs (pc, lv, st, h)) (hs : stp 1 M (pc, lv, st, h) = some (.inr (.inr (M', as, rest)))) (T : MT d M' as h Q')
    (hf : d + 1 ≤ R.frames) (hlo : 43 * (d + 1) ≤ R.locals) (hce : cells ≤ R.cells) (hsl : slots ≤ R.slots) (hl : lv_has ls (mL M) (lv.map (em ad))) (hP : va_P D CLS (wl ad ty cs h) H) (hD : va_D A (wl ad ty cs h)) (hS : va_S A H0 H locs)
    (kk : ∀ (r : Option AV) (h' : HP) (H' : Heap) (locs' : List Loc), Q' r h' → OKC cs (pc + 3, lv, r.toList ++ rest, h') → va_P D CLS (wl ad ty cs h') H' → va_D A (wl ad ty cs h') → va_S A H0 H' locs' → W p l e R s m args below meth cd H' locs' cells slots Q (F0 m (pc + 3) ls ((r.toList ++ rest).map (vl ad)))) :
    W p l e R s m args below meth cd H locs cells slots Q (F0 m pc ls (st.map (vl ad))) := by
  obtain ⟨n, ⟨r, h'⟩, hx9, hq9⟩ := T
  have hz : OKR cs (.inr (.inr (M', as, rest))) := stp_ok hc hok hs
  have ho1 : ∀ v, r = some v → okv cs v := ex_okv hc n d M' _ (r, h') ⟨okv_ent hz.1, fun v h9 => by cases h9⟩ hx9
  have hokn : OKC cs (pc + 3, lv, r.toList ++ rest, h') := by
    refine ⟨hok.1, fun v hv => ?_⟩
    rcases List.mem_append.mp hv with h9 | h9
    · cases r with
      | none => cases h9
      | some w => rw [List.mem_singleton.mp h9]; exact ho1 w rfl
    · exact hz.2 v h9
  have hmap : ((r.map (vl ad)).toList ++ rest.map (vl ad)) = (r.toList ++ rest).map (vl ad) := by cases r <;> simp
  have fin : ∀ (H1 : Heap) (locs1 : List Loc), va_P D CLS (wl ad ty cs h') H1 → H.size ≤ H1.size → (∀ q : Nat, q < H.size → ¬ aA ad cs q → H1[q]? = H[q]?) → va_S A H0 H1 locs1 → W p l e R s m args below meth cd H1 locs1 (cells + 0) (slots + 0) Q (F0 m (pc + 3) ls ((r.map (vl ad)).toList ++ rest.map (vl ad))) := by
    intro H1 locs1 a1 _ _ a4
    rw [hmap]
    exact kk r h' H1 locs1 hq9 hokn a1 (wl_D hD) a4
  have met : ∀ (hg : GM M') (hw : wds as ≤ mL M'), Met l (mN M') (wsM M') (rmD d) (PcX D ad ty cs as h) (QcX D ad ty cs (r, h')) 0 0 (aA ad cs) := by
    intro hg hw
    obtain ⟨r9, q9, m9⟩ := PTm l D ad ty cs hc (M := M') (as := as) (h := h) (d := d) (Q := fun a b => (a, b) = (r, h')) hg hz.1 hw ⟨n, (r, h'), hx9, rfl⟩
    have e9 : r9 = (r, h') := q9
    rw [e9] at m9
    exact m9
  obtain ⟨hx, hb, hr, hml, hown, hts, hlocks, hK⟩ := id X
  obtain ⟨q, hq, hs⟩ := opt_some hs
  have hdec : decode (mC M) pc = .ok q := hg.2 (pc, q) (lk_mem hq)
  have hlen : lenok q.1 q.2 = true := (gm_get hg).2.2.2.2 (pc, q) (lk_mem hq)
  obtain ⟨i, len⟩ := q
  dsimp only at hs hdec hlen
  cases i with
  | invokevirtual idx =>
    cases Nat.eq_of_beq_eq_true hlen
    obtain ⟨M2, w, g, j, as2, r2, nf, hm, hst, rfl, hn, ho, hr4, hw, e9⟩ := inv_i hs
    cases e9
    obtain ⟨hg', -, -, -, -, hi⟩ := cal_ok hm
    obtain ⟨hi1, hi2⟩ := hi hst
    obtain ⟨g1, g2, g3, g4, -⟩ := gm_get hg'
    have hci := (oC_ok ho).1
    obtain ⟨q0, -, hq0⟩ := wl_at (ad := ad) (ty := ty) h (show (g, j) ∈ cs from hz.1 _ List.mem_cons_self)
    rw [eN_o ho] at hq0
    have hrec := va_recv hK hP (cls_at _ hci) hq0
    have hcs := cat_sum ad rest
    refine callx (va_runV (As := as2.map (vl ad)) (rest := rest.map (vl ad)) (C := cnm (mK M')) ⟨hx, hb, hml, hown, hts⟩ (met hg' hw) ⟨cb_R hf hlo hts hm, hts _ hi1, ?_⟩ ⟨blindX, hrec, fun U hU hW => ⟨rfl, by rw [hU]; exact hP, va_K.moved hW.alike hK, hD.weaken (fun _ _ _ _ => trivial)⟩⟩ rfl (by rw [List.length_map]; exact hn) hl.1 ?_ (lv_room (by omega)) hdec ⟨by omega, by omega⟩) hS (aA_wl hD) (aA_wl hD) fin
    · rw [← g2]; exact hts _ hi2
    · show (as2.reverse ++ vR g j :: rest).map (vl ad) = _
      rw [List.map_append, List.map_reverse]
      rfl
  | invokestatic idx =>
    cases Nat.eq_of_beq_eq_true hlen
    simp only [sti] at hs
    split at hs
    · obtain ⟨-, r, -, ⟨x, y, -, rfl, e9⟩ | ⟨x, y, -, rfl, e9⟩ | ⟨x, -, rfl, e9⟩⟩ := mth_i hs <;> cases e9
    · cases hb9 : (Nat.beq (mK M) 0 && Nat.beq idx 49) with
      | true =>
        rw [hb9] at hs
        obtain ⟨n, g1, j1, g0, j0, n0, n1, rfl, ha0, ha1, hd, hn, hn0, hn1, e9⟩ := acp_i hs
        cases e9
      | false =>
        rw [hb9] at hs
        obtain ⟨M2, w, as2, r2, hm, hst, rfl, hn, hr4, hw, e9⟩ := ins_i hs
        cases e9
        obtain ⟨hg', -, -, -, hi, -⟩ := cal_ok hm
        have hcs := cat_sum ad rest
        refine callx (va_runS (As := as.map (vl ad)) (rest := rest.map (vl ad)) ⟨hx, hb, hml, hown, hts⟩ (met hg' hw) ⟨cb_R hf hlo hts hm, hts _ (hi hst)⟩ ⟨blindX, fun U hU hW => ⟨rfl, by rw [hU]; exact hP, va_K.moved hW.alike hK, hD.weaken (fun _ _ _ _ => trivial)⟩⟩ rfl (by rw [List.length_map]; exact hn) hl.1 ?_ (lv_room (by omega)) hdec ⟨by omega, by omega⟩) hS (aA_wl hD) (aA_wl hD) fin
        show (as.reverse ++ rest).map (vl ad) = _
        rw [List.map_append, List.map_reverse]
  | ireturn =>
    simp only [sti] at hs
    split at hs
    · split at hs
      · cases hs
      · obtain ⟨-, hs⟩ := cond_l hs
        cases hs
      · cases hs
    · cases hs
  | areturn =>
    simp only [sti] at hs
    split at hs
    · split at hs <;> cases hs
    · cases hs
  | return_ =>
    simp only [sti] at hs
    split at hs
    · split at hs <;> cases hs
    · cases hs
  | _ =>
    rcases sti_l hs with ⟨_, e9⟩ | e9 | e9 | e9 | ⟨_, e9⟩ | ⟨_, e9⟩ <;> cases e9
