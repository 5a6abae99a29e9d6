/-! CONSTRUCTORS: the common rows -/
def hz : HP := fun _ _ _ => 0
def AI (h0 sz : Nat) : Nat → Prop := fun q => q = h0 ∨ sz ≤ q
theorem wl_app {ad : Nat → Nat → Nat} {ty : Nat → ClassId} {c1 c2 : List (Nat × Nat)} {h : HP} : wl ad ty (c1 ++ c2) h = wl ad ty c1 h ++ wl ad ty c2 h := by unfold wl; exact List.map_append
theorem va_Pl {D : va_G} {cl : List vw_C} {w1 w2 : va_W} {H : Heap} (h : va_P D cl (w1 ++ w2) H) : va_P D cl w1 H ∧ va_P D cl w2 H := by
  refine ⟨fun k q hk => h k q ?_, fun k q hk => h (w1.length + k) q ?_⟩
  · rw [List.getElem?_append_left (List.getElem?_eq_some_iff.mp hk).1]; exact hk
  · rw [List.getElem?_append_right (by omega), show w1.length + k - w1.length = k by omega]; exact hk
theorem va_Dl {A : Nat → Prop} {w1 w2 : va_W} (h : va_D A (w1 ++ w2)) : va_D A w1 ∧ va_D A w2 ∧ ∀ (i j : Nat) (p q : Nat × va_E), w1[i]? = some p → w2[j]? = some q → ¬ p.1 = q.1 := by
  have l1 : ∀ (k : Nat) (q : Nat × va_E), w1[k]? = some q → (w1 ++ w2)[k]? = some q := fun k q hk => by rw [List.getElem?_append_left (List.getElem?_eq_some_iff.mp hk).1]; exact hk
  have l2 : ∀ (k : Nat) (q : Nat × va_E), w2[k]? = some q → (w1 ++ w2)[w1.length + k]? = some q := fun k q hk => by rw [List.getElem?_append_right (by omega), show w1.length + k - w1.length = k by omega]; exact hk
  refine ⟨⟨fun i j p q hi hj e => h.1 i j p q (l1 i p hi) (l1 j q hj) e, fun k q hk => h.2 k q (l1 k q hk)⟩, ⟨fun i j p q hi hj e => ?_, fun k q hk => h.2 _ q (l2 k q hk)⟩, fun i j p q hi hj e => ?_⟩
  · have := h.1 _ _ p q (l2 i p hi) (l2 j q hj) e; omega
  · have := h.1 _ _ p q (l1 i p hi) (l2 j q hj) e
    have := (List.getElem?_eq_some_iff.mp hi).1
    omega
theorem va_Dapp {A : Nat → Prop} {w1 w2 : va_W} (h1 : va_D A w1) (h2 : va_D A w2) (h : ∀ (i j : Nat) (p q : Nat × va_E), w1[i]? = some p → w2[j]? = some q → ¬ p.1 = q.1) : va_D A (w1 ++ w2) := by
  have sp : ∀ (k : Nat) (q : Nat × va_E), (w1 ++ w2)[k]? = some q → (k < w1.length ∧ w1[k]? = some q) ∨ (w1.length ≤ k ∧ w2[k - w1.length]? = some q) := by
    intro k q hk
    rcases Nat.lt_or_ge k w1.length with z | z
    · rw [List.getElem?_append_left z] at hk; exact Or.inl ⟨z, hk⟩
    · rw [List.getElem?_append_right z] at hk; exact Or.inr ⟨z, hk⟩
  refine ⟨fun i j p q hi hj e => ?_, fun k q hk => ?_⟩
  · rcases sp i p hi with ⟨a1, a2⟩ | ⟨a1, a2⟩
    · rcases sp j q hj with ⟨b1, b2⟩ | ⟨b1, b2⟩
      · exact h1.1 i j p q a2 b2 e
      · exact absurd e (h _ _ p q a2 b2)
    · rcases sp j q hj with ⟨b1, b2⟩ | ⟨b1, b2⟩
      · exact absurd e.symm (h _ _ q p b2 a2)
      · have := h2.1 _ _ p q a2 b2 e; omega
  · rcases sp k q hk with ⟨a1, a2⟩ | ⟨a1, a2⟩
    · exact h1.2 _ q a2
    · exact h2.2 _ q a2
/-- behind the call of a constructor: the callee's cell stood last -/
theorem joinI {A0 : Nat → Prop} {D : va_G} {cl : List vw_C} {wr w1 : va_W} {h0 : Nat} {e0 : va_E} {H H1 : Heap} (hP : va_P D cl (wr ++ [(h0, e0)]) H) (hD : va_D A0 (wr ++ [(h0, e0)])) (hk : ∀ q : Nat, q < H.size → ¬ AI h0 H.size q → H1[q]? = H[q]?) (hF : ∀ q, AI h0 H.size q → A0 q) (hP1 : va_P D cl w1 H1) (hD1 : va_D (AI h0 H.size) w1) : va_P D cl (wr ++ w1) H1 ∧ va_D A0 (wr ++ w1) := by
  obtain ⟨p1, p2⟩ := va_Pl hP
  obtain ⟨d1, d2, d3⟩ := va_Dl hD
  have out : ∀ (k : Nat) (q : Nat × va_E), wr[k]? = some q → q.1 < H.size ∧ ¬ AI h0 H.size q.1 := by
    intro k q hq
    have hl := (p1 k q hq).lt
    refine ⟨hl, fun z => ?_⟩
    rcases z with z | z
    · exact d3 k 0 q (h0, e0) hq rfl z
    · omega
  refine ⟨(p1.kept (fun k q hq => hk q.1 (out k q hq).1 (out k q hq).2)).app hP1, va_Dapp d1 (hD1.weaken (fun _ _ _ h => hF _ h)) (fun i j p q hi hj e => ?_)⟩
  exact (out i p hi).2 (by rw [e]; exact hD1.2 j q hj)
def IX (p : Program) (s : State) (m : MethodId) (args : Array Value) (meth : Method) (c : Code) (D : va_G) (ty : Nat → ClassId) (ci : Nat) (cc : ByteArray) (n : Nat) : Prop :=
  p.tables.exec = Jvm.exec ∧ c.code = cc ∧ meth.sig.returnType = none ∧ c.maxLocals = n ∧ s.vm.findClass (cnm ci) = some m.cls ∧ (∀ w ∈ gT, w.before args s = true) ∧ meth.locks = false ∧ va_K D CLS (tyL ty) s ∧ meth.name = "<init>"
theorem ty_one {D : va_G} {cl : List vw_C} {ty : Nat → ClassId} {s : State} {cA : ClassId} {t : Nat} {fty : FieldType} (hK : va_K D cl (tyL ty ++ [(cA, fty)]) s) (ht : (tyL ty)[t]? = some (ty t, fty)) : cA = ty t := by
  have h1 := (hK.2 4 (cA, fty) rfl).2
  have h2 := (hK.2 t (ty t, fty) (by rw [List.getElem?_append_left (List.getElem?_eq_some_iff.mp ht).1]; exact ht)).2
  unfold va_RA at h1 h2
  cases fty with
  | object C =>
    obtain ⟨-, -, -, -, -, q1⟩ := h1
    obtain ⟨-, -, -, -, -, q2⟩ := h2
    exact Option.some.inj (q1.symm.trans q2)
  | _ => exact Option.some.inj (h1.symm.trans h2)
section IXR
variable {p : Program} {l : Launch} {e : Env} {R : Room} {s : State} {m : MethodId} {args : Array Value} {below : List Frame} {meth : Method} {c : Code} {H H0 : Heap} {locs : List Loc} {cells slots : Nat} {Q : State → Prop} {cc : ByteArray} {pc : Nat} {ls : Array Slot} {D : va_G} {ty : Nat → ClassId} {A : Nat → Prop} {ci nl : Nat}
/-- a final field gets a reference -/
theorem i_putF (X : IX p s m args meth c D ty ci cc nl) (hci : ci < 6) {ws : va_W} {q0 a v k idx : Nat} {fs : List Value} {fty : FieldType} (hP : va_P D CLS ws H) (hD : va_D A ws) (hS : va_S A H0 H locs) (he : ws[q0]? = some (a, .inr (ci, fs))) (hk : k < kN ci) (hl : k < fs.length) (hlink : Cond.fieldLink (cnm ci) idx (cnm ci) (kT ci k).2.1 (kT ci k).2.2.1 ∈ gT) (hown : (kT ci k).1 = cnm ci) (hfin : (kT ci k).2.2.2 = true) (hn : narrow (kF ci k) (.ref v) = .ref v) (hfit : fits (kF ci k) (.ref v) = true) {rest : List Value} (hdg : decode cc pc = .ok (.putfield idx, 3))
    (kk : ∀ (H1 : Heap) (locs1 : List Loc), va_P D CLS (ws.set q0 (a, .inr (ci, fs.set k (.ref v)))) H1 → va_D A (ws.set q0 (a, .inr (ci, fs.set k (.ref v)))) → va_S A H0 H1 locs1 → W p l e R s m args below meth c H1 locs1 cells slots Q (F0 m (pc + 3) ls rest)) : W p l e R s m args below meth c H locs cells slots Q (F0 m pc ls (.ref v :: .ref a :: rest)) := by
  obtain ⟨hx, hb, hr, hml, hwn, hts, hlocks, hK, hin⟩ := X
  exact va_putF hx hb hts (uws_in ci hci) (kF ci) (kF_ok ci hci) (kN_ok ci hci) hwn hK hP hD hS q0 he (cls_at ci hci) k hk (hts _ hlink) (fun x h => by rw [hown] at h; exact h) hfin hin hown (kF_ok ci hci k hk) hn hfit hl hdg kk
/-- a field gets an int -/
theorem i_putI (X : IX p s m args meth c D ty ci cc nl) (hci : ci < 6) {ws : va_W} {q0 a k idx : Nat} {v : Int32} {fs : List Value} (hP : va_P D CLS ws H) (hD : va_D A ws) (hS : va_S A H0 H locs) (he : ws[q0]? = some (a, .inr (ci, fs))) (hk : k < kN ci) (hl : k < fs.length) (hlink : Cond.fieldLink (cnm ci) idx (cnm ci) (kT ci k).2.1 (kT ci k).2.2.1 ∈ gT) (hown : (kT ci k).1 = cnm ci) (hfin : (kT ci k).2.2.2 = false) (hn : narrow (kF ci k) (.int v) = .int v) (hfit : fits (kF ci k) (.int v) = true) {rest : List Value} (hdg : decode cc pc = .ok (.putfield idx, 3))
    (kk : ∀ (H1 : Heap) (locs1 : List Loc), va_P D CLS (ws.set q0 (a, .inr (ci, fs.set k (.int v)))) H1 → va_D A (ws.set q0 (a, .inr (ci, fs.set k (.int v)))) → va_S A H0 H1 locs1 → W p l e R s m args below meth c H1 locs1 cells slots Q (F0 m (pc + 3) ls rest)) : W p l e R s m args below meth c H locs cells slots Q (F0 m pc ls (.int v :: .ref a :: rest)) := by
  obtain ⟨hx, hb, hr, hml, hwn, hts, hlocks, hK, hin⟩ := X
  exact va_put hx hb hts (uws_in ci hci) (kF ci) (kF_ok ci hci) (kN_ok ci hci) hwn hK hP hD hS q0 he (cls_at ci hci) k hk (hts _ hlink) (fun x h => by rw [hown] at h; exact h) hfin (kF_ok ci hci k hk) hn hfit hl hdg kk
/-- a new row of zeros -/
theorem i_newa (X : IX p s m args meth c D ty ci cc nl) {ws : va_W} {atype : ArrayType} {fty : FieldType} {t N : Nat} {n : Int32} (hty : newarray.typeOf atype = fty) (ht : (tyL ty)[t]? = some (ty t, fty)) (h3 : t < 3) (harr : Cond.arrayClass fty ∈ gT) (hP : va_P D CLS ws H) (hD : va_D A ws) (hS : va_S A H0 H locs) (hA : ∀ q, H0.size ≤ q → A q) (hn : ¬ n < 0) (hN : n.toNatClampNeg = N) (hbytes : N * componentBytes fty ≤ 536870912) (hcells : cells + 1 ≤ R.cells) (hslots : slots + N ≤ R.slots) {rest : List Value} (hdg : decode cc pc = .ok (.newarray atype, 2))
    (kk : ∀ (q : Nat) (H1 : Heap), va_P D CLS (ws ++ [(q, .inl (ty t, N, .inl (fun _ => 0)))]) H1 → va_D A (ws ++ [(q, .inl (ty t, N, .inl (fun _ => 0)))]) → va_S A H0 H1 locs → W p l e R s m args below meth c H1 locs (cells + 1) (slots + N) Q (F0 m (pc + 2) ls (.ref q :: rest))) : W p l e R s m args below meth c H locs cells slots Q (F0 m pc ls (.int n :: rest)) := by
  obtain ⟨hx, hb, hr, hml, hwn, hts, hlocks, hK, hin⟩ := X
  have ha : ∀ cA : ClassId, vp_cell cA (N, .inl (fun _ => 0)) = arrV cA N (fun _ => defaultValue fty) := by
    intro cA
    rcases (show t = 0 ∨ t = 1 ∨ t = 2 by omega) with rfl | rfl | rfl <;> (cases ht; rfl)
  refine va_newa (a0 := (N, .inl (fun _ => 0))) hx hb (atype := atype) (by rw [hty]; exact hts _ harr) hty hK hP hD hS hA ha hn hN hbytes hcells hslots hdg (fun q cA H1 k1 k2 k3 k4 => ?_)
  rw [ty_one k1 ht] at k2 k3
  exact kk q H1 k2 k3 k4
/-- a new row, and the final field that holds it -/
theorem i_row (X : IX p s m args meth c D ty ci cc nl) (hci : ci < 6) {wr : va_W} {atype : ArrayType} {fty : FieldType} {t N h0 k idx : Nat} {n : Int32} {fs : List Value} (hty : newarray.typeOf atype = fty) (ht : (tyL ty)[t]? = some (ty t, fty)) (h3 : t < 3) (harr : Cond.arrayClass fty ∈ gT) (hP : va_P D CLS ((h0, .inr (ci, fs)) :: wr) H) (hD : va_D A ((h0, .inr (ci, fs)) :: wr)) (hS : va_S A H0 H locs) (hA : ∀ q, H0.size ≤ q → A q) (hn : ¬ n < 0) (hN : n.toNatClampNeg = N) (hbytes : N * componentBytes fty ≤ 536870912) (hcells : cells + 1 ≤ R.cells) (hslots : slots + N ≤ R.slots)
    (hk : k < kN ci) (hl : k < fs.length) (hlink : Cond.fieldLink (cnm ci) idx (cnm ci) (kT ci k).2.1 (kT ci k).2.2.1 ∈ gT) (hown : (kT ci k).1 = cnm ci) (hfin : (kT ci k).2.2.2 = true) (hkf : kF ci k = .array fty) (hdg : decode cc pc = .ok (.newarray atype, 2)) (hdg2 : decode cc (pc + 2) = .ok (.putfield idx, 3)) {rest : List Value}
    (kk : ∀ (q : Nat) (H1 : Heap) (locs1 : List Loc), va_P D CLS ((h0, .inr (ci, fs.set k (.ref q))) :: (wr ++ [(q, .inl (ty t, N, .inl (fun _ => 0)))])) H1 → va_D A ((h0, .inr (ci, fs.set k (.ref q))) :: (wr ++ [(q, .inl (ty t, N, .inl (fun _ => 0)))])) → va_S A H0 H1 locs1 → W p l e R s m args below meth c H1 locs1 (cells + 1) (slots + N) Q (F0 m (pc + 5) ls rest)) : W p l e R s m args below meth c H locs cells slots Q (F0 m pc ls (.int n :: .ref h0 :: rest)) := by
  refine i_newa X hty ht h3 harr hP hD hS hA hn hN hbytes hcells hslots hdg (fun q H1 k2 k3 k4 => ?_)
  refine i_putF (q0 := 0) X hci (fty := fty) k2 k3 k4 rfl hk hl hlink hown hfin (by rw [hkf]; rfl) (by rw [hkf]; rfl) hdg2 (fun H2 locs2 g2 g3 g4 => ?_)
  exact kk q H2 locs2 g2 g3 g4
end IXR
theorem PTm (l : Launch) (D : va_G) (ad : Nat → Nat → Nat) (ty : Nat → ClassId) (cs : List (Nat × Nat)) (hc : clo cs) {d : Nat} {M : MR} {as : List AV} {h : HP} {Q : Option AV → HP → Prop} (hg : GM M) (hok : ∀ v ∈ as, okv cs v) (hw : wds as ≤ mL M) (T : MT d M as h Q) : ∃ r : Option AV × HP, Q r.1 r.2 ∧ Met l (mN M) (wsM M) (rmD d) (PcX D ad ty cs as h) (QcX D ad ty cs r) 0 0 (aA ad cs) := by
  obtain ⟨n, r, hx, hq⟩ := T
  refine ⟨r, hq, ?_⟩
  obtain ⟨g1, g2, g3, g4, -⟩ := gm_get hg
  refine Met.ofW (cc := mC M) (maxL := mL M) (ret := mR M) (ws' := gT) (by rw [g2]; exact (pn _ g4).1) rfl ?_
  intro p e s m args below meth c s₁ B hml hv
  obtain ⟨rfl, hP, hK, hD0⟩ := hv
  have hts0 := atoms_spec (ws := wsM M) B.pre
  have hown : s.vm.findClass (mN M).cls = some m.cls := findClass_of_methodNamed B.named
  rw [g2] at hown
  have hl := lv_entry (as.map (vl ad)) (n := mL M) (by rw [wds_len]; exact hw)
  rw [← ent_map] at hl
  rw [lg_entry_eq]
  exact ex_ok l D ad ty cs hc n d M (0, ent 0 as, [], h) r hg ⟨okv_ent hok, fun v h9 => by cases h9⟩ hx ⟨B.exec, B.bytes, B.returns, hml, hown, fun w h9 => hts0 w (List.mem_cons_of_mem _ h9), B.notSynchronized, hK⟩ hl hP (wl_Dself hD0) va_S.rf
