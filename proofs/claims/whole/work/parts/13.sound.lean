/-! the small machine inside the great one: worlds -/
def vl (ad : Nat → Nat → Nat) : AV → Value
  | .inl x => .int x
  | .inr (.inl x) => .long x
  | .inr (.inr q) => .ref (ad q.1 q.2)
def em (ad : Nat → Nat → Nat) (q : Nat × AV) : Nat × Value := (q.1, vl ad q.2)
def eN (ad : Nat → Nat → Nat) (ty : Nat → ClassId) (h : HP) (q : Nat × Nat) : va_E := match oC q.2 with
  | some o => .inr (o.1, (List.range o.2).map (fun k => vl ad (fA h q.1 q.2 k)))
  | none => match aC q.2 with
    | some a => .inl (ty a.1, a.2, .inl (h q.1 q.2))
    | none => .inl (ty 3, 5, .inr (.inr (.inr (.inr (fun i => some (ad (i + 2) 0))))))
def wl (ad : Nat → Nat → Nat) (ty : Nat → ClassId) (cs : List (Nat × Nat)) (h : HP) : va_W := cs.map (fun q => (ad q.1 q.2, eN ad ty h q))
def tyL (ty : Nat → ClassId) : List (ClassId × FieldType) := [(ty 0, .int), (ty 1, .char), (ty 2, .boolean), (ty 3, .object RX0)]
def aA (ad : Nat → Nat → Nat) (cs : List (Nat × Nat)) : Nat → Prop := fun x => ∃ q ∈ cs, ad q.1 q.2 = x
theorem isL_cat (ad : Nat → Nat → Nat) (v : AV) : ((vl ad v).category == 2) = isL v := by
  rcases v with x | x | x <;> rfl
theorem lst_map (ad : Nat → Nat → Nat) (lv : List (Nat × AV)) (k : Nat) (v : AV) : (lst lv k v).map (em ad) = (k, vl ad v) :: (lv.map (em ad)).filter (fun q => !(q.1 == k) && !(q.1 + 1 == k && q.2.category == 2)) := by
  unfold lst
  rw [List.map_cons, List.filter_map]
  congr 2
  apply List.filter_congr
  intro q _
  show _ = (!((em ad q).1 == k) && !((em ad q).1 + 1 == k && (em ad q).2.category == 2))
  rw [show (em ad q).2.category = (vl ad q.2).category from rfl, isL_cat]
  rfl
theorem ent_map (ad : Nat → Nat → Nat) : ∀ (as : List AV) (i : Nat), (ent i as).map (em ad) = lv_args i (as.map (vl ad)) := by
  intro as
  induction as with
  | nil => intro i; rfl
  | cons v r ih =>
    intro i
    show (i, vl ad v) :: (ent (cond (isL v) (i + 2) (i + 1)) r).map (em ad) = (i, vl ad v) :: lv_args (if (vl ad v).category = 2 then i + 2 else i + 1) (r.map (vl ad))
    rw [ih]
    rcases v with x | x | x <;> rfl
theorem wds_len (ad : Nat → Nat → Nat) : ∀ as : List AV, (lg_sl (as.map (vl ad))).length = wds as := by
  intro as
  induction as with
  | nil => rfl
  | cons v r ih =>
    show (lg_sl (vl ad v :: r.map (vl ad))).length = cond (isL v) 2 1 + wds r
    rw [← ih]
    unfold lg_sl
    rw [List.flatMap_cons, List.length_append]
    rcases v with x | x | x <;> rfl
theorem wl_at {ad : Nat → Nat → Nat} {ty : Nat → ClassId} {cs : List (Nat × Nat)} (h : HP) {q : Nat × Nat} (hq : q ∈ cs) : ∃ k : Nat, cs[k]? = some q ∧ (wl ad ty cs h)[k]? = some (ad q.1 q.2, eN ad ty h q) := by
  obtain ⟨k, hk⟩ := List.getElem?_of_mem hq
  exact ⟨k, hk, by unfold wl; rw [List.getElem?_map, hk]; rfl⟩
theorem eN_congr {ad : Nat → Nat → Nat} {ty : Nat → ClassId} {h h' : HP} {q : Nat × Nat} (e : h' q.1 q.2 = h q.1 q.2) : eN ad ty h' q = eN ad ty h q := by
  have e2 : ∀ k, fA h' q.1 q.2 k = fA h q.1 q.2 k := fun k => by unfold fA; rw [e]
  unfold eN
  simp only [e, e2]
theorem nodup_at {cs : List (Nat × Nat)} (hn : cs.Nodup) {i k : Nat} {q : Nat × Nat} (h1 : cs[i]? = some q) (h2 : cs[k]? = some q) : i = k := by
  have l1 : i < cs.length := (List.getElem?_eq_some_iff.mp h1).1
  exact (List.getElem?_inj l1 hn).mp (h1.trans h2.symm)
theorem wl_set {ad : Nat → Nat → Nat} {ty : Nat → ClassId} {cs : List (Nat × Nat)} {h h' : HP} {k : Nat} {q : Nat × Nat} (hn : cs.Nodup) (hk : cs[k]? = some q) (ho : ∀ a : Nat × Nat, a ≠ q → h' a.1 a.2 = h a.1 a.2) : (wl ad ty cs h).set k (ad q.1 q.2, eN ad ty h' q) = wl ad ty cs h' := by
  apply List.ext_getElem?
  intro i
  have hl : k < (wl ad ty cs h).length := by
    unfold wl
    rw [List.length_map]
    exact (List.getElem?_eq_some_iff.mp hk).1
  by_cases e : k = i
  · subst e
    rw [List.getElem?_set_self hl]
    unfold wl
    rw [List.getElem?_map, hk]
    rfl
  · rw [List.getElem?_set_ne e]
    unfold wl
    rw [List.getElem?_map, List.getElem?_map]
    cases hi : cs[i]? with
    | none => rfl
    | some a =>
      have hne : a ≠ q := fun e2 => e (nodup_at hn hk (by rw [hi, e2]))
      show some (ad a.1 a.2, eN ad ty h a) = some (ad a.1 a.2, eN ad ty h' a)
      rw [eN_congr (ho a hne)]
theorem hrow_ne {h : HP} {g j : Nat} {f : Nat → Int32} (a : Nat × Nat) (ha : a ≠ (g, j)) : hrow h g j f a.1 a.2 = h a.1 a.2 := by
  unfold hrow
  rw [if_neg]
  intro e
  exact ha (Prod.ext e.1 e.2)
theorem hrow_eq {h : HP} {g j : Nat} {f : Nat → Int32} : hrow h g j f g j = f := by
  unfold hrow
  rw [if_pos ⟨rfl, rfl⟩]
theorem eN_o {ad : Nat → Nat → Nat} {ty : Nat → ClassId} {h : HP} {g j : Nat} {o : Nat × Nat} (ho : oC j = some o) : eN ad ty h (g, j) = .inr (o.1, (List.range o.2).map (fun k => vl ad (fA h g j k))) := by
  unfold eN
  simp only [ho]
theorem aC_oC {j : Nat} {a : Nat × Nat} (h : aC j = some a) : oC j = none := by
  unfold aC at h
  split at h <;> first | rfl | cases h
theorem eN_a {ad : Nat → Nat → Nat} {ty : Nat → ClassId} {h : HP} {g j t n : Nat} (ha : aC j = some (t, n)) : eN ad ty h (g, j) = .inl (ty t, n, .inl (h g j)) := by
  unfold eN
  simp only [aC_oC ha, ha]
theorem eN_os {ad : Nat → Nat → Nat} {ty : Nat → ClassId} {h : HP} {g j k : Nat} {o : Nat × Nat} {x : Int32} (ho : oC j = some o) (hk : k < o.2) (ht : tg g j k = none) : eN ad ty (hset h g j k x) (g, j) = .inr (o.1, ((List.range o.2).map (fun k => vl ad (fA h g j k))).set k (.int x)) := by
  rw [eN_o ho]
  congr 2
  apply List.ext_getElem?
  intro i
  by_cases e : k = i
  · subst e
    rw [List.getElem?_set_self (by rw [List.length_map, List.length_range]; exact hk), List.getElem?_map, List.getElem?_range hk]
    show some (vl ad (fA (hset h g j k x) g j k)) = some (.int x)
    unfold fA hset
    rw [ht, hrow_eq]
    simp [upd, vl]
  · rw [List.getElem?_set_ne e, List.getElem?_map, List.getElem?_map]
    by_cases hi : i < o.2
    · rw [List.getElem?_range hi]
      show some (vl ad (fA (hset h g j k x) g j i)) = some (vl ad (fA h g j i))
      unfold fA hset
      rw [hrow_eq]
      have e2 : ¬ i = k := fun q => e q.symm
      simp [upd, e2]
    · have hn : (List.range o.2)[i]? = none := List.getElem?_eq_none (by rw [List.length_range]; omega)
      rw [hn]
      rfl
theorem wl_D {ad : Nat → Nat → Nat} {ty : Nat → ClassId} {cs : List (Nat × Nat)} {h h' : HP} {A : Nat → Prop} (hD : va_D A (wl ad ty cs h)) : va_D A (wl ad ty cs h') := by
  have key : ∀ (i : Nat) (p : Nat × va_E), (wl ad ty cs h')[i]? = some p → ∃ e, (wl ad ty cs h)[i]? = some (p.1, e) := by
    intro i p hp
    unfold wl at hp ⊢
    rw [List.getElem?_map] at hp ⊢
    cases hi : cs[i]? with
    | none => rw [hi] at hp; cases hp
    | some a =>
      rw [hi] at hp
      cases hp
      exact ⟨_, rfl⟩
  refine ⟨fun i j p q hp hq e => ?_, fun k q hq => ?_⟩
  · obtain ⟨e1, h1⟩ := key i p hp
    obtain ⟨e2, h2⟩ := key j q hq
    exact hD.1 i j _ _ h1 h2 e
  · obtain ⟨e1, h1⟩ := key k q hq
    exact hD.2 k (q.1, e1) h1
theorem aA_wl {ad : Nat → Nat → Nat} {ty : Nat → ClassId} {cs : List (Nat × Nat)} {h : HP} {A : Nat → Prop} (hD : va_D A (wl ad ty cs h)) : ∀ x, aA ad cs x → A x := by
  rintro x ⟨q, hq, rfl⟩
  obtain ⟨k, -, hk⟩ := wl_at (ad := ad) (ty := ty) h hq
  exact hD.2 k _ hk
theorem wl_Dself {ad : Nat → Nat → Nat} {ty : Nat → ClassId} {cs : List (Nat × Nat)} {h : HP} {A : Nat → Prop} (hD : va_D A (wl ad ty cs h)) : va_D (aA ad cs) (wl ad ty cs h) := by
  refine ⟨hD.1, fun k q hq => ?_⟩
  unfold wl at hq
  rw [List.getElem?_map] at hq
  cases hi : cs[k]? with
  | none => rw [hi] at hq; cases hq
  | some a =>
    rw [hi] at hq
    cases hq
    exact ⟨a, List.mem_of_getElem? hi, rfl⟩
