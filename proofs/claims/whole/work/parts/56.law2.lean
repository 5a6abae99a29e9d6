/-! THE LAW'S CALLS -/
def lkb (l : List (Nat × Instr × Nat)) (pc : Nat) (i : Instr) (n : Nat) : Bool := decide (lk l pc = some (i, n))
theorem lkb_d {l : List (Nat × Instr × Nat)} {pc n : Nat} {i : Instr} (hl : ∀ q ∈ l, decode code q.1 = .ok q.2) (h : lkb l pc i n = true) : decode code pc = .ok (i, n) := hl (pc, i, n) (lk_mem (of_decide_eq_true h))
def argsb (l : List (Nat × Instr × Nat)) : Nat → Nat → Nat → Bool
  | _, _, 0 => true
  | pc, k, n + 1 => lkb l pc (.aload_n 0) 1 && lkb l (pc + 1) (.iload_n 3) 1 && lkb l (pc + 1 + 1) (.iconst (k : Int)) 1 && lkb l (pc + 1 + 1 + 1) .iadd 1 && lkb l (pc + 1 + 1 + 1 + 1) .iaload 1 && argsb l (pc + 5) (k + 1) n
def caseb (l : List (Nat × Instr × Nat)) (pc n a b : Nat) : Bool := lkb l pc (.aload_n 1) 1 && argsb l (pc + 1) 1 n && lkb l (pc + 1 + 5 * n) (.invokevirtual a) 3 && lkb l (pc + 1 + 5 * n + 3) (.aload_n 2) 1 && argsb l (pc + 1 + 5 * n + 3 + 1) 1 n && lkb l (pc + 1 + 5 * n + 3 + 1 + 5 * n) (.invokevirtual b) 3 && lkb l (pc + 1 + 5 * n + 3 + 1 + 5 * n + 3) (.if_icmp .eq (900 - 10 * (n : Int) - pc)) 3
def avs (xs : Nat → Int32) : Nat → Nat → List Int32
  | _, 0 => []
  | j, n + 1 => xs j :: avs xs (j + 1) n
theorem avs_len {xs : Nat → Int32} : ∀ n j, (avs xs j n).length = n := by
  intro n
  induction n with
  | zero => intro j; rfl
  | succ n ih => intro j; show (avs xs (j + 1) n).length + 1 = n + 1; rw [ih]
theorem wds_I : ∀ l : List Int32, wds (l.map vI) = l.length := by
  intro l
  induction l with
  | nil => rfl
  | cons x l ih => show 1 + wds (l.map vI) = l.length + 1; rw [ih]; omega
theorem map_I {ad : Nat → Nat → Nat} : ∀ l : List Int32, (l.map vI).map (vl ad) = l.map Value.int := by
  intro l
  induction l with
  | nil => rfl
  | cons x l ih => show Value.int x :: (l.map vI).map (vl ad) = Value.int x :: l.map Value.int; rw [ih]
theorem ofI : ∀ k : Nat, k < 8 → Int32.ofInt (k : Int) = nI k := by decide
def LX (p : Program) (s : State) (m : MethodId) (c : Code) (b L : Nat) (xs : Nat → Int32) (D : va_G) (ty : Nat → ClassId) : Prop := p.tables.exec = Jvm.exec ∧ c.code = code ∧ c.maxLocals = 4 ∧ s.vm.findClass R_law = some m.cls ∧ (∀ w ∈ gT, w.before #[Value.ref b] s = true) ∧ va_X b L xs s s.heap ∧ b < s.heap.size ∧ va_K D CLS (tyL ty) s ∧ L ≤ 2560
abbrev AL (s : State) : Nat → Prop := fun q => s.heap.size ≤ q
section LAWC
variable {p : Program} {l : Launch} {e : Env} {s : State} {m : MethodId} {below : List Frame} {meth : Method} {c : Code} {H : Heap} {locs : List Loc} {cells slots : Nat} {Q : State → Prop} {ls : Array Slot} {D : va_G} {ty : Nat → ClassId} {b L i : Nat} {xs : Nat → Int32}
theorem Largs (X : LX p s m c b L xs D ty) {il : List (Nat × Instr × Nat)} (hil : ∀ q ∈ il, decode code q.1 = .ok q.2) (h0 : ls[0]? = some (.val (.ref b))) (h3 : ls[3]? = some (.val (.int (nI i)))) (hS : va_S (AL s) s.heap H locs) : ∀ (n k pc : Nat) (rest : List Value), i + k + n ≤ L → k + n ≤ 5 → argsb il pc k n = true → W p l e room_1 s m #[Value.ref b] below meth c H locs cells slots Q (F0 m (pc + 5 * n) ls (((avs xs (i + k) n).map Value.int).reverse ++ rest)) → W p l e room_1 s m #[Value.ref b] below meth c H locs cells slots Q (F0 m pc ls rest) := by
  obtain ⟨hx, hb, hml, hown, hts, hX, hbl, hK, hL⟩ := X
  intro n
  induction n with
  | zero => intro k pc rest _ _ _ kk; exact kk
  | succ n ih =>
    intro k pc rest h1 h2 h kk
    unfold argsb at h
    rw [Bool.and_eq_true, Bool.and_eq_true, Bool.and_eq_true, Bool.and_eq_true, Bool.and_eq_true] at h
    obtain ⟨⟨⟨⟨⟨d1, d2⟩, d3⟩, d4⟩, d5⟩, d6⟩ := h
    refine lv_aload_n hx hb (lkb_d hil d1) rfl h0 ?_
    refine lv_iload_n hx hb (lkb_d hil d2) rfl h3 ?_
    refine lv_iconst hx hb (lkb_d hil d3) (ofI k (by omega)) ?_
    refine lv_iadd hx hb (lkb_d hil d4) ?_
    rw [nI_add]
    refine va_sld hx hb hX hbl (fun z => absurd hbl (Nat.not_lt.mpr z)) hS (vp_in_nI (by omega) (by omega)) (lkb_d hil d5) ?_
    rw [nI_cl (by omega)]
    refine ih (k + 1) (pc + 5) _ (by omega) (by omega) d6 ?_
    rw [show pc + 5 + 5 * n = pc + 5 * (n + 1) by omega]
    have e9 : ((avs xs (i + (k + 1)) n).map Value.int).reverse ++ Value.int (xs (i + k)) :: rest = ((avs xs (i + k) (n + 1)).map Value.int).reverse ++ rest := by
      show _ = ((Value.int (xs (i + k))) :: (avs xs (i + k + 1) n).map Value.int).reverse ++ rest
      rw [List.reverse_cons, List.append_assoc]
      rfl
    rw [e9]
    exact kk
theorem cb_L {M : MR} {idx : Nat} {w : List Nat} (hts : ∀ w ∈ gT, w.before #[Value.ref b] s = true) (hg : GM M) (hm : lnkL (idx, M, w) = true) : CallB room_1 s #[Value.ref b] R_law idx (mN M) (mC M) (mL M) (mR M) (wsM M) (rmD 6) 0 0 (mA M) := by
  obtain ⟨h1, h2, h3, -, -⟩ := lnkL_ok hm
  obtain ⟨g1, g2, g3, g4, -⟩ := gm_get hg
  obtain ⟨p1, p2, p3⟩ := pn _ g4
  refine ⟨rfl, rfl, Nat.le_of_ble_eq_true rfl, ?_, pay_in hts (gT_good h2), List.mem_cons_self, hts _ h2, hts _ h3, ⟨by rw [g2]; exact p2, by rw [g2]; exact p3⟩, fun sig h => ?_, hts _ h1⟩
  · show 8 + (mL M + 11) + 43 * 6 ≤ 344
    omega
  · rw [h] at g1
    exact (Option.some.inj g1).symm
set_option maxHeartbeats 1000000 in
theorem Lcall (X : LX p s m c b L xs D ty) {ad ad' : Nat → Nat → Nat} {cs cs' : List (Nat × Nat)} {h h2 : HP} {M : MR} {g j nf idx pc : Nat} {vs : List Int32} {w : List Nat} {rest : List Value} {Q' : Option AV → HP → Prop} (hc : clo cs) (hg : GM M) (hm : lnkL (idx, M, w) = true) (ho : oC j = some (mK M, nf)) (hgj : (g, j) ∈ cs) (hn : vs.length = mA M) (hwd : 1 + vs.length ≤ mL M) (T : MT 6 M (vR g j :: vs.map vI) h Q') (hdec : decode code pc = .ok (.invokevirtual idx, 3)) (hsz : ls.size = 4) (hrest : (rest.map fun v => v.category).sum ≤ 8) (hce : cells ≤ 600000) (hsl : slots ≤ 7302250)
    (hP : va_P D CLS (wl ad ty cs h) H) (hD : va_D (AL s) (wl ad ty cs h)) (hP2 : va_P D CLS (wl ad' ty cs' h2) H) (hdj : ∀ x, aA ad' cs' x → ¬ aA ad cs x) (hS : va_S (AL s) s.heap H locs)
    (kk : ∀ (r : Option AV) (h1 : HP) (H1 : Heap) (locs1 : List Loc), Q' r h1 → va_P D CLS (wl ad ty cs h1) H1 → va_P D CLS (wl ad' ty cs' h2) H1 → va_S (AL s) s.heap H1 locs1 → W p l e room_1 s m #[Value.ref b] below meth c H1 locs1 cells slots Q (F0 m (pc + 3) ls ((r.map (vl ad)).toList ++ rest))) :
    W p l e room_1 s m #[Value.ref b] below meth c H locs cells slots Q (F0 m pc ls ((vs.map Value.int).reverse ++ Value.ref (ad g j) :: rest)) := by
  obtain ⟨hx, hb, hml, hown, hts, hX, hbl, hK, hL⟩ := X
  obtain ⟨h1, -, -, hi1, hi2⟩ := lnkL_ok hm
  obtain ⟨g1, g2, g3, g4, -⟩ := gm_get hg
  have hci := (oC_ok ho).1
  have hok : ∀ v ∈ vR g j :: vs.map vI, okv cs v := by
    intro v hv
    rcases List.mem_cons.mp hv with rfl | hv
    · exact hgj
    · obtain ⟨x, -, rfl⟩ := List.mem_map.mp hv
      trivial
  obtain ⟨r, hq, met⟩ := PTm l D ad ty cs hc hg hok (show 1 + wds (vs.map vI) ≤ mL M by rw [wds_I]; exact hwd) T
  obtain ⟨q0, -, hq0⟩ := wl_at (ad := ad) (ty := ty) h hgj
  rw [eN_o ho] at hq0
  have hrec := va_recv hK hP (cls_at _ hci) hq0
  refine callx (va_runV (As := vs.map Value.int) (rest := rest) (C := cnm (mK M)) ⟨hx, hb, hml, hown, hts⟩ met ⟨cb_L hts hg hm, hts _ hi1, ?_⟩ ⟨blindX, hrec, fun U hU hW => ⟨?_, by rw [hU]; exact hP, va_K.moved hW.alike hK, hD.weaken (fun _ _ _ _ => trivial)⟩⟩ rfl (by rw [List.length_map]; exact hn) hsz rfl (lv_room hrest) hdec ⟨hce, hsl⟩) hS (aA_wl hD) (aA_wl hD) (fun H1 locs1 a1 a2 a3 a4 => ?_)
  · rw [← g2]; exact hts _ hi2
  · show (Value.ref (ad g j) :: vs.map Value.int).toArray = (Value.ref (ad g j) :: (vs.map vI).map (vl ad)).toArray
    rw [map_I]
  · refine kk r.1 r.2 H1 locs1 hq a1 (hP2.kept (fun k q hk => a3 q.1 (hP2 k q hk).lt (hdj _ ?_))) a4
    unfold wl at hk
    rw [List.getElem?_map] at hk
    cases hi : cs'[k]? with
    | none => rw [hi] at hk; cases hk
    | some a =>
      rw [hi] at hk
      cases hk
      exact ⟨a, List.mem_of_getElem? hi, rfl⟩
/-- the two worlds, of one state -/
def LW (D : va_G) (ty : Nat → ClassId) (adS adN : Nat → Nat → Nat) (A : AS) (H : Heap) : Prop := ∃ hS hM : HP, CI hS A ∧ MI hM A ∧ va_P D CLS (wl adS ty csS hS) H ∧ va_P D CLS (wl adN ty ccM hM) H
def LJ (s : State) (ty : Nat → ClassId) (adS adN : Nat → Nat → Nat) : Prop := va_D (AL s) (wl adS ty csS hz) ∧ va_D (AL s) (wl adN ty ccM hz) ∧ (∀ x, aA adS csS x → ¬ aA adN ccM x)
set_option maxHeartbeats 1000000 in
theorem Lcase (X : LX p s m c b L xs D ty) {adS adN : Nat → Nat → Nat} (J : LJ s ty adS adN) {A A' : AS} {MS9 MM9 : MR} {a9 b9 pc n : Nat} {wS wM : List Nat} {x : Int32} {il : List (Nat × Instr × Nat)} (hil : ∀ q ∈ il, decode code q.1 = .ok q.2) (hcb : caseb il pc n a9 b9 = true) (hgS : GM MS9) (hgM : GM MM9) (zS : lnkL (a9, MS9, wS) = true) (zM : lnkL (b9, MM9, wM) = true) (oS : oC 9 = some (mK MS9, 6)) (oM : oC 20 = some (mK MM9, 12)) (nS : n = mA MS9) (nM : n = mA MM9) (lS : 1 + n ≤ mL MS9) (lM : 1 + n ≤ mL MM9) (h5 : n ≤ 4) (hiL : i + 5 ≤ L)
    (TS : ∀ h, CI h A → MT 6 MS9 (vR 7 9 :: (avs xs (i + 1) n).map vI) h (fun r h' => r = some (vI x) ∧ CI h' A')) (TM : ∀ h, MI h A → MT 6 MM9 (vR 8 20 :: (avs xs (i + 1) n).map vI) h (fun r h' => r = some (vI x) ∧ MI h' A'))
    (hce : cells ≤ 600000) (hsl : slots ≤ 7302250) (hl : lv_has ls 4 [(3, .int (nI i)), (2, .ref (adN 8 20)), (1, .ref (adS 7 9)), (0, .ref b)]) (hW : LW D ty adS adN A H) (hS : va_S (AL s) s.heap H locs)
    (kk : ∀ (H1 : Heap) (locs1 : List Loc), LW D ty adS adN A' H1 → va_S (AL s) s.heap H1 locs1 → W p l e room_1 s m #[Value.ref b] below meth c H1 locs1 cells slots Q (F0 m 908 ls [])) :
    W p l e room_1 s m #[Value.ref b] below meth c H locs cells slots Q (F0 m pc ls []) := by
  obtain ⟨hx, hb, hml, hown, hts, hX, hbl, hK, hL⟩ := id X
  obtain ⟨hS9, hM9, IS, IM, PS, PM⟩ := hW
  obtain ⟨D1, D2, dj⟩ := J
  unfold caseb at hcb
  rw [Bool.and_eq_true, Bool.and_eq_true, Bool.and_eq_true, Bool.and_eq_true, Bool.and_eq_true, Bool.and_eq_true] at hcb
  obtain ⟨⟨⟨⟨⟨⟨d1, d2⟩, d3⟩, d4⟩, d5⟩, d6⟩, d7⟩ := hcb
  refine lv_aload_n hx hb (lkb_d hil d1) rfl (lv_at hl 2 rfl) ?_
  refine Largs X hil (lv_at hl 3 rfl) (lv_at hl 0 rfl) hS n 1 (pc + 1) _ (by omega) (by omega) d2 ?_
  refine Lcall X clo_S hgS zS oS List.mem_cons_self (by rw [avs_len]; exact nS) (by rw [avs_len]; exact lS) (TS _ IS) (lkb_d hil d3) hl.1 (Nat.zero_le _) hce hsl PS (wl_D D1) PM (fun z h1 h2 => dj z h2 h1) hS (fun r h1 H1 locs1 q PS PM hS => ?_)
  obtain ⟨rfl, IS⟩ := q
  refine lv_aload_n hx hb (lkb_d hil d4) rfl (lv_at hl 1 rfl) ?_
  refine Largs X hil (lv_at hl 3 rfl) (lv_at hl 0 rfl) hS n 1 (pc + 1 + 5 * n + 3 + 1) _ (by omega) (by omega) d5 ?_
  refine Lcall X clo_M hgM zM oM List.mem_cons_self (by rw [avs_len]; exact nM) (by rw [avs_len]; exact lM) (TM _ IM) (lkb_d hil d6) hl.1 (Nat.le_of_ble_eq_true rfl) hce hsl PM (wl_D D2) PS (fun z h1 h2 => dj z h1 h2) hS (fun r h2 H2 locs2 q PM PS hS => ?_)
  obtain ⟨rfl, IM⟩ := q
  refine lv_icmp_eq (tgt := 908) hx hb (lkb_d hil d7) (by omega) (fun _ => ?_) (fun q => absurd rfl q)
  exact kk H2 locs2 ⟨h1, h2, IS, IM, PS, PM⟩ hS
end LAWC
