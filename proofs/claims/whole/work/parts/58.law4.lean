/-! THE LAW'S ENTRY -/
set_option maxHeartbeats 1000000 in
/-- new, dup, the constructor -/
theorem i_mkL {p : Program} {l : Launch} {e : Env} {R : Room} {s : State} {m : MethodId} {args : Array Value} {below : List Frame} {meth : Method} {c : Code} {H H0 : Heap} {locs : List Loc} {cells slots : Nat} {Q : State → Prop} {cc : ByteArray} {pc : Nat} {ls : Array Slot} {D : va_G} {ty : Nat → ClassId} {A : Nat → Prop} {nl : Nat} {own : String} {S : Type} {cj idx ix nL mc ms : Nat} {bytes : ByteArray} {rm : Room} {N : State → Prop} {post : Nat → S → Prop} {wd : S → va_W} {fs : List Value} {ws : va_W} {rest : List Value}
    (hx : p.tables.exec = Jvm.exec) (hb : c.code = cc) (hml : c.maxLocals = nl) (hown : s.vm.findClass own = some m.cls) (hts : ∀ w ∈ gT, w.before args s = true) (hK : va_K D CLS (tyL ty) s) (hcj : cj < 6) (hM : ∀ h0 sz, A h0 → H0.size ≤ sz → Met l (yI cj) (.code (yI cj) bytes nL none :: gT) rm (PcI D ty cj h0 fs sz N) (QcI D ty h0 sz (post h0) wd) mc ms (AI h0 sz))
    (hP : va_P D CLS ws H) (hD : va_D A ws) (hS : va_S A H0 H locs) (hA : ∀ q, H0.size ≤ q → A q) (hcl : Cond.classLink own idx (cnm cj) ∈ gT) (hinst : Cond.instantiable (cnm cj) (kN cj) ∈ gT) (hini : Cond.initialized (cnm cj) ∈ gT) (him : Cond.instanceMethod (yI cj) ∈ gT) (hcd : Cond.code (yI cj) bytes nL none ∈ gT) (hnl : Cond.methodLink own ix (yI cj) ∈ gT)
    (hfs : ∀ j, j < kN cj → defaultValue (kF cj j) = vp_V fs j) (hNb : ∀ (U : State) (g : JFrame) (mk : MethodId) (a : Array Value), N U → N (U.calling g mk a)) (hNw : ∀ (U : State) (H1 : Heap) (locs1 : List Loc), va_S A H0 H1 locs1 → U.heap = H1 → s.WarmedH U.vm → N U) (hrc : rm.cells = mc) (hrs : rm.slots = ms) (hfr : rm.frames + 1 ≤ R.frames) (hlo : 8 + (nL + 11) + rm.locals ≤ R.locals) (hcells : cells + 1 + mc ≤ R.cells) (hslots : slots + kN cj + ms ≤ R.slots) (hsz : ls.size = nl) (hroom : (rest.map fun v => v.category).sum ≤ 7) (d1 : decode cc pc = .ok (.new idx, 3)) (d2 : decode cc (pc + 3) = .ok (.dup, 1)) (d3 : decode cc (pc + 4) = .ok (.invokespecial ix, 3))
    (kk : ∀ (u : S) (q : Nat) (H1 : Heap) (locs1 : List Loc), post q u → va_P D CLS (ws ++ wd u) H1 → va_D A (ws ++ wd u) → va_S A H0 H1 locs1 → W p l e R s m args below meth c H1 locs1 (cells + 1 + mc) (slots + kN cj + ms) Q (F0 m (pc + 7) ls (.ref q :: rest))) : W p l e R s m args below meth c H locs cells slots Q (F0 m pc ls rest) := by
  refine va_new (ci := cj) (fs := fs) (C := cnm cj) (T := kT cj) (N := kN cj) hx hb hts (uws_in cj hcj) (kF cj) (kF_ok cj hcj) hown (hts _ hcl) (hts _ hinst) (hts _ hini) hK hP hD hS hA (cls_at cj hcj) hfs (by omega) (by omega) d1 (fun q H hP hD hS => ?_)
  refine lv_dup hx hb d2 rfl ?_
  have hPc := (va_Pl hP).2
  have hDc := (va_Dl hD).2.1
  have hFc : ∀ x, AI q H.size x → A x := by
    rintro x (rfl | h9)
    · exact hDc.2 0 _ rfl
    · exact hA x (Nat.le_trans hS.1 h9)
  obtain ⟨p1, p2, p3⟩ := pn cj (by omega)
  refine va_callv (A1 := AI q H.size) (va_runI (As := []) (rest := .ref q :: rest) ⟨hx, hb, hml, hown, hts⟩ (hM q H.size (hDc.2 0 _ rfl) hS.1) ⟨⟨hrc, hrs, hfr, hlo, pay_in hts (goodI hcd), List.mem_cons_self, hts _ hcd, hts _ hini, ⟨p2, p3⟩, fun sig h9 => by rw [show parseMethodDescriptor (yI cj).desc = some ⟨[], none⟩ from pmd] at h9; cases h9; rfl, hts _ hnl⟩, rfl, hts _ him⟩ ⟨fun a U g mk z => ?_, fun U hU hW => ⟨rfl, by rw [hU], by rw [hU]; exact hPc, va_K.moved hW.alike hK, hDc.weaken (fun _ _ _ _ => trivial), hNw U _ _ hS hU hW⟩⟩ rfl rfl hsz rfl ?_ d3 ⟨by omega, by omega⟩) hS (fun x _ h => hFc x h) hFc (fun u t H1 locs ht hvm hw hB hz1 hk1 hS => ?_)
  · obtain ⟨q0, q1, qP, qK, qD, qN⟩ := z
    exact ⟨q0, q1, qP, va_K.moved (u := U) (U := U.calling g mk a) (Vm.Alike.refl U.vm) qK, qD, hNb U g mk a qN⟩
  · show 2 * 0 + (1 + (rest.map fun v => v.category).sum) ≤ 8
    omega
  · obtain ⟨hP1, hK1, hD1⟩ := hB
    rw [ht] at hP1
    obtain ⟨g1, g2⟩ := joinI hP hD hk1 hFc hP1 hD1
    exact kk u q H1 locs hw g1 g2 hS
theorem def4 : ∀ j, j < kN 4 → defaultValue (kF 4 j) = vp_V [.null, .null, .null, .null, .null, .int 0] j := by
  intro j hj
  have hj : j < 6 := hj
  rcases (show j = 0 ∨ j = 1 ∨ j = 2 ∨ j = 3 ∨ j = 4 ∨ j = 5 by omega) with rfl | rfl | rfl | rfl | rfl | rfl <;> rfl
theorem def5 : ∀ j, j < kN 5 → defaultValue (kF 5 j) = vp_V [.null, .null, .null, .int 0, .null, .int 0, .int 0, .int 0, .null, .null, .null, .null] j := by
  intro j hj
  have hj : j < 12 := hj
  rcases (show j = 0 ∨ j = 1 ∨ j = 2 ∨ j = 3 ∨ j = 4 ∨ j = 5 ∨ j = 6 ∨ j = 7 ∨ j = 8 ∨ j = 9 ∨ j = 10 ∨ j = 11 by omega) with rfl | rfl | rfl | rfl | rfl | rfl | rfl | rfl | rfl | rfl | rfl | rfl <;> rfl
theorem inst_in : ∀ ci, ci < 6 → Cond.instantiable (cnm ci) (kN ci) ∈ gT
  | 0, _ => wq_76
  | 1, _ => wq_54
  | 2, _ => wq_125
  | 3, _ => wq_145
  | 4, _ => wq_46
  | 5, _ => wq_600
  | n + 6, h => absurd h (by omega)
theorem tb_ao : Cond.arrayOver (.object RX0) ∈ lw_tbl := List.mem_of_getElem? (i := 131) (by decide +kernel)
theorem tb_n1 : Cond.methodLinkNest (cnm 4) 9 (yI 1) RX4 ∈ lw_tbl := List.mem_of_getElem? (i := 55) (by decide +kernel)
theorem tb_n0 : Cond.methodLinkNest (cnm 4) 18 (yI 0) RX4 ∈ lw_tbl := List.mem_of_getElem? (i := 77) (by decide +kernel)
theorem tb_n3 : Cond.methodLinkNest (cnm 4) 35 (yI 3) RX4 ∈ lw_tbl := List.mem_of_getElem? (i := 146) (by decide +kernel)
theorem tb_nh : Cond.methodLinkNest (cnm 2) 24 (yI 0) RX4 ∈ lw_tbl := List.mem_of_getElem? (i := 132) (by decide +kernel)
theorem tb_st : Cond.stringRef RX4 44 txF ∈ lw_tbl := List.mem_of_getElem? (i := 167) (by decide +kernel)
theorem tb_lc : Cond.laysStatic RJ0 "COMPACT_STRINGS" "Z" ∈ lw_tbl := List.mem_of_getElem? (i := 177) (by decide +kernel)
theorem tb_lf : Cond.laysStatic RJ3 "SIOOBE_FORMATTER" "Ljava/util/function/BiFunction;" ∈ lw_tbl := List.mem_of_getElem? (i := 193) (by decide +kernel)
theorem wq_45 : Cond.classLink R_law 7 (cnm 4) ∈ gT := gT_in (i := 45) (by decide +kernel) rfl
theorem wq_599 : Cond.classLink R_law 10 (cnm 5) ∈ gT := gT_in (i := 599) (by decide +kernel) rfl
theorem wq_47 : Cond.methodLink R_law 9 (yI 4) ∈ gT := gT_in (i := 47) (by decide +kernel) rfl
theorem wq_601 : Cond.methodLink R_law 12 (yI 5) ∈ gT := gT_in (i := 601) (by decide +kernel) rfl
abbrev tmS : Term := .string RX4 44
abbrev tmV : Term := .field tmS "java/lang/String" "value" "[B"
theorem fl_el : ∀ j, j < 141 → (flatC (Jvm.Cond.and given_1 narrow_1))[13 + j]? = some (Cond.eq (.elem tmV (.int (Int32.ofNat j))) (.int (bF j))) := by decide +kernel
theorem fl_cs : (flatC (Jvm.Cond.and given_1 narrow_1))[4]? = some (Cond.eq (.static RJ0 "COMPACT_STRINGS" "Z") (.int 1)) := by decide +kernel
theorem fl_ff : (flatC (Jvm.Cond.and given_1 narrow_1))[5]? = some (Cond.isRef (.static RJ3 "SIOOBE_FORMATTER" "Ljava/util/function/BiFunction;")) := by decide +kernel
theorem fl_ex : (flatC (Jvm.Cond.and given_1 narrow_1))[9]? = some (Cond.exactly tmS "java/lang/String") := by decide +kernel
theorem fl_co : (flatC (Jvm.Cond.and given_1 narrow_1))[10]? = some (Cond.eq (.field tmS "java/lang/String" "coder" "B") (.int 0)) := by decide +kernel
theorem fl_ar : (flatC (Jvm.Cond.and given_1 narrow_1))[11]? = some (Cond.arrayOf tmV .byte) := by decide +kernel
theorem fl_le : (flatC (Jvm.Cond.and given_1 narrow_1))[12]? = some (Cond.eq (.length tmV) (.int (Int32.ofNat 141))) := by decide +kernel
/-- the String of the first concert, at the law's entry -/
theorem SB_in {b : Nat} {s : State} (hts : ∀ w ∈ lw_tbl, w.before #[Value.ref b] s = true) (hg : (Jvm.Cond.and given_1 narrow_1).before #[Value.ref b] s = true) : ∃ k v, vk_R RX4 44 txF k s ∧ SB s.heap.size k v s := by
  have hs := flat_of_before _ hg
  have hA : ∀ a : Nat, a < s.heap.size → ¬ s.heap.size ≤ a := fun a h z => absurd h (Nat.not_lt.mpr z)
  obtain ⟨a, c, cA, kA, q1, q2, q3, q4, q5, q6, -⟩ := Cond.exactly_spec (args := #[Value.ref b]) (first := s) (o := none) (s := s) (idx := []) (t := tmS) (cls := "java/lang/String") (hs _ (List.mem_of_getElem? fl_ex))
  obtain ⟨t, ht, hT⟩ := va_Tof (f := fun j => .int (bF j)) (A := fun q => s.heap.size ≤ q) (by decide) (hs _ (List.mem_of_getElem? fl_ar)) (va_eqt (hs _ (List.mem_of_getElem? fl_le))) (fun j hj => va_eqt (hs _ (List.mem_of_getElem? (fl_el j hj)))) hA
  refine ⟨a, t, vk_R.of (hts _ tb_st) q1, va_Zof (hts _ tb_lc) (hts _ (List.mem_filter.mp nJ_RJ0).1) (va_eqt (hs _ (List.mem_of_getElem? fl_cs))) hA, vk_OFof q1 (va_eqt (hs _ (List.mem_of_getElem? fl_co))) hA, vk_OFof q1 ht hA, hT, ⟨cA, q3, q5, by rw [q6]; exact q2, hA a (Array.getElem?_eq_some_iff.mp q3).1⟩, va_Zqof (hts _ tb_lf) (hts _ (List.mem_filter.mp nJ_RJ3).1) (hs _ (List.mem_of_getElem? fl_ff)) hA⟩
theorem K_in {b : Nat} {s : State} (hts0 : ∀ w ∈ lw_tbl, w.before #[Value.ref b] s = true) : ∃ (D : va_G) (ty : Nat → ClassId), va_K D CLS (tyL ty) s := by
  have hts : ∀ w ∈ gT, w.before #[Value.ref b] s = true := fun w h => hts0 w (List.mem_filter.mp h).1
  have hk0 : ∀ ci : Nat, ∃ q : ClassId × (Nat → Nat), ci < 6 → u_Kn s (cnm ci) (kT ci) (kN ci) q.1 q.2 := by
    intro ci
    by_cases h : ci < 6
    · obtain ⟨cC, iS, hq⟩ := u_known hts (uws_in ci h) (hts _ (inst_in ci h))
      exact ⟨(cC, iS), fun _ => hq⟩
    · obtain ⟨cC, iS, hq⟩ := u_known hts (uws_in 0 (by decide)) (hts _ (inst_in 0 (by decide)))
      exact ⟨(cC, iS), fun z => absurd z h⟩
  obtain ⟨f, hf⟩ := Classical.axiomOfChoice hk0
  obtain ⟨c0, k0, p0, a0, a1, a2⟩ := Cond.arrayClass_spec (hts _ wq_74)
  obtain ⟨c1, k1, p1, b0, b1, b2⟩ := Cond.arrayClass_spec (hts _ wq_73)
  obtain ⟨c2, k2, p2, d0, d1, d2⟩ := Cond.arrayClass_spec (hts _ wq_166)
  obtain ⟨p3, c3, k3, e0, e1, e2, e3, e4⟩ := Cond.arrayOver_spec (hts0 _ tb_ao)
  refine ⟨(fun c => (f c).1, fun c => (f c).2), fun t => match t with
    | 0 => c0
    | 1 => c1
    | 2 => c2
    | _ => c3, fun c q hq => ?_, fun k q hk => ?_⟩
  · have hc : c < 6 := (List.getElem?_eq_some_iff.mp hq).1
    have e9 := (cls_at c hc).symm.trans hq
    cases e9
    exact hf c hc
  · have hk4 : k < 4 := (List.getElem?_eq_some_iff.mp hk).1
    rcases (show k = 0 ∨ k = 1 ∨ k = 2 ∨ k = 3 by omega) with rfl | rfl | rfl | rfl
    · cases hk
      exact ⟨fun n z => ⟨(fun k h => by cases h), k0, a1, p0, a2⟩, a0⟩
    · cases hk
      exact ⟨fun n z => ⟨(fun k h => by cases h), k1, b1, p1, b2⟩, b0⟩
    · cases hk
      exact ⟨fun n z => ⟨(fun k h => by cases h), k2, d1, p2, d2⟩, d0⟩
    · cases hk
      exact ⟨fun n z => ⟨(fun k h => by cases h), k3, e2, p3, e3⟩, k3, p3, e2, e3, e0, e4⟩
theorem NC.b {b0 k v : Nat} {U : State} {g : JFrame} {mk : MethodId} {a : Array Value} (h : NC b0 k v U) : NC b0 k v (U.calling g mk a) := by
  obtain ⟨h1, ⟨h2, h3, h4⟩, h5, h6⟩ := h
  exact ⟨h1.b, ⟨va_Nw.same rfl rfl h2, va_Nw.same rfl rfl h3, va_Nw.same rfl rfl h4⟩, vk_R.same rfl h5, h6.to (Vm.Alike.refl U.vm) (fun _ _ _ => rfl)⟩
set_option maxHeartbeats 4000000 in
/-- from the entry, for every script of at most 2560 ints, the law comes to its end with true -/
theorem whole_start {p : Program} {e : Env} {s : State} {m : MethodId} {below : List Frame} {meth : Method} {c : Code} (l : Launch) (hflags : l.flags = flags0) {b L : Nat} {xs : Nat → Int32} (hL : L ≤ 2560) (C0 : lw_At p s m meth c b L xs) : W p l e room_1 s m #[Value.ref b] below meth c s.heap [] 0 0 (lw_Z below #[Value.ref b] s) (entryFrame m ([Value.ref b] : List Value).toArray 4) := by
  obtain ⟨hx, hb, hr, hml, hown, hts0, hX, hbl, hlocks, hgv⟩ := C0
  have hts : ∀ w ∈ gT, w.before #[Value.ref b] s = true := fun w h => hts0 w (List.mem_filter.mp h).1
  obtain ⟨D, ty, hK⟩ := K_in hts0
  obtain ⟨kS, vS, hLd, hSB⟩ := SB_in hts0 hgv
  have hNC : NC s.heap.size kS vS s := ⟨⟨va_AO.of (hts0 _ tb_ao), va_Nw.of rfl (hts0 _ tb_nh)⟩, ⟨va_Nw.of rfl (hts0 _ tb_n1), va_Nw.of rfl (hts0 _ tb_n0), va_Nw.of rfl (hts0 _ tb_n3)⟩, hLd, hSB⟩
  have hl := lv_entry ([.ref b]) (n := 4) (Nat.le_of_ble_eq_true rfl)
  rw [lg_entry_eq]
  generalize (lg_sl ([.ref b]) ++ List.replicate (4 - (lg_sl ([.ref b])).length) Slot.unset).toArray = ls at hl ⊢
  have hl : lv_has ls 4 [(0, .ref b)] := hl
  have hP0 : va_P D CLS [] s.heap := fun k q hk => by cases hk
  have hD0 : va_D (AL s) [] := ⟨fun i j p q hi => (by cases hi), fun k q hk => (by cases hk)⟩
  have hS0 : va_S (AL s) s.heap s.heap [] := va_S.rf
  refine i_mkL (S := (Nat → Nat → Nat) × HP) (N := NC s.heap.size kS vS) (post := fun h0 u => u.1 7 9 = h0 ∧ CI u.2 A0) (wd := fun u => wl u.1 ty csS u.2) (rest := []) hx hb hml hown hts hK (cj := 4) (by decide) (fun h0 sz g1 g2 => c_init4 l D ty h0 sz s.heap.size kS vS g1 g2) hP0 hD0 hS0 (fun q h => h) wq_45 wq_46 wq_32 wq_48 wq_49 wq_47 def4 (fun U g mk a h => h.b) ?_ rfl rfl (Nat.le_of_ble_eq_true rfl) (Nat.le_of_ble_eq_true rfl) (Nat.le_of_ble_eq_true rfl) (Nat.le_of_ble_eq_true rfl) hl.1 (Nat.zero_le _) dL_0 dL_3 dL_4 (fun u q1 H locs e1 hP hD hS => ?_)
  · intro U H1 locs1 g1 g2 g3
    obtain ⟨h1, ⟨h2, h3, h4⟩, h5, h6⟩ := hNC
    exact ⟨h1.w g3, ⟨va_Nw.warmM g3 h2, va_Nw.warmM g3 h3, va_Nw.warmM g3 h4⟩, vk_R.warm g3 h5, h6.to g3.alike (fun q z1 z2 => by rw [g2]; exact g1.2.1 q z1 z2)⟩
  refine lv_astore_n (lv' := [(1, .ref q1), (0, .ref b)]) hx hb dL_7 rfl hl (by decide) rfl (fun ls hl => ?_)
  refine i_mkL (S := (Nat → Nat) × HP) (N := NT) (post := fun h0 u => u.1 20 = h0 ∧ MI u.2 A0) (wd := fun u => wl (fun _ => u.1) ty ccM u.2) (rest := []) hx hb hml hown hts hK (cj := 5) (by decide) (fun h0 sz _ _ => c_init5 l D ty h0 sz) hP hD hS (fun q h => h) wq_599 wq_600 wq_42 wq_602 wq_603 wq_601 def5 (fun U g mk a h => h) (fun _ _ _ _ _ _ => trivial) rfl rfl (Nat.le_of_ble_eq_true rfl) (Nat.le_of_ble_eq_true rfl) (Nat.le_of_ble_eq_true rfl) (Nat.le_of_ble_eq_true rfl) hl.1 (Nat.zero_le _) dL_8 dL_11 dL_12 (fun v q2 H locs e2 hP hD hS => ?_)
  refine lv_astore_n (lv' := [(2, .ref q2), (1, .ref q1), (0, .ref b)]) hx hb dL_15 rfl hl (by decide) rfl (fun ls hl => ?_)
  refine lv_iconst (v := nI 0) hx hb dL_16 (by decide) ?_
  refine lv_istore_n (lv' := [(3, .int (nI 0)), (2, .ref q2), (1, .ref q1), (0, .ref b)]) hx hb dL_17 rfl hl (by decide) rfl (fun ls hl => ?_)
  refine W.widen (k := 83) (n := 10837) (Nat.le_of_ble_eq_true rfl) (Nat.le_of_ble_eq_true rfl) ?_
  have hP : va_P D CLS (wl u.1 ty csS u.2 ++ wl (fun _ => v.1) ty ccM v.2) H := hP
  have hD : va_D (AL s) (wl u.1 ty csS u.2 ++ wl (fun _ => v.1) ty ccM v.2) := hD
  obtain ⟨P1, P2⟩ := va_Pl hP
  obtain ⟨D1, D2, D3⟩ := va_Dl hD
  have J : LJ s ty u.1 (fun _ => v.1) := by
    refine ⟨wl_D D1, wl_D D2, ?_⟩
    rintro x ⟨y1, h1, z1⟩ ⟨y2, h2, z2⟩
    obtain ⟨i1, -, f1⟩ := wl_at (ad := u.1) (ty := ty) u.2 h1
    obtain ⟨i2, -, f2⟩ := wl_at (ad := fun _ => v.1) (ty := ty) v.2 h2
    exact D3 i1 i2 _ _ f1 f2 (z1.trans z2.symm)
  rw [← e1.1, ← e2.1] at hl
  exact Lloop ⟨hx, hb, hml, hown, hts, hX, hbl, hK, hL⟩ hr hlocks J L 0 A0 H locs ls (by omega) (by omega) A0_VK ⟨u.2, v.2, e1.2, e2.2, P1, P2⟩ hl hS
