/-! THE CLASS'S CONSTRUCTOR -/
def txF : String := "s4;s5;s3;s6;s4;p0;p1;p0;k2,0;k1,1;k1,0;u0,0,0,0;u0,1,1,2;u1,0,0,3;u1,2,0,1;u2,1,1,0;u2,2,2,0;u3,0,2,0;u3,1,0,0;u4,0,0,0;u4,1,1,2;u4,2,0,4;e4;"
/-- the String's cells lie below a place -/
def SB (b0 k v : Nat) (U : State) : Prop := va_Z RJ0 "COMPACT_STRINGS" "Z" (.int 1) (fun q => b0 ≤ q) U U.heap ∧ va_OF RJ0 "coder" "B" (.int 0) k (fun q => b0 ≤ q) U U.heap ∧ va_OF RJ0 "value" "[B" (.ref v) k (fun q => b0 ≤ q) U U.heap ∧ va_T .byte v 141 (fun j => .int (bF j)) (fun q => b0 ≤ q) U U.heap ∧ va_O RJ0 k (fun q => b0 ≤ q) U U.heap ∧ va_Zq RJ3 "SIOOBE_FORMATTER" "Ljava/util/function/BiFunction;" (fun q => b0 ≤ q) U U.heap
theorem SB.to {b0 k v : Nat} {s U : State} (h : SB b0 k v s) (hv : s.vm.Alike U.vm) (hk : ∀ q : Nat, q < s.heap.size → ¬ b0 ≤ q → U.heap[q]? = s.heap[q]?) : SB b0 k v U := by
  obtain ⟨a, b, c, d, e, f⟩ := h
  exact ⟨va_Z.moved hv (a.kept hk), va_OF.moved hv (b.kept hk), va_OF.moved hv (c.kept hk), va_T.moved hv (d.kept hk), va_O.moved hv (e.kept hk), va_Zq.moved hv (f.kept hk)⟩
theorem SB.sp {b0 k v : Nat} {s : State} (h : SB b0 k v s) : SP k v s := by
  obtain ⟨a, b, c, d, e, f⟩ := h
  exact ⟨a.narrow (fun _ h => h.elim), b.narrow (fun _ h => h.elim), c.narrow (fun _ h => h.elim), d.narrow (fun _ h => h.elim), e.narrow (fun _ h => h.elim), f.narrow (fun _ h => h.elim)⟩
def NC (b0 k v : Nat) (U : State) : Prop := NH U ∧ (va_Nw (.methodLinkNest (cnm 4) 9 (yI 1) RX4) U ∧ va_Nw (.methodLinkNest (cnm 4) 18 (yI 0) RX4) U ∧ va_Nw (.methodLinkNest (cnm 4) 35 (yI 3) RX4) U) ∧ vk_R RX4 44 txF k U ∧ SB b0 k v U
theorem def1 : ∀ j, j < kN 1 → defaultValue (kF 1 j) = vp_V [.null, .int 0, .null, .int 0] j := by
  intro j hj
  have hj : j < 4 := hj
  rcases (show j = 0 ∨ j = 1 ∨ j = 2 ∨ j = 3 by omega) with rfl | rfl | rfl | rfl <;> rfl
theorem def2 : ∀ j, j < kN 2 → defaultValue (kF 2 j) = vp_V [.null, .int 0, .int 0] j := by
  intro j hj
  have hj : j < 3 := hj
  rcases (show j = 0 ∨ j = 1 ∨ j = 2 by omega) with rfl | rfl | rfl <;> rfl
theorem def3 : ∀ j, j < kN 3 → defaultValue (kF 3 j) = vp_V [.int 0, .null, .null, .null, .null] j := by
  intro j hj
  have hj : j < 5 := hj
  rcases (show j = 0 ∨ j = 1 ∨ j = 2 ∨ j = 3 ∨ j = 4 by omega) with rfl | rfl | rfl | rfl | rfl <;> rfl
theorem dI4_0 : decode prog_1_method_1_code 0 = .ok (.aload_n 0, 1) := by decide +kernel
theorem dI4_1 : decode prog_1_method_1_code 1 = .ok (.invokespecial 1, 3) := by decide +kernel
theorem dI4_4 : decode prog_1_method_1_code 4 = .ok (.aload_n 0, 1) := by decide +kernel
theorem dI4_5 : decode prog_1_method_1_code 5 = .ok (.new 7, 3) := by decide +kernel
theorem dI4_8 : decode prog_1_method_1_code 8 = .ok (.dup, 1) := by decide +kernel
theorem dI4_9 : decode prog_1_method_1_code 9 = .ok (.invokespecial 9, 3) := by decide +kernel
theorem dI4_12 : decode prog_1_method_1_code 12 = .ok (.putfield 10, 3) := by decide +kernel
theorem dI4_15 : decode prog_1_method_1_code 15 = .ok (.aload_n 0, 1) := by decide +kernel
theorem dI4_16 : decode prog_1_method_1_code 16 = .ok (.new 16, 3) := by decide +kernel
theorem dI4_19 : decode prog_1_method_1_code 19 = .ok (.dup, 1) := by decide +kernel
theorem dI4_20 : decode prog_1_method_1_code 20 = .ok (.invokespecial 18, 3) := by decide +kernel
theorem dI4_23 : decode prog_1_method_1_code 23 = .ok (.putfield 19, 3) := by decide +kernel
theorem dI4_26 : decode prog_1_method_1_code 26 = .ok (.aload_n 0, 1) := by decide +kernel
theorem dI4_27 : decode prog_1_method_1_code 27 = .ok (.new 16, 3) := by decide +kernel
theorem dI4_30 : decode prog_1_method_1_code 30 = .ok (.dup, 1) := by decide +kernel
theorem dI4_31 : decode prog_1_method_1_code 31 = .ok (.invokespecial 18, 3) := by decide +kernel
theorem dI4_34 : decode prog_1_method_1_code 34 = .ok (.putfield 23, 3) := by decide +kernel
theorem dI4_37 : decode prog_1_method_1_code 37 = .ok (.aload_n 0, 1) := by decide +kernel
theorem dI4_38 : decode prog_1_method_1_code 38 = .ok (.new 26, 3) := by decide +kernel
theorem dI4_41 : decode prog_1_method_1_code 41 = .ok (.dup, 1) := by decide +kernel
theorem dI4_42 : decode prog_1_method_1_code 42 = .ok (.invokespecial 28, 3) := by decide +kernel
theorem dI4_45 : decode prog_1_method_1_code 45 = .ok (.putfield 29, 3) := by decide +kernel
theorem dI4_48 : decode prog_1_method_1_code 48 = .ok (.aload_n 0, 1) := by decide +kernel
theorem dI4_49 : decode prog_1_method_1_code 49 = .ok (.new 33, 3) := by decide +kernel
theorem dI4_52 : decode prog_1_method_1_code 52 = .ok (.dup, 1) := by decide +kernel
theorem dI4_53 : decode prog_1_method_1_code 53 = .ok (.invokespecial 35, 3) := by decide +kernel
theorem dI4_56 : decode prog_1_method_1_code 56 = .ok (.putfield 36, 3) := by decide +kernel
theorem dI4_59 : decode prog_1_method_1_code 59 = .ok (.aload_n 0, 1) := by decide +kernel
theorem dI4_60 : decode prog_1_method_1_code 60 = .ok (.iconst 0, 1) := by decide +kernel
theorem dI4_61 : decode prog_1_method_1_code 61 = .ok (.putfield 40, 3) := by decide +kernel
theorem dI4_64 : decode prog_1_method_1_code 64 = .ok (.iconst 0, 1) := by decide +kernel
theorem dI4_65 : decode prog_1_method_1_code 65 = .ok (.istore_n 1, 1) := by decide +kernel
theorem dI4_66 : decode prog_1_method_1_code 66 = .ok (.iload_n 1, 1) := by decide +kernel
theorem dI4_67 : decode prog_1_method_1_code 67 = .ok (.ldc 44, 2) := by decide +kernel
theorem dI4_69 : decode prog_1_method_1_code 69 = .ok (.invokevirtual 46, 3) := by decide +kernel
theorem dI4_72 : decode prog_1_method_1_code 72 = .ok (.if_icmp .ge 23, 3) := by decide +kernel
theorem dI4_79 : decode prog_1_method_1_code 79 = .ok (.ldc 44, 2) := by decide +kernel
theorem dI4_81 : decode prog_1_method_1_code 81 = .ok (.iload_n 1, 1) := by decide +kernel
theorem dI4_82 : decode prog_1_method_1_code 82 = .ok (.invokevirtual 52, 3) := by decide +kernel
theorem dI4_126 : decode prog_1_method_1_code 126 = .ok (.return_, 1) := by decide +kernel
def iS_init : List (Nat × Instr × Nat) := [(66, .iload_n 1, 1), (72, .if_icmp .ge 23, 3), (75, .aload_n 0, 1), (76, .getfield 10, 3), (81, .iload_n 1, 1), (85, .invokevirtual 56, 3), (88, .pop, 1), (89, .iinc 1 1, 3), (92, .goto (-26), 3), (95, .aload_n 0, 1), (96, .getfield 10, 3), (99, .aload_n 0, 1), (100, .getfield 23, 3), (103, .invokevirtual 60, 3), (106, .pop, 1), (107, .aload_n 0, 1), (108, .getfield 19, 3), (111, .aload_n 0, 1), (112, .getfield 23, 3), (115, .invokevirtual 64, 3), (118, .aload_n 0, 1), (119, .getfield 10, 3), (122, .iconst 0, 1), (123, .putfield 68, 3), (126, .return_, 1)]
theorem iS_init_ok : ∀ q ∈ iS_init, decode prog_1_method_1_code q.1 = .ok q.2 := by decide +kernel
def mS_init : MR := (yI 4, prog_1_method_1_code, 2, none, 4, 0, false, iS_init)
theorem kS_init : GM mS_init := ⟨by decide +kernel, iS_init_ok⟩
theorem wq_299 : Cond.fieldLink (cnm 4) 10 (cnm 4) (kT 4 0).2.1 (kT 4 0).2.2.1 ∈ gT := gT_in (i := 299) (by decide +kernel) rfl
theorem wq_300 : Cond.fieldLink (cnm 4) 19 (cnm 4) (kT 4 1).2.1 (kT 4 1).2.2.1 ∈ gT := gT_in (i := 300) (by decide +kernel) rfl
theorem wq_301 : Cond.fieldLink (cnm 4) 23 (cnm 4) (kT 4 2).2.1 (kT 4 2).2.2.1 ∈ gT := gT_in (i := 301) (by decide +kernel) rfl
theorem wq_302 : Cond.fieldLink (cnm 4) 29 (cnm 4) (kT 4 3).2.1 (kT 4 3).2.2.1 ∈ gT := gT_in (i := 302) (by decide +kernel) rfl
theorem wq_303 : Cond.fieldLink (cnm 4) 36 (cnm 4) (kT 4 4).2.1 (kT 4 4).2.2.1 ∈ gT := gT_in (i := 303) (by decide +kernel) rfl
theorem wq_304 : Cond.fieldLink (cnm 4) 40 (cnm 4) (kT 4 5).2.1 (kT 4 5).2.2.1 ∈ gT := gT_in (i := 304) (by decide +kernel) rfl
theorem wq_50 : Cond.methodLink (cnm 4) 1 objectInit ∈ gT := gT_in (i := 50) (by decide +kernel) rfl
theorem wq_126 : Cond.methodLink (cnm 4) 28 (yI 2) ∈ gT := gT_in (i := 126) (by decide +kernel) rfl
theorem wq_53 : Cond.classLink (cnm 4) 7 (cnm 1) ∈ gT := gT_in (i := 53) (by decide +kernel) rfl
theorem wq_75 : Cond.classLink (cnm 4) 16 (cnm 0) ∈ gT := gT_in (i := 75) (by decide +kernel) rfl
theorem wq_124 : Cond.classLink (cnm 4) 26 (cnm 2) ∈ gT := gT_in (i := 124) (by decide +kernel) rfl
theorem wq_144 : Cond.classLink (cnm 4) 33 (cnm 3) ∈ gT := gT_in (i := 144) (by decide +kernel) rfl
def adM (h0 : Nat) (u0 u1 u2 : Nat → Nat) (u3 : Nat → Nat → Nat) (u4 : Nat → Nat) : Nat → Nat → Nat
  | 0, j => u1 j
  | 1, j => u2 j
  | g + 2, 0 => u3 (g + 2) 0
  | g + 2, j + 1 => cond (Nat.beq g 5) (cond (Nat.ble 15 (j + 1)) (u4 (j + 1)) (cond (Nat.ble 13 (j + 1)) (u3 7 (j + 1)) (cond (Nat.beq j 8) h0 (u0 (j + 1))))) (u3 (g + 2) (j + 1))
theorem rd0_n : (rd chF 141).1 = none := by decide +kernel
theorem rd0_c : 0 < (rd chF 141).2.2.1 ∧ 0 < (rd chF 141).2.2.2.1 ∧ 0 < (rd chF 141).2.2.2.2 := by decide +kernel
theorem rd0_ch : ∀ j, j < 141 → 32 ≤ chF j ∧ chF j ≤ 126 := by decide +kernel
theorem bF_nar : ∀ j, j < 141 → vp_nar .char (bF j) = nI (chF j) := by decide +kernel
theorem A0_VK : VK A0 := ⟨⟨DW_WX (rd_DK chF 141).1 rd0_c.1 rd0_c.2.1 rd0_c.2.2, fun w hw => (by cases hw), Nat.zero_le _⟩, (rd_DK chF 141).2, fun w hw => (by cases hw)⟩
/-- the text as it is read in -/
def JT (h : HP) (i : Nat) : Prop := h 7 10 1 = nI i ∧ (∀ j, j < i → h 7 11 j = nI (chF j)) ∧ (∀ g' j', ¬ (g' = 7 ∧ (j' = 10 ∨ j' = 11)) → h g' j' = hz g' j')
theorem JT.up {h : HP} {i : Nat} (J : JT h i) (hi : i < 141) : JT (hset (hset h 7 11 i (vp_nar .char (bF i))) 7 10 1 (nI (i + 1))) (i + 1) := by
  refine ⟨by rw [hs_same, up_same], fun j hj => ?_, fun g' j' e => by rw [hs_ne (by omega), hs_ne (by omega)]; exact J.2.2 g' j' e⟩
  rw [hs_ne (by omega), hs_same]
  by_cases q : j = i
  · rw [q, up_same]; exact bF_nar i hi
  · rw [up_ne q]; exact J.2.1 j (by omega)
theorem JT.txt {h : HP} (J : JT h 141) : TXT h chF 141 := ⟨J.1, by decide, fun j hj => ⟨J.2.1 j hj, rd0_ch j hj⟩⟩
set_option maxHeartbeats 4000000 in
set_option maxRecDepth 100000 in
theorem c_init4 (l : Launch) (D : va_G) (ty : Nat → ClassId) (h0 sz b0 kS vS : Nat) (hbh : b0 ≤ h0) (hbs : b0 ≤ sz) : Met l (yI 4) (.code (yI 4) prog_1_method_1_code 2 none :: gT) { frames := 5, cells := 73, slots := 5476, locals := 215 } (PcI D ty 4 h0 [.null, .null, .null, .null, .null, .int 0] sz (NC b0 kS vS)) (QcI (S := (Nat → Nat → Nat) × HP) D ty h0 sz (fun u : (Nat → Nat → Nat) × HP => u.1 7 9 = h0 ∧ CI u.2 A0) (fun u => wl u.1 ty csS u.2)) 73 5476 (AI h0 sz) := by
  refine Met.ofW (cc := prog_1_method_1_code) (maxL := 2) (ret := none) (ws' := gT) (pn 4 (by decide)).1 rfl ?_
  intro p e s m args below meth c s₁ B hml hv
  obtain ⟨rfl, hsz, hP, hK, hD0, hN⟩ := hv
  have hts0 := atoms_spec (ws := .code (yI 4) prog_1_method_1_code 2 none :: gT) B.pre
  have hown : s.vm.findClass (cnm 4) = some m.cls := findClass_of_methodNamed B.named
  have hin : meth.name = "<init>" := (name_of_methodNamed B.named B.method).1
  have hx := B.exec
  have hb := B.bytes
  have hr := B.returns
  have hlocks := B.notSynchronized
  have hts : ∀ w ∈ gT, w.before ([Value.ref h0] : List Value).toArray s = true := fun w h9 => hts0 w (List.mem_cons_of_mem _ h9)
  have X : IX p s m ([Value.ref h0] : List Value).toArray meth c D ty 4 prog_1_method_1_code 2 := ⟨hx, hb, hr, hml, hown, hts, hlocks, hK, hin⟩
  subst hsz
  have hD := D_one (sz := s.heap.size) hD0
  have hS : va_S (AI h0 s.heap.size) s.heap s.heap [] := va_S.rf
  have hA : ∀ q, s.heap.size ≤ q → AI h0 s.heap.size q := fun q h => Or.inr h
  have hP : va_P D CLS [(h0, .inr (4, [.null, .null, .null, .null, .null, .int 0]))] s.heap := hP
  have hl := lv_entry ([.ref h0]) (n := 2) (Nat.le_of_ble_eq_true rfl)
  rw [lg_entry_eq]
  generalize (lg_sl ([.ref h0]) ++ List.replicate (2 - (lg_sl ([.ref h0])).length) Slot.unset).toArray = ls at hl ⊢
  have hl : lv_has ls 2 [(0, .ref h0)] := hl
  obtain ⟨hNH, ⟨hN1, hN0, hN3⟩, hLd, hSB⟩ := hN
  refine lv_aload_n hx hb dI4_0 rfl (lv_at hl 0 rfl) ?_
  refine W.objInit hx hb hown (hts _ wq_50) (hts _ wq_51) (hts _ wq_obj) rfl (by rw [hml]; exact hl.1) rfl dI4_1 (Nat.le_of_ble_eq_true rfl) (Nat.le_of_ble_eq_true rfl) ?_
  refine W.eq (g2 := F0 m 4 ls []) rfl ?_
  refine lv_aload_n hx hb dI4_4 rfl (lv_at hl 0 rfl) ?_
  refine i_mkN (wd := fun a => wl (fun _ => a) ty ccT hz) (rest := [.ref h0]) hx hb hml hown hts hK (cj := 1) (by decide) (fun a b => c_init1 l D ty a b) hP hD hS hA wq_53 wq_54 wq_33 wq_56 wq_57 hN1 def1 (fun _ _ _ _ h => h) (fun _ _ => trivial) rfl rfl (Nat.le_of_ble_eq_true rfl) (Nat.le_of_ble_eq_true rfl) (Nat.le_of_ble_eq_true rfl) (Nat.le_of_ble_eq_true rfl) hl.1 (Nat.le_of_ble_eq_true rfl) dI4_5 dI4_8 dI4_9 (fun u0 q0 H locs e0 hP hD hS => ?_)
  have hP : va_P D CLS ([(h0, .inr (4, [.null, .null, .null, .null, .null, .int 0]))] ++ wl (fun _ => u0) ty ccT hz) H := hP
  have hD : va_D (AI h0 s.heap.size) ([(h0, .inr (4, [.null, .null, .null, .null, .null, .int 0]))] ++ wl (fun _ => u0) ty ccT hz) := hD
  refine i_putF (q0 := 0) (k := 0) X (by decide) (fty := .int) hP hD hS rfl (by decide) (Nat.le_of_ble_eq_true rfl) wq_299 rfl rfl rfl rfl dI4_12 (fun H locs hP hD hS => ?_)
  have hP : va_P D CLS ([(h0, .inr (4, [.ref q0, .null, .null, .null, .null, .int 0]))] ++ wl (fun _ => u0) ty ccT hz) H := hP
  have hD : va_D (AI h0 s.heap.size) ([(h0, .inr (4, [.ref q0, .null, .null, .null, .null, .int 0]))] ++ wl (fun _ => u0) ty ccT hz) := hD
  refine lv_aload_n hx hb dI4_15 rfl (lv_at hl 0 rfl) ?_
  refine i_mkN (wd := fun a => wl (fun _ => a) ty (cc9 0) hz) (rest := [.ref h0]) hx hb hml hown hts hK (cj := 0) (by decide) (fun a b => c_init0 l D ty 0 a b) hP hD hS hA wq_75 wq_76 wq_34 wq_78 wq_79 hN0 def0 (fun _ _ _ _ h => h) (fun _ _ => trivial) rfl rfl (Nat.le_of_ble_eq_true rfl) (Nat.le_of_ble_eq_true rfl) (Nat.le_of_ble_eq_true rfl) (Nat.le_of_ble_eq_true rfl) hl.1 (Nat.le_of_ble_eq_true rfl) dI4_16 dI4_19 dI4_20 (fun u1 q1 H locs e1 hP hD hS => ?_)
  have hP : va_P D CLS ([(h0, .inr (4, [.ref q0, .null, .null, .null, .null, .int 0]))] ++ wl (fun _ => u0) ty ccT hz ++ wl (fun _ => u1) ty (cc9 0) hz) H := hP
  have hD : va_D (AI h0 s.heap.size) ([(h0, .inr (4, [.ref q0, .null, .null, .null, .null, .int 0]))] ++ wl (fun _ => u0) ty ccT hz ++ wl (fun _ => u1) ty (cc9 0) hz) := hD
  refine i_putF (q0 := 0) (k := 1) X (by decide) (fty := .int) hP hD hS rfl (by decide) (Nat.le_of_ble_eq_true rfl) wq_300 rfl rfl rfl rfl dI4_23 (fun H locs hP hD hS => ?_)
  have hP : va_P D CLS ([(h0, .inr (4, [.ref q0, .ref q1, .null, .null, .null, .int 0]))] ++ wl (fun _ => u0) ty ccT hz ++ wl (fun _ => u1) ty (cc9 0) hz) H := hP
  have hD : va_D (AI h0 s.heap.size) ([(h0, .inr (4, [.ref q0, .ref q1, .null, .null, .null, .int 0]))] ++ wl (fun _ => u0) ty ccT hz ++ wl (fun _ => u1) ty (cc9 0) hz) := hD
  refine lv_aload_n hx hb dI4_26 rfl (lv_at hl 0 rfl) ?_
  refine i_mkN (wd := fun a => wl (fun _ => a) ty (cc9 1) hz) (rest := [.ref h0]) hx hb hml hown hts hK (cj := 0) (by decide) (fun a b => c_init0 l D ty 1 a b) hP hD hS hA wq_75 wq_76 wq_34 wq_78 wq_79 hN0 def0 (fun _ _ _ _ h => h) (fun _ _ => trivial) rfl rfl (Nat.le_of_ble_eq_true rfl) (Nat.le_of_ble_eq_true rfl) (Nat.le_of_ble_eq_true rfl) (Nat.le_of_ble_eq_true rfl) hl.1 (Nat.le_of_ble_eq_true rfl) dI4_27 dI4_30 dI4_31 (fun u2 q2 H locs e2 hP hD hS => ?_)
  have hP : va_P D CLS ([(h0, .inr (4, [.ref q0, .ref q1, .null, .null, .null, .int 0]))] ++ wl (fun _ => u0) ty ccT hz ++ wl (fun _ => u1) ty (cc9 0) hz ++ wl (fun _ => u2) ty (cc9 1) hz) H := hP
  have hD : va_D (AI h0 s.heap.size) ([(h0, .inr (4, [.ref q0, .ref q1, .null, .null, .null, .int 0]))] ++ wl (fun _ => u0) ty ccT hz ++ wl (fun _ => u1) ty (cc9 0) hz ++ wl (fun _ => u2) ty (cc9 1) hz) := hD
  refine i_putF (q0 := 0) (k := 2) X (by decide) (fty := .int) hP hD hS rfl (by decide) (Nat.le_of_ble_eq_true rfl) wq_301 rfl rfl rfl rfl dI4_34 (fun H locs hP hD hS => ?_)
  have hP : va_P D CLS ([(h0, .inr (4, [.ref q0, .ref q1, .ref q2, .null, .null, .int 0]))] ++ wl (fun _ => u0) ty ccT hz ++ wl (fun _ => u1) ty (cc9 0) hz ++ wl (fun _ => u2) ty (cc9 1) hz) H := hP
  have hD : va_D (AI h0 s.heap.size) ([(h0, .inr (4, [.ref q0, .ref q1, .ref q2, .null, .null, .int 0]))] ++ wl (fun _ => u0) ty ccT hz ++ wl (fun _ => u1) ty (cc9 0) hz ++ wl (fun _ => u2) ty (cc9 1) hz) := hD
  refine lv_aload_n hx hb dI4_37 rfl (lv_at hl 0 rfl) ?_
  refine i_mkI (wd := fun ad => wl ad ty ccH hz) (rest := [.ref h0]) hx hb hml hown hts hK (cj := 2) (by decide) (fun a b => c_init2 l D ty a b) hP hD hS hA wq_124 wq_125 wq_35 wq_127 wq_128 wq_126 def2 (fun _ _ _ _ h => h.b) (fun _ h => hNH.w h) rfl rfl (Nat.le_of_ble_eq_true rfl) (Nat.le_of_ble_eq_true rfl) (Nat.le_of_ble_eq_true rfl) (Nat.le_of_ble_eq_true rfl) hl.1 (Nat.le_of_ble_eq_true rfl) dI4_38 dI4_41 dI4_42 (fun u3 q3 H locs e3 hP hD hS => ?_)
  have hP : va_P D CLS ([(h0, .inr (4, [.ref q0, .ref q1, .ref q2, .null, .null, .int 0]))] ++ wl (fun _ => u0) ty ccT hz ++ wl (fun _ => u1) ty (cc9 0) hz ++ wl (fun _ => u2) ty (cc9 1) hz ++ wl u3 ty ccH hz) H := hP
  have hD : va_D (AI h0 s.heap.size) ([(h0, .inr (4, [.ref q0, .ref q1, .ref q2, .null, .null, .int 0]))] ++ wl (fun _ => u0) ty ccT hz ++ wl (fun _ => u1) ty (cc9 0) hz ++ wl (fun _ => u2) ty (cc9 1) hz ++ wl u3 ty ccH hz) := hD
  refine i_putF (q0 := 0) (k := 3) X (by decide) (fty := .int) hP hD hS rfl (by decide) (Nat.le_of_ble_eq_true rfl) wq_302 rfl rfl rfl rfl dI4_45 (fun H locs hP hD hS => ?_)
  have hP : va_P D CLS ([(h0, .inr (4, [.ref q0, .ref q1, .ref q2, .ref q3, .null, .int 0]))] ++ wl (fun _ => u0) ty ccT hz ++ wl (fun _ => u1) ty (cc9 0) hz ++ wl (fun _ => u2) ty (cc9 1) hz ++ wl u3 ty ccH hz) H := hP
  have hD : va_D (AI h0 s.heap.size) ([(h0, .inr (4, [.ref q0, .ref q1, .ref q2, .ref q3, .null, .int 0]))] ++ wl (fun _ => u0) ty ccT hz ++ wl (fun _ => u1) ty (cc9 0) hz ++ wl (fun _ => u2) ty (cc9 1) hz ++ wl u3 ty ccH hz) := hD
  refine lv_aload_n hx hb dI4_48 rfl (lv_at hl 0 rfl) ?_
  refine i_mkN (wd := fun a => wl (fun _ => a) ty ccO hz) (rest := [.ref h0]) hx hb hml hown hts hK (cj := 3) (by decide) (fun a b => c_init3 l D ty a b) hP hD hS hA wq_144 wq_145 wq_36 wq_147 wq_148 hN3 def3 (fun _ _ _ _ h => h) (fun _ _ => trivial) rfl rfl (Nat.le_of_ble_eq_true rfl) (Nat.le_of_ble_eq_true rfl) (Nat.le_of_ble_eq_true rfl) (Nat.le_of_ble_eq_true rfl) hl.1 (Nat.le_of_ble_eq_true rfl) dI4_49 dI4_52 dI4_53 (fun u4 q4 H locs e4 hP hD hS => ?_)
  have hP : va_P D CLS ([(h0, .inr (4, [.ref q0, .ref q1, .ref q2, .ref q3, .null, .int 0]))] ++ wl (fun _ => u0) ty ccT hz ++ wl (fun _ => u1) ty (cc9 0) hz ++ wl (fun _ => u2) ty (cc9 1) hz ++ wl u3 ty ccH hz ++ wl (fun _ => u4) ty ccO hz) H := hP
  have hD : va_D (AI h0 s.heap.size) ([(h0, .inr (4, [.ref q0, .ref q1, .ref q2, .ref q3, .null, .int 0]))] ++ wl (fun _ => u0) ty ccT hz ++ wl (fun _ => u1) ty (cc9 0) hz ++ wl (fun _ => u2) ty (cc9 1) hz ++ wl u3 ty ccH hz ++ wl (fun _ => u4) ty ccO hz) := hD
  refine i_putF (q0 := 0) (k := 4) X (by decide) (fty := .int) hP hD hS rfl (by decide) (Nat.le_of_ble_eq_true rfl) wq_303 rfl rfl rfl rfl dI4_56 (fun H locs hP hD hS => ?_)
  have hP : va_P D CLS ([(h0, .inr (4, [.ref q0, .ref q1, .ref q2, .ref q3, .ref q4, .int 0]))] ++ wl (fun _ => u0) ty ccT hz ++ wl (fun _ => u1) ty (cc9 0) hz ++ wl (fun _ => u2) ty (cc9 1) hz ++ wl u3 ty ccH hz ++ wl (fun _ => u4) ty ccO hz) H := hP
  have hD : va_D (AI h0 s.heap.size) ([(h0, .inr (4, [.ref q0, .ref q1, .ref q2, .ref q3, .ref q4, .int 0]))] ++ wl (fun _ => u0) ty ccT hz ++ wl (fun _ => u1) ty (cc9 0) hz ++ wl (fun _ => u2) ty (cc9 1) hz ++ wl u3 ty ccH hz ++ wl (fun _ => u4) ty ccO hz) := hD
  refine lv_aload_n hx hb dI4_59 rfl (lv_at hl 0 rfl) ?_
  refine lv_iconst (v := nI 0) hx hb dI4_60 (by decide) ?_
  refine i_putI (q0 := 0) (k := 5) X (by decide) hP hD hS rfl (by decide) (Nat.le_of_ble_eq_true rfl) wq_304 rfl rfl rfl rfl dI4_61 (fun H locs hP hD hS => ?_)
  have hP : va_P D CLS ([(h0, .inr (4, [.ref q0, .ref q1, .ref q2, .ref q3, .ref q4, .int 0]))] ++ wl (fun _ => u0) ty ccT hz ++ wl (fun _ => u1) ty (cc9 0) hz ++ wl (fun _ => u2) ty (cc9 1) hz ++ wl u3 ty ccH hz ++ wl (fun _ => u4) ty ccO hz) H := hP
  have hD : va_D (AI h0 s.heap.size) ([(h0, .inr (4, [.ref q0, .ref q1, .ref q2, .ref q3, .ref q4, .int 0]))] ++ wl (fun _ => u0) ty ccT hz ++ wl (fun _ => u1) ty (cc9 0) hz ++ wl (fun _ => u2) ty (cc9 1) hz ++ wl u3 ty ccH hz ++ wl (fun _ => u4) ty ccO hz) := hD
  refine lv_iconst (v := nI 0) hx hb dI4_64 (by decide) ?_
  refine lv_istore_n (lv' := [(1, .int (nI 0)), (0, .ref h0)]) hx hb dI4_65 rfl hl (by decide) rfl (fun ls hl => ?_)
  refine W.widen (k := 73) (n := 5476) (by decide) (by decide) ?_
  obtain ⟨ad, had⟩ : ∃ ad : Nat → Nat → Nat, ad = adM h0 u0 u1 u2 u3 u4 := ⟨_, rfl⟩
  rw [← e0, ← e1, ← e2, ← e3, ← e4] at hP hD
  have hP : va_P D CLS (wl ad ty csS hz) H := by rw [had]; exact hP
  have hD : va_D (AI h0 s.heap.size) (wl ad ty csS hz) := by rw [had]; exact hD
  have e9 : ad 7 9 = h0 := congrFun (congrFun had 7) 9
  clear had
  have Y : CX p s m ([Value.ref h0] : List Value).toArray meth c D ty mS_init := ⟨hx, hb, hr, hml, hown, hts, hlocks, hK⟩
  have hSP : ∀ (U : State) (H9 : Heap) (locs9 : List Loc), va_S (AI h0 s.heap.size) s.heap H9 locs9 → U.heap = H9 → s.vm.Alike U.vm → SP kS vS U := by
    intro U H9 locs9 hS9 hU hA9
    refine (hSB.to hA9 (fun q h1 h2 => ?_)).sp
    rw [hU]
    exact hS9.2.1 q h1 (fun z => h2 (by
      rcases z with z | z
      · rw [z]; exact hbh
      · exact Nat.le_trans hbs z))
  have hrec : ∀ (H9 : Heap) (locs9 : List Loc), va_S (AI h0 s.heap.size) s.heap H9 locs9 → ∃ cell : Cell, H9[kS]? = some cell ∧ cell.vm.isStatics = false ∧ s.vm.findClass RJ0 = some cell.cls := by
    intro H9 locs9 hS9
    obtain ⟨cell, g1, g2, g3, g4⟩ := hSB.2.2.2.2.1
    refine ⟨cell, ?_, g2, g3⟩
    rw [hS9.2.1 kS (Array.getElem?_eq_some_iff.mp g1).1 (fun z => g4 (by
      rcases z with z | z
      · rw [z]; exact hbh
      · exact Nat.le_trans hbs z))]
    exact g1
  have hown4 : s.vm.findClass RX4 = some m.cls := hown
  have okL : ∀ (pc : Nat) (x : Int32) (h : HP), OKC csS (pc, [(1, vI x), (0, vR 7 9)], [], h) := fun pc x h => ⟨fun q hq => by
    rcases List.mem_cons.mp hq with rfl | hq
    · trivial
    · cases List.mem_singleton.mp hq; exact List.mem_cons_self, fun v hv => by cases hv⟩
  suffices L : ∀ (n i : Nat) (h : HP) (H : Heap) (locs : List Loc) (ls : Array Slot), i + n = 141 → JT h i → lv_has ls 2 [(1, .int (nI i)), (0, .ref (ad 7 9))] → va_P D CLS (wl ad ty csS h) H → va_D (AI h0 s.heap.size) (wl ad ty csS h) → va_S (AI h0 s.heap.size) s.heap H locs → W p l e { frames := 5, cells := 73, slots := 5476, locals := 215 } s m ([Value.ref h0] : List Value).toArray below meth c H locs 73 5476 (MQ below (QcI (S := (Nat → Nat → Nat) × HP) D ty h0 s.heap.size (fun u => u.1 7 9 = h0 ∧ CI u.2 A0) (fun u => wl u.1 ty csS u.2)) ([Value.ref h0] : List Value).toArray s 73 5476 (AI h0 s.heap.size)) (F0 m 66 ls [])
    from L 141 0 hz H locs ls rfl ⟨rfl, fun j hj => absurd hj (Nat.not_lt_zero _), fun _ _ _ => rfl⟩ (by rw [e9]; exact hl) hP hD hS
  intro n
  induction n with
  | zero =>
    intro i h H locs ls hi J hl hP hD hS
    have hi : i = 141 := hi
    subst hi
    refine lv_iload_n hx hb dI4_66 rfl (lv_at hl 0 rfl) ?_
    refine va_ldcS hx hb hown4 hLd dI4_67 ?_
    refine va_calli (A1 := NoA) (va_runV (As := []) (rest := [.int (nI 141)]) (C := RJ0) ⟨hx, hb, hml, hown4, hts⟩ (j_length l kS vS) ⟨cbJ (own := RX4) (n := 0) hts wJ_length nJ_RJ0 lJ_RX4_46 (by decide +kernel) (by decide +kernel) (Nat.le_of_ble_eq_true rfl) (Nat.le_of_ble_eq_true rfl), hts _ iJ_length, hts _ sJ_length⟩ ⟨fun a U g mk z => ⟨z.1, z.2.to (U := U.calling g mk a) (Vm.Alike.refl U.vm) rfl⟩, hrec _ _ hS, fun U hU hW => ⟨rfl, hSP U _ _ hS hU hW.alike⟩⟩ rfl rfl hl.1 rfl (lv_room (Nat.le_of_ble_eq_true rfl)) dI4_69 ⟨Nat.le_of_ble_eq_true rfl, Nat.le_of_ble_eq_true rfl⟩) hS (fun _ _ h => h.elim) (fun _ h => h.elim) (fun r u t H locs ht hvm hw hB hz1 hk1 hS => ?_)
    have hP := hP.kept (fun k q hq => hk1 q.1 (hP k q hq).lt (fun z => z))
    cases hw
    refine lv_icmp_ge (tgt := 95) hx hb dI4_72 (by decide) (fun _ => ?_) (fun q => absurd (by decide) q)
    refine runR clo_S kS_init Y 4 (95, [(1, vI (nI 141)), (0, vR 7 9)], [], h) (103, [(1, vI (nI 141)), (0, vR 7 9)], [vR 1 0, vR 7 10], h) rfl (okL _ _ _) hl hP hD hS (fun H locs ls ok hl hP hD hS => ?_)
    refine callR (d := 4) (as := [vR 7 10, vR 1 0]) (rest := []) clo_S kS_init Y ok rfl (t_T_readInto (d := 0) J.txt) (Nat.le_of_ble_eq_true rfl) (Nat.le_of_ble_eq_true rfl) (Nat.le_of_ble_eq_true rfl) (Nat.le_of_ble_eq_true rfl) hl hP hD hS (fun r h1 H locs q ok hP hD hS => ?_)
    obtain ⟨er, F1, q⟩ := q
    obtain ⟨C1, W1⟩ := q rd0_n
    subst er
    refine runR clo_S kS_init Y 5 (106, [(1, vI (nI 141)), (0, vR 7 9)], [vI (enc (rd chF 141).1)], h1) (115, [(1, vI (nI 141)), (0, vR 7 9)], [vR 1 0, vR 0 0], h1) rfl ok hl hP hD hS (fun H locs ls ok hl hP hD hS => ?_)
    refine callR (d := 1) (as := [vR 0 0, vR 1 0]) (rest := []) clo_S kS_init Y ok rfl (t_C_copyFrom (d := 0) (g := 0) (g2 := 1) (by decide) C1 W1.1.2.1.1 W1.1.2.1.2.1 W1.1.2.1.2.2) (Nat.le_of_ble_eq_true rfl) (Nat.le_of_ble_eq_true rfl) (Nat.le_of_ble_eq_true rfl) (Nat.le_of_ble_eq_true rfl) hl hP hD hS (fun r h2 H locs q ok hP hD hS => ?_)
    obtain ⟨rfl, C2, F2⟩ := q
    refine runR clo_S kS_init Y 4 (118, [(1, vI (nI 141)), (0, vR 7 9)], [], h2) (126, [(1, vI (nI 141)), (0, vR 7 9)], [], hset h2 7 10 1 (nI 0)) rfl ok hl hP hD hS (fun H locs ls ok hl hP hD hS => ?_)
    have z7 : ∀ j, ¬ (j = 10 ∨ j = 11 ∨ j = 12) → hset h2 7 10 1 (nI 0) 7 j = hz 7 j := by
      intro j hj
      rw [hs_ne (by omega), F2 7 j (by omega), F1.1 7 j (by omega) (by omega)]
      exact J.2.2 7 j (by omega)
    have I : CI (hset h2 7 10 1 (nI 0)) A0 := by
      refine ⟨co_frame C2 (fun j => hs_ne (by omega)), ⟨0, by decide, by rw [z7 13 (by omega)]; rfl, by rw [z7 13 (by omega)]; rfl, fun j z hj => by cases hj⟩, ⟨by rw [hs_same, up_same]; rfl, Nat.zero_le _, fun j hj => absurd hj (Nat.not_lt_zero _)⟩, Or.inl (by rw [z7 9 (by omega)]; rfl)⟩
    exact W.vret hx hb hr (fun t ht hW => ⟨⟨(ad, hset h2 7 10 1 (nI 0)), rfl, ⟨e9, I⟩, by rw [ht]; exact hP, va_K.moved hW.alike hK, hD⟩, hS.F ht⟩) hS.2.2 dI4_126 hlocks
  | succ n ih =>
    intro i h H locs ls hi J hl hP hD hS
    have hi9 : i < 141 := by omega
    refine lv_iload_n hx hb dI4_66 rfl (lv_at hl 0 rfl) ?_
    refine va_ldcS hx hb hown4 hLd dI4_67 ?_
    refine va_calli (A1 := NoA) (va_runV (As := []) (rest := [.int (nI i)]) (C := RJ0) ⟨hx, hb, hml, hown4, hts⟩ (j_length l kS vS) ⟨cbJ (own := RX4) (n := 0) hts wJ_length nJ_RJ0 lJ_RX4_46 (by decide +kernel) (by decide +kernel) (Nat.le_of_ble_eq_true rfl) (Nat.le_of_ble_eq_true rfl), hts _ iJ_length, hts _ sJ_length⟩ ⟨fun a U g mk z => ⟨z.1, z.2.to (U := U.calling g mk a) (Vm.Alike.refl U.vm) rfl⟩, hrec _ _ hS, fun U hU hW => ⟨rfl, hSP U _ _ hS hU hW.alike⟩⟩ rfl rfl hl.1 rfl (lv_room (Nat.le_of_ble_eq_true rfl)) dI4_69 ⟨Nat.le_of_ble_eq_true rfl, Nat.le_of_ble_eq_true rfl⟩) hS (fun _ _ h => h.elim) (fun _ h => h.elim) (fun r u t H locs ht hvm hw hB hz1 hk1 hS => ?_)
    have hP := hP.kept (fun k q hq => hk1 q.1 (hP k q hq).lt (fun z => z))
    cases hw
    refine lv_icmp_ge (tgt := 95) hx hb dI4_72 (by decide) (fun q => absurd ((nI_leI (by decide) (by omega)).mp q) (by omega)) (fun _ => ?_)
    refine runR clo_S kS_init Y 2 (75, [(1, vI (nI i)), (0, vR 7 9)], [], h) (79, [(1, vI (nI i)), (0, vR 7 9)], [vR 7 10], h) rfl (okL _ _ _) hl hP hD hS (fun H locs ls ok hl hP hD hS => ?_)
    refine va_ldcS hx hb hown4 hLd dI4_79 ?_
    refine lv_iload_n hx hb dI4_81 rfl (lv_at hl 0 rfl) ?_
    refine va_calli (A1 := NoA) (va_runV (As := [.int (nI i)]) (rest := [.ref (ad 7 10)]) (C := RJ0) ⟨hx, hb, hml, hown4, hts⟩ (j_charAt l kS vS i hi9) ⟨cbJ (own := RX4) (n := 1) hts wJ_charAt nJ_RJ0 lJ_RX4_52 (by decide +kernel) (by decide +kernel) (Nat.le_of_ble_eq_true rfl) (Nat.le_of_ble_eq_true rfl), hts _ iJ_charAt, hts _ sJ_charAt⟩ ⟨fun a U g mk z => ⟨z.1, z.2.to (U := U.calling g mk a) (Vm.Alike.refl U.vm) rfl⟩, hrec _ _ hS, fun U hU hW => ⟨rfl, hSP U _ _ hS hU hW.alike⟩⟩ rfl rfl hl.1 rfl (lv_room (Nat.le_of_ble_eq_true rfl)) dI4_82 ⟨Nat.le_of_ble_eq_true rfl, Nat.le_of_ble_eq_true rfl⟩) hS (fun _ _ h => h.elim) (fun _ h => h.elim) (fun r u t H locs ht hvm hw hB hz1 hk1 hS => ?_)
    have hP := hP.kept (fun k q hq => hk1 q.1 (hP k q hq).lt (fun z => z))
    cases hw
    have ok : OKC csS (85, [(1, vI (nI i)), (0, vR 7 9)], [vI (bF i), vR 7 10], h) := ⟨ok.1, fun v hv => by
      rcases List.mem_cons.mp hv with rfl | hv
      · trivial
      · exact ok.2 v hv⟩
    refine callR (d := 0) (as := [vR 7 10, vI (bF i)]) (rest := []) (st := [vI (bF i), vR 7 10]) (lv := [(1, vI (nI i)), (0, vR 7 9)]) clo_S kS_init Y ok rfl (t_T_add_t (n := i) J.1 (by omega)) (Nat.le_of_ble_eq_true rfl) (Nat.le_of_ble_eq_true rfl) (Nat.le_of_ble_eq_true rfl) (Nat.le_of_ble_eq_true rfl) hl hP hD hS (fun r h1 H locs q ok hP hD hS => ?_)
    obtain ⟨rfl, q⟩ := q
    have J1 := J.up hi9
    rw [← q] at J1
    refine runR clo_S kS_init Y 3 (88, [(1, vI (nI i)), (0, vR 7 9)], [vI (nI 1)], h1) (66, [(1, vI (nI i + nI 1)), (0, vR 7 9)], [], h1) rfl ok hl hP hD hS (fun H locs ls ok hl hP hD hS => ?_)
    rw [nI_add] at hl
    exact ih (i + 1) h1 H locs ls (by omega) J1 hl hP hD hS
