/-! constructors without calls -/
def PcI (D : va_G) (ty : Nat → ClassId) (ci h0 : Nat) (fs : List Value) (sz : Nat) (N : State → Prop) : Array Value → State → Prop := va_Pc [.ref h0] (fun U => U.heap.size = sz ∧ va_P D CLS [(h0, .inr (ci, fs))] U.heap ∧ va_K D CLS (tyL ty) U ∧ va_D (fun _ => True) [(h0, .inr (ci, fs))] ∧ N U)
def QcI {S : Type} (D : va_G) (ty : Nat → ClassId) (h0 sz : Nat) (post : S → Prop) (wd : S → va_W) : Array Value → State → Outcome → State → Prop := va_Qv post (fun u t => va_P D CLS (wd u) t.heap ∧ va_K D CLS (tyL ty) t ∧ va_D (AI h0 sz) (wd u)) (AI h0 sz)
def NT : State → Prop := fun _ => True
theorem D_one {h0 sz : Nat} {e0 : va_E} (h : va_D (fun _ => True) [(h0, e0)]) : va_D (AI h0 sz) [(h0, e0)] := by
  refine ⟨h.1, fun k q hk => ?_⟩
  cases k with
  | zero => cases hk; exact Or.inl rfl
  | succ k => cases hk
def yI (ci : Nat) : MethodName := ⟨cnm ci, "<init>", "()V"⟩
def cc9 (g : Nat) : List (Nat × Nat) := [(g, 0), (g, 1), (g, 2), (g, 3), (g, 4), (g, 5), (g, 6), (g, 7), (g, 8)]
def ccT : List (Nat × Nat) := [(7, 10), (7, 11), (7, 12)]
def ccO : List (Nat × Nat) := [(7, 15), (7, 16), (7, 17), (7, 18), (7, 19)]
theorem wq_51 : Cond.instanceMethod objectInit ∈ gT := gT_in (i := 51) (by decide +kernel) rfl
theorem wq_obj : Cond.code objectInit ⟨#[0xb1]⟩ 1 none ∈ gT := gT_in (i := 52) (by decide +kernel) rfl
theorem wq_74 : Cond.arrayClass .int ∈ gT := gT_in (i := 74) (by decide +kernel) rfl
theorem wq_73 : Cond.arrayClass .char ∈ gT := gT_in (i := 73) (by decide +kernel) rfl
theorem wq_166 : Cond.arrayClass .boolean ∈ gT := gT_in (i := 166) (by decide +kernel) rfl
theorem dI0_0 : decode prog_2_method_1_code 0 = .ok (.aload_n 0, 1) := by decide +kernel
theorem dI0_1 : decode prog_2_method_1_code 1 = .ok (.invokespecial 3, 3) := by decide +kernel
theorem dI0_4 : decode prog_2_method_1_code 4 = .ok (.aload_n 0, 1) := by decide +kernel
theorem dI0_5 : decode prog_2_method_1_code 5 = .ok (.iconst 0, 1) := by decide +kernel
theorem dI0_6 : decode prog_2_method_1_code 6 = .ok (.putfield 9, 3) := by decide +kernel
theorem dI0_9 : decode prog_2_method_1_code 9 = .ok (.aload_n 0, 1) := by decide +kernel
theorem dI0_10 : decode prog_2_method_1_code 10 = .ok (.iconst 0, 1) := by decide +kernel
theorem dI0_11 : decode prog_2_method_1_code 11 = .ok (.putfield 15, 3) := by decide +kernel
theorem dI0_14 : decode prog_2_method_1_code 14 = .ok (.aload_n 0, 1) := by decide +kernel
theorem dI0_15 : decode prog_2_method_1_code 15 = .ok (.iconst 0, 1) := by decide +kernel
theorem dI0_16 : decode prog_2_method_1_code 16 = .ok (.putfield 18, 3) := by decide +kernel
theorem dI0_19 : decode prog_2_method_1_code 19 = .ok (.aload_n 0, 1) := by decide +kernel
theorem dI0_20 : decode prog_2_method_1_code 20 = .ok (.iconst 0, 1) := by decide +kernel
theorem dI0_21 : decode prog_2_method_1_code 21 = .ok (.putfield 21, 3) := by decide +kernel
theorem dI0_24 : decode prog_2_method_1_code 24 = .ok (.aload_n 0, 1) := by decide +kernel
theorem dI0_25 : decode prog_2_method_1_code 25 = .ok (.bipush 8, 2) := by decide +kernel
theorem dI0_27 : decode prog_2_method_1_code 27 = .ok (.newarray .int, 2) := by decide +kernel
theorem dI0_29 : decode prog_2_method_1_code 29 = .ok (.putfield 24, 3) := by decide +kernel
theorem dI0_32 : decode prog_2_method_1_code 32 = .ok (.aload_n 0, 1) := by decide +kernel
theorem dI0_33 : decode prog_2_method_1_code 33 = .ok (.iconst 5, 1) := by decide +kernel
theorem dI0_34 : decode prog_2_method_1_code 34 = .ok (.newarray .int, 2) := by decide +kernel
theorem dI0_36 : decode prog_2_method_1_code 36 = .ok (.putfield 28, 3) := by decide +kernel
theorem dI0_39 : decode prog_2_method_1_code 39 = .ok (.aload_n 0, 1) := by decide +kernel
theorem dI0_40 : decode prog_2_method_1_code 40 = .ok (.bipush 6, 2) := by decide +kernel
theorem dI0_42 : decode prog_2_method_1_code 42 = .ok (.newarray .int, 2) := by decide +kernel
theorem dI0_44 : decode prog_2_method_1_code 44 = .ok (.putfield 31, 3) := by decide +kernel
theorem dI0_47 : decode prog_2_method_1_code 47 = .ok (.aload_n 0, 1) := by decide +kernel
theorem dI0_48 : decode prog_2_method_1_code 48 = .ok (.bipush 6, 2) := by decide +kernel
theorem dI0_50 : decode prog_2_method_1_code 50 = .ok (.newarray .int, 2) := by decide +kernel
theorem dI0_52 : decode prog_2_method_1_code 52 = .ok (.putfield 34, 3) := by decide +kernel
theorem dI0_55 : decode prog_2_method_1_code 55 = .ok (.aload_n 0, 1) := by decide +kernel
theorem dI0_56 : decode prog_2_method_1_code 56 = .ok (.bipush 40, 2) := by decide +kernel
theorem dI0_58 : decode prog_2_method_1_code 58 = .ok (.newarray .int, 2) := by decide +kernel
theorem dI0_60 : decode prog_2_method_1_code 60 = .ok (.putfield 37, 3) := by decide +kernel
theorem dI0_63 : decode prog_2_method_1_code 63 = .ok (.aload_n 0, 1) := by decide +kernel
theorem dI0_64 : decode prog_2_method_1_code 64 = .ok (.bipush 40, 2) := by decide +kernel
theorem dI0_66 : decode prog_2_method_1_code 66 = .ok (.newarray .int, 2) := by decide +kernel
theorem dI0_68 : decode prog_2_method_1_code 68 = .ok (.putfield 40, 3) := by decide +kernel
theorem dI0_71 : decode prog_2_method_1_code 71 = .ok (.aload_n 0, 1) := by decide +kernel
theorem dI0_72 : decode prog_2_method_1_code 72 = .ok (.bipush 8, 2) := by decide +kernel
theorem dI0_74 : decode prog_2_method_1_code 74 = .ok (.newarray .int, 2) := by decide +kernel
theorem dI0_76 : decode prog_2_method_1_code 76 = .ok (.putfield 43, 3) := by decide +kernel
theorem dI0_79 : decode prog_2_method_1_code 79 = .ok (.aload_n 0, 1) := by decide +kernel
theorem dI0_80 : decode prog_2_method_1_code 80 = .ok (.bipush 8, 2) := by decide +kernel
theorem dI0_82 : decode prog_2_method_1_code 82 = .ok (.newarray .int, 2) := by decide +kernel
theorem dI0_84 : decode prog_2_method_1_code 84 = .ok (.putfield 46, 3) := by decide +kernel
theorem dI0_87 : decode prog_2_method_1_code 87 = .ok (.return_, 1) := by decide +kernel
theorem wq_80 : Cond.methodLink (cnm 0) 3 objectInit ∈ gT := gT_in (i := 80) (by decide +kernel) rfl
theorem wq_81 : Cond.fieldLink (cnm 0) 9 (cnm 0) (kT 0 0).2.1 (kT 0 0).2.2.1 ∈ gT := gT_in (i := 81) (by decide +kernel) rfl
theorem wq_84 : Cond.fieldLink (cnm 0) 15 (cnm 0) (kT 0 1).2.1 (kT 0 1).2.2.1 ∈ gT := gT_in (i := 84) (by decide +kernel) rfl
theorem wq_85 : Cond.fieldLink (cnm 0) 18 (cnm 0) (kT 0 2).2.1 (kT 0 2).2.2.1 ∈ gT := gT_in (i := 85) (by decide +kernel) rfl
theorem wq_86 : Cond.fieldLink (cnm 0) 21 (cnm 0) (kT 0 3).2.1 (kT 0 3).2.2.1 ∈ gT := gT_in (i := 86) (by decide +kernel) rfl
theorem wq_88 : Cond.fieldLink (cnm 0) 24 (cnm 0) (kT 0 4).2.1 (kT 0 4).2.2.1 ∈ gT := gT_in (i := 88) (by decide +kernel) rfl
theorem wq_89 : Cond.fieldLink (cnm 0) 28 (cnm 0) (kT 0 5).2.1 (kT 0 5).2.2.1 ∈ gT := gT_in (i := 89) (by decide +kernel) rfl
theorem wq_90 : Cond.fieldLink (cnm 0) 31 (cnm 0) (kT 0 6).2.1 (kT 0 6).2.2.1 ∈ gT := gT_in (i := 90) (by decide +kernel) rfl
theorem wq_92 : Cond.fieldLink (cnm 0) 34 (cnm 0) (kT 0 7).2.1 (kT 0 7).2.2.1 ∈ gT := gT_in (i := 92) (by decide +kernel) rfl
theorem wq_93 : Cond.fieldLink (cnm 0) 37 (cnm 0) (kT 0 8).2.1 (kT 0 8).2.2.1 ∈ gT := gT_in (i := 93) (by decide +kernel) rfl
theorem wq_94 : Cond.fieldLink (cnm 0) 40 (cnm 0) (kT 0 9).2.1 (kT 0 9).2.2.1 ∈ gT := gT_in (i := 94) (by decide +kernel) rfl
theorem wq_95 : Cond.fieldLink (cnm 0) 43 (cnm 0) (kT 0 10).2.1 (kT 0 10).2.2.1 ∈ gT := gT_in (i := 95) (by decide +kernel) rfl
theorem wq_97 : Cond.fieldLink (cnm 0) 46 (cnm 0) (kT 0 11).2.1 (kT 0 11).2.2.1 ∈ gT := gT_in (i := 97) (by decide +kernel) rfl
set_option maxHeartbeats 4000000 in
set_option maxRecDepth 100000 in
theorem c_init0 (l : Launch) (D : va_G) (ty : Nat → ClassId) (g : Nat) (h0 sz : Nat) : Met l (yI 0) (.code (yI 0) prog_2_method_1_code 1 none :: gT) { frames := 1, cells := 8, slots := 121, locals := 12 } (PcI D ty 0 h0 [.int 0, .int 0, .int 0, .int 0, .null, .null, .null, .null, .null, .null, .null, .null] sz NT) (QcI (S := Nat → Nat) D ty h0 sz (fun a : Nat → Nat => a 0 = h0) (fun a => wl (fun _ => a) ty (cc9 g) hz)) 8 121 (AI h0 sz) := by
  refine Met.ofW (cc := prog_2_method_1_code) (maxL := 1) (ret := none) (ws' := gT) (pn 0 (by decide)).1 rfl ?_
  intro p e s m args below meth c s₁ B hml hv
  obtain ⟨rfl, hsz, hP, hK, hD0, hN⟩ := hv
  have hts0 := atoms_spec (ws := .code (yI 0) prog_2_method_1_code 1 none :: gT) B.pre
  have hown : s.vm.findClass (cnm 0) = some m.cls := findClass_of_methodNamed B.named
  have hin : meth.name = "<init>" := (name_of_methodNamed B.named B.method).1
  have hx := B.exec
  have hb := B.bytes
  have hr := B.returns
  have hlocks := B.notSynchronized
  have hts : ∀ w ∈ gT, w.before ([Value.ref h0] : List Value).toArray s = true := fun w h9 => hts0 w (List.mem_cons_of_mem _ h9)
  have X : IX p s m ([Value.ref h0] : List Value).toArray meth c D ty 0 prog_2_method_1_code 1 := ⟨hx, hb, hr, hml, hown, hts, hlocks, hK, hin⟩
  subst hsz
  have hD := D_one (sz := s.heap.size) hD0
  have hS : va_S (AI h0 s.heap.size) s.heap s.heap [] := va_S.rf
  have hA : ∀ q, s.heap.size ≤ q → AI h0 s.heap.size q := fun q h => Or.inr h
  have hP : va_P D CLS [(h0, .inr (0, [.int 0, .int 0, .int 0, .int 0, .null, .null, .null, .null, .null, .null, .null, .null]))] s.heap := hP
  have hl := lv_entry ([.ref h0]) (n := 1) (Nat.le_of_ble_eq_true rfl)
  rw [lg_entry_eq]
  generalize (lg_sl ([.ref h0]) ++ List.replicate (1 - (lg_sl ([.ref h0])).length) Slot.unset).toArray = ls at hl ⊢
  have hl : lv_has ls 1 [(0, .ref h0)] := hl
  refine lv_aload_n hx hb dI0_0 rfl (lv_at hl 0 rfl) ?_
  refine W.objInit hx hb hown (hts _ wq_80) (hts _ wq_51) (hts _ wq_obj) rfl (by rw [hml]; exact hl.1) rfl dI0_1 (Nat.le_of_ble_eq_true rfl) (Nat.le_of_ble_eq_true rfl) ?_
  refine W.eq (g2 := F0 m 4 ls []) rfl ?_
  refine lv_aload_n hx hb dI0_4 rfl (lv_at hl 0 rfl) ?_
  refine lv_iconst (v := nI 0) hx hb dI0_5 (by decide) ?_
  refine i_putI (q0 := 0) (k := 0) X (by decide) hP hD hS rfl (by decide) (Nat.le_of_ble_eq_true rfl) wq_81 rfl rfl rfl rfl dI0_6 (fun H locs hP hD hS => ?_)
  have hP : va_P D CLS [(h0, .inr (0, [.int 0, .int 0, .int 0, .int 0, .null, .null, .null, .null, .null, .null, .null, .null]))] H := hP
  have hD : va_D (AI h0 s.heap.size) [(h0, .inr (0, [.int 0, .int 0, .int 0, .int 0, .null, .null, .null, .null, .null, .null, .null, .null]))] := hD
  refine lv_aload_n hx hb dI0_9 rfl (lv_at hl 0 rfl) ?_
  refine lv_iconst (v := nI 0) hx hb dI0_10 (by decide) ?_
  refine i_putI (q0 := 0) (k := 1) X (by decide) hP hD hS rfl (by decide) (Nat.le_of_ble_eq_true rfl) wq_84 rfl rfl rfl rfl dI0_11 (fun H locs hP hD hS => ?_)
  have hP : va_P D CLS [(h0, .inr (0, [.int 0, .int 0, .int 0, .int 0, .null, .null, .null, .null, .null, .null, .null, .null]))] H := hP
  have hD : va_D (AI h0 s.heap.size) [(h0, .inr (0, [.int 0, .int 0, .int 0, .int 0, .null, .null, .null, .null, .null, .null, .null, .null]))] := hD
  refine lv_aload_n hx hb dI0_14 rfl (lv_at hl 0 rfl) ?_
  refine lv_iconst (v := nI 0) hx hb dI0_15 (by decide) ?_
  refine i_putI (q0 := 0) (k := 2) X (by decide) hP hD hS rfl (by decide) (Nat.le_of_ble_eq_true rfl) wq_85 rfl rfl rfl rfl dI0_16 (fun H locs hP hD hS => ?_)
  have hP : va_P D CLS [(h0, .inr (0, [.int 0, .int 0, .int 0, .int 0, .null, .null, .null, .null, .null, .null, .null, .null]))] H := hP
  have hD : va_D (AI h0 s.heap.size) [(h0, .inr (0, [.int 0, .int 0, .int 0, .int 0, .null, .null, .null, .null, .null, .null, .null, .null]))] := hD
  refine lv_aload_n hx hb dI0_19 rfl (lv_at hl 0 rfl) ?_
  refine lv_iconst (v := nI 0) hx hb dI0_20 (by decide) ?_
  refine i_putI (q0 := 0) (k := 3) X (by decide) hP hD hS rfl (by decide) (Nat.le_of_ble_eq_true rfl) wq_86 rfl rfl rfl rfl dI0_21 (fun H locs hP hD hS => ?_)
  have hP : va_P D CLS [(h0, .inr (0, [.int 0, .int 0, .int 0, .int 0, .null, .null, .null, .null, .null, .null, .null, .null]))] H := hP
  have hD : va_D (AI h0 s.heap.size) [(h0, .inr (0, [.int 0, .int 0, .int 0, .int 0, .null, .null, .null, .null, .null, .null, .null, .null]))] := hD
  refine lv_aload_n hx hb dI0_24 rfl (lv_at hl 0 rfl) ?_
  refine lv_bipush (v := nI 8) hx hb dI0_25 (by decide) ?_
  refine i_row (N := 8) (k := 4) (t := 0) X (by decide) (fty := .int) rfl rfl (by decide) wq_74 hP hD hS hA (by decide) (by decide) (Nat.le_of_ble_eq_true rfl) (Nat.le_of_ble_eq_true rfl) (Nat.le_of_ble_eq_true rfl) (by decide) (Nat.le_of_ble_eq_true rfl) wq_88 rfl rfl rfl dI0_27 dI0_29 (fun q1 H locs hP hD hS => ?_)
  have hP : va_P D CLS [(h0, .inr (0, [.int 0, .int 0, .int 0, .int 0, .ref q1, .null, .null, .null, .null, .null, .null, .null])), (q1, .inl (ty 0, 8, .inl (fun _ => 0)))] H := hP
  have hD : va_D (AI h0 s.heap.size) [(h0, .inr (0, [.int 0, .int 0, .int 0, .int 0, .ref q1, .null, .null, .null, .null, .null, .null, .null])), (q1, .inl (ty 0, 8, .inl (fun _ => 0)))] := hD
  refine lv_aload_n hx hb dI0_32 rfl (lv_at hl 0 rfl) ?_
  refine lv_iconst (v := nI 5) hx hb dI0_33 (by decide) ?_
  refine i_row (N := 5) (k := 5) (t := 0) X (by decide) (fty := .int) rfl rfl (by decide) wq_74 hP hD hS hA (by decide) (by decide) (Nat.le_of_ble_eq_true rfl) (Nat.le_of_ble_eq_true rfl) (Nat.le_of_ble_eq_true rfl) (by decide) (Nat.le_of_ble_eq_true rfl) wq_89 rfl rfl rfl dI0_34 dI0_36 (fun q2 H locs hP hD hS => ?_)
  have hP : va_P D CLS [(h0, .inr (0, [.int 0, .int 0, .int 0, .int 0, .ref q1, .ref q2, .null, .null, .null, .null, .null, .null])), (q1, .inl (ty 0, 8, .inl (fun _ => 0))), (q2, .inl (ty 0, 5, .inl (fun _ => 0)))] H := hP
  have hD : va_D (AI h0 s.heap.size) [(h0, .inr (0, [.int 0, .int 0, .int 0, .int 0, .ref q1, .ref q2, .null, .null, .null, .null, .null, .null])), (q1, .inl (ty 0, 8, .inl (fun _ => 0))), (q2, .inl (ty 0, 5, .inl (fun _ => 0)))] := hD
  refine lv_aload_n hx hb dI0_39 rfl (lv_at hl 0 rfl) ?_
  refine lv_bipush (v := nI 6) hx hb dI0_40 (by decide) ?_
  refine i_row (N := 6) (k := 6) (t := 0) X (by decide) (fty := .int) rfl rfl (by decide) wq_74 hP hD hS hA (by decide) (by decide) (Nat.le_of_ble_eq_true rfl) (Nat.le_of_ble_eq_true rfl) (Nat.le_of_ble_eq_true rfl) (by decide) (Nat.le_of_ble_eq_true rfl) wq_90 rfl rfl rfl dI0_42 dI0_44 (fun q3 H locs hP hD hS => ?_)
  have hP : va_P D CLS [(h0, .inr (0, [.int 0, .int 0, .int 0, .int 0, .ref q1, .ref q2, .ref q3, .null, .null, .null, .null, .null])), (q1, .inl (ty 0, 8, .inl (fun _ => 0))), (q2, .inl (ty 0, 5, .inl (fun _ => 0))), (q3, .inl (ty 0, 6, .inl (fun _ => 0)))] H := hP
  have hD : va_D (AI h0 s.heap.size) [(h0, .inr (0, [.int 0, .int 0, .int 0, .int 0, .ref q1, .ref q2, .ref q3, .null, .null, .null, .null, .null])), (q1, .inl (ty 0, 8, .inl (fun _ => 0))), (q2, .inl (ty 0, 5, .inl (fun _ => 0))), (q3, .inl (ty 0, 6, .inl (fun _ => 0)))] := hD
  refine lv_aload_n hx hb dI0_47 rfl (lv_at hl 0 rfl) ?_
  refine lv_bipush (v := nI 6) hx hb dI0_48 (by decide) ?_
  refine i_row (N := 6) (k := 7) (t := 0) X (by decide) (fty := .int) rfl rfl (by decide) wq_74 hP hD hS hA (by decide) (by decide) (Nat.le_of_ble_eq_true rfl) (Nat.le_of_ble_eq_true rfl) (Nat.le_of_ble_eq_true rfl) (by decide) (Nat.le_of_ble_eq_true rfl) wq_92 rfl rfl rfl dI0_50 dI0_52 (fun q4 H locs hP hD hS => ?_)
  have hP : va_P D CLS [(h0, .inr (0, [.int 0, .int 0, .int 0, .int 0, .ref q1, .ref q2, .ref q3, .ref q4, .null, .null, .null, .null])), (q1, .inl (ty 0, 8, .inl (fun _ => 0))), (q2, .inl (ty 0, 5, .inl (fun _ => 0))), (q3, .inl (ty 0, 6, .inl (fun _ => 0))), (q4, .inl (ty 0, 6, .inl (fun _ => 0)))] H := hP
  have hD : va_D (AI h0 s.heap.size) [(h0, .inr (0, [.int 0, .int 0, .int 0, .int 0, .ref q1, .ref q2, .ref q3, .ref q4, .null, .null, .null, .null])), (q1, .inl (ty 0, 8, .inl (fun _ => 0))), (q2, .inl (ty 0, 5, .inl (fun _ => 0))), (q3, .inl (ty 0, 6, .inl (fun _ => 0))), (q4, .inl (ty 0, 6, .inl (fun _ => 0)))] := hD
  refine lv_aload_n hx hb dI0_55 rfl (lv_at hl 0 rfl) ?_
  refine lv_bipush (v := nI 40) hx hb dI0_56 (by decide) ?_
  refine i_row (N := 40) (k := 8) (t := 0) X (by decide) (fty := .int) rfl rfl (by decide) wq_74 hP hD hS hA (by decide) (by decide) (Nat.le_of_ble_eq_true rfl) (Nat.le_of_ble_eq_true rfl) (Nat.le_of_ble_eq_true rfl) (by decide) (Nat.le_of_ble_eq_true rfl) wq_93 rfl rfl rfl dI0_58 dI0_60 (fun q5 H locs hP hD hS => ?_)
  have hP : va_P D CLS [(h0, .inr (0, [.int 0, .int 0, .int 0, .int 0, .ref q1, .ref q2, .ref q3, .ref q4, .ref q5, .null, .null, .null])), (q1, .inl (ty 0, 8, .inl (fun _ => 0))), (q2, .inl (ty 0, 5, .inl (fun _ => 0))), (q3, .inl (ty 0, 6, .inl (fun _ => 0))), (q4, .inl (ty 0, 6, .inl (fun _ => 0))), (q5, .inl (ty 0, 40, .inl (fun _ => 0)))] H := hP
  have hD : va_D (AI h0 s.heap.size) [(h0, .inr (0, [.int 0, .int 0, .int 0, .int 0, .ref q1, .ref q2, .ref q3, .ref q4, .ref q5, .null, .null, .null])), (q1, .inl (ty 0, 8, .inl (fun _ => 0))), (q2, .inl (ty 0, 5, .inl (fun _ => 0))), (q3, .inl (ty 0, 6, .inl (fun _ => 0))), (q4, .inl (ty 0, 6, .inl (fun _ => 0))), (q5, .inl (ty 0, 40, .inl (fun _ => 0)))] := hD
  refine lv_aload_n hx hb dI0_63 rfl (lv_at hl 0 rfl) ?_
  refine lv_bipush (v := nI 40) hx hb dI0_64 (by decide) ?_
  refine i_row (N := 40) (k := 9) (t := 0) X (by decide) (fty := .int) rfl rfl (by decide) wq_74 hP hD hS hA (by decide) (by decide) (Nat.le_of_ble_eq_true rfl) (Nat.le_of_ble_eq_true rfl) (Nat.le_of_ble_eq_true rfl) (by decide) (Nat.le_of_ble_eq_true rfl) wq_94 rfl rfl rfl dI0_66 dI0_68 (fun q6 H locs hP hD hS => ?_)
  have hP : va_P D CLS [(h0, .inr (0, [.int 0, .int 0, .int 0, .int 0, .ref q1, .ref q2, .ref q3, .ref q4, .ref q5, .ref q6, .null, .null])), (q1, .inl (ty 0, 8, .inl (fun _ => 0))), (q2, .inl (ty 0, 5, .inl (fun _ => 0))), (q3, .inl (ty 0, 6, .inl (fun _ => 0))), (q4, .inl (ty 0, 6, .inl (fun _ => 0))), (q5, .inl (ty 0, 40, .inl (fun _ => 0))), (q6, .inl (ty 0, 40, .inl (fun _ => 0)))] H := hP
  have hD : va_D (AI h0 s.heap.size) [(h0, .inr (0, [.int 0, .int 0, .int 0, .int 0, .ref q1, .ref q2, .ref q3, .ref q4, .ref q5, .ref q6, .null, .null])), (q1, .inl (ty 0, 8, .inl (fun _ => 0))), (q2, .inl (ty 0, 5, .inl (fun _ => 0))), (q3, .inl (ty 0, 6, .inl (fun _ => 0))), (q4, .inl (ty 0, 6, .inl (fun _ => 0))), (q5, .inl (ty 0, 40, .inl (fun _ => 0))), (q6, .inl (ty 0, 40, .inl (fun _ => 0)))] := hD
  refine lv_aload_n hx hb dI0_71 rfl (lv_at hl 0 rfl) ?_
  refine lv_bipush (v := nI 8) hx hb dI0_72 (by decide) ?_
  refine i_row (N := 8) (k := 10) (t := 0) X (by decide) (fty := .int) rfl rfl (by decide) wq_74 hP hD hS hA (by decide) (by decide) (Nat.le_of_ble_eq_true rfl) (Nat.le_of_ble_eq_true rfl) (Nat.le_of_ble_eq_true rfl) (by decide) (Nat.le_of_ble_eq_true rfl) wq_95 rfl rfl rfl dI0_74 dI0_76 (fun q7 H locs hP hD hS => ?_)
  have hP : va_P D CLS [(h0, .inr (0, [.int 0, .int 0, .int 0, .int 0, .ref q1, .ref q2, .ref q3, .ref q4, .ref q5, .ref q6, .ref q7, .null])), (q1, .inl (ty 0, 8, .inl (fun _ => 0))), (q2, .inl (ty 0, 5, .inl (fun _ => 0))), (q3, .inl (ty 0, 6, .inl (fun _ => 0))), (q4, .inl (ty 0, 6, .inl (fun _ => 0))), (q5, .inl (ty 0, 40, .inl (fun _ => 0))), (q6, .inl (ty 0, 40, .inl (fun _ => 0))), (q7, .inl (ty 0, 8, .inl (fun _ => 0)))] H := hP
  have hD : va_D (AI h0 s.heap.size) [(h0, .inr (0, [.int 0, .int 0, .int 0, .int 0, .ref q1, .ref q2, .ref q3, .ref q4, .ref q5, .ref q6, .ref q7, .null])), (q1, .inl (ty 0, 8, .inl (fun _ => 0))), (q2, .inl (ty 0, 5, .inl (fun _ => 0))), (q3, .inl (ty 0, 6, .inl (fun _ => 0))), (q4, .inl (ty 0, 6, .inl (fun _ => 0))), (q5, .inl (ty 0, 40, .inl (fun _ => 0))), (q6, .inl (ty 0, 40, .inl (fun _ => 0))), (q7, .inl (ty 0, 8, .inl (fun _ => 0)))] := hD
  refine lv_aload_n hx hb dI0_79 rfl (lv_at hl 0 rfl) ?_
  refine lv_bipush (v := nI 8) hx hb dI0_80 (by decide) ?_
  refine i_row (N := 8) (k := 11) (t := 0) X (by decide) (fty := .int) rfl rfl (by decide) wq_74 hP hD hS hA (by decide) (by decide) (Nat.le_of_ble_eq_true rfl) (Nat.le_of_ble_eq_true rfl) (Nat.le_of_ble_eq_true rfl) (by decide) (Nat.le_of_ble_eq_true rfl) wq_97 rfl rfl rfl dI0_82 dI0_84 (fun q8 H locs hP hD hS => ?_)
  have hP : va_P D CLS [(h0, .inr (0, [.int 0, .int 0, .int 0, .int 0, .ref q1, .ref q2, .ref q3, .ref q4, .ref q5, .ref q6, .ref q7, .ref q8])), (q1, .inl (ty 0, 8, .inl (fun _ => 0))), (q2, .inl (ty 0, 5, .inl (fun _ => 0))), (q3, .inl (ty 0, 6, .inl (fun _ => 0))), (q4, .inl (ty 0, 6, .inl (fun _ => 0))), (q5, .inl (ty 0, 40, .inl (fun _ => 0))), (q6, .inl (ty 0, 40, .inl (fun _ => 0))), (q7, .inl (ty 0, 8, .inl (fun _ => 0))), (q8, .inl (ty 0, 8, .inl (fun _ => 0)))] H := hP
  have hD : va_D (AI h0 s.heap.size) [(h0, .inr (0, [.int 0, .int 0, .int 0, .int 0, .ref q1, .ref q2, .ref q3, .ref q4, .ref q5, .ref q6, .ref q7, .ref q8])), (q1, .inl (ty 0, 8, .inl (fun _ => 0))), (q2, .inl (ty 0, 5, .inl (fun _ => 0))), (q3, .inl (ty 0, 6, .inl (fun _ => 0))), (q4, .inl (ty 0, 6, .inl (fun _ => 0))), (q5, .inl (ty 0, 40, .inl (fun _ => 0))), (q6, .inl (ty 0, 40, .inl (fun _ => 0))), (q7, .inl (ty 0, 8, .inl (fun _ => 0))), (q8, .inl (ty 0, 8, .inl (fun _ => 0)))] := hD
  refine W.widen (k := 8) (n := 121) (by omega) (by omega) ?_
  exact W.vret hx hb hr (fun t ht hW => ⟨⟨fun j => match j with
    | 0 => h0
    | 1 => q1
    | 2 => q2
    | 3 => q3
    | 4 => q4
    | 5 => q5
    | 6 => q6
    | 7 => q7
    | _ => q8, rfl, rfl, by rw [ht]; exact hP, va_K.moved hW.alike hK, hD⟩, hS.F ht⟩) hS.2.2 dI0_87 hlocks
theorem dI1_0 : decode prog_3_method_1_code 0 = .ok (.aload_n 0, 1) := by decide +kernel
theorem dI1_1 : decode prog_3_method_1_code 1 = .ok (.invokespecial 3, 3) := by decide +kernel
theorem dI1_4 : decode prog_3_method_1_code 4 = .ok (.aload_n 0, 1) := by decide +kernel
theorem dI1_5 : decode prog_3_method_1_code 5 = .ok (.sipush 300, 3) := by decide +kernel
theorem dI1_8 : decode prog_3_method_1_code 8 = .ok (.newarray .char, 2) := by decide +kernel
theorem dI1_10 : decode prog_3_method_1_code 10 = .ok (.putfield 9, 3) := by decide +kernel
theorem dI1_13 : decode prog_3_method_1_code 13 = .ok (.aload_n 0, 1) := by decide +kernel
theorem dI1_14 : decode prog_3_method_1_code 14 = .ok (.iconst 0, 1) := by decide +kernel
theorem dI1_15 : decode prog_3_method_1_code 15 = .ok (.putfield 15, 3) := by decide +kernel
theorem dI1_18 : decode prog_3_method_1_code 18 = .ok (.aload_n 0, 1) := by decide +kernel
theorem dI1_19 : decode prog_3_method_1_code 19 = .ok (.iconst 4, 1) := by decide +kernel
theorem dI1_20 : decode prog_3_method_1_code 20 = .ok (.newarray .int, 2) := by decide +kernel
theorem dI1_22 : decode prog_3_method_1_code 22 = .ok (.putfield 19, 3) := by decide +kernel
theorem dI1_25 : decode prog_3_method_1_code 25 = .ok (.aload_n 0, 1) := by decide +kernel
theorem dI1_26 : decode prog_3_method_1_code 26 = .ok (.iconst 0, 1) := by decide +kernel
theorem dI1_27 : decode prog_3_method_1_code 27 = .ok (.putfield 23, 3) := by decide +kernel
theorem dI1_30 : decode prog_3_method_1_code 30 = .ok (.return_, 1) := by decide +kernel
theorem wq_58 : Cond.methodLink (cnm 1) 3 objectInit ∈ gT := gT_in (i := 58) (by decide +kernel) rfl
theorem wq_59 : Cond.fieldLink (cnm 1) 9 (cnm 1) (kT 1 0).2.1 (kT 1 0).2.2.1 ∈ gT := gT_in (i := 59) (by decide +kernel) rfl
theorem wq_60 : Cond.fieldLink (cnm 1) 15 (cnm 1) (kT 1 1).2.1 (kT 1 1).2.2.1 ∈ gT := gT_in (i := 60) (by decide +kernel) rfl
theorem wq_62 : Cond.fieldLink (cnm 1) 19 (cnm 1) (kT 1 2).2.1 (kT 1 2).2.2.1 ∈ gT := gT_in (i := 62) (by decide +kernel) rfl
theorem wq_63 : Cond.fieldLink (cnm 1) 23 (cnm 1) (kT 1 3).2.1 (kT 1 3).2.2.1 ∈ gT := gT_in (i := 63) (by decide +kernel) rfl
set_option maxHeartbeats 4000000 in
set_option maxRecDepth 100000 in
theorem c_init1 (l : Launch) (D : va_G) (ty : Nat → ClassId) (h0 sz : Nat) : Met l (yI 1) (.code (yI 1) prog_3_method_1_code 1 none :: gT) { frames := 1, cells := 2, slots := 304, locals := 12 } (PcI D ty 1 h0 [.null, .int 0, .null, .int 0] sz NT) (QcI (S := Nat → Nat) D ty h0 sz (fun a : Nat → Nat => a 10 = h0) (fun a => wl (fun _ => a) ty ccT hz)) 2 304 (AI h0 sz) := by
  refine Met.ofW (cc := prog_3_method_1_code) (maxL := 1) (ret := none) (ws' := gT) (pn 1 (by decide)).1 rfl ?_
  intro p e s m args below meth c s₁ B hml hv
  obtain ⟨rfl, hsz, hP, hK, hD0, hN⟩ := hv
  have hts0 := atoms_spec (ws := .code (yI 1) prog_3_method_1_code 1 none :: gT) B.pre
  have hown : s.vm.findClass (cnm 1) = some m.cls := findClass_of_methodNamed B.named
  have hin : meth.name = "<init>" := (name_of_methodNamed B.named B.method).1
  have hx := B.exec
  have hb := B.bytes
  have hr := B.returns
  have hlocks := B.notSynchronized
  have hts : ∀ w ∈ gT, w.before ([Value.ref h0] : List Value).toArray s = true := fun w h9 => hts0 w (List.mem_cons_of_mem _ h9)
  have X : IX p s m ([Value.ref h0] : List Value).toArray meth c D ty 1 prog_3_method_1_code 1 := ⟨hx, hb, hr, hml, hown, hts, hlocks, hK, hin⟩
  subst hsz
  have hD := D_one (sz := s.heap.size) hD0
  have hS : va_S (AI h0 s.heap.size) s.heap s.heap [] := va_S.rf
  have hA : ∀ q, s.heap.size ≤ q → AI h0 s.heap.size q := fun q h => Or.inr h
  have hP : va_P D CLS [(h0, .inr (1, [.null, .int 0, .null, .int 0]))] s.heap := hP
  have hl := lv_entry ([.ref h0]) (n := 1) (Nat.le_of_ble_eq_true rfl)
  rw [lg_entry_eq]
  generalize (lg_sl ([.ref h0]) ++ List.replicate (1 - (lg_sl ([.ref h0])).length) Slot.unset).toArray = ls at hl ⊢
  have hl : lv_has ls 1 [(0, .ref h0)] := hl
  refine lv_aload_n hx hb dI1_0 rfl (lv_at hl 0 rfl) ?_
  refine W.objInit hx hb hown (hts _ wq_58) (hts _ wq_51) (hts _ wq_obj) rfl (by rw [hml]; exact hl.1) rfl dI1_1 (Nat.le_of_ble_eq_true rfl) (Nat.le_of_ble_eq_true rfl) ?_
  refine W.eq (g2 := F0 m 4 ls []) rfl ?_
  refine lv_aload_n hx hb dI1_4 rfl (lv_at hl 0 rfl) ?_
  refine lv_sipush (v := nI 300) hx hb dI1_5 (by decide) ?_
  refine i_row (N := 300) (k := 0) (t := 1) X (by decide) (fty := .char) rfl rfl (by decide) wq_73 hP hD hS hA (by decide) (by decide) (Nat.le_of_ble_eq_true rfl) (Nat.le_of_ble_eq_true rfl) (Nat.le_of_ble_eq_true rfl) (by decide) (Nat.le_of_ble_eq_true rfl) wq_59 rfl rfl rfl dI1_8 dI1_10 (fun q1 H locs hP hD hS => ?_)
  have hP : va_P D CLS [(h0, .inr (1, [.ref q1, .int 0, .null, .int 0])), (q1, .inl (ty 1, 300, .inl (fun _ => 0)))] H := hP
  have hD : va_D (AI h0 s.heap.size) [(h0, .inr (1, [.ref q1, .int 0, .null, .int 0])), (q1, .inl (ty 1, 300, .inl (fun _ => 0)))] := hD
  refine lv_aload_n hx hb dI1_13 rfl (lv_at hl 0 rfl) ?_
  refine lv_iconst (v := nI 0) hx hb dI1_14 (by decide) ?_
  refine i_putI (q0 := 0) (k := 1) X (by decide) hP hD hS rfl (by decide) (Nat.le_of_ble_eq_true rfl) wq_60 rfl rfl rfl rfl dI1_15 (fun H locs hP hD hS => ?_)
  have hP : va_P D CLS [(h0, .inr (1, [.ref q1, .int 0, .null, .int 0])), (q1, .inl (ty 1, 300, .inl (fun _ => 0)))] H := hP
  have hD : va_D (AI h0 s.heap.size) [(h0, .inr (1, [.ref q1, .int 0, .null, .int 0])), (q1, .inl (ty 1, 300, .inl (fun _ => 0)))] := hD
  refine lv_aload_n hx hb dI1_18 rfl (lv_at hl 0 rfl) ?_
  refine lv_iconst (v := nI 4) hx hb dI1_19 (by decide) ?_
  refine i_row (N := 4) (k := 2) (t := 0) X (by decide) (fty := .int) rfl rfl (by decide) wq_74 hP hD hS hA (by decide) (by decide) (Nat.le_of_ble_eq_true rfl) (Nat.le_of_ble_eq_true rfl) (Nat.le_of_ble_eq_true rfl) (by decide) (Nat.le_of_ble_eq_true rfl) wq_62 rfl rfl rfl dI1_20 dI1_22 (fun q2 H locs hP hD hS => ?_)
  have hP : va_P D CLS [(h0, .inr (1, [.ref q1, .int 0, .ref q2, .int 0])), (q1, .inl (ty 1, 300, .inl (fun _ => 0))), (q2, .inl (ty 0, 4, .inl (fun _ => 0)))] H := hP
  have hD : va_D (AI h0 s.heap.size) [(h0, .inr (1, [.ref q1, .int 0, .ref q2, .int 0])), (q1, .inl (ty 1, 300, .inl (fun _ => 0))), (q2, .inl (ty 0, 4, .inl (fun _ => 0)))] := hD
  refine lv_aload_n hx hb dI1_25 rfl (lv_at hl 0 rfl) ?_
  refine lv_iconst (v := nI 0) hx hb dI1_26 (by decide) ?_
  refine i_putI (q0 := 0) (k := 3) X (by decide) hP hD hS rfl (by decide) (Nat.le_of_ble_eq_true rfl) wq_63 rfl rfl rfl rfl dI1_27 (fun H locs hP hD hS => ?_)
  have hP : va_P D CLS [(h0, .inr (1, [.ref q1, .int 0, .ref q2, .int 0])), (q1, .inl (ty 1, 300, .inl (fun _ => 0))), (q2, .inl (ty 0, 4, .inl (fun _ => 0)))] H := hP
  have hD : va_D (AI h0 s.heap.size) [(h0, .inr (1, [.ref q1, .int 0, .ref q2, .int 0])), (q1, .inl (ty 1, 300, .inl (fun _ => 0))), (q2, .inl (ty 0, 4, .inl (fun _ => 0)))] := hD
  refine W.widen (k := 2) (n := 304) (by omega) (by omega) ?_
  exact W.vret hx hb hr (fun t ht hW => ⟨⟨fun j => match j with
    | 10 => h0
    | 11 => q1
    | _ => q2, rfl, rfl, by rw [ht]; exact hP, va_K.moved hW.alike hK, hD⟩, hS.F ht⟩) hS.2.2 dI1_30 hlocks
theorem dI3_0 : decode prog_5_method_1_code 0 = .ok (.aload_n 0, 1) := by decide +kernel
theorem dI3_1 : decode prog_5_method_1_code 1 = .ok (.invokespecial 3, 3) := by decide +kernel
theorem dI3_4 : decode prog_5_method_1_code 4 = .ok (.aload_n 0, 1) := by decide +kernel
theorem dI3_5 : decode prog_5_method_1_code 5 = .ok (.iconst 0, 1) := by decide +kernel
theorem dI3_6 : decode prog_5_method_1_code 6 = .ok (.putfield 9, 3) := by decide +kernel
theorem dI3_9 : decode prog_5_method_1_code 9 = .ok (.aload_n 0, 1) := by decide +kernel
theorem dI3_10 : decode prog_5_method_1_code 10 = .ok (.bipush 64, 2) := by decide +kernel
theorem dI3_12 : decode prog_5_method_1_code 12 = .ok (.newarray .int, 2) := by decide +kernel
theorem dI3_14 : decode prog_5_method_1_code 14 = .ok (.putfield 15, 3) := by decide +kernel
theorem dI3_17 : decode prog_5_method_1_code 17 = .ok (.aload_n 0, 1) := by decide +kernel
theorem dI3_18 : decode prog_5_method_1_code 18 = .ok (.bipush 64, 2) := by decide +kernel
theorem dI3_20 : decode prog_5_method_1_code 20 = .ok (.newarray .boolean, 2) := by decide +kernel
theorem dI3_22 : decode prog_5_method_1_code 22 = .ok (.putfield 19, 3) := by decide +kernel
theorem dI3_25 : decode prog_5_method_1_code 25 = .ok (.aload_n 0, 1) := by decide +kernel
theorem dI3_26 : decode prog_5_method_1_code 26 = .ok (.sipush 2048, 3) := by decide +kernel
theorem dI3_29 : decode prog_5_method_1_code 29 = .ok (.newarray .int, 2) := by decide +kernel
theorem dI3_31 : decode prog_5_method_1_code 31 = .ok (.putfield 23, 3) := by decide +kernel
theorem dI3_34 : decode prog_5_method_1_code 34 = .ok (.aload_n 0, 1) := by decide +kernel
theorem dI3_35 : decode prog_5_method_1_code 35 = .ok (.sipush 2048, 3) := by decide +kernel
theorem dI3_38 : decode prog_5_method_1_code 38 = .ok (.newarray .int, 2) := by decide +kernel
theorem dI3_40 : decode prog_5_method_1_code 40 = .ok (.putfield 26, 3) := by decide +kernel
theorem dI3_43 : decode prog_5_method_1_code 43 = .ok (.return_, 1) := by decide +kernel
theorem wq_149 : Cond.methodLink (cnm 3) 3 objectInit ∈ gT := gT_in (i := 149) (by decide +kernel) rfl
theorem wq_150 : Cond.fieldLink (cnm 3) 9 (cnm 3) (kT 3 0).2.1 (kT 3 0).2.2.1 ∈ gT := gT_in (i := 150) (by decide +kernel) rfl
theorem wq_151 : Cond.fieldLink (cnm 3) 15 (cnm 3) (kT 3 1).2.1 (kT 3 1).2.2.1 ∈ gT := gT_in (i := 151) (by decide +kernel) rfl
theorem wq_152 : Cond.fieldLink (cnm 3) 19 (cnm 3) (kT 3 2).2.1 (kT 3 2).2.2.1 ∈ gT := gT_in (i := 152) (by decide +kernel) rfl
theorem wq_153 : Cond.fieldLink (cnm 3) 23 (cnm 3) (kT 3 3).2.1 (kT 3 3).2.2.1 ∈ gT := gT_in (i := 153) (by decide +kernel) rfl
theorem wq_154 : Cond.fieldLink (cnm 3) 26 (cnm 3) (kT 3 4).2.1 (kT 3 4).2.2.1 ∈ gT := gT_in (i := 154) (by decide +kernel) rfl
set_option maxHeartbeats 4000000 in
set_option maxRecDepth 100000 in
theorem c_init3 (l : Launch) (D : va_G) (ty : Nat → ClassId) (h0 sz : Nat) : Met l (yI 3) (.code (yI 3) prog_5_method_1_code 1 none :: gT) { frames := 1, cells := 4, slots := 4224, locals := 12 } (PcI D ty 3 h0 [.int 0, .null, .null, .null, .null] sz NT) (QcI (S := Nat → Nat) D ty h0 sz (fun a : Nat → Nat => a 15 = h0) (fun a => wl (fun _ => a) ty ccO hz)) 4 4224 (AI h0 sz) := by
  refine Met.ofW (cc := prog_5_method_1_code) (maxL := 1) (ret := none) (ws' := gT) (pn 3 (by decide)).1 rfl ?_
  intro p e s m args below meth c s₁ B hml hv
  obtain ⟨rfl, hsz, hP, hK, hD0, hN⟩ := hv
  have hts0 := atoms_spec (ws := .code (yI 3) prog_5_method_1_code 1 none :: gT) B.pre
  have hown : s.vm.findClass (cnm 3) = some m.cls := findClass_of_methodNamed B.named
  have hin : meth.name = "<init>" := (name_of_methodNamed B.named B.method).1
  have hx := B.exec
  have hb := B.bytes
  have hr := B.returns
  have hlocks := B.notSynchronized
  have hts : ∀ w ∈ gT, w.before ([Value.ref h0] : List Value).toArray s = true := fun w h9 => hts0 w (List.mem_cons_of_mem _ h9)
  have X : IX p s m ([Value.ref h0] : List Value).toArray meth c D ty 3 prog_5_method_1_code 1 := ⟨hx, hb, hr, hml, hown, hts, hlocks, hK, hin⟩
  subst hsz
  have hD := D_one (sz := s.heap.size) hD0
  have hS : va_S (AI h0 s.heap.size) s.heap s.heap [] := va_S.rf
  have hA : ∀ q, s.heap.size ≤ q → AI h0 s.heap.size q := fun q h => Or.inr h
  have hP : va_P D CLS [(h0, .inr (3, [.int 0, .null, .null, .null, .null]))] s.heap := hP
  have hl := lv_entry ([.ref h0]) (n := 1) (Nat.le_of_ble_eq_true rfl)
  rw [lg_entry_eq]
  generalize (lg_sl ([.ref h0]) ++ List.replicate (1 - (lg_sl ([.ref h0])).length) Slot.unset).toArray = ls at hl ⊢
  have hl : lv_has ls 1 [(0, .ref h0)] := hl
  refine lv_aload_n hx hb dI3_0 rfl (lv_at hl 0 rfl) ?_
  refine W.objInit hx hb hown (hts _ wq_149) (hts _ wq_51) (hts _ wq_obj) rfl (by rw [hml]; exact hl.1) rfl dI3_1 (Nat.le_of_ble_eq_true rfl) (Nat.le_of_ble_eq_true rfl) ?_
  refine W.eq (g2 := F0 m 4 ls []) rfl ?_
  refine lv_aload_n hx hb dI3_4 rfl (lv_at hl 0 rfl) ?_
  refine lv_iconst (v := nI 0) hx hb dI3_5 (by decide) ?_
  refine i_putI (q0 := 0) (k := 0) X (by decide) hP hD hS rfl (by decide) (Nat.le_of_ble_eq_true rfl) wq_150 rfl rfl rfl rfl dI3_6 (fun H locs hP hD hS => ?_)
  have hP : va_P D CLS [(h0, .inr (3, [.int 0, .null, .null, .null, .null]))] H := hP
  have hD : va_D (AI h0 s.heap.size) [(h0, .inr (3, [.int 0, .null, .null, .null, .null]))] := hD
  refine lv_aload_n hx hb dI3_9 rfl (lv_at hl 0 rfl) ?_
  refine lv_bipush (v := nI 64) hx hb dI3_10 (by decide) ?_
  refine i_row (N := 64) (k := 1) (t := 0) X (by decide) (fty := .int) rfl rfl (by decide) wq_74 hP hD hS hA (by decide) (by decide) (Nat.le_of_ble_eq_true rfl) (Nat.le_of_ble_eq_true rfl) (Nat.le_of_ble_eq_true rfl) (by decide) (Nat.le_of_ble_eq_true rfl) wq_151 rfl rfl rfl dI3_12 dI3_14 (fun q1 H locs hP hD hS => ?_)
  have hP : va_P D CLS [(h0, .inr (3, [.int 0, .ref q1, .null, .null, .null])), (q1, .inl (ty 0, 64, .inl (fun _ => 0)))] H := hP
  have hD : va_D (AI h0 s.heap.size) [(h0, .inr (3, [.int 0, .ref q1, .null, .null, .null])), (q1, .inl (ty 0, 64, .inl (fun _ => 0)))] := hD
  refine lv_aload_n hx hb dI3_17 rfl (lv_at hl 0 rfl) ?_
  refine lv_bipush (v := nI 64) hx hb dI3_18 (by decide) ?_
  refine i_row (N := 64) (k := 2) (t := 2) X (by decide) (fty := .boolean) rfl rfl (by decide) wq_166 hP hD hS hA (by decide) (by decide) (Nat.le_of_ble_eq_true rfl) (Nat.le_of_ble_eq_true rfl) (Nat.le_of_ble_eq_true rfl) (by decide) (Nat.le_of_ble_eq_true rfl) wq_152 rfl rfl rfl dI3_20 dI3_22 (fun q2 H locs hP hD hS => ?_)
  have hP : va_P D CLS [(h0, .inr (3, [.int 0, .ref q1, .ref q2, .null, .null])), (q1, .inl (ty 0, 64, .inl (fun _ => 0))), (q2, .inl (ty 2, 64, .inl (fun _ => 0)))] H := hP
  have hD : va_D (AI h0 s.heap.size) [(h0, .inr (3, [.int 0, .ref q1, .ref q2, .null, .null])), (q1, .inl (ty 0, 64, .inl (fun _ => 0))), (q2, .inl (ty 2, 64, .inl (fun _ => 0)))] := hD
  refine lv_aload_n hx hb dI3_25 rfl (lv_at hl 0 rfl) ?_
  refine lv_sipush (v := nI 2048) hx hb dI3_26 (by decide) ?_
  refine i_row (N := 2048) (k := 3) (t := 0) X (by decide) (fty := .int) rfl rfl (by decide) wq_74 hP hD hS hA (by decide) (by decide) (Nat.le_of_ble_eq_true rfl) (Nat.le_of_ble_eq_true rfl) (Nat.le_of_ble_eq_true rfl) (by decide) (Nat.le_of_ble_eq_true rfl) wq_153 rfl rfl rfl dI3_29 dI3_31 (fun q3 H locs hP hD hS => ?_)
  have hP : va_P D CLS [(h0, .inr (3, [.int 0, .ref q1, .ref q2, .ref q3, .null])), (q1, .inl (ty 0, 64, .inl (fun _ => 0))), (q2, .inl (ty 2, 64, .inl (fun _ => 0))), (q3, .inl (ty 0, 2048, .inl (fun _ => 0)))] H := hP
  have hD : va_D (AI h0 s.heap.size) [(h0, .inr (3, [.int 0, .ref q1, .ref q2, .ref q3, .null])), (q1, .inl (ty 0, 64, .inl (fun _ => 0))), (q2, .inl (ty 2, 64, .inl (fun _ => 0))), (q3, .inl (ty 0, 2048, .inl (fun _ => 0)))] := hD
  refine lv_aload_n hx hb dI3_34 rfl (lv_at hl 0 rfl) ?_
  refine lv_sipush (v := nI 2048) hx hb dI3_35 (by decide) ?_
  refine i_row (N := 2048) (k := 4) (t := 0) X (by decide) (fty := .int) rfl rfl (by decide) wq_74 hP hD hS hA (by decide) (by decide) (Nat.le_of_ble_eq_true rfl) (Nat.le_of_ble_eq_true rfl) (Nat.le_of_ble_eq_true rfl) (by decide) (Nat.le_of_ble_eq_true rfl) wq_154 rfl rfl rfl dI3_38 dI3_40 (fun q4 H locs hP hD hS => ?_)
  have hP : va_P D CLS [(h0, .inr (3, [.int 0, .ref q1, .ref q2, .ref q3, .ref q4])), (q1, .inl (ty 0, 64, .inl (fun _ => 0))), (q2, .inl (ty 2, 64, .inl (fun _ => 0))), (q3, .inl (ty 0, 2048, .inl (fun _ => 0))), (q4, .inl (ty 0, 2048, .inl (fun _ => 0)))] H := hP
  have hD : va_D (AI h0 s.heap.size) [(h0, .inr (3, [.int 0, .ref q1, .ref q2, .ref q3, .ref q4])), (q1, .inl (ty 0, 64, .inl (fun _ => 0))), (q2, .inl (ty 2, 64, .inl (fun _ => 0))), (q3, .inl (ty 0, 2048, .inl (fun _ => 0))), (q4, .inl (ty 0, 2048, .inl (fun _ => 0)))] := hD
  refine W.widen (k := 4) (n := 4224) (by omega) (by omega) ?_
  exact W.vret hx hb hr (fun t ht hW => ⟨⟨fun j => match j with
    | 15 => h0
    | 16 => q1
    | 17 => q2
    | 18 => q3
    | _ => q4, rfl, rfl, by rw [ht]; exact hP, va_K.moved hW.alike hK, hD⟩, hS.F ht⟩) hS.2.2 dI3_43 hlocks
