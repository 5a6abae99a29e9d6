/-! THE REFERENCE'S CONSTRUCTOR -/
theorem stps_add : ∀ (k k' d : Nat) (M : MR) (c c1 c2 : CF), stps k d M c = some c1 → stps k' d M c1 = some c2 → stps (k + k') d M c = some c2 := by
  intro k
  induction k with
  | zero =>
    intro k' d M c c1 c2 h1 h2
    cases h1
    rw [Nat.zero_add]
    exact h2
  | succ k ih =>
    intro k' d M c c1 c2 h1 h2
    rw [Nat.succ_add]
    unfold stps at h1 ⊢
    split at h1
    · rename_i c3 e
      exact ih k' d M c3 c1 c2 h1 h2
    · cases h1
theorem stps_st {d pc g j x n : Nat} {v : Int32} {M : MR} {lv : List (Nat × AV)} {st : List AV} {h : HP} (hs : lk (mI M) pc = some (.iastore, 1)) (ha : aC j = some (0, n)) (hx : x < n) (hn : n < 2147483648) : stps 1 d M (pc, lv, vI v :: vI (nI x) :: vR g j :: st, h) = some (pc + 1, lv, st, hset h g j x v) := by
  unfold stps stp opt
  rw [hs]
  simp only [sti, aSt, ha, inb_n hx hn, nI_cl (Nat.lt_trans hx hn)]
  rfl
theorem tg_lt {g j k : Nat} {t : Nat × Nat} (h : tg g j k = some t) : k < 12 := by
  unfold tg at h
  split at h <;> first | decide | cases h
def clb (cs : List (Nat × Nat)) : Bool := decide cs.Nodup && cs.all (fun q => (List.range 12).all (fun k => match tg q.1 q.2 k with
  | some t => decide (t ∈ cs)
  | none => true)) && cs.all (fun q => decide (q.2 = 14 → ∀ i, i < 5 → (i + 2, 0) ∈ cs)) && cs.all (fun q => decide (oC q.2 = none → aC q.2 = none → q.2 = 14))
theorem clo_of {cs : List (Nat × Nat)} (h : clb cs = true) : clo cs := by
  unfold clb at h
  rw [Bool.and_eq_true, Bool.and_eq_true, Bool.and_eq_true] at h
  obtain ⟨⟨⟨h1, h2⟩, h3⟩, h4⟩ := h
  refine ⟨of_decide_eq_true h1, fun q hq k t e => ?_, fun q hq => of_decide_eq_true (List.all_eq_true.mp h3 q hq), fun q hq => of_decide_eq_true (List.all_eq_true.mp h4 q hq)⟩
  have h5 := List.all_eq_true.mp (List.all_eq_true.mp h2 q hq) k (List.mem_range.mpr (tg_lt e))
  rw [e] at h5
  exact of_decide_eq_true h5
def ccM : List (Nat × Nat) := [(8, 20), (8, 21), (8, 22), (8, 23), (8, 24), (8, 25), (8, 26), (8, 27), (8, 28)]
def csS : List (Nat × Nat) := [(7, 9)] ++ (ccT ++ (cc9 0 ++ (cc9 1 ++ (ccH ++ ccO))))
theorem clo_M : clo ccM := clo_of (by decide +kernel)
theorem clo_S : clo csS := clo_of (by decide +kernel)
/-- the state that a new object has -/
def A0 : AS := ((rd chF 141).2, [], chF, 0)
def JM (h : HP) (s : Nat → Int32) : Prop := MS 21 h s ∧ ∀ g' j', ¬ (g' = 8 ∧ j' = 21) → h g' j' = hz g' j'
theorem JM.up {h : HP} {s : Nat → Int32} {x : Nat} {v : Int32} (J : JM h s) : JM (hset h 8 21 x v) (upd s x v) := ⟨J.1.up, fun g' j' e => by rw [hs_ne e]; exact J.2 g' j' e⟩
theorem dI5_0 : decode prog_7_method_1_code 0 = .ok (.aload_n 0, 1) := by decide +kernel
theorem dI5_1 : decode prog_7_method_1_code 1 = .ok (.invokespecial 1, 3) := by decide +kernel
theorem dI5_4 : decode prog_7_method_1_code 4 = .ok (.aload_n 0, 1) := by decide +kernel
theorem dI5_5 : decode prog_7_method_1_code 5 = .ok (.bipush 125, 2) := by decide +kernel
theorem dI5_7 : decode prog_7_method_1_code 7 = .ok (.newarray .int, 2) := by decide +kernel
theorem dI5_9 : decode prog_7_method_1_code 9 = .ok (.putfield 7, 3) := by decide +kernel
theorem dI5_12 : decode prog_7_method_1_code 12 = .ok (.aload_n 0, 1) := by decide +kernel
theorem dI5_13 : decode prog_7_method_1_code 13 = .ok (.bipush 125, 2) := by decide +kernel
theorem dI5_15 : decode prog_7_method_1_code 15 = .ok (.newarray .int, 2) := by decide +kernel
theorem dI5_17 : decode prog_7_method_1_code 17 = .ok (.putfield 13, 3) := by decide +kernel
theorem dI5_20 : decode prog_7_method_1_code 20 = .ok (.aload_n 0, 1) := by decide +kernel
theorem dI5_21 : decode prog_7_method_1_code 21 = .ok (.sipush 625, 3) := by decide +kernel
theorem dI5_24 : decode prog_7_method_1_code 24 = .ok (.newarray .int, 2) := by decide +kernel
theorem dI5_26 : decode prog_7_method_1_code 26 = .ok (.putfield 16, 3) := by decide +kernel
theorem dI5_29 : decode prog_7_method_1_code 29 = .ok (.aload_n 0, 1) := by decide +kernel
theorem dI5_30 : decode prog_7_method_1_code 30 = .ok (.sipush 300, 3) := by decide +kernel
theorem dI5_33 : decode prog_7_method_1_code 33 = .ok (.newarray .int, 2) := by decide +kernel
theorem dI5_35 : decode prog_7_method_1_code 35 = .ok (.putfield 19, 3) := by decide +kernel
theorem dI5_38 : decode prog_7_method_1_code 38 = .ok (.aload_n 0, 1) := by decide +kernel
theorem dI5_39 : decode prog_7_method_1_code 39 = .ok (.sipush 2048, 3) := by decide +kernel
theorem dI5_42 : decode prog_7_method_1_code 42 = .ok (.newarray .int, 2) := by decide +kernel
theorem dI5_44 : decode prog_7_method_1_code 44 = .ok (.putfield 22, 3) := by decide +kernel
theorem dI5_47 : decode prog_7_method_1_code 47 = .ok (.aload_n 0, 1) := by decide +kernel
theorem dI5_48 : decode prog_7_method_1_code 48 = .ok (.sipush 2048, 3) := by decide +kernel
theorem dI5_51 : decode prog_7_method_1_code 51 = .ok (.newarray .int, 2) := by decide +kernel
theorem dI5_53 : decode prog_7_method_1_code 53 = .ok (.putfield 25, 3) := by decide +kernel
theorem dI5_56 : decode prog_7_method_1_code 56 = .ok (.aload_n 0, 1) := by decide +kernel
theorem dI5_57 : decode prog_7_method_1_code 57 = .ok (.bipush 64, 2) := by decide +kernel
theorem dI5_59 : decode prog_7_method_1_code 59 = .ok (.newarray .int, 2) := by decide +kernel
theorem dI5_61 : decode prog_7_method_1_code 61 = .ok (.putfield 28, 3) := by decide +kernel
theorem dI5_64 : decode prog_7_method_1_code 64 = .ok (.aload_n 0, 1) := by decide +kernel
theorem dI5_65 : decode prog_7_method_1_code 65 = .ok (.bipush 8, 2) := by decide +kernel
theorem dI5_67 : decode prog_7_method_1_code 67 = .ok (.newarray .int, 2) := by decide +kernel
theorem dI5_69 : decode prog_7_method_1_code 69 = .ok (.putfield 31, 3) := by decide +kernel
theorem dI5_308 : decode prog_7_method_1_code 308 = .ok (.return_, 1) := by decide +kernel
def iM_init : List (Nat × Instr × Nat) := [(72, .aload_n 0, 1), (73, .getfield 7, 3), (76, .invokestatic 34, 3), (79, .aload_n 0, 1), (80, .getfield 7, 3), (83, .iconst 0, 1), (84, .iconst 5, 1), (85, .iastore, 1), (86, .aload_n 0, 1), (87, .getfield 7, 3), (90, .iconst 1, 1), (91, .iconst 4, 1), (92, .iastore, 1), (93, .aload_n 0, 1), (94, .getfield 7, 3), (97, .iconst 2, 1), (98, .iconst 5, 1), (99, .iastore, 1), (100, .aload_n 0, 1), (101, .getfield 7, 3), (104, .iconst 3, 1), (105, .iconst 3, 1), (106, .iastore, 1), (107, .aload_n 0, 1), (108, .getfield 7, 3), (111, .iconst 4, 1), (112, .bipush 6, 2), (114, .iastore, 1), (115, .aload_n 0, 1), (116, .getfield 7, 3), (119, .iconst 5, 1), (120, .iconst 4, 1), (121, .iastore, 1), (122, .aload_n 0, 1), (123, .getfield 7, 3), (126, .bipush 9, 2), (128, .bipush 16, 2), (130, .iastore, 1), (131, .aload_n 0, 1), (132, .getfield 7, 3), (135, .bipush 26, 2), (137, .iconst 3, 1), (138, .iastore, 1), (139, .aload_n 0, 1), (140, .getfield 7, 3), (143, .bipush 28, 2), (145, .iconst 1, 1), (146, .iastore, 1), (147, .aload_n 0, 1), (148, .getfield 7, 3), (151, .bipush 32, 2), (153, .iconst 3, 1), (154, .iastore, 1), (155, .aload_n 0, 1), (156, .getfield 7, 3), (159, .bipush 33, 2), (161, .iconst 2, 1), (162, .iastore, 1), (163, .aload_n 0, 1), (164, .getfield 7, 3), (167, .bipush 34, 2), (169, .iconst 1, 1), (170, .iastore, 1), (171, .aload_n 0, 1), (172, .getfield 7, 3), (175, .bipush 35, 2), (177, .iconst 1, 1), (178, .iastore, 1), (179, .aload_n 0, 1), (180, .getfield 7, 3), (183, .bipush 40, 2), (185, .iconst 1, 1), (186, .iastore, 1), (187, .aload_n 0, 1), (188, .getfield 7, 3), (191, .iconst 0, 1), (192, .iconst 0, 1), (193, .iconst 0, 1), (194, .iconst 0, 1), (195, .invokestatic 38, 3), (198, .aload_n 0, 1), (199, .getfield 7, 3), (202, .iconst 0, 1), (203, .iconst 1, 1), (204, .iconst 1, 1), (205, .iconst 2, 1), (206, .invokestatic 38, 3), (209, .aload_n 0, 1), (210, .getfield 7, 3), (213, .iconst 1, 1), (214, .iconst 0, 1), (215, .iconst 0, 1), (216, .iconst 3, 1), (217, .invokestatic 38, 3), (220, .aload_n 0, 1), (221, .getfield 7, 3), (224, .iconst 1, 1), (225, .iconst 2, 1), (226, .iconst 0, 1), (227, .iconst 1, 1), (228, .invokestatic 38, 3), (231, .aload_n 0, 1), (232, .getfield 7, 3), (235, .iconst 2, 1), (236, .iconst 1, 1), (237, .iconst 1, 1), (238, .iconst 0, 1), (239, .invokestatic 38, 3), (242, .aload_n 0, 1), (243, .getfield 7, 3), (246, .iconst 2, 1), (247, .iconst 2, 1), (248, .iconst 2, 1), (249, .iconst 0, 1), (250, .invokestatic 38, 3), (253, .aload_n 0, 1), (254, .getfield 7, 3), (257, .iconst 3, 1), (258, .iconst 0, 1), (259, .iconst 2, 1), (260, .iconst 0, 1), (261, .invokestatic 38, 3), (264, .aload_n 0, 1), (265, .getfield 7, 3), (268, .iconst 3, 1), (269, .iconst 1, 1), (270, .iconst 0, 1), (271, .iconst 0, 1), (272, .invokestatic 38, 3), (275, .aload_n 0, 1), (276, .getfield 7, 3), (279, .iconst 4, 1), (280, .iconst 0, 1), (281, .iconst 0, 1), (282, .iconst 0, 1), (283, .invokestatic 38, 3), (286, .aload_n 0, 1), (287, .getfield 7, 3), (290, .iconst 4, 1), (291, .iconst 1, 1), (292, .iconst 1, 1), (293, .iconst 2, 1), (294, .invokestatic 38, 3), (297, .aload_n 0, 1), (298, .getfield 7, 3), (301, .iconst 4, 1), (302, .iconst 2, 1), (303, .iconst 0, 1), (304, .iconst 4, 1), (305, .invokestatic 38, 3), (308, .return_, 1)]
theorem iM_init_ok : ∀ q ∈ iM_init, decode prog_7_method_1_code q.1 = .ok q.2 := by decide +kernel
def mM_init : MR := (yI 5, prog_7_method_1_code, 1, none, 5, 0, false, iM_init)
theorem kM_init : GM mM_init := ⟨by decide +kernel, iM_init_ok⟩
theorem wq_604 : Cond.methodLink (cnm 5) 1 objectInit ∈ gT := gT_in (i := 604) (by decide +kernel) rfl
theorem wq_614 : Cond.fieldLink (cnm 5) 7 (cnm 5) (kT 5 0).2.1 (kT 5 0).2.2.1 ∈ gT := gT_in (i := 614) (by decide +kernel) rfl
theorem wq_615 : Cond.fieldLink (cnm 5) 13 (cnm 5) (kT 5 1).2.1 (kT 5 1).2.2.1 ∈ gT := gT_in (i := 615) (by decide +kernel) rfl
theorem wq_616 : Cond.fieldLink (cnm 5) 16 (cnm 5) (kT 5 2).2.1 (kT 5 2).2.2.1 ∈ gT := gT_in (i := 616) (by decide +kernel) rfl
theorem wq_618 : Cond.fieldLink (cnm 5) 19 (cnm 5) (kT 5 4).2.1 (kT 5 4).2.2.1 ∈ gT := gT_in (i := 618) (by decide +kernel) rfl
theorem wq_622 : Cond.fieldLink (cnm 5) 22 (cnm 5) (kT 5 8).2.1 (kT 5 8).2.2.1 ∈ gT := gT_in (i := 622) (by decide +kernel) rfl
theorem wq_623 : Cond.fieldLink (cnm 5) 25 (cnm 5) (kT 5 9).2.1 (kT 5 9).2.2.1 ∈ gT := gT_in (i := 623) (by decide +kernel) rfl
theorem wq_624 : Cond.fieldLink (cnm 5) 28 (cnm 5) (kT 5 10).2.1 (kT 5 10).2.2.1 ∈ gT := gT_in (i := 624) (by decide +kernel) rfl
theorem wq_625 : Cond.fieldLink (cnm 5) 31 (cnm 5) (kT 5 11).2.1 (kT 5 11).2.2.1 ∈ gT := gT_in (i := 625) (by decide +kernel) rfl
def rwM : Nat → Int32 := (upd (upd (upd (upd (upd (upd (upd (upd (upd (upd (upd (upd (upd (upd (upd (upd (upd (upd (upd (upd (upd (upd (upd (upd (upd (upd (upd (upd (upd (upd (upd (upd (upd (upd (upd (upd emp 0 (nI 5)) 1 (nI 4)) 2 (nI 5)) 3 (nI 3)) 4 (nI 6)) 5 (nI 4)) 9 (nI 16)) 26 (nI 3)) 28 (nI 1)) 32 (nI 3)) 33 (nI 2)) 34 (nI 1)) 35 (nI 1)) 40 (nI 1)) (45 + 2 * (0 * 5 + 0)) (nI 0)) (46 + 2 * (0 * 5 + 0)) (nI 0)) (45 + 2 * (0 * 5 + 1)) (nI 1)) (46 + 2 * (0 * 5 + 1)) (nI 2)) (45 + 2 * (1 * 5 + 0)) (nI 0)) (46 + 2 * (1 * 5 + 0)) (nI 3)) (45 + 2 * (1 * 5 + 2)) (nI 0)) (46 + 2 * (1 * 5 + 2)) (nI 1)) (45 + 2 * (2 * 5 + 1)) (nI 1)) (46 + 2 * (2 * 5 + 1)) (nI 0)) (45 + 2 * (2 * 5 + 2)) (nI 2)) (46 + 2 * (2 * 5 + 2)) (nI 0)) (45 + 2 * (3 * 5 + 0)) (nI 2)) (46 + 2 * (3 * 5 + 0)) (nI 0)) (45 + 2 * (3 * 5 + 1)) (nI 0)) (46 + 2 * (3 * 5 + 1)) (nI 0)) (45 + 2 * (4 * 5 + 0)) (nI 0)) (46 + 2 * (4 * 5 + 0)) (nI 0)) (45 + 2 * (4 * 5 + 1)) (nI 1)) (46 + 2 * (4 * 5 + 1)) (nI 2)) (45 + 2 * (4 * 5 + 2)) (nI 0)) (46 + 2 * (4 * 5 + 2)) (nI 4))
theorem rwM_ok : ∀ i, i < 125 → rwM i = (rd chF 141).2.1 i := by decide +kernel
set_option maxHeartbeats 4000000 in
set_option maxRecDepth 100000 in
theorem c_init5 (l : Launch) (D : va_G) (ty : Nat → ClassId) (h0 sz : Nat) : Met l (yI 5) (.code (yI 5) prog_7_method_1_code 1 none :: gT) { frames := 2, cells := 8, slots := 5343, locals := 86 } (PcI D ty 5 h0 [.null, .null, .null, .int 0, .null, .int 0, .int 0, .int 0, .null, .null, .null, .null] sz NT) (QcI (S := (Nat → Nat) × HP) D ty h0 sz (fun u : (Nat → Nat) × HP => u.1 20 = h0 ∧ MI u.2 A0) (fun u => wl (fun _ => u.1) ty ccM u.2)) 8 5343 (AI h0 sz) := by
  refine Met.ofW (cc := prog_7_method_1_code) (maxL := 1) (ret := none) (ws' := gT) (pn 5 (by decide)).1 rfl ?_
  intro p e s m args below meth c s₁ B hml hv
  obtain ⟨rfl, hsz, hP, hK, hD0, hN⟩ := hv
  have hts0 := atoms_spec (ws := .code (yI 5) prog_7_method_1_code 1 none :: gT) B.pre
  have hown : s.vm.findClass (cnm 5) = some m.cls := findClass_of_methodNamed B.named
  have hin : meth.name = "<init>" := (name_of_methodNamed B.named B.method).1
  have hx := B.exec
  have hb := B.bytes
  have hr := B.returns
  have hlocks := B.notSynchronized
  have hts : ∀ w ∈ gT, w.before ([Value.ref h0] : List Value).toArray s = true := fun w h9 => hts0 w (List.mem_cons_of_mem _ h9)
  have X : IX p s m ([Value.ref h0] : List Value).toArray meth c D ty 5 prog_7_method_1_code 1 := ⟨hx, hb, hr, hml, hown, hts, hlocks, hK, hin⟩
  subst hsz
  have hD := D_one (sz := s.heap.size) hD0
  have hS : va_S (AI h0 s.heap.size) s.heap s.heap [] := va_S.rf
  have hA : ∀ q, s.heap.size ≤ q → AI h0 s.heap.size q := fun q h => Or.inr h
  have hP : va_P D CLS [(h0, .inr (5, [.null, .null, .null, .int 0, .null, .int 0, .int 0, .int 0, .null, .null, .null, .null]))] s.heap := hP
  have hl := lv_entry ([.ref h0]) (n := 1) (Nat.le_of_ble_eq_true rfl)
  rw [lg_entry_eq]
  generalize (lg_sl ([.ref h0]) ++ List.replicate (1 - (lg_sl ([.ref h0])).length) Slot.unset).toArray = ls at hl ⊢
  have hl : lv_has ls 1 [(0, .ref h0)] := hl
  refine lv_aload_n hx hb dI5_0 rfl (lv_at hl 0 rfl) ?_
  refine W.objInit hx hb hown (hts _ wq_604) (hts _ wq_51) (hts _ wq_obj) rfl (by rw [hml]; exact hl.1) rfl dI5_1 (Nat.le_of_ble_eq_true rfl) (Nat.le_of_ble_eq_true rfl) ?_
  refine W.eq (g2 := F0 m 4 ls []) rfl ?_
  refine lv_aload_n hx hb dI5_4 rfl (lv_at hl 0 rfl) ?_
  refine lv_bipush (v := nI 125) hx hb dI5_5 (by decide) ?_
  refine i_row (N := 125) (k := 0) (t := 0) X (by decide) (fty := .int) rfl rfl (by decide) wq_74 hP hD hS hA (by decide) (by decide) (Nat.le_of_ble_eq_true rfl) (Nat.le_of_ble_eq_true rfl) (Nat.le_of_ble_eq_true rfl) (by decide) (Nat.le_of_ble_eq_true rfl) wq_614 rfl rfl rfl dI5_7 dI5_9 (fun q1 H locs hP hD hS => ?_)
  have hP : va_P D CLS [(h0, .inr (5, [.ref q1, .null, .null, .int 0, .null, .int 0, .int 0, .int 0, .null, .null, .null, .null])), (q1, .inl (ty 0, 125, .inl (fun _ => 0)))] H := hP
  have hD : va_D (AI h0 s.heap.size) [(h0, .inr (5, [.ref q1, .null, .null, .int 0, .null, .int 0, .int 0, .int 0, .null, .null, .null, .null])), (q1, .inl (ty 0, 125, .inl (fun _ => 0)))] := hD
  refine lv_aload_n hx hb dI5_12 rfl (lv_at hl 0 rfl) ?_
  refine lv_bipush (v := nI 125) hx hb dI5_13 (by decide) ?_
  refine i_row (N := 125) (k := 1) (t := 0) X (by decide) (fty := .int) rfl rfl (by decide) wq_74 hP hD hS hA (by decide) (by decide) (Nat.le_of_ble_eq_true rfl) (Nat.le_of_ble_eq_true rfl) (Nat.le_of_ble_eq_true rfl) (by decide) (Nat.le_of_ble_eq_true rfl) wq_615 rfl rfl rfl dI5_15 dI5_17 (fun q2 H locs hP hD hS => ?_)
  have hP : va_P D CLS [(h0, .inr (5, [.ref q1, .ref q2, .null, .int 0, .null, .int 0, .int 0, .int 0, .null, .null, .null, .null])), (q1, .inl (ty 0, 125, .inl (fun _ => 0))), (q2, .inl (ty 0, 125, .inl (fun _ => 0)))] H := hP
  have hD : va_D (AI h0 s.heap.size) [(h0, .inr (5, [.ref q1, .ref q2, .null, .int 0, .null, .int 0, .int 0, .int 0, .null, .null, .null, .null])), (q1, .inl (ty 0, 125, .inl (fun _ => 0))), (q2, .inl (ty 0, 125, .inl (fun _ => 0)))] := hD
  refine lv_aload_n hx hb dI5_20 rfl (lv_at hl 0 rfl) ?_
  refine lv_sipush (v := nI 625) hx hb dI5_21 (by decide) ?_
  refine i_row (N := 625) (k := 2) (t := 0) X (by decide) (fty := .int) rfl rfl (by decide) wq_74 hP hD hS hA (by decide) (by decide) (Nat.le_of_ble_eq_true rfl) (Nat.le_of_ble_eq_true rfl) (Nat.le_of_ble_eq_true rfl) (by decide) (Nat.le_of_ble_eq_true rfl) wq_616 rfl rfl rfl dI5_24 dI5_26 (fun q3 H locs hP hD hS => ?_)
  have hP : va_P D CLS [(h0, .inr (5, [.ref q1, .ref q2, .ref q3, .int 0, .null, .int 0, .int 0, .int 0, .null, .null, .null, .null])), (q1, .inl (ty 0, 125, .inl (fun _ => 0))), (q2, .inl (ty 0, 125, .inl (fun _ => 0))), (q3, .inl (ty 0, 625, .inl (fun _ => 0)))] H := hP
  have hD : va_D (AI h0 s.heap.size) [(h0, .inr (5, [.ref q1, .ref q2, .ref q3, .int 0, .null, .int 0, .int 0, .int 0, .null, .null, .null, .null])), (q1, .inl (ty 0, 125, .inl (fun _ => 0))), (q2, .inl (ty 0, 125, .inl (fun _ => 0))), (q3, .inl (ty 0, 625, .inl (fun _ => 0)))] := hD
  refine lv_aload_n hx hb dI5_29 rfl (lv_at hl 0 rfl) ?_
  refine lv_sipush (v := nI 300) hx hb dI5_30 (by decide) ?_
  refine i_row (N := 300) (k := 4) (t := 0) X (by decide) (fty := .int) rfl rfl (by decide) wq_74 hP hD hS hA (by decide) (by decide) (Nat.le_of_ble_eq_true rfl) (Nat.le_of_ble_eq_true rfl) (Nat.le_of_ble_eq_true rfl) (by decide) (Nat.le_of_ble_eq_true rfl) wq_618 rfl rfl rfl dI5_33 dI5_35 (fun q4 H locs hP hD hS => ?_)
  have hP : va_P D CLS [(h0, .inr (5, [.ref q1, .ref q2, .ref q3, .int 0, .ref q4, .int 0, .int 0, .int 0, .null, .null, .null, .null])), (q1, .inl (ty 0, 125, .inl (fun _ => 0))), (q2, .inl (ty 0, 125, .inl (fun _ => 0))), (q3, .inl (ty 0, 625, .inl (fun _ => 0))), (q4, .inl (ty 0, 300, .inl (fun _ => 0)))] H := hP
  have hD : va_D (AI h0 s.heap.size) [(h0, .inr (5, [.ref q1, .ref q2, .ref q3, .int 0, .ref q4, .int 0, .int 0, .int 0, .null, .null, .null, .null])), (q1, .inl (ty 0, 125, .inl (fun _ => 0))), (q2, .inl (ty 0, 125, .inl (fun _ => 0))), (q3, .inl (ty 0, 625, .inl (fun _ => 0))), (q4, .inl (ty 0, 300, .inl (fun _ => 0)))] := hD
  refine lv_aload_n hx hb dI5_38 rfl (lv_at hl 0 rfl) ?_
  refine lv_sipush (v := nI 2048) hx hb dI5_39 (by decide) ?_
  refine i_row (N := 2048) (k := 8) (t := 0) X (by decide) (fty := .int) rfl rfl (by decide) wq_74 hP hD hS hA (by decide) (by decide) (Nat.le_of_ble_eq_true rfl) (Nat.le_of_ble_eq_true rfl) (Nat.le_of_ble_eq_true rfl) (by decide) (Nat.le_of_ble_eq_true rfl) wq_622 rfl rfl rfl dI5_42 dI5_44 (fun q5 H locs hP hD hS => ?_)
  have hP : va_P D CLS [(h0, .inr (5, [.ref q1, .ref q2, .ref q3, .int 0, .ref q4, .int 0, .int 0, .int 0, .ref q5, .null, .null, .null])), (q1, .inl (ty 0, 125, .inl (fun _ => 0))), (q2, .inl (ty 0, 125, .inl (fun _ => 0))), (q3, .inl (ty 0, 625, .inl (fun _ => 0))), (q4, .inl (ty 0, 300, .inl (fun _ => 0))), (q5, .inl (ty 0, 2048, .inl (fun _ => 0)))] H := hP
  have hD : va_D (AI h0 s.heap.size) [(h0, .inr (5, [.ref q1, .ref q2, .ref q3, .int 0, .ref q4, .int 0, .int 0, .int 0, .ref q5, .null, .null, .null])), (q1, .inl (ty 0, 125, .inl (fun _ => 0))), (q2, .inl (ty 0, 125, .inl (fun _ => 0))), (q3, .inl (ty 0, 625, .inl (fun _ => 0))), (q4, .inl (ty 0, 300, .inl (fun _ => 0))), (q5, .inl (ty 0, 2048, .inl (fun _ => 0)))] := hD
  refine lv_aload_n hx hb dI5_47 rfl (lv_at hl 0 rfl) ?_
  refine lv_sipush (v := nI 2048) hx hb dI5_48 (by decide) ?_
  refine i_row (N := 2048) (k := 9) (t := 0) X (by decide) (fty := .int) rfl rfl (by decide) wq_74 hP hD hS hA (by decide) (by decide) (Nat.le_of_ble_eq_true rfl) (Nat.le_of_ble_eq_true rfl) (Nat.le_of_ble_eq_true rfl) (by decide) (Nat.le_of_ble_eq_true rfl) wq_623 rfl rfl rfl dI5_51 dI5_53 (fun q6 H locs hP hD hS => ?_)
  have hP : va_P D CLS [(h0, .inr (5, [.ref q1, .ref q2, .ref q3, .int 0, .ref q4, .int 0, .int 0, .int 0, .ref q5, .ref q6, .null, .null])), (q1, .inl (ty 0, 125, .inl (fun _ => 0))), (q2, .inl (ty 0, 125, .inl (fun _ => 0))), (q3, .inl (ty 0, 625, .inl (fun _ => 0))), (q4, .inl (ty 0, 300, .inl (fun _ => 0))), (q5, .inl (ty 0, 2048, .inl (fun _ => 0))), (q6, .inl (ty 0, 2048, .inl (fun _ => 0)))] H := hP
  have hD : va_D (AI h0 s.heap.size) [(h0, .inr (5, [.ref q1, .ref q2, .ref q3, .int 0, .ref q4, .int 0, .int 0, .int 0, .ref q5, .ref q6, .null, .null])), (q1, .inl (ty 0, 125, .inl (fun _ => 0))), (q2, .inl (ty 0, 125, .inl (fun _ => 0))), (q3, .inl (ty 0, 625, .inl (fun _ => 0))), (q4, .inl (ty 0, 300, .inl (fun _ => 0))), (q5, .inl (ty 0, 2048, .inl (fun _ => 0))), (q6, .inl (ty 0, 2048, .inl (fun _ => 0)))] := hD
  refine lv_aload_n hx hb dI5_56 rfl (lv_at hl 0 rfl) ?_
  refine lv_bipush (v := nI 64) hx hb dI5_57 (by decide) ?_
  refine i_row (N := 64) (k := 10) (t := 0) X (by decide) (fty := .int) rfl rfl (by decide) wq_74 hP hD hS hA (by decide) (by decide) (Nat.le_of_ble_eq_true rfl) (Nat.le_of_ble_eq_true rfl) (Nat.le_of_ble_eq_true rfl) (by decide) (Nat.le_of_ble_eq_true rfl) wq_624 rfl rfl rfl dI5_59 dI5_61 (fun q7 H locs hP hD hS => ?_)
  have hP : va_P D CLS [(h0, .inr (5, [.ref q1, .ref q2, .ref q3, .int 0, .ref q4, .int 0, .int 0, .int 0, .ref q5, .ref q6, .ref q7, .null])), (q1, .inl (ty 0, 125, .inl (fun _ => 0))), (q2, .inl (ty 0, 125, .inl (fun _ => 0))), (q3, .inl (ty 0, 625, .inl (fun _ => 0))), (q4, .inl (ty 0, 300, .inl (fun _ => 0))), (q5, .inl (ty 0, 2048, .inl (fun _ => 0))), (q6, .inl (ty 0, 2048, .inl (fun _ => 0))), (q7, .inl (ty 0, 64, .inl (fun _ => 0)))] H := hP
  have hD : va_D (AI h0 s.heap.size) [(h0, .inr (5, [.ref q1, .ref q2, .ref q3, .int 0, .ref q4, .int 0, .int 0, .int 0, .ref q5, .ref q6, .ref q7, .null])), (q1, .inl (ty 0, 125, .inl (fun _ => 0))), (q2, .inl (ty 0, 125, .inl (fun _ => 0))), (q3, .inl (ty 0, 625, .inl (fun _ => 0))), (q4, .inl (ty 0, 300, .inl (fun _ => 0))), (q5, .inl (ty 0, 2048, .inl (fun _ => 0))), (q6, .inl (ty 0, 2048, .inl (fun _ => 0))), (q7, .inl (ty 0, 64, .inl (fun _ => 0)))] := hD
  refine lv_aload_n hx hb dI5_64 rfl (lv_at hl 0 rfl) ?_
  refine lv_bipush (v := nI 8) hx hb dI5_65 (by decide) ?_
  refine i_row (N := 8) (k := 11) (t := 0) X (by decide) (fty := .int) rfl rfl (by decide) wq_74 hP hD hS hA (by decide) (by decide) (Nat.le_of_ble_eq_true rfl) (Nat.le_of_ble_eq_true rfl) (Nat.le_of_ble_eq_true rfl) (by decide) (Nat.le_of_ble_eq_true rfl) wq_625 rfl rfl rfl dI5_67 dI5_69 (fun q8 H locs hP hD hS => ?_)
  have hP : va_P D CLS [(h0, .inr (5, [.ref q1, .ref q2, .ref q3, .int 0, .ref q4, .int 0, .int 0, .int 0, .ref q5, .ref q6, .ref q7, .ref q8])), (q1, .inl (ty 0, 125, .inl (fun _ => 0))), (q2, .inl (ty 0, 125, .inl (fun _ => 0))), (q3, .inl (ty 0, 625, .inl (fun _ => 0))), (q4, .inl (ty 0, 300, .inl (fun _ => 0))), (q5, .inl (ty 0, 2048, .inl (fun _ => 0))), (q6, .inl (ty 0, 2048, .inl (fun _ => 0))), (q7, .inl (ty 0, 64, .inl (fun _ => 0))), (q8, .inl (ty 0, 8, .inl (fun _ => 0)))] H := hP
  have hD : va_D (AI h0 s.heap.size) [(h0, .inr (5, [.ref q1, .ref q2, .ref q3, .int 0, .ref q4, .int 0, .int 0, .int 0, .ref q5, .ref q6, .ref q7, .ref q8])), (q1, .inl (ty 0, 125, .inl (fun _ => 0))), (q2, .inl (ty 0, 125, .inl (fun _ => 0))), (q3, .inl (ty 0, 625, .inl (fun _ => 0))), (q4, .inl (ty 0, 300, .inl (fun _ => 0))), (q5, .inl (ty 0, 2048, .inl (fun _ => 0))), (q6, .inl (ty 0, 2048, .inl (fun _ => 0))), (q7, .inl (ty 0, 64, .inl (fun _ => 0))), (q8, .inl (ty 0, 8, .inl (fun _ => 0)))] := hD
  refine W.widen (k := 8) (n := 5343) (by omega) (by omega) ?_
  obtain ⟨a9, ha9⟩ : ∃ a9 : Nat → Nat, a9 = fun j => match j with
    | 20 => h0
    | 21 => q1
    | 22 => q2
    | 23 => q3
    | 24 => q4
    | 25 => q5
    | 26 => q6
    | 27 => q7
    | _ => q8 := ⟨_, rfl⟩
  have hP : va_P D CLS (wl (fun _ => a9) ty ccM hz) H := by rw [ha9]; exact hP
  have hD : va_D (AI h0 s.heap.size) (wl (fun _ => a9) ty ccM hz) := by rw [ha9]; exact hD
  have e20 : a9 20 = h0 := congrFun ha9 20
  clear ha9
  have hl : lv_has ls (mL mM_init) (([(0, vR 8 20)] : List (Nat × AV)).map (em (fun _ => a9))) := by
    show lv_has ls 1 [(0, .ref (a9 20))]
    rw [e20]
    exact hl
  have Y : CX p s m ([Value.ref h0] : List Value).toArray meth c D ty mM_init := ⟨hx, hb, hr, hml, hown, hts, hlocks, hK⟩
  have ok : OKC ccM (72, [(0, vR 8 20)], [], hz) := ⟨fun q hq => by cases List.mem_singleton.mp hq; exact List.mem_cons_self, fun v hv => by cases hv⟩
  refine runR clo_M kM_init Y 2 (72, [(0, vR 8 20)], [], hz) (76, [(0, vR 8 20)], [vR 8 21], hz) rfl ok hl hP hD hS (fun H locs ls ok hl hP hD hS => ?_)
  refine callR (d := 0) (as := [vR 8 21]) (rest := []) clo_M kM_init Y ok rfl t_M_empty21 (Nat.le_of_ble_eq_true rfl) (Nat.le_of_ble_eq_true rfl) (Nat.le_of_ble_eq_true rfl) (Nat.le_of_ble_eq_true rfl) hl hP hD hS (fun r h1 H locs q ok hP hD hS => ?_)
  obtain ⟨rfl, J1, J2⟩ := q
  have J : JM h1 emp := ⟨J1, J2⟩
  clear J1 J2
  refine runR clo_M kM_init Y 5 (79, [(0, vR 8 20)], [], h1) (86, [(0, vR 8 20)], [], hset h1 8 21 0 (nI 5)) (stps_add 4 1 0 mM_init _ (85, [(0, vR 8 20)], [vI (nI 5), vI (nI 0), vR 8 21], h1) _ rfl (stps_st rfl rfl (by decide) (by decide))) ok hl hP hD hS (fun H locs ls ok hl hP hD hS => ?_)
  have J := J.up (x := 0) (v := nI 5)
  generalize hset h1 8 21 0 (nI 5) = h2 at ok hP hD J ⊢
  refine runR clo_M kM_init Y 5 (86, [(0, vR 8 20)], [], h2) (93, [(0, vR 8 20)], [], hset h2 8 21 1 (nI 4)) (stps_add 4 1 0 mM_init _ (92, [(0, vR 8 20)], [vI (nI 4), vI (nI 1), vR 8 21], h2) _ rfl (stps_st rfl rfl (by decide) (by decide))) ok hl hP hD hS (fun H locs ls ok hl hP hD hS => ?_)
  have J := J.up (x := 1) (v := nI 4)
  generalize hset h2 8 21 1 (nI 4) = h3 at ok hP hD J ⊢
  refine runR clo_M kM_init Y 5 (93, [(0, vR 8 20)], [], h3) (100, [(0, vR 8 20)], [], hset h3 8 21 2 (nI 5)) (stps_add 4 1 0 mM_init _ (99, [(0, vR 8 20)], [vI (nI 5), vI (nI 2), vR 8 21], h3) _ rfl (stps_st rfl rfl (by decide) (by decide))) ok hl hP hD hS (fun H locs ls ok hl hP hD hS => ?_)
  have J := J.up (x := 2) (v := nI 5)
  generalize hset h3 8 21 2 (nI 5) = h4 at ok hP hD J ⊢
  refine runR clo_M kM_init Y 5 (100, [(0, vR 8 20)], [], h4) (107, [(0, vR 8 20)], [], hset h4 8 21 3 (nI 3)) (stps_add 4 1 0 mM_init _ (106, [(0, vR 8 20)], [vI (nI 3), vI (nI 3), vR 8 21], h4) _ rfl (stps_st rfl rfl (by decide) (by decide))) ok hl hP hD hS (fun H locs ls ok hl hP hD hS => ?_)
  have J := J.up (x := 3) (v := nI 3)
  generalize hset h4 8 21 3 (nI 3) = h5 at ok hP hD J ⊢
  refine runR clo_M kM_init Y 5 (107, [(0, vR 8 20)], [], h5) (115, [(0, vR 8 20)], [], hset h5 8 21 4 (nI 6)) (stps_add 4 1 0 mM_init _ (114, [(0, vR 8 20)], [vI (nI 6), vI (nI 4), vR 8 21], h5) _ rfl (stps_st rfl rfl (by decide) (by decide))) ok hl hP hD hS (fun H locs ls ok hl hP hD hS => ?_)
  have J := J.up (x := 4) (v := nI 6)
  generalize hset h5 8 21 4 (nI 6) = h6 at ok hP hD J ⊢
  refine runR clo_M kM_init Y 5 (115, [(0, vR 8 20)], [], h6) (122, [(0, vR 8 20)], [], hset h6 8 21 5 (nI 4)) (stps_add 4 1 0 mM_init _ (121, [(0, vR 8 20)], [vI (nI 4), vI (nI 5), vR 8 21], h6) _ rfl (stps_st rfl rfl (by decide) (by decide))) ok hl hP hD hS (fun H locs ls ok hl hP hD hS => ?_)
  have J := J.up (x := 5) (v := nI 4)
  generalize hset h6 8 21 5 (nI 4) = h7 at ok hP hD J ⊢
  refine runR clo_M kM_init Y 5 (122, [(0, vR 8 20)], [], h7) (131, [(0, vR 8 20)], [], hset h7 8 21 9 (nI 16)) (stps_add 4 1 0 mM_init _ (130, [(0, vR 8 20)], [vI (nI 16), vI (nI 9), vR 8 21], h7) _ rfl (stps_st rfl rfl (by decide) (by decide))) ok hl hP hD hS (fun H locs ls ok hl hP hD hS => ?_)
  have J := J.up (x := 9) (v := nI 16)
  generalize hset h7 8 21 9 (nI 16) = h8 at ok hP hD J ⊢
  refine runR clo_M kM_init Y 5 (131, [(0, vR 8 20)], [], h8) (139, [(0, vR 8 20)], [], hset h8 8 21 26 (nI 3)) (stps_add 4 1 0 mM_init _ (138, [(0, vR 8 20)], [vI (nI 3), vI (nI 26), vR 8 21], h8) _ rfl (stps_st rfl rfl (by decide) (by decide))) ok hl hP hD hS (fun H locs ls ok hl hP hD hS => ?_)
  have J := J.up (x := 26) (v := nI 3)
  generalize hset h8 8 21 26 (nI 3) = h9 at ok hP hD J ⊢
  refine runR clo_M kM_init Y 5 (139, [(0, vR 8 20)], [], h9) (147, [(0, vR 8 20)], [], hset h9 8 21 28 (nI 1)) (stps_add 4 1 0 mM_init _ (146, [(0, vR 8 20)], [vI (nI 1), vI (nI 28), vR 8 21], h9) _ rfl (stps_st rfl rfl (by decide) (by decide))) ok hl hP hD hS (fun H locs ls ok hl hP hD hS => ?_)
  have J := J.up (x := 28) (v := nI 1)
  generalize hset h9 8 21 28 (nI 1) = h10 at ok hP hD J ⊢
  refine runR clo_M kM_init Y 5 (147, [(0, vR 8 20)], [], h10) (155, [(0, vR 8 20)], [], hset h10 8 21 32 (nI 3)) (stps_add 4 1 0 mM_init _ (154, [(0, vR 8 20)], [vI (nI 3), vI (nI 32), vR 8 21], h10) _ rfl (stps_st rfl rfl (by decide) (by decide))) ok hl hP hD hS (fun H locs ls ok hl hP hD hS => ?_)
  have J := J.up (x := 32) (v := nI 3)
  generalize hset h10 8 21 32 (nI 3) = h11 at ok hP hD J ⊢
  refine runR clo_M kM_init Y 5 (155, [(0, vR 8 20)], [], h11) (163, [(0, vR 8 20)], [], hset h11 8 21 33 (nI 2)) (stps_add 4 1 0 mM_init _ (162, [(0, vR 8 20)], [vI (nI 2), vI (nI 33), vR 8 21], h11) _ rfl (stps_st rfl rfl (by decide) (by decide))) ok hl hP hD hS (fun H locs ls ok hl hP hD hS => ?_)
  have J := J.up (x := 33) (v := nI 2)
  generalize hset h11 8 21 33 (nI 2) = h12 at ok hP hD J ⊢
  refine runR clo_M kM_init Y 5 (163, [(0, vR 8 20)], [], h12) (171, [(0, vR 8 20)], [], hset h12 8 21 34 (nI 1)) (stps_add 4 1 0 mM_init _ (170, [(0, vR 8 20)], [vI (nI 1), vI (nI 34), vR 8 21], h12) _ rfl (stps_st rfl rfl (by decide) (by decide))) ok hl hP hD hS (fun H locs ls ok hl hP hD hS => ?_)
  have J := J.up (x := 34) (v := nI 1)
  generalize hset h12 8 21 34 (nI 1) = h13 at ok hP hD J ⊢
  refine runR clo_M kM_init Y 5 (171, [(0, vR 8 20)], [], h13) (179, [(0, vR 8 20)], [], hset h13 8 21 35 (nI 1)) (stps_add 4 1 0 mM_init _ (178, [(0, vR 8 20)], [vI (nI 1), vI (nI 35), vR 8 21], h13) _ rfl (stps_st rfl rfl (by decide) (by decide))) ok hl hP hD hS (fun H locs ls ok hl hP hD hS => ?_)
  have J := J.up (x := 35) (v := nI 1)
  generalize hset h13 8 21 35 (nI 1) = h14 at ok hP hD J ⊢
  refine runR clo_M kM_init Y 5 (179, [(0, vR 8 20)], [], h14) (187, [(0, vR 8 20)], [], hset h14 8 21 40 (nI 1)) (stps_add 4 1 0 mM_init _ (186, [(0, vR 8 20)], [vI (nI 1), vI (nI 40), vR 8 21], h14) _ rfl (stps_st rfl rfl (by decide) (by decide))) ok hl hP hD hS (fun H locs ls ok hl hP hD hS => ?_)
  have J := J.up (x := 40) (v := nI 1)
  generalize hset h14 8 21 40 (nI 1) = h15 at ok hP hD J ⊢
  refine runR clo_M kM_init Y 6 (187, [(0, vR 8 20)], [], h15) (195, [(0, vR 8 20)], [vI (nI 0), vI (nI 0), vI (nI 0), vI (nI 0), vR 8 21], h15) rfl ok hl hP hD hS (fun H locs ls ok hl hP hD hS => ?_)
  refine callR (d := 1) (as := [vR 8 21, vI (nI 0), vI (nI 0), vI (nI 0), vI (nI 0)]) (rest := []) clo_M kM_init Y ok rfl (t_M_part21 (a := 0) (b := 0) (by decide) (by decide)) (Nat.le_of_ble_eq_true rfl) (Nat.le_of_ble_eq_true rfl) (Nat.le_of_ble_eq_true rfl) (Nat.le_of_ble_eq_true rfl) hl hP hD hS (fun r h16 H locs q ok hP hD hS => ?_)
  obtain ⟨rfl, q⟩ := q
  have J := (J.up (x := 45 + 2 * (0 * 5 + 0)) (v := nI 0)).up (x := 46 + 2 * (0 * 5 + 0)) (v := nI 0)
  rw [← q] at J
  clear q
  refine runR clo_M kM_init Y 6 (198, [(0, vR 8 20)], [], h16) (206, [(0, vR 8 20)], [vI (nI 2), vI (nI 1), vI (nI 1), vI (nI 0), vR 8 21], h16) rfl ok hl hP hD hS (fun H locs ls ok hl hP hD hS => ?_)
  refine callR (d := 1) (as := [vR 8 21, vI (nI 0), vI (nI 1), vI (nI 1), vI (nI 2)]) (rest := []) clo_M kM_init Y ok rfl (t_M_part21 (a := 0) (b := 1) (by decide) (by decide)) (Nat.le_of_ble_eq_true rfl) (Nat.le_of_ble_eq_true rfl) (Nat.le_of_ble_eq_true rfl) (Nat.le_of_ble_eq_true rfl) hl hP hD hS (fun r h17 H locs q ok hP hD hS => ?_)
  obtain ⟨rfl, q⟩ := q
  have J := (J.up (x := 45 + 2 * (0 * 5 + 1)) (v := nI 1)).up (x := 46 + 2 * (0 * 5 + 1)) (v := nI 2)
  rw [← q] at J
  clear q
  refine runR clo_M kM_init Y 6 (209, [(0, vR 8 20)], [], h17) (217, [(0, vR 8 20)], [vI (nI 3), vI (nI 0), vI (nI 0), vI (nI 1), vR 8 21], h17) rfl ok hl hP hD hS (fun H locs ls ok hl hP hD hS => ?_)
  refine callR (d := 1) (as := [vR 8 21, vI (nI 1), vI (nI 0), vI (nI 0), vI (nI 3)]) (rest := []) clo_M kM_init Y ok rfl (t_M_part21 (a := 1) (b := 0) (by decide) (by decide)) (Nat.le_of_ble_eq_true rfl) (Nat.le_of_ble_eq_true rfl) (Nat.le_of_ble_eq_true rfl) (Nat.le_of_ble_eq_true rfl) hl hP hD hS (fun r h18 H locs q ok hP hD hS => ?_)
  obtain ⟨rfl, q⟩ := q
  have J := (J.up (x := 45 + 2 * (1 * 5 + 0)) (v := nI 0)).up (x := 46 + 2 * (1 * 5 + 0)) (v := nI 3)
  rw [← q] at J
  clear q
  refine runR clo_M kM_init Y 6 (220, [(0, vR 8 20)], [], h18) (228, [(0, vR 8 20)], [vI (nI 1), vI (nI 0), vI (nI 2), vI (nI 1), vR 8 21], h18) rfl ok hl hP hD hS (fun H locs ls ok hl hP hD hS => ?_)
  refine callR (d := 1) (as := [vR 8 21, vI (nI 1), vI (nI 2), vI (nI 0), vI (nI 1)]) (rest := []) clo_M kM_init Y ok rfl (t_M_part21 (a := 1) (b := 2) (by decide) (by decide)) (Nat.le_of_ble_eq_true rfl) (Nat.le_of_ble_eq_true rfl) (Nat.le_of_ble_eq_true rfl) (Nat.le_of_ble_eq_true rfl) hl hP hD hS (fun r h19 H locs q ok hP hD hS => ?_)
  obtain ⟨rfl, q⟩ := q
  have J := (J.up (x := 45 + 2 * (1 * 5 + 2)) (v := nI 0)).up (x := 46 + 2 * (1 * 5 + 2)) (v := nI 1)
  rw [← q] at J
  clear q
  refine runR clo_M kM_init Y 6 (231, [(0, vR 8 20)], [], h19) (239, [(0, vR 8 20)], [vI (nI 0), vI (nI 1), vI (nI 1), vI (nI 2), vR 8 21], h19) rfl ok hl hP hD hS (fun H locs ls ok hl hP hD hS => ?_)
  refine callR (d := 1) (as := [vR 8 21, vI (nI 2), vI (nI 1), vI (nI 1), vI (nI 0)]) (rest := []) clo_M kM_init Y ok rfl (t_M_part21 (a := 2) (b := 1) (by decide) (by decide)) (Nat.le_of_ble_eq_true rfl) (Nat.le_of_ble_eq_true rfl) (Nat.le_of_ble_eq_true rfl) (Nat.le_of_ble_eq_true rfl) hl hP hD hS (fun r h20 H locs q ok hP hD hS => ?_)
  obtain ⟨rfl, q⟩ := q
  have J := (J.up (x := 45 + 2 * (2 * 5 + 1)) (v := nI 1)).up (x := 46 + 2 * (2 * 5 + 1)) (v := nI 0)
  rw [← q] at J
  clear q
  refine runR clo_M kM_init Y 6 (242, [(0, vR 8 20)], [], h20) (250, [(0, vR 8 20)], [vI (nI 0), vI (nI 2), vI (nI 2), vI (nI 2), vR 8 21], h20) rfl ok hl hP hD hS (fun H locs ls ok hl hP hD hS => ?_)
  refine callR (d := 1) (as := [vR 8 21, vI (nI 2), vI (nI 2), vI (nI 2), vI (nI 0)]) (rest := []) clo_M kM_init Y ok rfl (t_M_part21 (a := 2) (b := 2) (by decide) (by decide)) (Nat.le_of_ble_eq_true rfl) (Nat.le_of_ble_eq_true rfl) (Nat.le_of_ble_eq_true rfl) (Nat.le_of_ble_eq_true rfl) hl hP hD hS (fun r h21 H locs q ok hP hD hS => ?_)
  obtain ⟨rfl, q⟩ := q
  have J := (J.up (x := 45 + 2 * (2 * 5 + 2)) (v := nI 2)).up (x := 46 + 2 * (2 * 5 + 2)) (v := nI 0)
  rw [← q] at J
  clear q
  refine runR clo_M kM_init Y 6 (253, [(0, vR 8 20)], [], h21) (261, [(0, vR 8 20)], [vI (nI 0), vI (nI 2), vI (nI 0), vI (nI 3), vR 8 21], h21) rfl ok hl hP hD hS (fun H locs ls ok hl hP hD hS => ?_)
  refine callR (d := 1) (as := [vR 8 21, vI (nI 3), vI (nI 0), vI (nI 2), vI (nI 0)]) (rest := []) clo_M kM_init Y ok rfl (t_M_part21 (a := 3) (b := 0) (by decide) (by decide)) (Nat.le_of_ble_eq_true rfl) (Nat.le_of_ble_eq_true rfl) (Nat.le_of_ble_eq_true rfl) (Nat.le_of_ble_eq_true rfl) hl hP hD hS (fun r h22 H locs q ok hP hD hS => ?_)
  obtain ⟨rfl, q⟩ := q
  have J := (J.up (x := 45 + 2 * (3 * 5 + 0)) (v := nI 2)).up (x := 46 + 2 * (3 * 5 + 0)) (v := nI 0)
  rw [← q] at J
  clear q
  refine runR clo_M kM_init Y 6 (264, [(0, vR 8 20)], [], h22) (272, [(0, vR 8 20)], [vI (nI 0), vI (nI 0), vI (nI 1), vI (nI 3), vR 8 21], h22) rfl ok hl hP hD hS (fun H locs ls ok hl hP hD hS => ?_)
  refine callR (d := 1) (as := [vR 8 21, vI (nI 3), vI (nI 1), vI (nI 0), vI (nI 0)]) (rest := []) clo_M kM_init Y ok rfl (t_M_part21 (a := 3) (b := 1) (by decide) (by decide)) (Nat.le_of_ble_eq_true rfl) (Nat.le_of_ble_eq_true rfl) (Nat.le_of_ble_eq_true rfl) (Nat.le_of_ble_eq_true rfl) hl hP hD hS (fun r h23 H locs q ok hP hD hS => ?_)
  obtain ⟨rfl, q⟩ := q
  have J := (J.up (x := 45 + 2 * (3 * 5 + 1)) (v := nI 0)).up (x := 46 + 2 * (3 * 5 + 1)) (v := nI 0)
  rw [← q] at J
  clear q
  refine runR clo_M kM_init Y 6 (275, [(0, vR 8 20)], [], h23) (283, [(0, vR 8 20)], [vI (nI 0), vI (nI 0), vI (nI 0), vI (nI 4), vR 8 21], h23) rfl ok hl hP hD hS (fun H locs ls ok hl hP hD hS => ?_)
  refine callR (d := 1) (as := [vR 8 21, vI (nI 4), vI (nI 0), vI (nI 0), vI (nI 0)]) (rest := []) clo_M kM_init Y ok rfl (t_M_part21 (a := 4) (b := 0) (by decide) (by decide)) (Nat.le_of_ble_eq_true rfl) (Nat.le_of_ble_eq_true rfl) (Nat.le_of_ble_eq_true rfl) (Nat.le_of_ble_eq_true rfl) hl hP hD hS (fun r h24 H locs q ok hP hD hS => ?_)
  obtain ⟨rfl, q⟩ := q
  have J := (J.up (x := 45 + 2 * (4 * 5 + 0)) (v := nI 0)).up (x := 46 + 2 * (4 * 5 + 0)) (v := nI 0)
  rw [← q] at J
  clear q
  refine runR clo_M kM_init Y 6 (286, [(0, vR 8 20)], [], h24) (294, [(0, vR 8 20)], [vI (nI 2), vI (nI 1), vI (nI 1), vI (nI 4), vR 8 21], h24) rfl ok hl hP hD hS (fun H locs ls ok hl hP hD hS => ?_)
  refine callR (d := 1) (as := [vR 8 21, vI (nI 4), vI (nI 1), vI (nI 1), vI (nI 2)]) (rest := []) clo_M kM_init Y ok rfl (t_M_part21 (a := 4) (b := 1) (by decide) (by decide)) (Nat.le_of_ble_eq_true rfl) (Nat.le_of_ble_eq_true rfl) (Nat.le_of_ble_eq_true rfl) (Nat.le_of_ble_eq_true rfl) hl hP hD hS (fun r h25 H locs q ok hP hD hS => ?_)
  obtain ⟨rfl, q⟩ := q
  have J := (J.up (x := 45 + 2 * (4 * 5 + 1)) (v := nI 1)).up (x := 46 + 2 * (4 * 5 + 1)) (v := nI 2)
  rw [← q] at J
  clear q
  refine runR clo_M kM_init Y 6 (297, [(0, vR 8 20)], [], h25) (305, [(0, vR 8 20)], [vI (nI 4), vI (nI 0), vI (nI 2), vI (nI 4), vR 8 21], h25) rfl ok hl hP hD hS (fun H locs ls ok hl hP hD hS => ?_)
  refine callR (d := 1) (as := [vR 8 21, vI (nI 4), vI (nI 2), vI (nI 0), vI (nI 4)]) (rest := []) clo_M kM_init Y ok rfl (t_M_part21 (a := 4) (b := 2) (by decide) (by decide)) (Nat.le_of_ble_eq_true rfl) (Nat.le_of_ble_eq_true rfl) (Nat.le_of_ble_eq_true rfl) (Nat.le_of_ble_eq_true rfl) hl hP hD hS (fun r h26 H locs q ok hP hD hS => ?_)
  obtain ⟨rfl, q⟩ := q
  have J := (J.up (x := 45 + 2 * (4 * 5 + 2)) (v := nI 0)).up (x := 46 + 2 * (4 * 5 + 2)) (v := nI 4)
  rw [← q] at J
  clear q
  have J : JM h26 rwM := J
  have I : MI h26 A0 := by
    refine ⟨fun i hi => by rw [J.1 i hi]; exact rwM_ok i hi, ⟨by rw [J.2 8 20 (by omega)]; rfl, fun j z hj => by cases hj⟩, by rw [J.2 8 20 (by omega)]; rfl, Nat.zero_le _, fun j hj => absurd hj (Nat.not_lt_zero _)⟩
  exact W.vret hx hb hr (fun t ht hW => ⟨⟨(a9, h26), rfl, ⟨e20, I⟩, by rw [ht]; exact hP, va_K.moved hW.alike hK, hD⟩, hS.F ht⟩) hS.2.2 dI5_308 hlocks
