/-! the text of the first concert: String's own methods -/
def chF : Nat → Nat := fun j => ([115, 52, 59, 115, 53, 59, 115, 51, 59, 115, 54, 59, 115, 52, 59, 112, 48, 59, 112, 49, 59, 112, 48, 59, 107, 50, 44, 48, 59, 107, 49, 44, 49, 59, 107, 49, 44, 48, 59, 117, 48, 44, 48, 44, 48, 44, 48, 59, 117, 48, 44, 49, 44, 49, 44, 50, 59, 117, 49, 44, 48, 44, 48, 44, 51, 59, 117, 49, 44, 50, 44, 48, 44, 49, 59, 117, 50, 44, 49, 44, 49, 44, 48, 59, 117, 50, 44, 50, 44, 50, 44, 48, 59, 117, 51, 44, 48, 44, 50, 44, 48, 59, 117, 51, 44, 49, 44, 48, 44, 48, 59, 117, 52, 44, 48, 44, 48, 44, 48, 59, 117, 52, 44, 49, 44, 49, 44, 50, 59, 117, 52, 44, 50, 44, 48, 44, 52, 59, 101, 52, 59] : List Nat).getD j 0
def bF (j : Nat) : Int32 := nI (chF j)
def RJ0 : String := "java/lang/String"
def RJ1 : String := "java/lang/StringLatin1"
def RJ3 : String := "jdk/internal/util/Preconditions"
def NoA : Nat → Prop := fun _ => False
def SP (k v : Nat) (U : State) : Prop := va_Z RJ0 "COMPACT_STRINGS" "Z" (.int 1) NoA U U.heap ∧ va_OF RJ0 "coder" "B" (.int 0) k NoA U U.heap ∧ va_OF RJ0 "value" "[B" (.ref v) k NoA U U.heap ∧ va_T .byte v 141 (fun j => .int (bF j)) NoA U U.heap ∧ va_O RJ0 k NoA U U.heap ∧ va_Zq RJ3 "SIOOBE_FORMATTER" "Ljava/util/function/BiFunction;" NoA U U.heap
theorem SP.to {k v : Nat} {s U : State} (h : SP k v s) (hv : s.vm.Alike U.vm) (hH : U.heap = s.heap) : SP k v U := by
  obtain ⟨a, b, c, d, e, f⟩ := h
  refine ⟨?_, ?_, ?_, ?_, ?_, ?_⟩ <;> rw [hH]
  · exact va_Z.moved hv a
  · exact va_OF.moved hv b
  · exact va_OF.moved hv c
  · exact va_T.moved hv d
  · exact va_O.moved hv e
  · exact va_Zq.moved hv f
def QJ (P : Int32 → Prop) : Array Value → State → Outcome → State → Prop := va_Qi (S := Unit) (fun r _ => P r) (fun _ _ => True) NoA
def rJ (f n : Nat) : Room := { frames := f, cells := 0, slots := 0, locals := n }
theorem cbJ {R rm : Room} {s : State} {args : Array Value} {own : String} {idx n maxL : Nat} {y : MethodName} {bytes : ByteArray} {ret : Option FieldType} (hts : ∀ w ∈ gT, w.before args s = true) (hcd : Cond.code y bytes maxL ret ∈ gT) (hini : Cond.initialized y.cls ∈ gT) (hl : Cond.methodLink own idx y ∈ gT) (hc : y.cls ≠ "java/lang/invoke/MethodHandle" ∧ y.cls ≠ "java/lang/invoke/VarHandle") (hn : (parseMethodDescriptor y.desc).map (fun d => d.parameters.length) = some n) (h1 : rm.frames + 1 ≤ R.frames) (h2 : 8 + (maxL + 11) + rm.locals ≤ R.locals) : CallB R s args own idx y bytes maxL ret (.code y bytes maxL ret :: gT) rm rm.cells rm.slots n :=
  ⟨rfl, rfl, h1, h2, pay_in hts (goodI hcd), List.mem_cons_self, hts _ hcd, hts _ hini, hc, fun sig h => by rw [h] at hn; exact (Option.some.inj hn).symm, hts _ hl⟩
def yJ_coder : MethodName := ⟨RJ0, "coder", "()B"⟩
theorem dJ_coder_0 : decode prog_10_method_152_code 0 = .ok (.getstatic 38, 3) := by decide +kernel
theorem dJ_coder_3 : decode prog_10_method_152_code 3 = .ok (.ifCond .eq 10, 3) := by decide +kernel
theorem dJ_coder_6 : decode prog_10_method_152_code 6 = .ok (.aload_n 0, 1) := by decide +kernel
theorem dJ_coder_7 : decode prog_10_method_152_code 7 = .ok (.getfield 15, 3) := by decide +kernel
theorem dJ_coder_10 : decode prog_10_method_152_code 10 = .ok (.goto 4, 3) := by decide +kernel
theorem dJ_coder_13 : decode prog_10_method_152_code 13 = .ok (.iconst 1, 1) := by decide +kernel
theorem dJ_coder_14 : decode prog_10_method_152_code 14 = .ok (.ireturn, 1) := by decide +kernel
theorem wJ_coder : Cond.code yJ_coder prog_10_method_152_code 1 (some .byte) ∈ gT := gT_in (i := 175) (by decide +kernel) rfl
def yJ_isLatin1 : MethodName := ⟨RJ0, "isLatin1", "()Z"⟩
theorem dJ_isLatin1_0 : decode prog_10_method_154_code 0 = .ok (.getstatic 38, 3) := by decide +kernel
theorem dJ_isLatin1_3 : decode prog_10_method_154_code 3 = .ok (.ifCond .eq 14, 3) := by decide +kernel
theorem dJ_isLatin1_6 : decode prog_10_method_154_code 6 = .ok (.aload_n 0, 1) := by decide +kernel
theorem dJ_isLatin1_7 : decode prog_10_method_154_code 7 = .ok (.getfield 15, 3) := by decide +kernel
theorem dJ_isLatin1_10 : decode prog_10_method_154_code 10 = .ok (.ifCond .ne 7, 3) := by decide +kernel
theorem dJ_isLatin1_13 : decode prog_10_method_154_code 13 = .ok (.iconst 1, 1) := by decide +kernel
theorem dJ_isLatin1_14 : decode prog_10_method_154_code 14 = .ok (.goto 4, 3) := by decide +kernel
theorem dJ_isLatin1_17 : decode prog_10_method_154_code 17 = .ok (.iconst 0, 1) := by decide +kernel
theorem dJ_isLatin1_18 : decode prog_10_method_154_code 18 = .ok (.ireturn, 1) := by decide +kernel
theorem wJ_isLatin1 : Cond.code yJ_isLatin1 prog_10_method_154_code 1 (some .boolean) ∈ gT := gT_in (i := 185) (by decide +kernel) rfl
def yJ_length : MethodName := ⟨RJ0, "length", "()I"⟩
theorem dJ_length_0 : decode prog_10_method_54_code 0 = .ok (.aload_n 0, 1) := by decide +kernel
theorem dJ_length_1 : decode prog_10_method_54_code 1 = .ok (.getfield 9, 3) := by decide +kernel
theorem dJ_length_4 : decode prog_10_method_54_code 4 = .ok (.arraylength, 1) := by decide +kernel
theorem dJ_length_5 : decode prog_10_method_54_code 5 = .ok (.aload_n 0, 1) := by decide +kernel
theorem dJ_length_6 : decode prog_10_method_54_code 6 = .ok (.invokevirtual 335, 3) := by decide +kernel
theorem dJ_length_9 : decode prog_10_method_54_code 9 = .ok (.ishr, 1) := by decide +kernel
theorem dJ_length_10 : decode prog_10_method_54_code 10 = .ok (.ireturn, 1) := by decide +kernel
theorem wJ_length : Cond.code yJ_length prog_10_method_54_code 1 (some .int) ∈ gT := gT_in (i := 171) (by decide +kernel) rfl
def yJ_charAt : MethodName := ⟨RJ0, "charAt", "(I)C"⟩
theorem dJ_charAt_0 : decode prog_10_method_56_code 0 = .ok (.aload_n 0, 1) := by decide +kernel
theorem dJ_charAt_1 : decode prog_10_method_56_code 1 = .ok (.invokevirtual 492, 3) := by decide +kernel
theorem dJ_charAt_4 : decode prog_10_method_56_code 4 = .ok (.ifCond .eq 12, 3) := by decide +kernel
theorem dJ_charAt_7 : decode prog_10_method_56_code 7 = .ok (.aload_n 0, 1) := by decide +kernel
theorem dJ_charAt_8 : decode prog_10_method_56_code 8 = .ok (.getfield 9, 3) := by decide +kernel
theorem dJ_charAt_11 : decode prog_10_method_56_code 11 = .ok (.iload_n 1, 1) := by decide +kernel
theorem dJ_charAt_12 : decode prog_10_method_56_code 12 = .ok (.invokestatic 495, 3) := by decide +kernel
theorem dJ_charAt_15 : decode prog_10_method_56_code 15 = .ok (.ireturn, 1) := by decide +kernel
theorem dJ_charAt_16 : decode prog_10_method_56_code 16 = .ok (.aload_n 0, 1) := by decide +kernel
theorem dJ_charAt_17 : decode prog_10_method_56_code 17 = .ok (.getfield 9, 3) := by decide +kernel
theorem dJ_charAt_20 : decode prog_10_method_56_code 20 = .ok (.iload_n 1, 1) := by decide +kernel
theorem dJ_charAt_21 : decode prog_10_method_56_code 21 = .ok (.invokestatic 498, 3) := by decide +kernel
theorem dJ_charAt_24 : decode prog_10_method_56_code 24 = .ok (.ireturn, 1) := by decide +kernel
theorem wJ_charAt : Cond.code yJ_charAt prog_10_method_56_code 2 (some .char) ∈ gT := gT_in (i := 181) (by decide +kernel) rfl
def yJ_lat : MethodName := ⟨RJ1, "charAt", "([BI)C"⟩
theorem dJ_lat_0 : decode prog_11_method_2_code 0 = .ok (.iload_n 1, 1) := by decide +kernel
theorem dJ_lat_1 : decode prog_11_method_2_code 1 = .ok (.aload_n 0, 1) := by decide +kernel
theorem dJ_lat_2 : decode prog_11_method_2_code 2 = .ok (.arraylength, 1) := by decide +kernel
theorem dJ_lat_3 : decode prog_11_method_2_code 3 = .ok (.invokestatic 9, 3) := by decide +kernel
theorem dJ_lat_6 : decode prog_11_method_2_code 6 = .ok (.aload_n 0, 1) := by decide +kernel
theorem dJ_lat_7 : decode prog_11_method_2_code 7 = .ok (.iload_n 1, 1) := by decide +kernel
theorem dJ_lat_8 : decode prog_11_method_2_code 8 = .ok (.baload, 1) := by decide +kernel
theorem dJ_lat_9 : decode prog_11_method_2_code 9 = .ok (.sipush 255, 3) := by decide +kernel
theorem dJ_lat_12 : decode prog_11_method_2_code 12 = .ok (.iand, 1) := by decide +kernel
theorem dJ_lat_13 : decode prog_11_method_2_code 13 = .ok (.i2c, 1) := by decide +kernel
theorem dJ_lat_14 : decode prog_11_method_2_code 14 = .ok (.ireturn, 1) := by decide +kernel
theorem wJ_lat : Cond.code yJ_lat prog_11_method_2_code 2 (some .char) ∈ gT := gT_in (i := 188) (by decide +kernel) rfl
def yJ_chk : MethodName := ⟨RJ0, "checkIndex", "(II)V"⟩
theorem dJ_chk_0 : decode prog_10_method_155_code 0 = .ok (.iload_n 0, 1) := by decide +kernel
theorem dJ_chk_1 : decode prog_10_method_155_code 1 = .ok (.iload_n 1, 1) := by decide +kernel
theorem dJ_chk_2 : decode prog_10_method_155_code 2 = .ok (.getstatic 1053, 3) := by decide +kernel
theorem dJ_chk_5 : decode prog_10_method_155_code 5 = .ok (.invokestatic 1059, 3) := by decide +kernel
theorem dJ_chk_8 : decode prog_10_method_155_code 8 = .ok (.pop, 1) := by decide +kernel
theorem dJ_chk_9 : decode prog_10_method_155_code 9 = .ok (.return_, 1) := by decide +kernel
theorem wJ_chk : Cond.code yJ_chk prog_10_method_155_code 2 none ∈ gT := gT_in (i := 191) (by decide +kernel) rfl
def yJ_pre : MethodName := ⟨RJ3, "checkIndex", "(IILjava/util/function/BiFunction;)I"⟩
theorem dJ_pre_0 : decode prog_14_method_11_code 0 = .ok (.iload_n 0, 1) := by decide +kernel
theorem dJ_pre_1 : decode prog_14_method_11_code 1 = .ok (.ifCond .lt 8, 3) := by decide +kernel
theorem dJ_pre_4 : decode prog_14_method_11_code 4 = .ok (.iload_n 0, 1) := by decide +kernel
theorem dJ_pre_5 : decode prog_14_method_11_code 5 = .ok (.iload_n 1, 1) := by decide +kernel
theorem dJ_pre_6 : decode prog_14_method_11_code 6 = .ok (.if_icmp .lt 10, 3) := by decide +kernel
theorem dJ_pre_9 : decode prog_14_method_11_code 9 = .ok (.aload_n 2, 1) := by decide +kernel
theorem dJ_pre_10 : decode prog_14_method_11_code 10 = .ok (.iload_n 0, 1) := by decide +kernel
theorem dJ_pre_11 : decode prog_14_method_11_code 11 = .ok (.iload_n 1, 1) := by decide +kernel
theorem dJ_pre_12 : decode prog_14_method_11_code 12 = .ok (.invokestatic 95, 3) := by decide +kernel
theorem dJ_pre_15 : decode prog_14_method_11_code 15 = .ok (.athrow, 1) := by decide +kernel
theorem dJ_pre_16 : decode prog_14_method_11_code 16 = .ok (.iload_n 0, 1) := by decide +kernel
theorem dJ_pre_17 : decode prog_14_method_11_code 17 = .ok (.ireturn, 1) := by decide +kernel
theorem wJ_pre : Cond.code yJ_pre prog_14_method_11_code 3 (some .int) ∈ gT := gT_in (i := 196) (by decide +kernel) rfl
theorem iJ_coder : Cond.instanceMethod yJ_coder ∈ gT := gT_in (i := 173) (by decide +kernel) rfl
theorem sJ_coder : Cond.selects RJ0 yJ_coder yJ_coder ∈ gT := gT_in (i := 174) (by decide +kernel) rfl
theorem iJ_isLatin1 : Cond.instanceMethod yJ_isLatin1 ∈ gT := gT_in (i := 183) (by decide +kernel) rfl
theorem sJ_isLatin1 : Cond.selects RJ0 yJ_isLatin1 yJ_isLatin1 ∈ gT := gT_in (i := 184) (by decide +kernel) rfl
theorem iJ_length : Cond.instanceMethod yJ_length ∈ gT := gT_in (i := 169) (by decide +kernel) rfl
theorem sJ_length : Cond.selects RJ0 yJ_length yJ_length ∈ gT := gT_in (i := 170) (by decide +kernel) rfl
theorem iJ_charAt : Cond.instanceMethod yJ_charAt ∈ gT := gT_in (i := 179) (by decide +kernel) rfl
theorem sJ_charAt : Cond.selects RJ0 yJ_charAt yJ_charAt ∈ gT := gT_in (i := 180) (by decide +kernel) rfl
theorem tJ_lat : Cond.static yJ_lat ∈ gT := gT_in (i := 187) (by decide +kernel) rfl
theorem tJ_chk : Cond.static yJ_chk ∈ gT := gT_in (i := 190) (by decide +kernel) rfl
theorem tJ_pre : Cond.static yJ_pre ∈ gT := gT_in (i := 195) (by decide +kernel) rfl
theorem nJ_RJ0 : Cond.initialized RJ0 ∈ gT := gT_in (i := 37) (by decide +kernel) rfl
theorem nJ_RJ1 : Cond.initialized RJ1 ∈ gT := gT_in (i := 38) (by decide +kernel) rfl
theorem nJ_RJ3 : Cond.initialized RJ3 ∈ gT := gT_in (i := 39) (by decide +kernel) rfl
theorem lJ_RJ0_335 : Cond.methodLink RJ0 335 yJ_coder ∈ gT := gT_in (i := 172) (by decide +kernel) rfl
theorem lJ_RJ0_492 : Cond.methodLink RJ0 492 yJ_isLatin1 ∈ gT := gT_in (i := 182) (by decide +kernel) rfl
theorem lJ_RJ0_495 : Cond.methodLink RJ0 495 yJ_lat ∈ gT := gT_in (i := 186) (by decide +kernel) rfl
theorem lJ_RJ1_9 : Cond.methodLink RJ1 9 yJ_chk ∈ gT := gT_in (i := 189) (by decide +kernel) rfl
theorem lJ_RJ0_1059 : Cond.methodLink RJ0 1059 yJ_pre ∈ gT := gT_in (i := 194) (by decide +kernel) rfl
theorem lJ_RX4_46 : Cond.methodLink RX4 46 yJ_length ∈ gT := gT_in (i := 168) (by decide +kernel) rfl
theorem lJ_RX4_52 : Cond.methodLink RX4 52 yJ_charAt ∈ gT := gT_in (i := 178) (by decide +kernel) rfl
theorem fJ_38 : Cond.fieldLink RJ0 38 RJ0 "COMPACT_STRINGS" "Z" ∈ gT := gT_in (i := 176) (by decide +kernel) rfl
theorem fJ_15 : Cond.fieldLink RJ0 15 RJ0 "coder" "B" ∈ gT := gT_in (i := 880) (by decide +kernel) rfl
theorem fJ_9 : Cond.fieldLink RJ0 9 RJ0 "value" "[B" ∈ gT := gT_in (i := 879) (by decide +kernel) rfl
theorem fJ_1053 : Cond.fieldLink RJ0 1053 RJ3 "SIOOBE_FORMATTER" "Ljava/util/function/BiFunction;" ∈ gT := gT_in (i := 192) (by decide +kernel) rfl
set_option maxHeartbeats 1000000 in
set_option maxRecDepth 100000 in
theorem j_coder (l : Launch) (k v : Nat) : Met l yJ_coder (.code yJ_coder prog_10_method_152_code 1 (some .byte) :: gT) (rJ 0 0) (va_Pc [.ref k] (fun U => SP k v U)) (QJ (fun r => r = 0)) 0 0 NoA := by
  refine Met.ofW (cc := prog_10_method_152_code) (maxL := 1) (ret := (some .byte)) (ws' := gT) (by decide +kernel) rfl ?_
  intro p e s m args below meth c s₁ B hml hv
  obtain ⟨rfl, hv⟩ := hv
  have hts0 := atoms_spec (ws := .code yJ_coder prog_10_method_152_code 1 (some .byte) :: gT) B.pre
  have hown : s.vm.findClass RJ0 = some m.cls := findClass_of_methodNamed B.named
  have hx := B.exec
  have hb := B.bytes
  have hr := B.returns
  have hlocks := B.notSynchronized
  have hts : ∀ w ∈ gT, w.before ([.ref k] : List Value).toArray s = true := fun w h9 => hts0 w (List.mem_cons_of_mem _ h9)
  have hS : va_S NoA s.heap s.heap [] := va_S.rf
  have hl := lv_entry ([.ref k]) (n := 1) (Nat.le_of_ble_eq_true rfl)
  rw [lg_entry_eq]
  generalize (lg_sl ([.ref k]) ++ List.replicate (1 - (lg_sl ([.ref k])).length) Slot.unset).toArray = ls at hl ⊢
  have hl : lv_has ls 1 [(0, .ref k)] := hl
  refine va_gets hx hb hv.1 hS hown (hts _ fJ_38) (fun x h => h) dJ_coder_0 ?_
  refine lv_if_eq (tgt := 13) hx hb dJ_coder_3 (by decide) (fun q => absurd q (by decide)) (fun _ => ?_)
  refine lv_aload_n hx hb dJ_coder_6 rfl (lv_at hl 0 rfl) ?_
  refine vk_getf hx hb hv.2.1 hS hown (hts _ fJ_15) (fun x h => h) dJ_coder_7 ?_
  refine lv_goto (tgt := 14) hx hb dJ_coder_10 (by decide) ?_
  exact W.zret hx hb hr rfl (fun t ht hW => ⟨⟨_, (), rfl, rfl, trivial⟩, hS.F ht⟩) hS.2.2 dJ_coder_14 hlocks
set_option maxHeartbeats 1000000 in
set_option maxRecDepth 100000 in
theorem j_isLatin1 (l : Launch) (k v : Nat) : Met l yJ_isLatin1 (.code yJ_isLatin1 prog_10_method_154_code 1 (some .boolean) :: gT) (rJ 0 0) (va_Pc [.ref k] (fun U => SP k v U)) (QJ (fun r => r = 1)) 0 0 NoA := by
  refine Met.ofW (cc := prog_10_method_154_code) (maxL := 1) (ret := (some .boolean)) (ws' := gT) (by decide +kernel) rfl ?_
  intro p e s m args below meth c s₁ B hml hv
  obtain ⟨rfl, hv⟩ := hv
  have hts0 := atoms_spec (ws := .code yJ_isLatin1 prog_10_method_154_code 1 (some .boolean) :: gT) B.pre
  have hown : s.vm.findClass RJ0 = some m.cls := findClass_of_methodNamed B.named
  have hx := B.exec
  have hb := B.bytes
  have hr := B.returns
  have hlocks := B.notSynchronized
  have hts : ∀ w ∈ gT, w.before ([.ref k] : List Value).toArray s = true := fun w h9 => hts0 w (List.mem_cons_of_mem _ h9)
  have hS : va_S NoA s.heap s.heap [] := va_S.rf
  have hl := lv_entry ([.ref k]) (n := 1) (Nat.le_of_ble_eq_true rfl)
  rw [lg_entry_eq]
  generalize (lg_sl ([.ref k]) ++ List.replicate (1 - (lg_sl ([.ref k])).length) Slot.unset).toArray = ls at hl ⊢
  have hl : lv_has ls 1 [(0, .ref k)] := hl
  refine va_gets hx hb hv.1 hS hown (hts _ fJ_38) (fun x h => h) dJ_isLatin1_0 ?_
  refine lv_if_eq (tgt := 17) hx hb dJ_isLatin1_3 (by decide) (fun q => absurd q (by decide)) (fun _ => ?_)
  refine lv_aload_n hx hb dJ_isLatin1_6 rfl (lv_at hl 0 rfl) ?_
  refine vk_getf hx hb hv.2.1 hS hown (hts _ fJ_15) (fun x h => h) dJ_isLatin1_7 ?_
  refine lv_if_ne (tgt := 17) hx hb dJ_isLatin1_10 (by decide) (fun q => absurd rfl q) (fun _ => ?_)
  refine lv_iconst (v := 1) hx hb dJ_isLatin1_13 (by decide) ?_
  refine lv_goto (tgt := 18) hx hb dJ_isLatin1_14 (by decide) ?_
  exact W.zret hx hb hr rfl (fun t ht hW => ⟨⟨_, (), rfl, rfl, trivial⟩, hS.F ht⟩) hS.2.2 dJ_isLatin1_18 hlocks
set_option maxHeartbeats 1000000 in
set_option maxRecDepth 100000 in
theorem j_length (l : Launch) (k v : Nat) : Met l yJ_length (.code yJ_length prog_10_method_54_code 1 (some .int) :: gT) (rJ 1 20) (va_Pc [.ref k] (fun U => SP k v U)) (QJ (fun r => r = nI 141)) 0 0 NoA := by
  refine Met.ofW (cc := prog_10_method_54_code) (maxL := 1) (ret := (some .int)) (ws' := gT) (by decide +kernel) rfl ?_
  intro p e s m args below meth c s₁ B hml hv
  obtain ⟨rfl, hv⟩ := hv
  have hts0 := atoms_spec (ws := .code yJ_length prog_10_method_54_code 1 (some .int) :: gT) B.pre
  have hown : s.vm.findClass RJ0 = some m.cls := findClass_of_methodNamed B.named
  have hx := B.exec
  have hb := B.bytes
  have hr := B.returns
  have hlocks := B.notSynchronized
  have hts : ∀ w ∈ gT, w.before ([.ref k] : List Value).toArray s = true := fun w h9 => hts0 w (List.mem_cons_of_mem _ h9)
  have hS : va_S NoA s.heap s.heap [] := va_S.rf
  have hl := lv_entry ([.ref k]) (n := 1) (Nat.le_of_ble_eq_true rfl)
  rw [lg_entry_eq]
  generalize (lg_sl ([.ref k]) ++ List.replicate (1 - (lg_sl ([.ref k])).length) Slot.unset).toArray = ls at hl ⊢
  have hl : lv_has ls 1 [(0, .ref k)] := hl
  refine lv_aload_n hx hb dJ_length_0 rfl (lv_at hl 0 rfl) ?_
  refine vk_getf hx hb hv.2.2.1 hS hown (hts _ fJ_9) (fun x h => h) dJ_length_1 ?_
  refine va_tlen (v := nI 141) hx hb hv.2.2.2.1 hS rfl dJ_length_4 ?_
  refine lv_aload_n hx hb dJ_length_5 rfl (lv_at hl 0 rfl) ?_
  refine va_calli (A1 := NoA) (va_runV (As := []) (rest := [.int (nI 141)]) (C := RJ0) ⟨hx, hb, hml, hown, hts⟩ (j_coder l k v) ⟨cbJ hts wJ_coder nJ_RJ0 lJ_RJ0_335 (by decide +kernel) (by decide +kernel) (Nat.le_of_ble_eq_true rfl) (Nat.le_of_ble_eq_true rfl), hts _ iJ_coder, hts _ sJ_coder⟩ ⟨fun a U g mk z => ⟨z.1, z.2.to (U := U.calling g mk a) (Vm.Alike.refl U.vm) rfl⟩, (by obtain ⟨cell, g1, g2, g3, -⟩ := hv.2.2.2.2.1; exact ⟨cell, g1, g2, g3⟩), fun U hU hW => ⟨rfl, hv.to hW.alike hU⟩⟩ rfl rfl hl.1 rfl (lv_room (Nat.le_of_ble_eq_true rfl)) dJ_length_6 ⟨Nat.le_of_ble_eq_true rfl, Nat.le_of_ble_eq_true rfl⟩) hS (fun _ _ h => h.elim) (fun _ h => h.elim) (fun r u t H1 locs1 ht hvm hw hB hz1 hk1 hS => ?_)
  cases hw
  refine lv_ishr hx hb dJ_length_9 ?_
  exact W.iret hx hb hr (fun t ht hW => ⟨⟨_, (), rfl, by decide, trivial⟩, hS.F ht⟩) hS.2.2 dJ_length_10 hlocks
set_option maxHeartbeats 1000000 in
set_option maxRecDepth 100000 in
theorem j_pre (l : Launch) (i n : Nat) (v : Value) (hv : v = .null ∨ ∃ t, v = .ref t) (hin : i < n) (hn : n < 1000) : Met l yJ_pre (.code yJ_pre prog_14_method_11_code 3 (some .int) :: gT) (rJ 0 0) (va_Pc [.int (nI i), .int (nI n), v] (fun _ => True)) (QJ (fun _ => True)) 0 0 NoA := by
  refine Met.ofW (cc := prog_14_method_11_code) (maxL := 3) (ret := some .int) (ws' := gT) (by decide +kernel) rfl ?_
  intro p e s m args below meth c s₁ B hml hv9
  obtain ⟨rfl, -⟩ := hv9
  have hx := B.exec
  have hb := B.bytes
  have hr := B.returns
  have hlocks := B.notSynchronized
  have hS : va_S NoA s.heap s.heap [] := va_S.rf
  have hl : lv_has (entryFrame m ([.int (nI i), .int (nI n), v] : List Value).toArray 3).locals 3 [(0, .int (nI i)), (1, .int (nI n)), (2, v)] := by
    rcases hv with rfl | ⟨t, rfl⟩
    · have hl := lv_entry ([.int (nI i), .int (nI n), .null]) (n := 3) (Nat.le_of_ble_eq_true rfl)
      rw [lg_entry_eq]
      exact hl
    · have hl := lv_entry ([.int (nI i), .int (nI n), .ref t]) (n := 3) (Nat.le_of_ble_eq_true rfl)
      rw [lg_entry_eq]
      exact hl
  have e0 : entryFrame m ([.int (nI i), .int (nI n), v] : List Value).toArray 3 = F0 m 0 (entryFrame m ([.int (nI i), .int (nI n), v] : List Value).toArray 3).locals [] := rfl
  rw [e0]
  generalize (entryFrame m ([.int (nI i), .int (nI n), v] : List Value).toArray 3).locals = ls at hl ⊢
  refine lv_iload_n hx hb dJ_pre_0 rfl (lv_at hl 0 rfl) ?_
  refine lv_if_lt (tgt := 9) hx hb dJ_pre_1 (by decide) (fun q => absurd q (nI_pos (by omega))) (fun _ => ?_)
  refine lv_iload_n hx hb dJ_pre_4 rfl (lv_at hl 0 rfl) ?_
  refine lv_iload_n hx hb dJ_pre_5 rfl (lv_at hl 1 rfl) ?_
  refine lv_icmp_lt (tgt := 16) hx hb dJ_pre_6 (by decide) (fun _ => ?_) (fun q => absurd (nI_lt hin (by omega)) q)
  refine lv_iload_n hx hb dJ_pre_16 rfl (lv_at hl 0 rfl) ?_
  exact W.iret hx hb hr (fun t ht hW => ⟨⟨_, (), rfl, trivial, trivial⟩, hS.F ht⟩) hS.2.2 dJ_pre_17 hlocks
set_option maxHeartbeats 1000000 in
set_option maxRecDepth 100000 in
theorem j_chk (l : Launch) (k v i n : Nat) (hin : i < n) (hn : n < 1000) : Met l yJ_chk (.code yJ_chk prog_10_method_155_code 2 none :: gT) (rJ 1 22) (va_Pc [.int (nI i), .int (nI n)] (fun U => SP k v U)) (va_Qv (S := Unit) (fun _ => True) (fun _ _ => True) NoA) 0 0 NoA := by
  refine Met.ofW (cc := prog_10_method_155_code) (maxL := 2) (ret := none) (ws' := gT) (by decide +kernel) rfl ?_
  intro p e s m args below meth c s₁ B hml hv
  obtain ⟨rfl, hv⟩ := hv
  have hts0 := atoms_spec (ws := .code yJ_chk prog_10_method_155_code 2 none :: gT) B.pre
  have hown : s.vm.findClass RJ0 = some m.cls := findClass_of_methodNamed B.named
  have hx := B.exec
  have hb := B.bytes
  have hr := B.returns
  have hlocks := B.notSynchronized
  have hts : ∀ w ∈ gT, w.before ([.int (nI i), .int (nI n)] : List Value).toArray s = true := fun w h9 => hts0 w (List.mem_cons_of_mem _ h9)
  have hS : va_S NoA s.heap s.heap [] := va_S.rf
  have hl := lv_entry ([.int (nI i), .int (nI n)]) (n := 2) (Nat.le_of_ble_eq_true rfl)
  rw [lg_entry_eq]
  generalize (lg_sl ([.int (nI i), .int (nI n)]) ++ List.replicate (2 - (lg_sl ([.int (nI i), .int (nI n)])).length) Slot.unset).toArray = ls at hl ⊢
  have hl : lv_has ls 2 [(0, .int (nI i)), (1, .int (nI n))] := hl
  refine lv_iload_n hx hb dJ_chk_0 rfl (lv_at hl 0 rfl) ?_
  refine lv_iload_n hx hb dJ_chk_1 rfl (lv_at hl 1 rfl) ?_
  obtain ⟨w0, hw0, hZ⟩ : ∃ w0 : Value, (w0 = .null ∨ ∃ t, w0 = .ref t) ∧ va_Z RJ3 "SIOOBE_FORMATTER" "Ljava/util/function/BiFunction;" w0 NoA s s.heap := by
    rcases hv.2.2.2.2.2 with h | ⟨t, h⟩
    · exact ⟨_, Or.inl rfl, h⟩
    · exact ⟨_, Or.inr ⟨t, rfl⟩, h⟩
  refine va_gets hx hb hZ hS hown (hts _ fJ_1053) (fun x h => h) dJ_chk_2 ?_
  refine va_calli (A1 := NoA) (va_runS (As := [.int (nI i), .int (nI n), w0]) (rest := []) ⟨hx, hb, hml, hown, hts⟩ (j_pre l i n w0 hw0 hin hn) ⟨cbJ (n := 3) hts wJ_pre nJ_RJ3 lJ_RJ0_1059 (by decide +kernel) (by decide +kernel) (Nat.le_of_ble_eq_true rfl) (Nat.le_of_ble_eq_true rfl), hts _ tJ_pre⟩ ⟨fun a U g mk z => z, fun U hU hW => ⟨rfl, trivial⟩⟩ rfl rfl hl.1 rfl (lv_room (Nat.le_of_ble_eq_true rfl)) dJ_chk_5 ⟨Nat.le_of_ble_eq_true rfl, Nat.le_of_ble_eq_true rfl⟩) hS (fun _ _ h => h.elim) (fun _ h => h.elim) (fun r u t H1 locs1 ht hvm hw hB hz1 hk1 hS => ?_)
  refine lv_pop hx hb dJ_chk_8 rfl ?_
  exact W.vret hx hb hr (fun t ht hW => ⟨⟨(), rfl, trivial, trivial⟩, hS.F ht⟩) hS.2.2 dJ_chk_9 hlocks
theorem byte_c : ∀ i, i < 141 → ((bF i &&& nI 255).toUInt32 % 65536).toInt32 = bF i := by decide +kernel
theorem byte_n' : ∀ i, i < 141 → narrow .char (.int (bF i)) = .int (bF i) := by decide +kernel
theorem byte_n (i : Nat) (h : i < 141) : narrow .char (.int (bF i)) = .int (bF i) := byte_n' i h
set_option maxHeartbeats 1000000 in
set_option maxRecDepth 100000 in
theorem j_lat (l : Launch) (k v i : Nat) (hin : i < 141) : Met l yJ_lat (.code yJ_lat prog_11_method_2_code 2 (some .char) :: gT) (rJ 2 43) (va_Pc [.ref v, .int (nI i)] (fun U => SP k v U)) (QJ (fun r => r = bF i)) 0 0 NoA := by
  refine Met.ofW (cc := prog_11_method_2_code) (maxL := 2) (ret := (some .char)) (ws' := gT) (by decide +kernel) rfl ?_
  intro p e s m args below meth c s₁ B hml hv
  obtain ⟨rfl, hv⟩ := hv
  have hts0 := atoms_spec (ws := .code yJ_lat prog_11_method_2_code 2 (some .char) :: gT) B.pre
  have hown : s.vm.findClass RJ1 = some m.cls := findClass_of_methodNamed B.named
  have hx := B.exec
  have hb := B.bytes
  have hr := B.returns
  have hlocks := B.notSynchronized
  have hts : ∀ w ∈ gT, w.before ([.ref v, .int (nI i)] : List Value).toArray s = true := fun w h9 => hts0 w (List.mem_cons_of_mem _ h9)
  have hS : va_S NoA s.heap s.heap [] := va_S.rf
  have hl := lv_entry ([.ref v, .int (nI i)]) (n := 2) (Nat.le_of_ble_eq_true rfl)
  rw [lg_entry_eq]
  generalize (lg_sl ([.ref v, .int (nI i)]) ++ List.replicate (2 - (lg_sl ([.ref v, .int (nI i)])).length) Slot.unset).toArray = ls at hl ⊢
  have hl : lv_has ls 2 [(0, .ref v), (1, .int (nI i))] := hl
  refine lv_iload_n hx hb dJ_lat_0 rfl (lv_at hl 1 rfl) ?_
  refine lv_aload_n hx hb dJ_lat_1 rfl (lv_at hl 0 rfl) ?_
  refine va_tlen (v := nI 141) hx hb hv.2.2.2.1 hS rfl dJ_lat_2 ?_
  refine va_callv (A1 := NoA) (va_runS (As := [.int (nI i), .int (nI 141)]) (rest := []) ⟨hx, hb, hml, hown, hts⟩ (j_chk l k v i 141 hin (by decide)) ⟨cbJ (n := 2) hts wJ_chk nJ_RJ0 lJ_RJ1_9 (by decide +kernel) (by decide +kernel) (Nat.le_of_ble_eq_true rfl) (Nat.le_of_ble_eq_true rfl), hts _ tJ_chk⟩ ⟨fun a U g mk z => ⟨z.1, z.2.to (U := U.calling g mk a) (Vm.Alike.refl U.vm) rfl⟩, fun U hU hW => ⟨rfl, hv.to hW.alike hU⟩⟩ rfl rfl hl.1 rfl (lv_room (Nat.le_of_ble_eq_true rfl)) dJ_lat_3 ⟨Nat.le_of_ble_eq_true rfl, Nat.le_of_ble_eq_true rfl⟩) hS (fun _ _ h => h.elim) (fun _ h => h.elim) (fun u t H1 locs1 ht hvm hw hB hz1 hk1 hS => ?_)
  refine lv_aload_n hx hb dJ_lat_6 rfl (lv_at hl 0 rfl) ?_
  refine lv_iload_n hx hb dJ_lat_7 rfl (lv_at hl 1 rfl) ?_
  refine va_tb (v := .int (bF i)) hx hb hv.2.2.2.1 hS (vp_in_nI hin (by decide)) (by rw [nI_cl (by omega)]) dJ_lat_8 ?_
  refine lv_sipush (v := nI 255) hx hb dJ_lat_9 (by decide) ?_
  refine lv_iand hx hb dJ_lat_12 ?_
  refine lv_i2c (v := bF i) hx hb dJ_lat_13 (byte_c i hin) ?_
  exact W.zret hx hb hr (byte_n i hin) (fun t ht hW => ⟨⟨_, (), rfl, rfl, trivial⟩, hS.F ht⟩) hS.2.2 dJ_lat_14 hlocks
set_option maxHeartbeats 1000000 in
set_option maxRecDepth 100000 in
theorem j_charAt (l : Launch) (k v i : Nat) (hin : i < 141) : Met l yJ_charAt (.code yJ_charAt prog_10_method_56_code 2 (some .char) :: gT) (rJ 3 64) (va_Pc [.ref k, .int (nI i)] (fun U => SP k v U)) (QJ (fun r => r = bF i)) 0 0 NoA := by
  refine Met.ofW (cc := prog_10_method_56_code) (maxL := 2) (ret := (some .char)) (ws' := gT) (by decide +kernel) rfl ?_
  intro p e s m args below meth c s₁ B hml hv
  obtain ⟨rfl, hv⟩ := hv
  have hts0 := atoms_spec (ws := .code yJ_charAt prog_10_method_56_code 2 (some .char) :: gT) B.pre
  have hown : s.vm.findClass RJ0 = some m.cls := findClass_of_methodNamed B.named
  have hx := B.exec
  have hb := B.bytes
  have hr := B.returns
  have hlocks := B.notSynchronized
  have hts : ∀ w ∈ gT, w.before ([.ref k, .int (nI i)] : List Value).toArray s = true := fun w h9 => hts0 w (List.mem_cons_of_mem _ h9)
  have hS : va_S NoA s.heap s.heap [] := va_S.rf
  have hl := lv_entry ([.ref k, .int (nI i)]) (n := 2) (Nat.le_of_ble_eq_true rfl)
  rw [lg_entry_eq]
  generalize (lg_sl ([.ref k, .int (nI i)]) ++ List.replicate (2 - (lg_sl ([.ref k, .int (nI i)])).length) Slot.unset).toArray = ls at hl ⊢
  have hl : lv_has ls 2 [(0, .ref k), (1, .int (nI i))] := hl
  refine lv_aload_n hx hb dJ_charAt_0 rfl (lv_at hl 0 rfl) ?_
  refine va_calli (A1 := NoA) (va_runV (As := []) (rest := []) (C := RJ0) ⟨hx, hb, hml, hown, hts⟩ (j_isLatin1 l k v) ⟨cbJ hts wJ_isLatin1 nJ_RJ0 lJ_RJ0_492 (by decide +kernel) (by decide +kernel) (Nat.le_of_ble_eq_true rfl) (Nat.le_of_ble_eq_true rfl), hts _ iJ_isLatin1, hts _ sJ_isLatin1⟩ ⟨fun a U g mk z => ⟨z.1, z.2.to (U := U.calling g mk a) (Vm.Alike.refl U.vm) rfl⟩, (by obtain ⟨cell, g1, g2, g3, -⟩ := hv.2.2.2.2.1; exact ⟨cell, g1, g2, g3⟩), fun U hU hW => ⟨rfl, hv.to hW.alike hU⟩⟩ rfl rfl hl.1 rfl (lv_room (Nat.le_of_ble_eq_true rfl)) dJ_charAt_1 ⟨Nat.le_of_ble_eq_true rfl, Nat.le_of_ble_eq_true rfl⟩) hS (fun _ _ h => h.elim) (fun _ h => h.elim) (fun r u t H1 locs1 ht hvm hw hB hz1 hk1 hS => ?_)
  cases hw
  refine lv_if_eq (tgt := 16) hx hb dJ_charAt_4 (by decide) (fun q => absurd q (by decide)) (fun _ => ?_)
  refine lv_aload_n hx hb dJ_charAt_7 rfl (lv_at hl 0 rfl) ?_
  refine vk_getf hx hb hv.2.2.1 hS hown (hts _ fJ_9) (fun x h => h) dJ_charAt_8 ?_
  refine lv_iload_n hx hb dJ_charAt_11 rfl (lv_at hl 1 rfl) ?_
  have hv1 : ∀ U : State, U.heap = H1 → s.WarmedH U.vm → SP k v U := by
    intro U hU hW
    obtain ⟨a, b, c, d, e, f⟩ := hv
    have hk : ∀ q : Nat, q < s.heap.size → ¬ NoA q → H1[q]? = s.heap[q]? := hS.2.1
    refine ⟨?_, ?_, ?_, ?_, ?_, ?_⟩ <;> rw [hU]
    · exact va_Z.moved hW.alike (a.kept hk)
    · exact va_OF.moved hW.alike (b.kept hk)
    · exact va_OF.moved hW.alike (c.kept hk)
    · exact va_T.moved hW.alike (d.kept hk)
    · exact va_O.moved hW.alike (e.kept hk)
    · exact va_Zq.moved hW.alike (f.kept hk)
  refine va_calli (A1 := NoA) (va_runS (As := [.ref v, .int (nI i)]) (rest := []) ⟨hx, hb, hml, hown, hts⟩ (j_lat l k v i hin) ⟨cbJ (n := 2) hts wJ_lat nJ_RJ1 lJ_RJ0_495 (by decide +kernel) (by decide +kernel) (Nat.le_of_ble_eq_true rfl) (Nat.le_of_ble_eq_true rfl), hts _ tJ_lat⟩ ⟨fun a U g mk z => ⟨z.1, z.2.to (U := U.calling g mk a) (Vm.Alike.refl U.vm) rfl⟩, fun U hU hW => ⟨rfl, hv1 U hU hW⟩⟩ rfl rfl hl.1 rfl (lv_room (Nat.le_of_ble_eq_true rfl)) dJ_charAt_12 ⟨Nat.le_of_ble_eq_true rfl, Nat.le_of_ble_eq_true rfl⟩) hS (fun _ _ h => h.elim) (fun _ h => h.elim) (fun r u t H1 locs1 ht hvm hw hB hz1 hk1 hS => ?_)
  cases hw
  exact W.zret hx hb hr (byte_n i hin) (fun t ht hW => ⟨⟨_, (), rfl, rfl, trivial⟩, hS.F ht⟩) hS.2.2 dJ_charAt_15 hlocks
