/-! THE CLAIM OUT OF ONE WALK OF THE LAW'S BODY. Your part is whole_start (and what it stands on); all else here is the same for every law, but numbers. -/
def R_law : String := "SetlistPlannerLaw"
def lw_P (b : Addr) (xs : List Int32) (args : Array Value) (s : State) : Prop := args = #[.ref b] ∧ s.IntsAt b xs ∧ xs.length ≤ 2560 ∧ (Jvm.Cond.and given_1 narrow_1).before args s = true
def lw_Q (_ : Array Value) (s : State) (o : Outcome) (t : State) : Prop := o = .returned (some (.int 1)) ∧ Framed s o t [] 600000 7302250
def lw_Z (below : List Frame) (a : Array Value) (s : State) : State → Prop := fun t => ∃ o, t.status = .running ∧ Ended t below o ∧ lw_Q a s o t
/-- the law's own end, with 1 on the stack, nothing written that was there before, its room as the claim has it -/
theorem lw_ret {p : Program} {l : Launch} {e : Env} {s : State} {m : MethodId} {below : List Frame} {meth : Method} {c : Code} {b : Nat} (hx : p.tables.exec = Jvm.exec) (hb : c.code = code) (hr : meth.sig.returnType = ret) (hlocks : meth.locks = false) {pc : Nat} {H : Heap} {ls : Array Slot} (hdg : decode code pc = .ok (.ireturn, 1)) : W p l e room_1 s m #[Value.ref b] below meth c H [] 600000 7302250 (lw_Z below #[Value.ref b] s) (F0 m pc ls [.int 1]) := by
  intro T hT X
  obtain ⟨fs, hret, hrun, hended, hW, hframe⟩ := X.leave (v := some (.int 1)) (hlocks := hlocks) (fun h => by rw [hr] at h; cases h)
  have hmeth' : T.vm.method? m = some meth := X.method'
  refine ⟨T.setFrames fs, ?_, .returned (some (.int 1)), hrun, hended, rfl, ⟨_, rfl⟩, hW, hframe⟩
  jvm_step X.here [X.here.top, hx, hb, hdg, hmeth', hr, ret, narrow_b1]
  (try refine ⟨rfl, ?_⟩); (try refine ⟨rfl, ?_⟩)
  first | (intro acts; rw [hret _ acts rfl rfl rfl]) | rw [hret _ _ rfl rfl rfl]
  exact Steps.refl _
/-- what holds at the law's entry: the machine, the code, the tables' words (any of lw_tbl by 'hts w (by decide +kernel)'), the script of L ints xs at the cell b, what the Statement gives of the start (any of its parts by flat_of_before) -/
def lw_At (p : Program) (s : State) (m : MethodId) (meth : Method) (c : Code) (b L : Nat) (xs : Nat → Int32) : Prop :=
  p.tables.exec = Jvm.exec ∧ c.code = code ∧ meth.sig.returnType = ret ∧ c.maxLocals = 4 ∧ s.vm.findClass R_law = some m.cls ∧ (∀ w ∈ lw_tbl, w.before #[Value.ref b] s = true) ∧ va_X b L xs s s.heap ∧ b < s.heap.size ∧ meth.locks = false ∧ (Jvm.Cond.and given_1 narrow_1).before #[Value.ref b] s = true
theorem dL_0 : decode code 0 = .ok (.new 7, 3) := by decide +kernel
theorem dL_3 : decode code 3 = .ok (.dup, 1) := by decide +kernel
theorem dL_4 : decode code 4 = .ok (.invokespecial 9, 3) := by decide +kernel
theorem dL_7 : decode code 7 = .ok (.astore_n 1, 1) := by decide +kernel
theorem dL_8 : decode code 8 = .ok (.new 10, 3) := by decide +kernel
theorem dL_11 : decode code 11 = .ok (.dup, 1) := by decide +kernel
theorem dL_12 : decode code 12 = .ok (.invokespecial 12, 3) := by decide +kernel
theorem dL_15 : decode code 15 = .ok (.astore_n 2, 1) := by decide +kernel
theorem dL_16 : decode code 16 = .ok (.iconst 0, 1) := by decide +kernel
theorem dL_17 : decode code 17 = .ok (.istore_n 3, 1) := by decide +kernel
theorem dL_18 : decode code 18 = .ok (.iload_n 3, 1) := by decide +kernel
theorem dL_19 : decode code 19 = .ok (.aload_n 0, 1) := by decide +kernel
theorem dL_20 : decode code 20 = .ok (.arraylength, 1) := by decide +kernel
theorem dL_21 : decode code 21 = .ok (.iconst 5, 1) := by decide +kernel
theorem dL_22 : decode code 22 = .ok (.isub, 1) := by decide +kernel
theorem dL_23 : decode code 23 = .ok (.if_icmp .gt 891, 3) := by decide +kernel
theorem dL_26 : decode code 26 = .ok (.aload_n 0, 1) := by decide +kernel
theorem dL_27 : decode code 27 = .ok (.iload_n 3, 1) := by decide +kernel
theorem dL_28 : decode code 28 = .ok (.iaload, 1) := by decide +kernel
theorem dL_29 : decode code 29 = .ok (.bipush 31, 2) := by decide +kernel
theorem dL_31 : decode code 31 = .ok (.iand, 1) := by decide +kernel
theorem dL_32 : decode code 32 = .ok (.tableswitch 876 0 29 #[136, 159, 172, 185, 198, 251, 284, 317, 350, 373, 406, 439, 452, 465, 478, 511, 544, 577, 620, 663, 696, 719, 732, 745, 758, 771, 794, 817, 830, 853], 136) := by decide +kernel
theorem dL_908 : decode code 908 = .ok (.iinc 3 5, 3) := by decide +kernel
theorem dL_911 : decode code 911 = .ok (.goto (-893), 3) := by decide +kernel
theorem dL_914 : decode code 914 = .ok (.iconst 1, 1) := by decide +kernel
theorem dL_915 : decode code 915 = .ok (.ireturn, 1) := by decide +kernel
def iL_0 : List (Nat × Instr × Nat) := [(168, .aload_n 1, 1), (169, .aload_n 0, 1), (170, .iload_n 3, 1), (171, .iconst 1, 1), (172, .iadd, 1), (173, .iaload, 1), (174, .invokevirtual 13, 3), (177, .aload_n 2, 1), (178, .aload_n 0, 1), (179, .iload_n 3, 1), (180, .iconst 1, 1), (181, .iadd, 1), (182, .iaload, 1), (183, .invokevirtual 17, 3), (186, .if_icmp .eq 722, 3), (189, .iconst 0, 1), (190, .ireturn, 1)]
theorem iL_0_ok : ∀ q ∈ iL_0, decode code q.1 = .ok q.2 := by decide +kernel
def iL_1 : List (Nat × Instr × Nat) := [(191, .aload_n 1, 1), (192, .invokevirtual 18, 3), (195, .aload_n 2, 1), (196, .invokevirtual 22, 3), (199, .if_icmp .eq 709, 3), (202, .iconst 0, 1), (203, .ireturn, 1)]
theorem iL_1_ok : ∀ q ∈ iL_1, decode code q.1 = .ok q.2 := by decide +kernel
def iL_2 : List (Nat × Instr × Nat) := [(204, .aload_n 1, 1), (205, .invokevirtual 23, 3), (208, .aload_n 2, 1), (209, .invokevirtual 26, 3), (212, .if_icmp .eq 696, 3), (215, .iconst 0, 1), (216, .ireturn, 1)]
theorem iL_2_ok : ∀ q ∈ iL_2, decode code q.1 = .ok q.2 := by decide +kernel
def iL_3 : List (Nat × Instr × Nat) := [(217, .aload_n 1, 1), (218, .invokevirtual 27, 3), (221, .aload_n 2, 1), (222, .invokevirtual 30, 3), (225, .if_icmp .eq 683, 3), (228, .iconst 0, 1), (229, .ireturn, 1)]
theorem iL_3_ok : ∀ q ∈ iL_3, decode code q.1 = .ok q.2 := by decide +kernel
def iL_4 : List (Nat × Instr × Nat) := [(230, .aload_n 1, 1), (231, .aload_n 0, 1), (232, .iload_n 3, 1), (233, .iconst 1, 1), (234, .iadd, 1), (235, .iaload, 1), (236, .aload_n 0, 1), (237, .iload_n 3, 1), (238, .iconst 2, 1), (239, .iadd, 1), (240, .iaload, 1), (241, .aload_n 0, 1), (242, .iload_n 3, 1), (243, .iconst 3, 1), (244, .iadd, 1), (245, .iaload, 1), (246, .aload_n 0, 1), (247, .iload_n 3, 1), (248, .iconst 4, 1), (249, .iadd, 1), (250, .iaload, 1), (251, .invokevirtual 31, 3), (254, .aload_n 2, 1), (255, .aload_n 0, 1), (256, .iload_n 3, 1), (257, .iconst 1, 1), (258, .iadd, 1), (259, .iaload, 1), (260, .aload_n 0, 1), (261, .iload_n 3, 1), (262, .iconst 2, 1), (263, .iadd, 1), (264, .iaload, 1), (265, .aload_n 0, 1), (266, .iload_n 3, 1), (267, .iconst 3, 1), (268, .iadd, 1), (269, .iaload, 1), (270, .aload_n 0, 1), (271, .iload_n 3, 1), (272, .iconst 4, 1), (273, .iadd, 1), (274, .iaload, 1), (275, .invokevirtual 35, 3), (278, .if_icmp .eq 630, 3), (281, .iconst 0, 1), (282, .ireturn, 1)]
theorem iL_4_ok : ∀ q ∈ iL_4, decode code q.1 = .ok q.2 := by decide +kernel
def iL_5 : List (Nat × Instr × Nat) := [(283, .aload_n 1, 1), (284, .aload_n 0, 1), (285, .iload_n 3, 1), (286, .iconst 1, 1), (287, .iadd, 1), (288, .iaload, 1), (289, .aload_n 0, 1), (290, .iload_n 3, 1), (291, .iconst 2, 1), (292, .iadd, 1), (293, .iaload, 1), (294, .invokevirtual 36, 3), (297, .aload_n 2, 1), (298, .aload_n 0, 1), (299, .iload_n 3, 1), (300, .iconst 1, 1), (301, .iadd, 1), (302, .iaload, 1), (303, .aload_n 0, 1), (304, .iload_n 3, 1), (305, .iconst 2, 1), (306, .iadd, 1), (307, .iaload, 1), (308, .invokevirtual 40, 3), (311, .if_icmp .eq 597, 3), (314, .iconst 0, 1), (315, .ireturn, 1)]
theorem iL_5_ok : ∀ q ∈ iL_5, decode code q.1 = .ok q.2 := by decide +kernel
def iL_6 : List (Nat × Instr × Nat) := [(316, .aload_n 1, 1), (317, .aload_n 0, 1), (318, .iload_n 3, 1), (319, .iconst 1, 1), (320, .iadd, 1), (321, .iaload, 1), (322, .aload_n 0, 1), (323, .iload_n 3, 1), (324, .iconst 2, 1), (325, .iadd, 1), (326, .iaload, 1), (327, .invokevirtual 41, 3), (330, .aload_n 2, 1), (331, .aload_n 0, 1), (332, .iload_n 3, 1), (333, .iconst 1, 1), (334, .iadd, 1), (335, .iaload, 1), (336, .aload_n 0, 1), (337, .iload_n 3, 1), (338, .iconst 2, 1), (339, .iadd, 1), (340, .iaload, 1), (341, .invokevirtual 44, 3), (344, .if_icmp .eq 564, 3), (347, .iconst 0, 1), (348, .ireturn, 1)]
theorem iL_6_ok : ∀ q ∈ iL_6, decode code q.1 = .ok q.2 := by decide +kernel
def iL_7 : List (Nat × Instr × Nat) := [(349, .aload_n 1, 1), (350, .aload_n 0, 1), (351, .iload_n 3, 1), (352, .iconst 1, 1), (353, .iadd, 1), (354, .iaload, 1), (355, .aload_n 0, 1), (356, .iload_n 3, 1), (357, .iconst 2, 1), (358, .iadd, 1), (359, .iaload, 1), (360, .invokevirtual 45, 3), (363, .aload_n 2, 1), (364, .aload_n 0, 1), (365, .iload_n 3, 1), (366, .iconst 1, 1), (367, .iadd, 1), (368, .iaload, 1), (369, .aload_n 0, 1), (370, .iload_n 3, 1), (371, .iconst 2, 1), (372, .iadd, 1), (373, .iaload, 1), (374, .invokevirtual 48, 3), (377, .if_icmp .eq 531, 3), (380, .iconst 0, 1), (381, .ireturn, 1)]
theorem iL_7_ok : ∀ q ∈ iL_7, decode code q.1 = .ok q.2 := by decide +kernel
def iL_8 : List (Nat × Instr × Nat) := [(382, .aload_n 1, 1), (383, .aload_n 0, 1), (384, .iload_n 3, 1), (385, .iconst 1, 1), (386, .iadd, 1), (387, .iaload, 1), (388, .invokevirtual 49, 3), (391, .aload_n 2, 1), (392, .aload_n 0, 1), (393, .iload_n 3, 1), (394, .iconst 1, 1), (395, .iadd, 1), (396, .iaload, 1), (397, .invokevirtual 52, 3), (400, .if_icmp .eq 508, 3), (403, .iconst 0, 1), (404, .ireturn, 1)]
theorem iL_8_ok : ∀ q ∈ iL_8, decode code q.1 = .ok q.2 := by decide +kernel
def iL_9 : List (Nat × Instr × Nat) := [(405, .aload_n 1, 1), (406, .aload_n 0, 1), (407, .iload_n 3, 1), (408, .iconst 1, 1), (409, .iadd, 1), (410, .iaload, 1), (411, .aload_n 0, 1), (412, .iload_n 3, 1), (413, .iconst 2, 1), (414, .iadd, 1), (415, .iaload, 1), (416, .invokevirtual 53, 3), (419, .aload_n 2, 1), (420, .aload_n 0, 1), (421, .iload_n 3, 1), (422, .iconst 1, 1), (423, .iadd, 1), (424, .iaload, 1), (425, .aload_n 0, 1), (426, .iload_n 3, 1), (427, .iconst 2, 1), (428, .iadd, 1), (429, .iaload, 1), (430, .invokevirtual 56, 3), (433, .if_icmp .eq 475, 3), (436, .iconst 0, 1), (437, .ireturn, 1)]
theorem iL_9_ok : ∀ q ∈ iL_9, decode code q.1 = .ok q.2 := by decide +kernel
def iL_10 : List (Nat × Instr × Nat) := [(438, .aload_n 1, 1), (439, .aload_n 0, 1), (440, .iload_n 3, 1), (441, .iconst 1, 1), (442, .iadd, 1), (443, .iaload, 1), (444, .aload_n 0, 1), (445, .iload_n 3, 1), (446, .iconst 2, 1), (447, .iadd, 1), (448, .iaload, 1), (449, .invokevirtual 57, 3), (452, .aload_n 2, 1), (453, .aload_n 0, 1), (454, .iload_n 3, 1), (455, .iconst 1, 1), (456, .iadd, 1), (457, .iaload, 1), (458, .aload_n 0, 1), (459, .iload_n 3, 1), (460, .iconst 2, 1), (461, .iadd, 1), (462, .iaload, 1), (463, .invokevirtual 60, 3), (466, .if_icmp .eq 442, 3), (469, .iconst 0, 1), (470, .ireturn, 1)]
theorem iL_10_ok : ∀ q ∈ iL_10, decode code q.1 = .ok q.2 := by decide +kernel
def iL_11 : List (Nat × Instr × Nat) := [(471, .aload_n 1, 1), (472, .invokevirtual 61, 3), (475, .aload_n 2, 1), (476, .invokevirtual 64, 3), (479, .if_icmp .eq 429, 3), (482, .iconst 0, 1), (483, .ireturn, 1)]
theorem iL_11_ok : ∀ q ∈ iL_11, decode code q.1 = .ok q.2 := by decide +kernel
def iL_12 : List (Nat × Instr × Nat) := [(484, .aload_n 1, 1), (485, .invokevirtual 65, 3), (488, .aload_n 2, 1), (489, .invokevirtual 68, 3), (492, .if_icmp .eq 416, 3), (495, .iconst 0, 1), (496, .ireturn, 1)]
theorem iL_12_ok : ∀ q ∈ iL_12, decode code q.1 = .ok q.2 := by decide +kernel
def iL_13 : List (Nat × Instr × Nat) := [(497, .aload_n 1, 1), (498, .invokevirtual 69, 3), (501, .aload_n 2, 1), (502, .invokevirtual 72, 3), (505, .if_icmp .eq 403, 3), (508, .iconst 0, 1), (509, .ireturn, 1)]
theorem iL_13_ok : ∀ q ∈ iL_13, decode code q.1 = .ok q.2 := by decide +kernel
def iL_14 : List (Nat × Instr × Nat) := [(510, .aload_n 1, 1), (511, .aload_n 0, 1), (512, .iload_n 3, 1), (513, .iconst 1, 1), (514, .iadd, 1), (515, .iaload, 1), (516, .aload_n 0, 1), (517, .iload_n 3, 1), (518, .iconst 2, 1), (519, .iadd, 1), (520, .iaload, 1), (521, .invokevirtual 73, 3), (524, .aload_n 2, 1), (525, .aload_n 0, 1), (526, .iload_n 3, 1), (527, .iconst 1, 1), (528, .iadd, 1), (529, .iaload, 1), (530, .aload_n 0, 1), (531, .iload_n 3, 1), (532, .iconst 2, 1), (533, .iadd, 1), (534, .iaload, 1), (535, .invokevirtual 76, 3), (538, .if_icmp .eq 370, 3), (541, .iconst 0, 1), (542, .ireturn, 1)]
theorem iL_14_ok : ∀ q ∈ iL_14, decode code q.1 = .ok q.2 := by decide +kernel
def iL_15 : List (Nat × Instr × Nat) := [(543, .aload_n 1, 1), (544, .aload_n 0, 1), (545, .iload_n 3, 1), (546, .iconst 1, 1), (547, .iadd, 1), (548, .iaload, 1), (549, .aload_n 0, 1), (550, .iload_n 3, 1), (551, .iconst 2, 1), (552, .iadd, 1), (553, .iaload, 1), (554, .invokevirtual 77, 3), (557, .aload_n 2, 1), (558, .aload_n 0, 1), (559, .iload_n 3, 1), (560, .iconst 1, 1), (561, .iadd, 1), (562, .iaload, 1), (563, .aload_n 0, 1), (564, .iload_n 3, 1), (565, .iconst 2, 1), (566, .iadd, 1), (567, .iaload, 1), (568, .invokevirtual 80, 3), (571, .if_icmp .eq 337, 3), (574, .iconst 0, 1), (575, .ireturn, 1)]
theorem iL_15_ok : ∀ q ∈ iL_15, decode code q.1 = .ok q.2 := by decide +kernel
def iL_16 : List (Nat × Instr × Nat) := [(576, .aload_n 1, 1), (577, .aload_n 0, 1), (578, .iload_n 3, 1), (579, .iconst 1, 1), (580, .iadd, 1), (581, .iaload, 1), (582, .aload_n 0, 1), (583, .iload_n 3, 1), (584, .iconst 2, 1), (585, .iadd, 1), (586, .iaload, 1), (587, .invokevirtual 81, 3), (590, .aload_n 2, 1), (591, .aload_n 0, 1), (592, .iload_n 3, 1), (593, .iconst 1, 1), (594, .iadd, 1), (595, .iaload, 1), (596, .aload_n 0, 1), (597, .iload_n 3, 1), (598, .iconst 2, 1), (599, .iadd, 1), (600, .iaload, 1), (601, .invokevirtual 84, 3), (604, .if_icmp .eq 304, 3), (607, .iconst 0, 1), (608, .ireturn, 1)]
theorem iL_16_ok : ∀ q ∈ iL_16, decode code q.1 = .ok q.2 := by decide +kernel
def iL_17 : List (Nat × Instr × Nat) := [(609, .aload_n 1, 1), (610, .aload_n 0, 1), (611, .iload_n 3, 1), (612, .iconst 1, 1), (613, .iadd, 1), (614, .iaload, 1), (615, .aload_n 0, 1), (616, .iload_n 3, 1), (617, .iconst 2, 1), (618, .iadd, 1), (619, .iaload, 1), (620, .aload_n 0, 1), (621, .iload_n 3, 1), (622, .iconst 3, 1), (623, .iadd, 1), (624, .iaload, 1), (625, .invokevirtual 85, 3), (628, .aload_n 2, 1), (629, .aload_n 0, 1), (630, .iload_n 3, 1), (631, .iconst 1, 1), (632, .iadd, 1), (633, .iaload, 1), (634, .aload_n 0, 1), (635, .iload_n 3, 1), (636, .iconst 2, 1), (637, .iadd, 1), (638, .iaload, 1), (639, .aload_n 0, 1), (640, .iload_n 3, 1), (641, .iconst 3, 1), (642, .iadd, 1), (643, .iaload, 1), (644, .invokevirtual 89, 3), (647, .if_icmp .eq 261, 3), (650, .iconst 0, 1), (651, .ireturn, 1)]
theorem iL_17_ok : ∀ q ∈ iL_17, decode code q.1 = .ok q.2 := by decide +kernel
def iL_18 : List (Nat × Instr × Nat) := [(652, .aload_n 1, 1), (653, .aload_n 0, 1), (654, .iload_n 3, 1), (655, .iconst 1, 1), (656, .iadd, 1), (657, .iaload, 1), (658, .aload_n 0, 1), (659, .iload_n 3, 1), (660, .iconst 2, 1), (661, .iadd, 1), (662, .iaload, 1), (663, .aload_n 0, 1), (664, .iload_n 3, 1), (665, .iconst 3, 1), (666, .iadd, 1), (667, .iaload, 1), (668, .invokevirtual 90, 3), (671, .aload_n 2, 1), (672, .aload_n 0, 1), (673, .iload_n 3, 1), (674, .iconst 1, 1), (675, .iadd, 1), (676, .iaload, 1), (677, .aload_n 0, 1), (678, .iload_n 3, 1), (679, .iconst 2, 1), (680, .iadd, 1), (681, .iaload, 1), (682, .aload_n 0, 1), (683, .iload_n 3, 1), (684, .iconst 3, 1), (685, .iadd, 1), (686, .iaload, 1), (687, .invokevirtual 93, 3), (690, .if_icmp .eq 218, 3), (693, .iconst 0, 1), (694, .ireturn, 1)]
theorem iL_18_ok : ∀ q ∈ iL_18, decode code q.1 = .ok q.2 := by decide +kernel
def iL_19 : List (Nat × Instr × Nat) := [(695, .aload_n 1, 1), (696, .aload_n 0, 1), (697, .iload_n 3, 1), (698, .iconst 1, 1), (699, .iadd, 1), (700, .iaload, 1), (701, .aload_n 0, 1), (702, .iload_n 3, 1), (703, .iconst 2, 1), (704, .iadd, 1), (705, .iaload, 1), (706, .invokevirtual 94, 3), (709, .aload_n 2, 1), (710, .aload_n 0, 1), (711, .iload_n 3, 1), (712, .iconst 1, 1), (713, .iadd, 1), (714, .iaload, 1), (715, .aload_n 0, 1), (716, .iload_n 3, 1), (717, .iconst 2, 1), (718, .iadd, 1), (719, .iaload, 1), (720, .invokevirtual 97, 3), (723, .if_icmp .eq 185, 3), (726, .iconst 0, 1), (727, .ireturn, 1)]
theorem iL_19_ok : ∀ q ∈ iL_19, decode code q.1 = .ok q.2 := by decide +kernel
def iL_20 : List (Nat × Instr × Nat) := [(728, .aload_n 1, 1), (729, .aload_n 0, 1), (730, .iload_n 3, 1), (731, .iconst 1, 1), (732, .iadd, 1), (733, .iaload, 1), (734, .invokevirtual 98, 3), (737, .aload_n 2, 1), (738, .aload_n 0, 1), (739, .iload_n 3, 1), (740, .iconst 1, 1), (741, .iadd, 1), (742, .iaload, 1), (743, .invokevirtual 101, 3), (746, .if_icmp .eq 162, 3), (749, .iconst 0, 1), (750, .ireturn, 1)]
theorem iL_20_ok : ∀ q ∈ iL_20, decode code q.1 = .ok q.2 := by decide +kernel
def iL_21 : List (Nat × Instr × Nat) := [(751, .aload_n 1, 1), (752, .invokevirtual 102, 3), (755, .aload_n 2, 1), (756, .invokevirtual 105, 3), (759, .if_icmp .eq 149, 3), (762, .iconst 0, 1), (763, .ireturn, 1)]
theorem iL_21_ok : ∀ q ∈ iL_21, decode code q.1 = .ok q.2 := by decide +kernel
def iL_22 : List (Nat × Instr × Nat) := [(764, .aload_n 1, 1), (765, .invokevirtual 106, 3), (768, .aload_n 2, 1), (769, .invokevirtual 109, 3), (772, .if_icmp .eq 136, 3), (775, .iconst 0, 1), (776, .ireturn, 1)]
theorem iL_22_ok : ∀ q ∈ iL_22, decode code q.1 = .ok q.2 := by decide +kernel
def iL_23 : List (Nat × Instr × Nat) := [(777, .aload_n 1, 1), (778, .invokevirtual 110, 3), (781, .aload_n 2, 1), (782, .invokevirtual 113, 3), (785, .if_icmp .eq 123, 3), (788, .iconst 0, 1), (789, .ireturn, 1)]
theorem iL_23_ok : ∀ q ∈ iL_23, decode code q.1 = .ok q.2 := by decide +kernel
def iL_24 : List (Nat × Instr × Nat) := [(790, .aload_n 1, 1), (791, .invokevirtual 114, 3), (794, .aload_n 2, 1), (795, .invokevirtual 117, 3), (798, .if_icmp .eq 110, 3), (801, .iconst 0, 1), (802, .ireturn, 1)]
theorem iL_24_ok : ∀ q ∈ iL_24, decode code q.1 = .ok q.2 := by decide +kernel
def iL_25 : List (Nat × Instr × Nat) := [(803, .aload_n 1, 1), (804, .aload_n 0, 1), (805, .iload_n 3, 1), (806, .iconst 1, 1), (807, .iadd, 1), (808, .iaload, 1), (809, .invokevirtual 118, 3), (812, .aload_n 2, 1), (813, .aload_n 0, 1), (814, .iload_n 3, 1), (815, .iconst 1, 1), (816, .iadd, 1), (817, .iaload, 1), (818, .invokevirtual 121, 3), (821, .if_icmp .eq 87, 3), (824, .iconst 0, 1), (825, .ireturn, 1)]
theorem iL_25_ok : ∀ q ∈ iL_25, decode code q.1 = .ok q.2 := by decide +kernel
def iL_26 : List (Nat × Instr × Nat) := [(826, .aload_n 1, 1), (827, .aload_n 0, 1), (828, .iload_n 3, 1), (829, .iconst 1, 1), (830, .iadd, 1), (831, .iaload, 1), (832, .invokevirtual 122, 3), (835, .aload_n 2, 1), (836, .aload_n 0, 1), (837, .iload_n 3, 1), (838, .iconst 1, 1), (839, .iadd, 1), (840, .iaload, 1), (841, .invokevirtual 125, 3), (844, .if_icmp .eq 64, 3), (847, .iconst 0, 1), (848, .ireturn, 1)]
theorem iL_26_ok : ∀ q ∈ iL_26, decode code q.1 = .ok q.2 := by decide +kernel
def iL_27 : List (Nat × Instr × Nat) := [(849, .aload_n 1, 1), (850, .invokevirtual 126, 3), (853, .aload_n 2, 1), (854, .invokevirtual 129, 3), (857, .if_icmp .eq 51, 3), (860, .iconst 0, 1), (861, .ireturn, 1)]
theorem iL_27_ok : ∀ q ∈ iL_27, decode code q.1 = .ok q.2 := by decide +kernel
def iL_28 : List (Nat × Instr × Nat) := [(862, .aload_n 1, 1), (863, .aload_n 0, 1), (864, .iload_n 3, 1), (865, .iconst 1, 1), (866, .iadd, 1), (867, .iaload, 1), (868, .invokevirtual 130, 3), (871, .aload_n 2, 1), (872, .aload_n 0, 1), (873, .iload_n 3, 1), (874, .iconst 1, 1), (875, .iadd, 1), (876, .iaload, 1), (877, .invokevirtual 133, 3), (880, .if_icmp .eq 28, 3), (883, .iconst 0, 1), (884, .ireturn, 1)]
theorem iL_28_ok : ∀ q ∈ iL_28, decode code q.1 = .ok q.2 := by decide +kernel
def iL_29 : List (Nat × Instr × Nat) := [(885, .aload_n 1, 1), (886, .aload_n 0, 1), (887, .iload_n 3, 1), (888, .iconst 1, 1), (889, .iadd, 1), (890, .iaload, 1), (891, .invokevirtual 134, 3), (894, .aload_n 2, 1), (895, .aload_n 0, 1), (896, .iload_n 3, 1), (897, .iconst 1, 1), (898, .iadd, 1), (899, .iaload, 1), (900, .invokevirtual 137, 3), (903, .if_icmp .eq 5, 3), (906, .iconst 0, 1), (907, .ireturn, 1)]
theorem iL_29_ok : ∀ q ∈ iL_29, decode code q.1 = .ok q.2 := by decide +kernel
def lnkL (q : Nat × MR × List Nat) : Bool :=
  decide (lw_tbl[q.2.2.getD 0 0]? = some (.methodLink R_law q.1 (mN q.2.1))) &&
  decide (lw_tbl[q.2.2.getD 1 0]? = some (.code (mN q.2.1) (mC q.2.1) (mL q.2.1) (mR q.2.1))) &&
  decide (lw_tbl[q.2.2.getD 2 0]? = some (.initialized (mN q.2.1).cls)) &&
  decide (lw_tbl[q.2.2.getD 3 0]? = some (.instanceMethod (mN q.2.1))) && decide (lw_tbl[q.2.2.getD 4 0]? = some (.selects (mN q.2.1).cls (mN q.2.1) (mN q.2.1)))
theorem lnkL_ok {idx : Nat} {M : MR} {w : List Nat} (h : lnkL (idx, M, w) = true) : Cond.methodLink R_law idx (mN M) ∈ gT ∧ Cond.code (mN M) (mC M) (mL M) (mR M) ∈ gT ∧ Cond.initialized (mN M).cls ∈ gT ∧ Cond.instanceMethod (mN M) ∈ gT ∧ Cond.selects (mN M).cls (mN M) (mN M) ∈ gT := by
  unfold lnkL at h
  rw [Bool.and_eq_true, Bool.and_eq_true, Bool.and_eq_true, Bool.and_eq_true] at h
  obtain ⟨⟨⟨⟨q1, q2⟩, q3⟩, q4⟩, q5⟩ := h
  exact ⟨gT_in (of_decide_eq_true q1) (gw_ml _ _ _), gT_in (of_decide_eq_true q2) (gw_cd _ _ _ _), gT_in (of_decide_eq_true q3) (gw_in _), gT_in (of_decide_eq_true q4) (gw_im _), gT_in (of_decide_eq_true q5) (gw_se _ _ _)⟩
theorem zL_S0 : lnkL (13, mS_append, [319, 322, 32, 320, 321]) = true := by decide +kernel
theorem zL_M0 : lnkL (17, mM_append, [651, 654, 42, 652, 653]) = true := by decide +kernel
theorem zL_S1 : lnkL (18, mS_clearText, [323, 326, 32, 324, 325]) = true := by decide +kernel
theorem zL_M1 : lnkL (22, mM_clearText, [660, 663, 42, 661, 662]) = true := by decide +kernel
theorem zL_S2 : lnkL (23, mS_firstError, [327, 330, 32, 328, 329]) = true := by decide +kernel
theorem zL_M2 : lnkL (26, mM_firstError, [664, 667, 42, 665, 666]) = true := by decide +kernel
theorem zL_S3 : lnkL (27, mS_configure, [331, 334, 32, 332, 333]) = true := by decide +kernel
theorem zL_M3 : lnkL (30, mM_configure, [693, 696, 42, 694, 695]) = true := by decide +kernel
theorem zL_S4 : lnkL (31, mS_setPart, [343, 346, 32, 344, 345]) = true := by decide +kernel
theorem zL_M4 : lnkL (35, mM_setPart, [701, 704, 42, 702, 703]) = true := by decide +kernel
theorem zL_S5 : lnkL (36, mS_removePart, [363, 366, 32, 364, 365]) = true := by decide +kernel
theorem zL_M5 : lnkL (40, mM_removePart, [722, 725, 42, 723, 724]) = true := by decide +kernel
theorem zL_S6 : lnkL (41, mS_setUnits, [374, 377, 32, 375, 376]) = true := by decide +kernel
theorem zL_M6 : lnkL (44, mM_setUnits, [726, 729, 42, 727, 728]) = true := by decide +kernel
theorem zL_S7 : lnkL (45, mS_pin, [386, 389, 32, 387, 388]) = true := by decide +kernel
theorem zL_M7 : lnkL (48, mM_pin, [730, 733, 42, 731, 732]) = true := by decide +kernel
theorem zL_S8 : lnkL (49, mS_unpin, [398, 401, 32, 399, 400]) = true := by decide +kernel
theorem zL_M8 : lnkL (52, mM_unpin, [738, 741, 42, 739, 740]) = true := by decide +kernel
theorem zL_S9 : lnkL (53, mS_setEncore, [402, 405, 32, 403, 404]) = true := by decide +kernel
theorem zL_M9 : lnkL (56, mM_setEncore, [742, 745, 42, 743, 744]) = true := by decide +kernel
theorem zL_S10 : lnkL (57, mS_moveSong, [410, 413, 32, 411, 412]) = true := by decide +kernel
theorem zL_M10 : lnkL (60, mM_moveSong, [746, 749, 42, 747, 748]) = true := by decide +kernel
theorem zL_S11 : lnkL (61, mS_adoptBest, [418, 421, 32, 419, 420]) = true := by decide +kernel
theorem zL_M11 : lnkL (64, mM_adoptBest, [750, 753, 42, 751, 752]) = true := by decide +kernel
theorem zL_S12 : lnkL (65, mS_undo, [498, 501, 32, 499, 500]) = true := by decide +kernel
theorem zL_M12 : lnkL (68, mM_undo, [697, 700, 42, 698, 699]) = true := by decide +kernel
theorem zL_S13 : lnkL (69, mS_songCount, [506, 509, 32, 507, 508]) = true := by decide +kernel
theorem zL_M13 : lnkL (72, mM_songCount, [798, 801, 42, 799, 800]) = true := by decide +kernel
theorem zL_S14 : lnkL (73, mS_kindOf, [510, 370, 32, 368, 369]) = true := by decide +kernel
theorem zL_M14 : lnkL (76, mM_kindOf, [802, 805, 42, 803, 804]) = true := by decide +kernel
theorem zL_S15 : lnkL (77, mS_tuningOf, [511, 514, 32, 512, 513]) = true := by decide +kernel
theorem zL_M15 : lnkL (80, mM_tuningOf, [810, 813, 42, 811, 812]) = true := by decide +kernel
theorem zL_S16 : lnkL (81, mS_spareUnits, [516, 519, 32, 517, 518]) = true := by decide +kernel
theorem zL_M16 : lnkL (84, mM_spareUnits, [814, 817, 42, 815, 816]) = true := by decide +kernel
theorem zL_S17 : lnkL (85, mS_changeOf, [520, 523, 32, 521, 522]) = true := by decide +kernel
theorem zL_M17 : lnkL (89, mM_changeOf, [818, 821, 42, 819, 820]) = true := by decide +kernel
theorem zL_S18 : lnkL (90, mS_changeCost, [529, 532, 32, 530, 531]) = true := by decide +kernel
theorem zL_M18 : lnkL (93, mM_changeCost, [826, 829, 42, 827, 828]) = true := by decide +kernel
theorem zL_S19 : lnkL (94, mS_changeoverCost, [534, 537, 32, 535, 536]) = true := by decide +kernel
theorem zL_M19 : lnkL (97, mM_changeoverCost, [830, 833, 42, 831, 832]) = true := by decide +kernel
theorem zL_S20 : lnkL (98, mS_songAt, [539, 542, 32, 540, 541]) = true := by decide +kernel
theorem zL_M20 : lnkL (101, mM_songAt, [834, 837, 42, 835, 836]) = true := by decide +kernel
theorem zL_S21 : lnkL (102, mS_orderCost, [543, 546, 32, 544, 545]) = true := by decide +kernel
theorem zL_M21 : lnkL (105, mM_orderCost, [838, 841, 42, 839, 840]) = true := by decide +kernel
theorem zL_S22 : lnkL (106, mS_isAllowed, [552, 555, 32, 553, 554]) = true := by decide +kernel
theorem zL_M22 : lnkL (109, mM_isAllowed, [846, 849, 42, 847, 848]) = true := by decide +kernel
theorem zL_S23 : lnkL (110, mS_dearestChangeover, [557, 560, 32, 558, 559]) = true := by decide +kernel
theorem zL_M23 : lnkL (113, mM_dearestChangeover, [850, 853, 42, 851, 852]) = true := by decide +kernel
theorem zL_S24 : lnkL (114, mS_bestCost, [561, 564, 32, 562, 563]) = true := by decide +kernel
theorem zL_M24 : lnkL (117, mM_bestCost, [854, 857, 42, 855, 856]) = true := by decide +kernel
theorem zL_S25 : lnkL (118, mS_bestSongAt, [565, 568, 32, 566, 567]) = true := by decide +kernel
theorem zL_M25 : lnkL (121, mM_bestSongAt, [858, 861, 42, 859, 860]) = true := by decide +kernel
theorem zL_S26 : lnkL (122, mS_bestCostFrom, [570, 573, 32, 571, 572]) = true := by decide +kernel
theorem zL_M26 : lnkL (125, mM_bestCostFrom, [862, 865, 42, 863, 864]) = true := by decide +kernel
theorem zL_S27 : lnkL (126, mS_bestOrderCount, [578, 581, 32, 579, 580]) = true := by decide +kernel
theorem zL_M27 : lnkL (129, mM_bestOrderCount, [866, 869, 42, 867, 868]) = true := by decide +kernel
theorem zL_S28 : lnkL (130, mS_savingByUnit, [586, 589, 32, 587, 588]) = true := by decide +kernel
theorem zL_M28 : lnkL (133, mM_savingByUnit, [870, 873, 42, 871, 872]) = true := by decide +kernel
theorem zL_S29 : lnkL (134, mS_encoresWithin, [590, 593, 32, 591, 592]) = true := by decide +kernel
theorem zL_M29 : lnkL (137, mM_encoresWithin, [874, 877, 42, 875, 876]) = true := by decide +kernel
