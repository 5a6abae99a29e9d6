section
-- ===== PART A: goes FIRST, ahead of the names: the tables' words, and 'selects' of the private methods out of them =====
/-- a private method of a class that the tables say can be made, by its rows of tables_1 -/
def lw_okq (q : MethodName × Nat) : Prop := (q.1.cls ≠ "java/lang/invoke/MethodHandle" ∧ q.1.cls ≠ "java/lang/invoke/VarHandle") ∧ Cond.instantiable q.1.cls q.2 ∈ tables_1 ∧ Cond.privateMethod q.1 ∈ tables_1 ∧ Cond.instanceMethod q.1 ∈ tables_1
theorem lw_p0 : lw_okq (⟨"SetlistPlanner$ConcertText", "readNumbers", "(II)Z"⟩, 4) := ⟨⟨by decide +kernel, by decide +kernel⟩, List.mem_of_getElem? (i := 23) (by decide +kernel), List.mem_of_getElem? (i := 198) (by decide +kernel), List.mem_of_getElem? (i := 199) (by decide +kernel)⟩
theorem lw_p1 : lw_okq (⟨"SetlistPlanner$ConcertText", "state", "(CLSetlistPlanner$Concert;)Z"⟩, 4) := ⟨⟨by decide +kernel, by decide +kernel⟩, List.mem_of_getElem? (i := 23) (by decide +kernel), List.mem_of_getElem? (i := 202) (by decide +kernel), List.mem_of_getElem? (i := 203) (by decide +kernel)⟩
theorem lw_p2 : lw_okq (⟨"SetlistPlanner", "beginEdit", "()V"⟩, 6) := ⟨⟨by decide +kernel, by decide +kernel⟩, List.mem_of_getElem? (i := 15) (by decide +kernel), List.mem_of_getElem? (i := 319) (by decide +kernel), List.mem_of_getElem? (i := 320) (by decide +kernel)⟩
theorem lw_p3 : lw_okq (⟨"SetlistPlanner", "presentTable", "()LSetlistPlanner$OrderTable;"⟩, 6) := ⟨⟨by decide +kernel, by decide +kernel⟩, List.mem_of_getElem? (i := 15) (by decide +kernel), List.mem_of_getElem? (i := 392) (by decide +kernel), List.mem_of_getElem? (i := 393) (by decide +kernel)⟩
theorem lw_p4 : lw_okq (⟨"SetlistPlanner$OrderTable", "cellOf", "(II)I"⟩, 5) := ⟨⟨by decide +kernel, by decide +kernel⟩, List.mem_of_getElem? (i := 114) (by decide +kernel), List.mem_of_getElem? (i := 438) (by decide +kernel), List.mem_of_getElem? (i := 439) (by decide +kernel)⟩
theorem lw_p5 : lw_okq (⟨"SetlistPlanner$OrderTable", "settle", "(II)V"⟩, 5) := ⟨⟨by decide +kernel, by decide +kernel⟩, List.mem_of_getElem? (i := 114) (by decide +kernel), List.mem_of_getElem? (i := 442) (by decide +kernel), List.mem_of_getElem? (i := 443) (by decide +kernel)⟩
theorem lw_p6 : lw_okq (⟨"SetlistPlanner$OrderTable", "costThrough", "(III)I"⟩, 5) := ⟨⟨by decide +kernel, by decide +kernel⟩, List.mem_of_getElem? (i := 114) (by decide +kernel), List.mem_of_getElem? (i := 446) (by decide +kernel), List.mem_of_getElem? (i := 447) (by decide +kernel)⟩
theorem lw_p7 : lw_okq (⟨"SetlistPlanner$OrderTable", "bestNext", "(II)I"⟩, 5) := ⟨⟨by decide +kernel, by decide +kernel⟩, List.mem_of_getElem? (i := 114) (by decide +kernel), List.mem_of_getElem? (i := 464) (by decide +kernel), List.mem_of_getElem? (i := 465) (by decide +kernel)⟩
theorem lw_p8 : lw_okq (⟨"SetlistPlannerModel", "readAll", "()I"⟩, 12) := ⟨⟨by decide +kernel, by decide +kernel⟩, List.mem_of_getElem? (i := 569) (by decide +kernel), List.mem_of_getElem? (i := 638) (by decide +kernel), List.mem_of_getElem? (i := 639) (by decide +kernel)⟩
theorem lw_p9 : lw_okq (⟨"SetlistPlannerModel", "statement", "()Z"⟩, 12) := ⟨⟨by decide +kernel, by decide +kernel⟩, List.mem_of_getElem? (i := 569) (by decide +kernel), List.mem_of_getElem? (i := 642) (by decide +kernel), List.mem_of_getElem? (i := 643) (by decide +kernel)⟩
theorem lw_p10 : lw_okq (⟨"SetlistPlannerModel", "here", "()I"⟩, 12) := ⟨⟨by decide +kernel, by decide +kernel⟩, List.mem_of_getElem? (i := 569) (by decide +kernel), List.mem_of_getElem? (i := 646) (by decide +kernel), List.mem_of_getElem? (i := 647) (by decide +kernel)⟩
theorem lw_p11 : lw_okq (⟨"SetlistPlannerModel", "isNumber", "(III)Z"⟩, 12) := ⟨⟨by decide +kernel, by decide +kernel⟩, List.mem_of_getElem? (i := 569) (by decide +kernel), List.mem_of_getElem? (i := 650) (by decide +kernel), List.mem_of_getElem? (i := 651) (by decide +kernel)⟩
theorem lw_p12 : lw_okq (⟨"SetlistPlannerModel", "partIs", "()Z"⟩, 12) := ⟨⟨by decide +kernel, by decide +kernel⟩, List.mem_of_getElem? (i := 569) (by decide +kernel), List.mem_of_getElem? (i := 656) (by decide +kernel), List.mem_of_getElem? (i := 657) (by decide +kernel)⟩
theorem lw_p13 : lw_okq (⟨"SetlistPlannerModel", "isSong", "(I)Z"⟩, 12) := ⟨⟨by decide +kernel, by decide +kernel⟩, List.mem_of_getElem? (i := 569) (by decide +kernel), List.mem_of_getElem? (i := 675) (by decide +kernel), List.mem_of_getElem? (i := 676) (by decide +kernel)⟩
theorem lw_p14 : lw_okq (⟨"SetlistPlannerModel", "isPlayer", "(I)Z"⟩, 12) := ⟨⟨by decide +kernel, by decide +kernel⟩, List.mem_of_getElem? (i := 569) (by decide +kernel), List.mem_of_getElem? (i := 679) (by decide +kernel), List.mem_of_getElem? (i := 680) (by decide +kernel)⟩
theorem lw_p15 : lw_okq (⟨"SetlistPlannerModel", "isKind", "(I)Z"⟩, 12) := ⟨⟨by decide +kernel, by decide +kernel⟩, List.mem_of_getElem? (i := 569) (by decide +kernel), List.mem_of_getElem? (i := 683) (by decide +kernel), List.mem_of_getElem? (i := 684) (by decide +kernel)⟩
def lw_privs_1 : List (MethodName × Nat) := [(⟨"SetlistPlanner$ConcertText", "readNumbers", "(II)Z"⟩, 4), (⟨"SetlistPlanner$ConcertText", "state", "(CLSetlistPlanner$Concert;)Z"⟩, 4), (⟨"SetlistPlanner", "beginEdit", "()V"⟩, 6), (⟨"SetlistPlanner", "presentTable", "()LSetlistPlanner$OrderTable;"⟩, 6), (⟨"SetlistPlanner$OrderTable", "cellOf", "(II)I"⟩, 5), (⟨"SetlistPlanner$OrderTable", "settle", "(II)V"⟩, 5), (⟨"SetlistPlanner$OrderTable", "costThrough", "(III)I"⟩, 5), (⟨"SetlistPlanner$OrderTable", "bestNext", "(II)I"⟩, 5), (⟨"SetlistPlannerModel", "readAll", "()I"⟩, 12), (⟨"SetlistPlannerModel", "statement", "()Z"⟩, 12), (⟨"SetlistPlannerModel", "here", "()I"⟩, 12), (⟨"SetlistPlannerModel", "isNumber", "(III)Z"⟩, 12), (⟨"SetlistPlannerModel", "partIs", "()Z"⟩, 12), (⟨"SetlistPlannerModel", "isSong", "(I)Z"⟩, 12), (⟨"SetlistPlannerModel", "isPlayer", "(I)Z"⟩, 12), (⟨"SetlistPlannerModel", "isKind", "(I)Z"⟩, 12)]
theorem lw_r1 : ∀ q ∈ lw_privs_1, lw_okq q := List.forall_mem_cons.mpr ⟨lw_p0, List.forall_mem_cons.mpr ⟨lw_p1, List.forall_mem_cons.mpr ⟨lw_p2, List.forall_mem_cons.mpr ⟨lw_p3, List.forall_mem_cons.mpr ⟨lw_p4, List.forall_mem_cons.mpr ⟨lw_p5, List.forall_mem_cons.mpr ⟨lw_p6, List.forall_mem_cons.mpr ⟨lw_p7, List.forall_mem_cons.mpr ⟨lw_p8, List.forall_mem_cons.mpr ⟨lw_p9, List.forall_mem_cons.mpr ⟨lw_p10, List.forall_mem_cons.mpr ⟨lw_p11, List.forall_mem_cons.mpr ⟨lw_p12, List.forall_mem_cons.mpr ⟨lw_p13, List.forall_mem_cons.mpr ⟨lw_p14, List.forall_mem_cons.mpr ⟨lw_p15, fun _ h => absurd h List.not_mem_nil⟩⟩⟩⟩⟩⟩⟩⟩⟩⟩⟩⟩⟩⟩⟩⟩
theorem lw_p16 : lw_okq (⟨"SetlistPlannerModel", "keeps", "()V"⟩, 12) := ⟨⟨by decide +kernel, by decide +kernel⟩, List.mem_of_getElem? (i := 569) (by decide +kernel), List.mem_of_getElem? (i := 688) (by decide +kernel), List.mem_of_getElem? (i := 689) (by decide +kernel)⟩
theorem lw_p17 : lw_okq (⟨"SetlistPlannerModel", "isPosition", "(I)Z"⟩, 12) := ⟨⟨by decide +kernel, by decide +kernel⟩, List.mem_of_getElem? (i := 569) (by decide +kernel), List.mem_of_getElem? (i := 704) (by decide +kernel), List.mem_of_getElem? (i := 705) (by decide +kernel)⟩
theorem lw_p18 : lw_okq (⟨"SetlistPlannerModel", "layBest", "(I)I"⟩, 12) := ⟨⟨by decide +kernel, by decide +kernel⟩, List.mem_of_getElem? (i := 569) (by decide +kernel), List.mem_of_getElem? (i := 724) (by decide +kernel), List.mem_of_getElem? (i := 725) (by decide +kernel)⟩
theorem lw_p19 : lw_okq (⟨"SetlistPlannerModel", "between", "(III)I"⟩, 12) := ⟨⟨by decide +kernel, by decide +kernel⟩, List.mem_of_getElem? (i := 569) (by decide +kernel), List.mem_of_getElem? (i := 728) (by decide +kernel), List.mem_of_getElem? (i := 729) (by decide +kernel)⟩
theorem lw_p20 : lw_okq (⟨"SetlistPlannerModel", "costOf", "(IIII)I"⟩, 12) := ⟨⟨by decide +kernel, by decide +kernel⟩, List.mem_of_getElem? (i := 569) (by decide +kernel), List.mem_of_getElem? (i := 732) (by decide +kernel), List.mem_of_getElem? (i := 733) (by decide +kernel)⟩
theorem lw_p21 : lw_okq (⟨"SetlistPlannerModel", "change", "(IIII)I"⟩, 12) := ⟨⟨by decide +kernel, by decide +kernel⟩, List.mem_of_getElem? (i := 569) (by decide +kernel), List.mem_of_getElem? (i := 736) (by decide +kernel), List.mem_of_getElem? (i := 737) (by decide +kernel)⟩
theorem lw_p22 : lw_okq (⟨"SetlistPlannerModel", "isFar", "(II)Z"⟩, 12) := ⟨⟨by decide +kernel, by decide +kernel⟩, List.mem_of_getElem? (i := 569) (by decide +kernel), List.mem_of_getElem? (i := 740) (by decide +kernel), List.mem_of_getElem? (i := 741) (by decide +kernel)⟩
theorem lw_p23 : lw_okq (⟨"SetlistPlannerModel", "all", "()I"⟩, 12) := ⟨⟨by decide +kernel, by decide +kernel⟩, List.mem_of_getElem? (i := 569) (by decide +kernel), List.mem_of_getElem? (i := 744) (by decide +kernel), List.mem_of_getElem? (i := 745) (by decide +kernel)⟩
theorem lw_p24 : lw_okq (⟨"SetlistPlannerModel", "mayCome", "(II)Z"⟩, 12) := ⟨⟨by decide +kernel, by decide +kernel⟩, List.mem_of_getElem? (i := 569) (by decide +kernel), List.mem_of_getElem? (i := 749) (by decide +kernel), List.mem_of_getElem? (i := 750) (by decide +kernel)⟩
theorem lw_p25 : lw_okq (⟨"SetlistPlannerModel", "takes", "(III)V"⟩, 12) := ⟨⟨by decide +kernel, by decide +kernel⟩, List.mem_of_getElem? (i := 569) (by decide +kernel), List.mem_of_getElem? (i := 756) (by decide +kernel), List.mem_of_getElem? (i := 757) (by decide +kernel)⟩
theorem lw_p26 : lw_okq (⟨"SetlistPlannerModel", "costFrom", "(I)I"⟩, 12) := ⟨⟨by decide +kernel, by decide +kernel⟩, List.mem_of_getElem? (i := 569) (by decide +kernel), List.mem_of_getElem? (i := 760) (by decide +kernel), List.mem_of_getElem? (i := 761) (by decide +kernel)⟩
theorem lw_p27 : lw_okq (⟨"SetlistPlannerModel", "layOrder", "(I)V"⟩, 12) := ⟨⟨by decide +kernel, by decide +kernel⟩, List.mem_of_getElem? (i := 569) (by decide +kernel), List.mem_of_getElem? (i := 764) (by decide +kernel), List.mem_of_getElem? (i := 765) (by decide +kernel)⟩
theorem lw_p28 : lw_okq (⟨"SetlistPlannerModel", "ofPart", "(III)I"⟩, 12) := ⟨⟨by decide +kernel, by decide +kernel⟩, List.mem_of_getElem? (i := 569) (by decide +kernel), List.mem_of_getElem? (i := 776) (by decide +kernel), List.mem_of_getElem? (i := 777) (by decide +kernel)⟩
theorem lw_p29 : lw_okq (⟨"SetlistPlannerModel", "areTwo", "(II)Z"⟩, 12) := ⟨⟨by decide +kernel, by decide +kernel⟩, List.mem_of_getElem? (i := 569) (by decide +kernel), List.mem_of_getElem? (i := 792) (by decide +kernel), List.mem_of_getElem? (i := 793) (by decide +kernel)⟩
theorem lw_p30 : lw_okq (⟨"SetlistPlannerModel", "step", "(I)I"⟩, 12) := ⟨⟨by decide +kernel, by decide +kernel⟩, List.mem_of_getElem? (i := 569) (by decide +kernel), List.mem_of_getElem? (i := 812) (by decide +kernel), List.mem_of_getElem? (i := 813) (by decide +kernel)⟩
def lw_privs_2 : List (MethodName × Nat) := [(⟨"SetlistPlannerModel", "keeps", "()V"⟩, 12), (⟨"SetlistPlannerModel", "isPosition", "(I)Z"⟩, 12), (⟨"SetlistPlannerModel", "layBest", "(I)I"⟩, 12), (⟨"SetlistPlannerModel", "between", "(III)I"⟩, 12), (⟨"SetlistPlannerModel", "costOf", "(IIII)I"⟩, 12), (⟨"SetlistPlannerModel", "change", "(IIII)I"⟩, 12), (⟨"SetlistPlannerModel", "isFar", "(II)Z"⟩, 12), (⟨"SetlistPlannerModel", "all", "()I"⟩, 12), (⟨"SetlistPlannerModel", "mayCome", "(II)Z"⟩, 12), (⟨"SetlistPlannerModel", "takes", "(III)V"⟩, 12), (⟨"SetlistPlannerModel", "costFrom", "(I)I"⟩, 12), (⟨"SetlistPlannerModel", "layOrder", "(I)V"⟩, 12), (⟨"SetlistPlannerModel", "ofPart", "(III)I"⟩, 12), (⟨"SetlistPlannerModel", "areTwo", "(II)Z"⟩, 12), (⟨"SetlistPlannerModel", "step", "(I)I"⟩, 12)]
theorem lw_r2 : ∀ q ∈ lw_privs_2, lw_okq q := List.forall_mem_cons.mpr ⟨lw_p16, List.forall_mem_cons.mpr ⟨lw_p17, List.forall_mem_cons.mpr ⟨lw_p18, List.forall_mem_cons.mpr ⟨lw_p19, List.forall_mem_cons.mpr ⟨lw_p20, List.forall_mem_cons.mpr ⟨lw_p21, List.forall_mem_cons.mpr ⟨lw_p22, List.forall_mem_cons.mpr ⟨lw_p23, List.forall_mem_cons.mpr ⟨lw_p24, List.forall_mem_cons.mpr ⟨lw_p25, List.forall_mem_cons.mpr ⟨lw_p26, List.forall_mem_cons.mpr ⟨lw_p27, List.forall_mem_cons.mpr ⟨lw_p28, List.forall_mem_cons.mpr ⟨lw_p29, List.forall_mem_cons.mpr ⟨lw_p30, fun _ h => absurd h List.not_mem_nil⟩⟩⟩⟩⟩⟩⟩⟩⟩⟩⟩⟩⟩⟩⟩
def lw_privs : List (MethodName × Nat) := lw_privs_1 ++ (lw_privs_2)
def lw_tbl : List Cond := k2_sels lw_privs ++ tables_1
theorem lw_privs_ok : ∀ q ∈ lw_privs, lw_okq q := by
  show ∀ q ∈ lw_privs_1 ++ (lw_privs_2), lw_okq q
  exact List.forall_mem_append.mpr ⟨lw_r1, lw_r2⟩
end
section
def RX0 : String := "SetlistPlanner$Concert"
def TX0 : u_T := fun k => match k with
  | 0 => ("SetlistPlanner$Concert", "songs", "I", false)
  | 1 => ("SetlistPlanner$Concert", "players", "I", false)
  | 2 => ("SetlistPlanner$Concert", "kinds", "I", false)
  | 3 => ("SetlistPlanner$Concert", "encores", "I", false)
  | 4 => ("SetlistPlanner$Concert", "playingTimes", "[I", true)
  | 5 => ("SetlistPlanner$Concert", "playerSides", "[I", true)
  | 6 => ("SetlistPlanner$Concert", "units", "[I", true)
  | 7 => ("SetlistPlanner$Concert", "kindSides", "[I", true)
  | 8 => ("SetlistPlanner$Concert", "partKinds", "[I", true)
  | 9 => ("SetlistPlanner$Concert", "partTunings", "[I", true)
  | 10 => ("SetlistPlanner$Concert", "pinnedAt", "[I", true)
  | _ => ("SetlistPlanner$Concert", "order", "[I", true)
def tyX0 : Nat → FieldType := fun k => match k with
  | 0 => .int
  | 1 => .int
  | 2 => .int
  | 3 => .int
  | 4 => .array .int
  | 5 => .array .int
  | 6 => .array .int
  | 7 => .array .int
  | 8 => .array .int
  | 9 => .array .int
  | 10 => .array .int
  | _ => .array .int
theorem nmX0 : ∀ a, a < 12 → ∀ b, b < 12 → a ≠ b → (TX0 a).2.1 ≠ (TX0 b).2.1 := by decide +kernel
theorem tyX0_ok : ∀ k, k < 12 → parseFieldDescriptor (TX0 k).2.2.1 = some (tyX0 k) := by decide +kernel
def RX1 : String := "SetlistPlanner$ConcertText"
def TX1 : u_T := fun k => match k with
  | 0 => ("SetlistPlanner$ConcertText", "characters", "[C", true)
  | 1 => ("SetlistPlanner$ConcertText", "length", "I", false)
  | 2 => ("SetlistPlanner$ConcertText", "numbers", "[I", true)
  | _ => ("SetlistPlanner$ConcertText", "numberCount", "I", false)
def tyX1 : Nat → FieldType := fun k => match k with
  | 0 => .array .char
  | 1 => .int
  | 2 => .array .int
  | _ => .int
theorem nmX1 : ∀ a, a < 4 → ∀ b, b < 4 → a ≠ b → (TX1 a).2.1 ≠ (TX1 b).2.1 := by decide +kernel
theorem tyX1_ok : ∀ k, k < 4 → parseFieldDescriptor (TX1 k).2.2.1 = some (tyX1 k) := by decide +kernel
def RX2 : String := "SetlistPlanner$History"
def TX2 : u_T := fun k => match k with
  | 0 => ("SetlistPlanner$History", "concerts", "[LSetlistPlanner$Concert;", true)
  | 1 => ("SetlistPlanner$History", "next", "I", false)
  | _ => ("SetlistPlanner$History", "count", "I", false)
def tyX2 : Nat → FieldType := fun k => match k with
  | 0 => .array (.object "SetlistPlanner$Concert")
  | 1 => .int
  | _ => .int
theorem nmX2 : ∀ a, a < 3 → ∀ b, b < 3 → a ≠ b → (TX2 a).2.1 ≠ (TX2 b).2.1 := by decide +kernel
theorem tyX2_ok : ∀ k, k < 3 → parseFieldDescriptor (TX2 k).2.2.1 = some (tyX2 k) := by decide +kernel
def RX3 : String := "SetlistPlanner$OrderTable"
def TX3 : u_T := fun k => match k with
  | 0 => ("SetlistPlanner$OrderTable", "songs", "I", false)
  | 1 => ("SetlistPlanner$OrderTable", "costs", "[I", true)
  | 2 => ("SetlistPlanner$OrderTable", "mayStand", "[Z", true)
  | 3 => ("SetlistPlanner$OrderTable", "restCosts", "[I", true)
  | _ => ("SetlistPlanner$OrderTable", "restOrders", "[I", true)
def tyX3 : Nat → FieldType := fun k => match k with
  | 0 => .int
  | 1 => .array .int
  | 2 => .array .boolean
  | 3 => .array .int
  | _ => .array .int
theorem nmX3 : ∀ a, a < 5 → ∀ b, b < 5 → a ≠ b → (TX3 a).2.1 ≠ (TX3 b).2.1 := by decide +kernel
theorem tyX3_ok : ∀ k, k < 5 → parseFieldDescriptor (TX3 k).2.2.1 = some (tyX3 k) := by decide +kernel
def RX4 : String := "SetlistPlanner"
def TX4 : u_T := fun k => match k with
  | 0 => ("SetlistPlanner", "text", "LSetlistPlanner$ConcertText;", true)
  | 1 => ("SetlistPlanner", "concert", "LSetlistPlanner$Concert;", true)
  | 2 => ("SetlistPlanner", "draft", "LSetlistPlanner$Concert;", true)
  | 3 => ("SetlistPlanner", "history", "LSetlistPlanner$History;", true)
  | 4 => ("SetlistPlanner", "table", "LSetlistPlanner$OrderTable;", true)
  | _ => ("SetlistPlanner", "tableIsPresent", "Z", false)
def tyX4 : Nat → FieldType := fun k => match k with
  | 0 => .object "SetlistPlanner$ConcertText"
  | 1 => .object "SetlistPlanner$Concert"
  | 2 => .object "SetlistPlanner$Concert"
  | 3 => .object "SetlistPlanner$History"
  | 4 => .object "SetlistPlanner$OrderTable"
  | _ => .boolean
theorem nmX4 : ∀ a, a < 6 → ∀ b, b < 6 → a ≠ b → (TX4 a).2.1 ≠ (TX4 b).2.1 := by decide +kernel
theorem tyX4_ok : ∀ k, k < 6 → parseFieldDescriptor (TX4 k).2.2.1 = some (tyX4 k) := by decide +kernel
def RX5 : String := "SetlistPlannerModel"
def TX5 : u_T := fun k => match k with
  | 0 => ("SetlistPlannerModel", "s", "[I", true)
  | 1 => ("SetlistPlannerModel", "read", "[I", true)
  | 2 => ("SetlistPlannerModel", "kept", "[I", true)
  | 3 => ("SetlistPlannerModel", "keptMany", "I", false)
  | 4 => ("SetlistPlannerModel", "text", "[I", true)
  | 5 => ("SetlistPlannerModel", "length", "I", false)
  | 6 => ("SetlistPlannerModel", "spot", "I", false)
  | 7 => ("SetlistPlannerModel", "number", "I", false)
  | 8 => ("SetlistPlannerModel", "rest", "[I", true)
  | 9 => ("SetlistPlannerModel", "ways", "[I", true)
  | 10 => ("SetlistPlannerModel", "costs", "[I", true)
  | _ => ("SetlistPlannerModel", "found", "[I", true)
def tyX5 : Nat → FieldType := fun k => match k with
  | 0 => .array .int
  | 1 => .array .int
  | 2 => .array .int
  | 3 => .int
  | 4 => .array .int
  | 5 => .int
  | 6 => .int
  | 7 => .int
  | 8 => .array .int
  | 9 => .array .int
  | 10 => .array .int
  | _ => .array .int
theorem nmX5 : ∀ a, a < 12 → ∀ b, b < 12 → a ≠ b → (TX5 a).2.1 ≠ (TX5 b).2.1 := by decide +kernel
theorem tyX5_ok : ∀ k, k < 12 → parseFieldDescriptor (TX5 k).2.2.1 = some (tyX5 k) := by decide +kernel
def RJ6 : String := "java/lang/Integer"
def RJ9 : String := "java/lang/Math"
def cnm : Nat → String
  | 0 => RX0
  | 1 => RX1
  | 2 => RX2
  | 3 => RX3
  | 4 => RX4
  | 5 => RX5
  | 6 => RJ6
  | _ => RJ9
abbrev MR : Type := MethodName × ByteArray × Nat × Option FieldType × Nat × Nat × Bool × List (Nat × Instr × Nat)
end
section
def iC_makeEmpty : List (Nat × Instr × Nat) := [(0, .aload_n 0, 1), (1, .iconst 0, 1), (2, .putfield 9, 3), (5, .aload_n 0, 1), (6, .iconst 0, 1), (7, .putfield 15, 3), (10, .aload_n 0, 1), (11, .iconst 0, 1), (12, .putfield 18, 3), (15, .aload_n 0, 1), (16, .iconst 0, 1), (17, .putfield 21, 3), (20, .iconst 0, 1), (21, .istore_n 1, 1), (22, .iload_n 1, 1), (23, .bipush 40, 2), (25, .if_icmp .ge 23, 3), (28, .aload_n 0, 1), (29, .getfield 37, 3), (32, .iload_n 1, 1), (33, .iconst (-1), 1), (34, .iastore, 1), (35, .aload_n 0, 1), (36, .getfield 40, 3), (39, .iload_n 1, 1), (40, .iconst 0, 1), (41, .iastore, 1), (42, .iinc 1 1, 3), (45, .goto (-23), 3), (48, .iconst 0, 1), (49, .istore_n 1, 1), (50, .iload_n 1, 1), (51, .bipush 8, 2), (53, .if_icmp .ge 23, 3), (56, .aload_n 0, 1), (57, .getfield 43, 3), (60, .iload_n 1, 1), (61, .iconst (-1), 1), (62, .iastore, 1), (63, .aload_n 0, 1), (64, .getfield 46, 3), (67, .iload_n 1, 1), (68, .iload_n 1, 1), (69, .iastore, 1), (70, .iinc 1 1, 3), (73, .goto (-23), 3), (76, .return_, 1)]
theorem iC_makeEmpty_ok : ∀ q ∈ iC_makeEmpty, decode prog_2_method_2_code q.1 = .ok q.2 := by decide +kernel
def mC_makeEmpty : MR := (⟨RX0, "makeEmpty", "()V"⟩, prog_2_method_2_code, 2, none, 0, 0, false, iC_makeEmpty)
def iC_copyFrom : List (Nat × Instr × Nat) := [(0, .aload_n 0, 1), (1, .aload_n 1, 1), (2, .getfield 9, 3), (5, .putfield 9, 3), (8, .aload_n 0, 1), (9, .aload_n 1, 1), (10, .getfield 15, 3), (13, .putfield 15, 3), (16, .aload_n 0, 1), (17, .aload_n 1, 1), (18, .getfield 18, 3), (21, .putfield 18, 3), (24, .aload_n 0, 1), (25, .aload_n 1, 1), (26, .getfield 21, 3), (29, .putfield 21, 3), (32, .aload_n 1, 1), (33, .getfield 24, 3), (36, .iconst 0, 1), (37, .aload_n 0, 1), (38, .getfield 24, 3), (41, .iconst 0, 1), (42, .bipush 8, 2), (44, .invokestatic 49, 3), (47, .aload_n 1, 1), (48, .getfield 28, 3), (51, .iconst 0, 1), (52, .aload_n 0, 1), (53, .getfield 28, 3), (56, .iconst 0, 1), (57, .iconst 5, 1), (58, .invokestatic 49, 3), (61, .aload_n 1, 1), (62, .getfield 31, 3), (65, .iconst 0, 1), (66, .aload_n 0, 1), (67, .getfield 31, 3), (70, .iconst 0, 1), (71, .bipush 6, 2), (73, .invokestatic 49, 3), (76, .aload_n 1, 1), (77, .getfield 34, 3), (80, .iconst 0, 1), (81, .aload_n 0, 1), (82, .getfield 34, 3), (85, .iconst 0, 1), (86, .bipush 6, 2), (88, .invokestatic 49, 3), (91, .aload_n 1, 1), (92, .getfield 37, 3), (95, .iconst 0, 1), (96, .aload_n 0, 1), (97, .getfield 37, 3), (100, .iconst 0, 1), (101, .bipush 40, 2), (103, .invokestatic 49, 3), (106, .aload_n 1, 1), (107, .getfield 40, 3), (110, .iconst 0, 1), (111, .aload_n 0, 1), (112, .getfield 40, 3), (115, .iconst 0, 1), (116, .bipush 40, 2), (118, .invokestatic 49, 3), (121, .aload_n 1, 1), (122, .getfield 43, 3), (125, .iconst 0, 1), (126, .aload_n 0, 1), (127, .getfield 43, 3), (130, .iconst 0, 1), (131, .bipush 8, 2), (133, .invokestatic 49, 3), (136, .aload_n 1, 1), (137, .getfield 46, 3), (140, .iconst 0, 1), (141, .aload_n 0, 1), (142, .getfield 46, 3), (145, .iconst 0, 1), (146, .bipush 8, 2), (148, .invokestatic 49, 3), (151, .return_, 1)]
theorem iC_copyFrom_ok : ∀ q ∈ iC_copyFrom, decode prog_2_method_3_code q.1 = .ok q.2 := by decide +kernel
def mC_copyFrom : MR := (⟨RX0, "copyFrom", "(LSetlistPlanner$Concert;)V"⟩, prog_2_method_3_code, 2, none, 0, 1, false, iC_copyFrom)
def iC_addSong : List (Nat × Instr × Nat) := [(0, .aload_n 0, 1), (1, .getfield 9, 3), (4, .bipush 8, 2), (6, .if_icmp .eq 14, 3), (9, .iload_n 1, 1), (10, .iconst 1, 1), (11, .if_icmp .lt 9, 3), (14, .iload_n 1, 1), (15, .bipush 20, 2), (17, .if_icmp .le 5, 3), (20, .iconst 0, 1), (21, .ireturn, 1), (22, .aload_n 0, 1), (23, .getfield 24, 3), (26, .aload_n 0, 1), (27, .getfield 9, 3), (30, .iload_n 1, 1), (31, .iastore, 1), (32, .aload_n 0, 1), (33, .dup, 1), (34, .getfield 9, 3), (37, .iconst 1, 1), (38, .iadd, 1), (39, .putfield 9, 3), (42, .iconst 1, 1), (43, .ireturn, 1)]
theorem iC_addSong_ok : ∀ q ∈ iC_addSong, decode prog_2_method_4_code q.1 = .ok q.2 := by decide +kernel
def mC_addSong : MR := (⟨RX0, "addSong", "(I)Z"⟩, prog_2_method_4_code, 2, (some .boolean), 0, 1, false, iC_addSong)
def iC_addPlayer : List (Nat × Instr × Nat) := [(0, .aload_n 0, 1), (1, .getfield 15, 3), (4, .iconst 5, 1), (5, .if_icmp .eq 11, 3), (8, .aload_n 0, 1), (9, .iload_n 1, 1), (10, .invokevirtual 55, 3), (13, .ifCond .ne 5, 3), (16, .iconst 0, 1), (17, .ireturn, 1), (18, .aload_n 0, 1), (19, .getfield 28, 3), (22, .aload_n 0, 1), (23, .getfield 15, 3), (26, .iload_n 1, 1), (27, .iastore, 1), (28, .aload_n 0, 1), (29, .dup, 1), (30, .getfield 15, 3), (33, .iconst 1, 1), (34, .iadd, 1), (35, .putfield 15, 3), (38, .iconst 1, 1), (39, .ireturn, 1)]
theorem iC_addPlayer_ok : ∀ q ∈ iC_addPlayer, decode prog_2_method_5_code q.1 = .ok q.2 := by decide +kernel
def mC_addPlayer : MR := (⟨RX0, "addPlayer", "(I)Z"⟩, prog_2_method_5_code, 2, (some .boolean), 0, 1, false, iC_addPlayer)
def iC_addKind : List (Nat × Instr × Nat) := [(0, .aload_n 0, 1), (1, .getfield 18, 3), (4, .bipush 6, 2), (6, .if_icmp .eq 21, 3), (9, .iload_n 1, 1), (10, .iconst 1, 1), (11, .if_icmp .lt 16, 3), (14, .iload_n 1, 1), (15, .iconst 5, 1), (16, .if_icmp .gt 11, 3), (19, .aload_n 0, 1), (20, .iload_n 2, 1), (21, .invokevirtual 55, 3), (24, .ifCond .ne 5, 3), (27, .iconst 0, 1), (28, .ireturn, 1), (29, .aload_n 0, 1), (30, .getfield 31, 3), (33, .aload_n 0, 1), (34, .getfield 18, 3), (37, .iload_n 1, 1), (38, .iastore, 1), (39, .aload_n 0, 1), (40, .getfield 34, 3), (43, .aload_n 0, 1), (44, .getfield 18, 3), (47, .iload_n 2, 1), (48, .iastore, 1), (49, .aload_n 0, 1), (50, .dup, 1), (51, .getfield 18, 3), (54, .iconst 1, 1), (55, .iadd, 1), (56, .putfield 18, 3), (59, .iconst 1, 1), (60, .ireturn, 1)]
theorem iC_addKind_ok : ∀ q ∈ iC_addKind, decode prog_2_method_6_code q.1 = .ok q.2 := by decide +kernel
def mC_addKind : MR := (⟨RX0, "addKind", "(II)Z"⟩, prog_2_method_6_code, 3, (some .boolean), 0, 2, false, iC_addKind)
def iC_addPart : List (Nat × Instr × Nat) := [(0, .aload_n 0, 1), (1, .iload_n 1, 1), (2, .iload_n 2, 1), (3, .iload_n 3, 1), (4, .iload 4, 2), (6, .invokevirtual 59, 3), (9, .ifCond .eq 13, 3), (12, .aload_n 0, 1), (13, .iload_n 1, 1), (14, .iload_n 2, 1), (15, .iload_n 3, 1), (16, .invokevirtual 63, 3), (19, .ifCond .ne 5, 3), (22, .iconst 0, 1), (23, .ireturn, 1), (24, .aload_n 0, 1), (25, .iload_n 1, 1), (26, .iload_n 2, 1), (27, .iload_n 3, 1), (28, .iload 4, 2), (30, .invokevirtual 67, 3), (33, .iconst 1, 1), (34, .ireturn, 1)]
theorem iC_addPart_ok : ∀ q ∈ iC_addPart, decode prog_2_method_7_code q.1 = .ok q.2 := by decide +kernel
def mC_addPart : MR := (⟨RX0, "addPart", "(IIII)Z"⟩, prog_2_method_7_code, 5, (some .boolean), 0, 4, false, iC_addPart)
def iC_addEncore : List (Nat × Instr × Nat) := [(0, .aload_n 0, 1), (1, .iload_n 1, 1), (2, .invokevirtual 71, 3), (5, .ifCond .ne 5, 3), (8, .iconst 0, 1), (9, .ireturn, 1), (10, .aload_n 0, 1), (11, .dup, 1), (12, .getfield 21, 3), (15, .iconst 1, 1), (16, .iload_n 1, 1), (17, .ishl, 1), (18, .ior, 1), (19, .putfield 21, 3), (22, .iconst 1, 1), (23, .ireturn, 1)]
theorem iC_addEncore_ok : ∀ q ∈ iC_addEncore, decode prog_2_method_8_code q.1 = .ok q.2 := by decide +kernel
def mC_addEncore : MR := (⟨RX0, "addEncore", "(I)Z"⟩, prog_2_method_8_code, 2, (some .boolean), 0, 1, false, iC_addEncore)
def iC_hasAllSorts : List (Nat × Instr × Nat) := [(0, .aload_n 0, 1), (1, .getfield 9, 3), (4, .ifCond .le 21, 3), (7, .aload_n 0, 1), (8, .getfield 15, 3), (11, .ifCond .le 14, 3), (14, .aload_n 0, 1), (15, .getfield 18, 3), (18, .ifCond .le 7, 3), (21, .iconst 1, 1), (22, .goto 4, 3), (25, .iconst 0, 1), (26, .ireturn, 1)]
theorem iC_hasAllSorts_ok : ∀ q ∈ iC_hasAllSorts, decode prog_2_method_9_code q.1 = .ok q.2 := by decide +kernel
def mC_hasAllSorts : MR := (⟨RX0, "hasAllSorts", "()Z"⟩, prog_2_method_9_code, 1, (some .boolean), 0, 0, false, iC_hasAllSorts)
def iC_isSong : List (Nat × Instr × Nat) := [(0, .iload_n 1, 1), (1, .ifCond .lt 15, 3), (4, .iload_n 1, 1), (5, .aload_n 0, 1), (6, .getfield 9, 3), (9, .if_icmp .ge 7, 3), (12, .iconst 1, 1), (13, .goto 4, 3), (16, .iconst 0, 1), (17, .ireturn, 1)]
theorem iC_isSong_ok : ∀ q ∈ iC_isSong, decode prog_2_method_10_code q.1 = .ok q.2 := by decide +kernel
def mC_isSong : MR := (⟨RX0, "isSong", "(I)Z"⟩, prog_2_method_10_code, 2, (some .boolean), 0, 1, false, iC_isSong)
def iC_areTwoSongs : List (Nat × Instr × Nat) := [(0, .aload_n 0, 1), (1, .iload_n 1, 1), (2, .invokevirtual 71, 3), (5, .ifCond .eq 20, 3), (8, .aload_n 0, 1), (9, .iload_n 2, 1), (10, .invokevirtual 71, 3), (13, .ifCond .eq 12, 3), (16, .iload_n 1, 1), (17, .iload_n 2, 1), (18, .if_icmp .eq 7, 3), (21, .iconst 1, 1), (22, .goto 4, 3), (25, .iconst 0, 1), (26, .ireturn, 1)]
theorem iC_areTwoSongs_ok : ∀ q ∈ iC_areTwoSongs, decode prog_2_method_11_code q.1 = .ok q.2 := by decide +kernel
def mC_areTwoSongs : MR := (⟨RX0, "areTwoSongs", "(II)Z"⟩, prog_2_method_11_code, 3, (some .boolean), 0, 2, false, iC_areTwoSongs)
def iC_isPlayer : List (Nat × Instr × Nat) := [(0, .iload_n 1, 1), (1, .ifCond .lt 15, 3), (4, .iload_n 1, 1), (5, .aload_n 0, 1), (6, .getfield 15, 3), (9, .if_icmp .ge 7, 3), (12, .iconst 1, 1), (13, .goto 4, 3), (16, .iconst 0, 1), (17, .ireturn, 1)]
theorem iC_isPlayer_ok : ∀ q ∈ iC_isPlayer, decode prog_2_method_12_code q.1 = .ok q.2 := by decide +kernel
def mC_isPlayer : MR := (⟨RX0, "isPlayer", "(I)Z"⟩, prog_2_method_12_code, 2, (some .boolean), 0, 1, false, iC_isPlayer)
def iC_isKind : List (Nat × Instr × Nat) := [(0, .iload_n 1, 1), (1, .ifCond .lt 15, 3), (4, .iload_n 1, 1), (5, .aload_n 0, 1), (6, .getfield 18, 3), (9, .if_icmp .ge 7, 3), (12, .iconst 1, 1), (13, .goto 4, 3), (16, .iconst 0, 1), (17, .ireturn, 1)]
theorem iC_isKind_ok : ∀ q ∈ iC_isKind, decode prog_2_method_13_code q.1 = .ok q.2 := by decide +kernel
def mC_isKind : MR := (⟨RX0, "isKind", "(I)Z"⟩, prog_2_method_13_code, 2, (some .boolean), 0, 1, false, iC_isKind)
def iC_isSide : List (Nat × Instr × Nat) := [(0, .iload_n 1, 1), (1, .ifCond .eq 8, 3), (4, .iload_n 1, 1), (5, .iconst 1, 1), (6, .if_icmp .ne 7, 3), (9, .iconst 1, 1), (10, .goto 4, 3), (13, .iconst 0, 1), (14, .ireturn, 1)]
theorem iC_isSide_ok : ∀ q ∈ iC_isSide, decode prog_2_method_14_code q.1 = .ok q.2 := by decide +kernel
def mC_isSide : MR := (⟨RX0, "isSide", "(I)Z"⟩, prog_2_method_14_code, 2, (some .boolean), 0, 1, false, iC_isSide)
def iC_isPart : List (Nat × Instr × Nat) := [(0, .aload_n 0, 1), (1, .iload_n 1, 1), (2, .invokevirtual 71, 3), (5, .ifCond .eq 34, 3), (8, .aload_n 0, 1), (9, .iload_n 2, 1), (10, .invokevirtual 74, 3), (13, .ifCond .eq 26, 3), (16, .aload_n 0, 1), (17, .iload_n 3, 1), (18, .invokevirtual 77, 3), (21, .ifCond .eq 18, 3), (24, .iload 4, 2), (26, .ifCond .lt 13, 3), (29, .iload 4, 2), (31, .iconst 5, 1), (32, .if_icmp .gt 7, 3), (35, .iconst 1, 1), (36, .goto 4, 3), (39, .iconst 0, 1), (40, .ireturn, 1)]
theorem iC_isPart_ok : ∀ q ∈ iC_isPart, decode prog_2_method_15_code q.1 = .ok q.2 := by decide +kernel
def mC_isPart : MR := (⟨RX0, "isPart", "(IIII)Z"⟩, prog_2_method_15_code, 5, (some .boolean), 0, 4, false, iC_isPart)
def iC_isEncore : List (Nat × Instr × Nat) := [(0, .aload_n 0, 1), (1, .getfield 21, 3), (4, .iload_n 1, 1), (5, .ishr, 1), (6, .iconst 1, 1), (7, .iand, 1), (8, .iconst 1, 1), (9, .if_icmp .ne 7, 3), (12, .iconst 1, 1), (13, .goto 4, 3), (16, .iconst 0, 1), (17, .ireturn, 1)]
theorem iC_isEncore_ok : ∀ q ∈ iC_isEncore, decode prog_2_method_16_code q.1 = .ok q.2 := by decide +kernel
def mC_isEncore : MR := (⟨RX0, "isEncore", "(I)Z"⟩, prog_2_method_16_code, 2, (some .boolean), 0, 1, false, iC_isEncore)
def iC_kindPlayed : List (Nat × Instr × Nat) := [(0, .aload_n 0, 1), (1, .getfield 37, 3), (4, .iload_n 1, 1), (5, .iconst 5, 1), (6, .imul, 1), (7, .iload_n 2, 1), (8, .iadd, 1), (9, .iaload, 1), (10, .ireturn, 1)]
theorem iC_kindPlayed_ok : ∀ q ∈ iC_kindPlayed, decode prog_2_method_17_code q.1 = .ok q.2 := by decide +kernel
def mC_kindPlayed : MR := (⟨RX0, "kindPlayed", "(II)I"⟩, prog_2_method_17_code, 3, (some .int), 0, 2, false, iC_kindPlayed)
def iC_tuningPlayed : List (Nat × Instr × Nat) := [(0, .aload_n 0, 1), (1, .getfield 40, 3), (4, .iload_n 1, 1), (5, .iconst 5, 1), (6, .imul, 1), (7, .iload_n 2, 1), (8, .iadd, 1), (9, .iaload, 1), (10, .ireturn, 1)]
theorem iC_tuningPlayed_ok : ∀ q ∈ iC_tuningPlayed, decode prog_2_method_18_code q.1 = .ok q.2 := by decide +kernel
def mC_tuningPlayed : MR := (⟨RX0, "tuningPlayed", "(II)I"⟩, prog_2_method_18_code, 3, (some .int), 0, 2, false, iC_tuningPlayed)
def iC_givePart : List (Nat × Instr × Nat) := [(0, .aload_n 0, 1), (1, .getfield 37, 3), (4, .iload_n 1, 1), (5, .iconst 5, 1), (6, .imul, 1), (7, .iload_n 2, 1), (8, .iadd, 1), (9, .iload_n 3, 1), (10, .iastore, 1), (11, .aload_n 0, 1), (12, .getfield 40, 3), (15, .iload_n 1, 1), (16, .iconst 5, 1), (17, .imul, 1), (18, .iload_n 2, 1), (19, .iadd, 1), (20, .iload 4, 2), (22, .iastore, 1), (23, .return_, 1)]
theorem iC_givePart_ok : ∀ q ∈ iC_givePart, decode prog_2_method_19_code q.1 = .ok q.2 := by decide +kernel
def mC_givePart : MR := (⟨RX0, "givePart", "(IIII)V"⟩, prog_2_method_19_code, 5, none, 0, 4, false, iC_givePart)
def iC_playersOn : List (Nat × Instr × Nat) := [(0, .iconst 0, 1), (1, .istore_n 3, 1), (2, .iconst 0, 1), (3, .istore 4, 2), (5, .iload 4, 2), (7, .aload_n 0, 1), (8, .getfield 15, 3), (11, .if_icmp .ge 27, 3), (14, .aload_n 0, 1), (15, .getfield 37, 3), (18, .iload_n 1, 1), (19, .iconst 5, 1), (20, .imul, 1), (21, .iload 4, 2), (23, .iadd, 1), (24, .iaload, 1), (25, .iload_n 2, 1), (26, .if_icmp .ne 6, 3), (29, .iinc 3 1, 3), (32, .iinc 4 1, 3), (35, .goto (-30), 3), (38, .iload_n 3, 1), (39, .ireturn, 1)]
theorem iC_playersOn_ok : ∀ q ∈ iC_playersOn, decode prog_2_method_20_code q.1 = .ok q.2 := by decide +kernel
def mC_playersOn : MR := (⟨RX0, "playersOn", "(II)I"⟩, prog_2_method_20_code, 5, (some .int), 0, 2, false, iC_playersOn)
def iC_mostPlayersOn : List (Nat × Instr × Nat) := [(0, .iconst 0, 1), (1, .istore_n 2, 1), (2, .iconst 0, 1), (3, .istore_n 3, 1), (4, .iload_n 3, 1), (5, .aload_n 0, 1), (6, .getfield 9, 3), (9, .if_icmp .ge 20, 3), (12, .iload_n 2, 1), (13, .aload_n 0, 1), (14, .iload_n 3, 1), (15, .iload_n 1, 1), (16, .invokevirtual 80, 3), (19, .invokestatic 84, 3), (22, .istore_n 2, 1), (23, .iinc 3 1, 3), (26, .goto (-22), 3), (29, .iload_n 2, 1), (30, .ireturn, 1)]
theorem iC_mostPlayersOn_ok : ∀ q ∈ iC_mostPlayersOn, decode prog_2_method_21_code q.1 = .ok q.2 := by decide +kernel
def mC_mostPlayersOn : MR := (⟨RX0, "mostPlayersOn", "(I)I"⟩, prog_2_method_21_code, 4, (some .int), 0, 1, false, iC_mostPlayersOn)
def iC_hasUnitFor : List (Nat × Instr × Nat) := [(0, .aload_n 0, 1), (1, .iload_n 1, 1), (2, .iload_n 2, 1), (3, .invokevirtual 89, 3), (6, .iload_n 3, 1), (7, .if_icmp .eq 18, 3), (10, .aload_n 0, 1), (11, .iload_n 1, 1), (12, .iload_n 3, 1), (13, .invokevirtual 80, 3), (16, .aload_n 0, 1), (17, .getfield 31, 3), (20, .iload_n 3, 1), (21, .iaload, 1), (22, .if_icmp .ge 7, 3), (25, .iconst 1, 1), (26, .goto 4, 3), (29, .iconst 0, 1), (30, .ireturn, 1)]
theorem iC_hasUnitFor_ok : ∀ q ∈ iC_hasUnitFor, decode prog_2_method_22_code q.1 = .ok q.2 := by decide +kernel
def mC_hasUnitFor : MR := (⟨RX0, "hasUnitFor", "(III)Z"⟩, prog_2_method_22_code, 4, (some .boolean), 0, 3, false, iC_hasUnitFor)
def iC_change : List (Nat × Instr × Nat) := [(0, .aload_n 0, 1), (1, .iload_n 2, 1), (2, .iload_n 1, 1), (3, .invokevirtual 89, 3), (6, .istore 4, 2), (8, .aload_n 0, 1), (9, .iload_n 3, 1), (10, .iload_n 1, 1), (11, .invokevirtual 89, 3), (14, .istore 5, 2), (16, .iload 4, 2), (18, .iconst (-1), 1), (19, .if_icmp .ne 15, 3), (22, .iload 5, 2), (24, .iconst (-1), 1), (25, .if_icmp .ne 7, 3), (28, .iconst 0, 1), (29, .goto 4, 3), (32, .iconst 1, 1), (33, .ireturn, 1), (34, .iload 5, 2), (36, .iconst (-1), 1), (37, .if_icmp .ne 5, 3), (40, .iconst 2, 1), (41, .ireturn, 1), (42, .iload 4, 2), (44, .iload 5, 2), (46, .if_icmp .eq 5, 3), (49, .iconst 3, 1), (50, .ireturn, 1), (51, .aload_n 0, 1), (52, .iload_n 2, 1), (53, .iload_n 1, 1), (54, .invokevirtual 92, 3), (57, .aload_n 0, 1), (58, .iload_n 3, 1), (59, .iload_n 1, 1), (60, .invokevirtual 92, 3), (63, .if_icmp .ne 5, 3), (66, .iconst 0, 1), (67, .ireturn, 1), (68, .aload_n 0, 1), (69, .iload_n 3, 1), (70, .iload 5, 2), (72, .invokevirtual 80, 3), (75, .aload_n 0, 1), (76, .getfield 31, 3), (79, .iload 5, 2), (81, .iaload, 1), (82, .if_icmp .ge 7, 3), (85, .iconst 4, 1), (86, .goto 4, 3), (89, .iconst 5, 1), (90, .ireturn, 1)]
theorem iC_change_ok : ∀ q ∈ iC_change, decode prog_2_method_23_code q.1 = .ok q.2 := by decide +kernel
def mC_change : MR := (⟨RX0, "change", "(III)I"⟩, prog_2_method_23_code, 6, (some .int), 0, 3, false, iC_change)
def iC_costOfChange : List (Nat × Instr × Nat) := [(0, .aload_n 0, 1), (1, .iload_n 2, 1), (2, .iload_n 1, 1), (3, .invokevirtual 89, 3), (6, .istore 4, 2), (8, .aload_n 0, 1), (9, .iload_n 3, 1), (10, .iload_n 1, 1), (11, .invokevirtual 89, 3), (14, .istore 5, 2), (16, .aload_n 0, 1), (17, .iload_n 1, 1), (18, .iload_n 2, 1), (19, .iload_n 3, 1), (20, .invokevirtual 95, 3), (23, .tableswitch 100 1 5 #[33, 43, 53, 71, 81], 33), (56, .iconst 1, 1), (57, .aload_n 0, 1), (58, .iload_n 1, 1), (59, .iload 5, 2), (61, .invokevirtual 99, 3), (64, .iadd, 1), (65, .ireturn, 1), (66, .iconst 1, 1), (67, .aload_n 0, 1), (68, .iload_n 1, 1), (69, .iload 4, 2), (71, .invokevirtual 99, 3), (74, .iadd, 1), (75, .ireturn, 1), (76, .iconst 3, 1), (77, .aload_n 0, 1), (78, .iload_n 1, 1), (79, .iload 4, 2), (81, .invokevirtual 99, 3), (84, .iadd, 1), (85, .aload_n 0, 1), (86, .iload_n 1, 1), (87, .iload 5, 2), (89, .invokevirtual 99, 3), (92, .iadd, 1), (93, .ireturn, 1), (94, .iconst 2, 1), (95, .aload_n 0, 1), (96, .iload_n 1, 1), (97, .iload 5, 2), (99, .invokevirtual 99, 3), (102, .iadd, 1), (103, .ireturn, 1), (104, .iconst 2, 1), (105, .aload_n 0, 1), (106, .iload_n 2, 1), (107, .iload_n 1, 1), (108, .invokevirtual 92, 3), (111, .aload_n 0, 1), (112, .iload_n 3, 1), (113, .iload_n 1, 1), (114, .invokevirtual 92, 3), (117, .isub, 1), (118, .invokestatic 102, 3), (121, .iadd, 1), (122, .ireturn, 1), (123, .iconst 0, 1), (124, .ireturn, 1)]
theorem iC_costOfChange_ok : ∀ q ∈ iC_costOfChange, decode prog_2_method_24_code q.1 = .ok q.2 := by decide +kernel
def mC_costOfChange : MR := (⟨RX0, "costOfChange", "(III)I"⟩, prog_2_method_24_code, 6, (some .int), 0, 3, false, iC_costOfChange)
def iC_costOfSide : List (Nat × Instr × Nat) := [(0, .aload_n 0, 1), (1, .iload_n 2, 1), (2, .invokevirtual 77, 3), (5, .ifCond .eq 22, 3), (8, .aload_n 0, 1), (9, .getfield 34, 3), (12, .iload_n 2, 1), (13, .iaload, 1), (14, .aload_n 0, 1), (15, .getfield 28, 3), (18, .iload_n 1, 1), (19, .iaload, 1), (20, .if_icmp .eq 7, 3), (23, .iconst 1, 1), (24, .goto 4, 3), (27, .iconst 0, 1), (28, .ireturn, 1)]
theorem iC_costOfSide_ok : ∀ q ∈ iC_costOfSide, decode prog_2_method_25_code q.1 = .ok q.2 := by decide +kernel
def mC_costOfSide : MR := (⟨RX0, "costOfSide", "(II)I"⟩, prog_2_method_25_code, 3, (some .int), 0, 2, false, iC_costOfSide)
def iC_costOfChangeover : List (Nat × Instr × Nat) := [(0, .iconst 0, 1), (1, .istore_n 3, 1), (2, .iconst 0, 1), (3, .istore 4, 2), (5, .iload 4, 2), (7, .aload_n 0, 1), (8, .getfield 15, 3), (11, .if_icmp .ge 20, 3), (14, .iload_n 3, 1), (15, .aload_n 0, 1), (16, .iload 4, 2), (18, .iload_n 1, 1), (19, .iload_n 2, 1), (20, .invokevirtual 106, 3), (23, .iadd, 1), (24, .istore_n 3, 1), (25, .iinc 4 1, 3), (28, .goto (-23), 3), (31, .iload_n 3, 1), (32, .ireturn, 1)]
theorem iC_costOfChangeover_ok : ∀ q ∈ iC_costOfChangeover, decode prog_2_method_26_code q.1 = .ok q.2 := by decide +kernel
def mC_costOfChangeover : MR := (⟨RX0, "costOfChangeover", "(II)I"⟩, prog_2_method_26_code, 5, (some .int), 0, 2, false, iC_costOfChangeover)
def iC_costAfter : List (Nat × Instr × Nat) := [(0, .aload_n 0, 1), (1, .aload_n 0, 1), (2, .getfield 46, 3), (5, .iload_n 1, 1), (6, .iaload, 1), (7, .aload_n 0, 1), (8, .getfield 46, 3), (11, .iload_n 1, 1), (12, .iconst 1, 1), (13, .iadd, 1), (14, .iaload, 1), (15, .invokevirtual 109, 3), (18, .ireturn, 1)]
theorem iC_costAfter_ok : ∀ q ∈ iC_costAfter, decode prog_2_method_27_code q.1 = .ok q.2 := by decide +kernel
def mC_costAfter : MR := (⟨RX0, "costAfter", "(I)I"⟩, prog_2_method_27_code, 2, (some .int), 0, 1, false, iC_costAfter)
def iC_shiftOrder : List (Nat × Instr × Nat) := [(0, .aload_n 0, 1), (1, .getfield 46, 3), (4, .iload_n 1, 1), (5, .iaload, 1), (6, .istore_n 3, 1), (7, .iload_n 1, 1), (8, .istore 4, 2), (10, .iload 4, 2), (12, .iload_n 2, 1), (13, .if_icmp .ge 25, 3), (16, .aload_n 0, 1), (17, .getfield 46, 3), (20, .iload 4, 2), (22, .aload_n 0, 1), (23, .getfield 46, 3), (26, .iload 4, 2), (28, .iconst 1, 1), (29, .iadd, 1), (30, .iaload, 1), (31, .iastore, 1), (32, .iinc 4 1, 3), (35, .goto (-25), 3), (38, .iload_n 1, 1), (39, .istore 4, 2), (41, .iload 4, 2), (43, .iload_n 2, 1), (44, .if_icmp .le 25, 3), (47, .aload_n 0, 1), (48, .getfield 46, 3), (51, .iload 4, 2), (53, .aload_n 0, 1), (54, .getfield 46, 3), (57, .iload 4, 2), (59, .iconst 1, 1), (60, .isub, 1), (61, .iaload, 1), (62, .iastore, 1), (63, .iinc 4 (-1), 3), (66, .goto (-25), 3), (69, .aload_n 0, 1), (70, .getfield 46, 3), (73, .iload_n 2, 1), (74, .iload_n 3, 1), (75, .iastore, 1), (76, .return_, 1)]
theorem iC_shiftOrder_ok : ∀ q ∈ iC_shiftOrder, decode prog_2_method_28_code q.1 = .ok q.2 := by decide +kernel
def mC_shiftOrder : MR := (⟨RX0, "shiftOrder", "(II)V"⟩, prog_2_method_28_code, 5, none, 0, 2, false, iC_shiftOrder)
def iC_songPinnedAt : List (Nat × Instr × Nat) := [(0, .iconst 0, 1), (1, .istore_n 2, 1), (2, .iload_n 2, 1), (3, .aload_n 0, 1), (4, .getfield 9, 3), (7, .if_icmp .ge 21, 3), (10, .aload_n 0, 1), (11, .getfield 43, 3), (14, .iload_n 2, 1), (15, .iaload, 1), (16, .iload_n 1, 1), (17, .if_icmp .ne 5, 3), (20, .iload_n 2, 1), (21, .ireturn, 1), (22, .iinc 2 1, 3), (25, .goto (-23), 3), (28, .iconst (-1), 1), (29, .ireturn, 1)]
theorem iC_songPinnedAt_ok : ∀ q ∈ iC_songPinnedAt, decode prog_2_method_29_code q.1 = .ok q.2 := by decide +kernel
def mC_songPinnedAt : MR := (⟨RX0, "songPinnedAt", "(I)I"⟩, prog_2_method_29_code, 3, (some .int), 0, 1, false, iC_songPinnedAt)
def iC_pinCount : List (Nat × Instr × Nat) := [(0, .iconst 0, 1), (1, .istore_n 1, 1), (2, .iconst 0, 1), (3, .istore_n 2, 1), (4, .iload_n 2, 1), (5, .aload_n 0, 1), (6, .getfield 9, 3), (9, .if_icmp .ge 22, 3), (12, .aload_n 0, 1), (13, .getfield 43, 3), (16, .iload_n 2, 1), (17, .iaload, 1), (18, .iconst (-1), 1), (19, .if_icmp .eq 6, 3), (22, .iinc 1 1, 3), (25, .iinc 2 1, 3), (28, .goto (-24), 3), (31, .iload_n 1, 1), (32, .ireturn, 1)]
theorem iC_pinCount_ok : ∀ q ∈ iC_pinCount, decode prog_2_method_30_code q.1 = .ok q.2 := by decide +kernel
def mC_pinCount : MR := (⟨RX0, "pinCount", "()I"⟩, prog_2_method_30_code, 3, (some .int), 0, 0, false, iC_pinCount)
def iC_mayStandAt : List (Nat × Instr × Nat) := [(0, .iload_n 2, 1), (1, .aload_n 0, 1), (2, .getfield 9, 3), (5, .aload_n 0, 1), (6, .getfield 21, 3), (9, .invokestatic 112, 3), (12, .isub, 1), (13, .if_icmp .lt 7, 3), (16, .iconst 1, 1), (17, .goto 4, 3), (20, .iconst 0, 1), (21, .istore_n 3, 1), (22, .aload_n 0, 1), (23, .getfield 43, 3), (26, .iload_n 1, 1), (27, .iaload, 1), (28, .iconst (-1), 1), (29, .if_icmp .eq 13, 3), (32, .aload_n 0, 1), (33, .getfield 43, 3), (36, .iload_n 1, 1), (37, .iaload, 1), (38, .iload_n 2, 1), (39, .if_icmp .ne 7, 3), (42, .iconst 1, 1), (43, .goto 4, 3), (46, .iconst 0, 1), (47, .istore 4, 2), (49, .iload 4, 2), (51, .ifCond .eq 16, 3), (54, .aload_n 0, 1), (55, .iload_n 1, 1), (56, .invokevirtual 117, 3), (59, .iload_n 3, 1), (60, .if_icmp .ne 7, 3), (63, .iconst 1, 1), (64, .goto 4, 3), (67, .iconst 0, 1), (68, .ireturn, 1)]
theorem iC_mayStandAt_ok : ∀ q ∈ iC_mayStandAt, decode prog_2_method_31_code q.1 = .ok q.2 := by decide +kernel
def mC_mayStandAt : MR := (⟨RX0, "mayStandAt", "(II)Z"⟩, prog_2_method_31_code, 5, (some .boolean), 0, 2, false, iC_mayStandAt)
def iC_playingTime : List (Nat × Instr × Nat) := [(0, .iconst 0, 1), (1, .istore_n 2, 1), (2, .iconst 0, 1), (3, .istore_n 3, 1), (4, .iload_n 3, 1), (5, .aload_n 0, 1), (6, .getfield 9, 3), (9, .if_icmp .ge 27, 3), (12, .iload_n 1, 1), (13, .iload_n 3, 1), (14, .ishr, 1), (15, .iconst 1, 1), (16, .iand, 1), (17, .iconst 1, 1), (18, .if_icmp .ne 12, 3), (21, .iload_n 2, 1), (22, .aload_n 0, 1), (23, .getfield 24, 3), (26, .iload_n 3, 1), (27, .iaload, 1), (28, .iadd, 1), (29, .istore_n 2, 1), (30, .iinc 3 1, 3), (33, .goto (-29), 3), (36, .iload_n 2, 1), (37, .ireturn, 1)]
theorem iC_playingTime_ok : ∀ q ∈ iC_playingTime, decode prog_2_method_32_code q.1 = .ok q.2 := by decide +kernel
def mC_playingTime : MR := (⟨RX0, "playingTime", "(I)I"⟩, prog_2_method_32_code, 4, (some .int), 0, 1, false, iC_playingTime)
end
section
def iT_add : List (Nat × Instr × Nat) := [(0, .aload_n 0, 1), (1, .getfield 15, 3), (4, .sipush 300, 3), (7, .if_icmp .lt 5, 3), (10, .iconst 0, 1), (11, .ireturn, 1), (12, .aload_n 0, 1), (13, .getfield 9, 3), (16, .aload_n 0, 1), (17, .getfield 15, 3), (20, .iload_n 1, 1), (21, .castore, 1), (22, .aload_n 0, 1), (23, .dup, 1), (24, .getfield 15, 3), (27, .iconst 1, 1), (28, .iadd, 1), (29, .putfield 15, 3), (32, .iconst 1, 1), (33, .ireturn, 1)]
theorem iT_add_ok : ∀ q ∈ iT_add, decode prog_3_method_2_code q.1 = .ok q.2 := by decide +kernel
def mT_add : MR := (⟨RX1, "add", "(C)Z"⟩, prog_3_method_2_code, 2, (some .boolean), 1, 1, false, iT_add)
def iT_readInto : List (Nat × Instr × Nat) := [(0, .aload_n 1, 1), (1, .invokevirtual 26, 3), (4, .iconst 0, 1), (5, .istore_n 2, 1), (6, .iconst 0, 1), (7, .istore_n 3, 1), (8, .iload_n 3, 1), (9, .aload_n 0, 1), (10, .getfield 15, 3), (13, .if_icmp .ge 51, 3), (16, .aload_n 0, 1), (17, .getfield 9, 3), (20, .iload_n 3, 1), (21, .caload, 1), (22, .bipush 59, 2), (24, .if_icmp .ne 34, 3), (27, .aload_n 0, 1), (28, .iload_n 2, 1), (29, .iconst 1, 1), (30, .iadd, 1), (31, .iload_n 3, 1), (32, .invokevirtual 31, 3), (35, .ifCond .eq 17, 3), (38, .aload_n 0, 1), (39, .aload_n 0, 1), (40, .getfield 9, 3), (43, .iload_n 2, 1), (44, .caload, 1), (45, .aload_n 1, 1), (46, .invokevirtual 35, 3), (49, .ifCond .ne 5, 3), (52, .iload_n 2, 1), (53, .ireturn, 1), (54, .iload_n 3, 1), (55, .iconst 1, 1), (56, .iadd, 1), (57, .istore_n 2, 1), (58, .iinc 3 1, 3), (61, .goto (-53), 3), (64, .iload_n 2, 1), (65, .aload_n 0, 1), (66, .getfield 15, 3), (69, .if_icmp .ge 7, 3), (72, .iload_n 2, 1), (73, .goto 4, 3), (76, .iconst (-1), 1), (77, .ireturn, 1)]
theorem iT_readInto_ok : ∀ q ∈ iT_readInto, decode prog_3_method_3_code q.1 = .ok q.2 := by decide +kernel
def mT_readInto : MR := (⟨RX1, "readInto", "(LSetlistPlanner$Concert;)I"⟩, prog_3_method_3_code, 4, (some .int), 1, 1, false, iT_readInto)
def iT_readNumbers : List (Nat × Instr × Nat) := [(0, .aload_n 0, 1), (1, .iconst 0, 1), (2, .putfield 23, 3), (5, .iconst 0, 1), (6, .istore_n 3, 1), (7, .iconst 0, 1), (8, .istore 4, 2), (10, .iload_n 1, 1), (11, .istore 5, 2), (13, .iload 5, 2), (15, .iload_n 2, 1), (16, .if_icmp .gt 122, 3), (19, .aload_n 0, 1), (20, .getfield 9, 3), (23, .iload 5, 2), (25, .caload, 1), (26, .istore 6, 2), (28, .iload 6, 2), (30, .bipush 48, 2), (32, .if_icmp .lt 27, 3), (35, .iload 6, 2), (37, .bipush 57, 2), (39, .if_icmp .gt 20, 3), (42, .iload_n 3, 1), (43, .bipush 10, 2), (45, .imul, 1), (46, .iload 6, 2), (48, .bipush 48, 2), (50, .isub, 1), (51, .iadd, 1), (52, .istore_n 3, 1), (53, .iinc 4 1, 3), (56, .goto 76, 3), (59, .iload 6, 2), (61, .bipush 44, 2), (63, .if_icmp .eq 10, 3), (66, .iload 6, 2), (68, .bipush 59, 2), (70, .if_icmp .ne 7, 3), (73, .iconst 1, 1), (74, .goto 4, 3), (77, .iconst 0, 1), (78, .istore 7, 2), (80, .iload 7, 2), (82, .ifCond .eq 23, 3), (85, .iload 4, 2), (87, .iconst 1, 1), (88, .if_icmp .lt 17, 3), (91, .iload 4, 2), (93, .iconst 2, 1), (94, .if_icmp .gt 11, 3), (97, .aload_n 0, 1), (98, .getfield 23, 3), (101, .iconst 4, 1), (102, .if_icmp .lt 5, 3), (105, .iconst 0, 1), (106, .ireturn, 1), (107, .aload_n 0, 1), (108, .getfield 19, 3), (111, .aload_n 0, 1), (112, .getfield 23, 3), (115, .iload_n 3, 1), (116, .iastore, 1), (117, .aload_n 0, 1), (118, .dup, 1), (119, .getfield 23, 3), (122, .iconst 1, 1), (123, .iadd, 1), (124, .putfield 23, 3), (127, .iconst 0, 1), (128, .istore_n 3, 1), (129, .iconst 0, 1), (130, .istore 4, 2), (132, .iinc 5 1, 3), (135, .goto (-122), 3), (138, .iconst 1, 1), (139, .ireturn, 1)]
theorem iT_readNumbers_ok : ∀ q ∈ iT_readNumbers, decode prog_3_method_4_code q.1 = .ok q.2 := by decide +kernel
def mT_readNumbers : MR := (⟨RX1, "readNumbers", "(II)Z"⟩, prog_3_method_4_code, 8, (some .boolean), 1, 2, false, iT_readNumbers)
def iT_state : List (Nat × Instr × Nat) := [(0, .iload_n 1, 1), (1, .lookupswitch 210 #[(101, 183), (107, 105), (112, 78), (115, 51), (117, 138)], 51), (52, .aload_n 0, 1), (53, .getfield 23, 3), (56, .iconst 1, 1), (57, .if_icmp .ne 20, 3), (60, .aload_n 2, 1), (61, .aload_n 0, 1), (62, .getfield 19, 3), (65, .iconst 0, 1), (66, .iaload, 1), (67, .invokevirtual 39, 3), (70, .ifCond .eq 7, 3), (73, .iconst 1, 1), (74, .goto 4, 3), (77, .iconst 0, 1), (78, .ireturn, 1), (79, .aload_n 0, 1), (80, .getfield 23, 3), (83, .iconst 1, 1), (84, .if_icmp .ne 20, 3), (87, .aload_n 2, 1), (88, .aload_n 0, 1), (89, .getfield 19, 3), (92, .iconst 0, 1), (93, .iaload, 1), (94, .invokevirtual 43, 3), (97, .ifCond .eq 7, 3), (100, .iconst 1, 1), (101, .goto 4, 3), (104, .iconst 0, 1), (105, .ireturn, 1), (106, .aload_n 0, 1), (107, .getfield 23, 3), (110, .iconst 2, 1), (111, .if_icmp .ne 26, 3), (114, .aload_n 2, 1), (115, .aload_n 0, 1), (116, .getfield 19, 3), (119, .iconst 0, 1), (120, .iaload, 1), (121, .aload_n 0, 1), (122, .getfield 19, 3), (125, .iconst 1, 1), (126, .iaload, 1), (127, .invokevirtual 46, 3), (130, .ifCond .eq 7, 3), (133, .iconst 1, 1), (134, .goto 4, 3), (137, .iconst 0, 1), (138, .ireturn, 1), (139, .aload_n 0, 1), (140, .getfield 23, 3), (143, .iconst 4, 1), (144, .if_icmp .ne 38, 3), (147, .aload_n 2, 1), (148, .aload_n 0, 1), (149, .getfield 19, 3), (152, .iconst 0, 1), (153, .iaload, 1), (154, .aload_n 0, 1), (155, .getfield 19, 3), (158, .iconst 1, 1), (159, .iaload, 1), (160, .aload_n 0, 1), (161, .getfield 19, 3), (164, .iconst 2, 1), (165, .iaload, 1), (166, .aload_n 0, 1), (167, .getfield 19, 3), (170, .iconst 3, 1), (171, .iaload, 1), (172, .invokevirtual 49, 3), (175, .ifCond .eq 7, 3), (178, .iconst 1, 1), (179, .goto 4, 3), (182, .iconst 0, 1), (183, .ireturn, 1), (184, .aload_n 0, 1), (185, .getfield 23, 3), (188, .iconst 1, 1), (189, .if_icmp .ne 20, 3), (192, .aload_n 2, 1), (193, .aload_n 0, 1), (194, .getfield 19, 3), (197, .iconst 0, 1), (198, .iaload, 1), (199, .invokevirtual 53, 3), (202, .ifCond .eq 7, 3), (205, .iconst 1, 1), (206, .goto 4, 3), (209, .iconst 0, 1), (210, .ireturn, 1), (211, .iconst 0, 1), (212, .ireturn, 1)]
theorem iT_state_ok : ∀ q ∈ iT_state, decode prog_3_method_5_code q.1 = .ok q.2 := by decide +kernel
def mT_state : MR := (⟨RX1, "state", "(CLSetlistPlanner$Concert;)Z"⟩, prog_3_method_5_code, 3, (some .boolean), 1, 2, false, iT_state)
def iH_forget : List (Nat × Instr × Nat) := [(0, .aload_n 0, 1), (1, .iconst 0, 1), (2, .putfield 21, 3), (5, .return_, 1)]
theorem iH_forget_ok : ∀ q ∈ iH_forget, decode prog_4_method_2_code q.1 = .ok q.2 := by decide +kernel
def mH_forget : MR := (⟨RX2, "forget", "()V"⟩, prog_4_method_2_code, 1, none, 2, 0, false, iH_forget)
def iH_keep : List (Nat × Instr × Nat) := [(0, .aload_n 0, 1), (1, .getfield 11, 3), (4, .aload_n 0, 1), (5, .getfield 17, 3), (8, .aaload, 1), (9, .aload_n 1, 1), (10, .invokevirtual 25, 3), (13, .aload_n 0, 1), (14, .aload_n 0, 1), (15, .getfield 17, 3), (18, .iconst 1, 1), (19, .iadd, 1), (20, .iconst 5, 1), (21, .irem, 1), (22, .putfield 17, 3), (25, .aload_n 0, 1), (26, .aload_n 0, 1), (27, .getfield 21, 3), (30, .iconst 1, 1), (31, .iadd, 1), (32, .iconst 5, 1), (33, .invokestatic 29, 3), (36, .putfield 21, 3), (39, .return_, 1)]
theorem iH_keep_ok : ∀ q ∈ iH_keep, decode prog_4_method_3_code q.1 = .ok q.2 := by decide +kernel
def mH_keep : MR := (⟨RX2, "keep", "(LSetlistPlanner$Concert;)V"⟩, prog_4_method_3_code, 2, none, 2, 1, false, iH_keep)
def iH_takeBack : List (Nat × Instr × Nat) := [(0, .aload_n 0, 1), (1, .getfield 21, 3), (4, .ifCond .le 40, 3), (7, .aload_n 0, 1), (8, .aload_n 0, 1), (9, .getfield 17, 3), (12, .iconst 5, 1), (13, .iadd, 1), (14, .iconst 1, 1), (15, .isub, 1), (16, .iconst 5, 1), (17, .irem, 1), (18, .putfield 17, 3), (21, .aload_n 1, 1), (22, .aload_n 0, 1), (23, .getfield 11, 3), (26, .aload_n 0, 1), (27, .getfield 17, 3), (30, .aaload, 1), (31, .invokevirtual 25, 3), (34, .aload_n 0, 1), (35, .dup, 1), (36, .getfield 21, 3), (39, .iconst 1, 1), (40, .isub, 1), (41, .putfield 21, 3), (44, .return_, 1)]
theorem iH_takeBack_ok : ∀ q ∈ iH_takeBack, decode prog_4_method_4_code q.1 = .ok q.2 := by decide +kernel
def mH_takeBack : MR := (⟨RX2, "takeBack", "(LSetlistPlanner$Concert;)V"⟩, prog_4_method_4_code, 2, none, 2, 1, false, iH_takeBack)
def iO_load : List (Nat × Instr × Nat) := [(0, .aload_n 0, 1), (1, .aload_n 1, 1), (2, .getfield 29, 3), (5, .putfield 9, 3), (8, .iconst 0, 1), (9, .istore_n 2, 1), (10, .iload_n 2, 1), (11, .aload_n 0, 1), (12, .getfield 9, 3), (15, .if_icmp .ge 68, 3), (18, .iconst 0, 1), (19, .istore_n 3, 1), (20, .iload_n 3, 1), (21, .aload_n 0, 1), (22, .getfield 9, 3), (25, .if_icmp .ge 52, 3), (28, .iload_n 2, 1), (29, .bipush 8, 2), (31, .imul, 1), (32, .iload_n 3, 1), (33, .iadd, 1), (34, .istore 4, 2), (36, .aload_n 0, 1), (37, .getfield 15, 3), (40, .iload 4, 2), (42, .iload_n 2, 1), (43, .iload_n 3, 1), (44, .if_icmp .ne 7, 3), (47, .iconst 0, 1), (48, .goto 9, 3), (51, .aload_n 1, 1), (52, .iload_n 2, 1), (53, .iload_n 3, 1), (54, .invokevirtual 32, 3), (57, .iastore, 1), (58, .aload_n 0, 1), (59, .getfield 19, 3), (62, .iload 4, 2), (64, .aload_n 1, 1), (65, .iload_n 2, 1), (66, .iload_n 3, 1), (67, .invokevirtual 36, 3), (70, .bastore, 1), (71, .iinc 3 1, 3), (74, .goto (-54), 3), (77, .iinc 2 1, 3), (80, .goto (-70), 3), (83, .return_, 1)]
theorem iO_load_ok : ∀ q ∈ iO_load, decode prog_5_method_2_code q.1 = .ok q.2 := by decide +kernel
def mO_load : MR := (⟨RX3, "load", "(LSetlistPlanner$Concert;)V"⟩, prog_5_method_2_code, 5, none, 3, 1, false, iO_load)
def iO_solve : List (Nat × Instr × Nat) := [(0, .iconst 1, 1), (1, .aload_n 0, 1), (2, .getfield 9, 3), (5, .ishl, 1), (6, .iconst 1, 1), (7, .isub, 1), (8, .istore_n 1, 1), (9, .iconst 0, 1), (10, .istore_n 2, 1), (11, .iload_n 2, 1), (12, .aload_n 0, 1), (13, .getfield 9, 3), (16, .if_icmp .ge 33, 3), (19, .aload_n 0, 1), (20, .getfield 23, 3), (23, .aload_n 0, 1), (24, .iload_n 1, 1), (25, .iload_n 2, 1), (26, .invokevirtual 40, 3), (29, .iconst 0, 1), (30, .iastore, 1), (31, .aload_n 0, 1), (32, .getfield 26, 3), (35, .aload_n 0, 1), (36, .iload_n 1, 1), (37, .iload_n 2, 1), (38, .invokevirtual 40, 3), (41, .iconst 1, 1), (42, .iastore, 1), (43, .iinc 2 1, 3), (46, .goto (-35), 3), (49, .iload_n 1, 1), (50, .iconst 1, 1), (51, .isub, 1), (52, .istore_n 2, 1), (53, .iload_n 2, 1), (54, .ifCond .le 40, 3), (57, .iconst 0, 1), (58, .istore_n 3, 1), (59, .iload_n 3, 1), (60, .aload_n 0, 1), (61, .getfield 9, 3), (64, .if_icmp .ge 24, 3), (67, .iload_n 2, 1), (68, .iload_n 3, 1), (69, .ishr, 1), (70, .iconst 1, 1), (71, .iand, 1), (72, .iconst 1, 1), (73, .if_icmp .ne 9, 3), (76, .aload_n 0, 1), (77, .iload_n 2, 1), (78, .iload_n 3, 1), (79, .invokevirtual 43, 3), (82, .iinc 3 1, 3), (85, .goto (-26), 3), (88, .iinc 2 (-1), 3), (91, .goto (-38), 3), (94, .aload_n 0, 1), (95, .iconst 0, 1), (96, .iconst 0, 1), (97, .invokevirtual 43, 3), (100, .return_, 1)]
theorem iO_solve_ok : ∀ q ∈ iO_solve, decode prog_5_method_3_code q.1 = .ok q.2 := by decide +kernel
def mO_solve : MR := (⟨RX3, "solve", "()V"⟩, prog_5_method_3_code, 4, none, 3, 0, false, iO_solve)
def iO_settle : List (Nat × Instr × Nat) := [(0, .iconst (-1), 1), (1, .istore_n 3, 1), (2, .iconst 0, 1), (3, .istore 4, 2), (5, .iconst 0, 1), (6, .istore 5, 2), (8, .iload 5, 2), (10, .aload_n 0, 1), (11, .getfield 9, 3), (14, .if_icmp .ge 76, 3), (17, .aload_n 0, 1), (18, .iload_n 1, 1), (19, .iload_n 2, 1), (20, .iload 5, 2), (22, .invokevirtual 47, 3), (25, .istore 6, 2), (27, .iload 6, 2), (29, .iconst (-1), 1), (30, .if_icmp .eq 20, 3), (33, .iload_n 3, 1), (34, .iconst (-1), 1), (35, .if_icmp .eq 9, 3), (38, .iload 6, 2), (40, .iload_n 3, 1), (41, .if_icmp .ge 9, 3), (44, .iload 6, 2), (46, .istore_n 3, 1), (47, .iconst 0, 1), (48, .istore 4, 2), (50, .iload 6, 2), (52, .iconst (-1), 1), (53, .if_icmp .eq 31, 3), (56, .iload 6, 2), (58, .iload_n 3, 1), (59, .if_icmp .ne 25, 3), (62, .iload 4, 2), (64, .aload_n 0, 1), (65, .getfield 26, 3), (68, .aload_n 0, 1), (69, .iload_n 1, 1), (70, .iconst 1, 1), (71, .iload 5, 2), (73, .ishl, 1), (74, .ior, 1), (75, .iload 5, 2), (77, .invokevirtual 40, 3), (80, .iaload, 1), (81, .iadd, 1), (82, .istore 4, 2), (84, .iinc 5 1, 3), (87, .goto (-79), 3), (90, .aload_n 0, 1), (91, .getfield 23, 3), (94, .aload_n 0, 1), (95, .iload_n 1, 1), (96, .iload_n 2, 1), (97, .invokevirtual 40, 3), (100, .iload_n 3, 1), (101, .iastore, 1), (102, .aload_n 0, 1), (103, .getfield 26, 3), (106, .aload_n 0, 1), (107, .iload_n 1, 1), (108, .iload_n 2, 1), (109, .invokevirtual 40, 3), (112, .iload 4, 2), (114, .iastore, 1), (115, .return_, 1)]
theorem iO_settle_ok : ∀ q ∈ iO_settle, decode prog_5_method_4_code q.1 = .ok q.2 := by decide +kernel
def mO_settle : MR := (⟨RX3, "settle", "(II)V"⟩, prog_5_method_4_code, 7, none, 3, 2, false, iO_settle)
def iO_costThrough : List (Nat × Instr × Nat) := [(0, .iload_n 1, 1), (1, .invokestatic 51, 3), (4, .istore 4, 2), (6, .iload_n 1, 1), (7, .iload_n 3, 1), (8, .ishr, 1), (9, .iconst 1, 1), (10, .iand, 1), (11, .iconst 1, 1), (12, .if_icmp .eq 18, 3), (15, .aload_n 0, 1), (16, .getfield 19, 3), (19, .iload_n 3, 1), (20, .bipush 8, 2), (22, .imul, 1), (23, .iload 4, 2), (25, .iadd, 1), (26, .baload, 1), (27, .ifCond .ne 5, 3), (30, .iconst (-1), 1), (31, .ireturn, 1), (32, .aload_n 0, 1), (33, .getfield 23, 3), (36, .aload_n 0, 1), (37, .iload_n 1, 1), (38, .iconst 1, 1), (39, .iload_n 3, 1), (40, .ishl, 1), (41, .ior, 1), (42, .iload_n 3, 1), (43, .invokevirtual 40, 3), (46, .iaload, 1), (47, .istore 5, 2), (49, .iload 5, 2), (51, .iconst (-1), 1), (52, .if_icmp .eq 7, 3), (55, .iload_n 1, 1), (56, .ifCond .ne 6, 3), (59, .iload 5, 2), (61, .ireturn, 1), (62, .aload_n 0, 1), (63, .getfield 15, 3), (66, .iload_n 2, 1), (67, .bipush 8, 2), (69, .imul, 1), (70, .iload_n 3, 1), (71, .iadd, 1), (72, .iaload, 1), (73, .iload 5, 2), (75, .iadd, 1), (76, .ireturn, 1)]
theorem iO_costThrough_ok : ∀ q ∈ iO_costThrough, decode prog_5_method_5_code q.1 = .ok q.2 := by decide +kernel
def mO_costThrough : MR := (⟨RX3, "costThrough", "(III)I"⟩, prog_5_method_5_code, 6, (some .int), 3, 3, false, iO_costThrough)
def iO_cellOf : List (Nat × Instr × Nat) := [(0, .iload_n 1, 1), (1, .bipush 8, 2), (3, .imul, 1), (4, .iload_n 2, 1), (5, .iadd, 1), (6, .ireturn, 1)]
theorem iO_cellOf_ok : ∀ q ∈ iO_cellOf, decode prog_5_method_6_code q.1 = .ok q.2 := by decide +kernel
def mO_cellOf : MR := (⟨RX3, "cellOf", "(II)I"⟩, prog_5_method_6_code, 3, (some .int), 3, 2, false, iO_cellOf)
def iO_leastCost : List (Nat × Instr × Nat) := [(0, .aload_n 0, 1), (1, .getfield 23, 3), (4, .iconst 0, 1), (5, .iaload, 1), (6, .ireturn, 1)]
theorem iO_leastCost_ok : ∀ q ∈ iO_leastCost, decode prog_5_method_7_code q.1 = .ok q.2 := by decide +kernel
def mO_leastCost : MR := (⟨RX3, "leastCost", "()I"⟩, prog_5_method_7_code, 1, (some .int), 3, 0, false, iO_leastCost)
def iO_leastCostOrders : List (Nat × Instr × Nat) := [(0, .aload_n 0, 1), (1, .getfield 26, 3), (4, .iconst 0, 1), (5, .iaload, 1), (6, .ireturn, 1)]
theorem iO_leastCostOrders_ok : ∀ q ∈ iO_leastCostOrders, decode prog_5_method_8_code q.1 = .ok q.2 := by decide +kernel
def mO_leastCostOrders : MR := (⟨RX3, "leastCostOrders", "()I"⟩, prog_5_method_8_code, 1, (some .int), 3, 0, false, iO_leastCostOrders)
def iO_leastCostFrom : List (Nat × Instr × Nat) := [(0, .aload_n 0, 1), (1, .iconst 0, 1), (2, .iconst 0, 1), (3, .iload_n 1, 1), (4, .invokevirtual 47, 3), (7, .ireturn, 1)]
theorem iO_leastCostFrom_ok : ∀ q ∈ iO_leastCostFrom, decode prog_5_method_9_code q.1 = .ok q.2 := by decide +kernel
def mO_leastCostFrom : MR := (⟨RX3, "leastCostFrom", "(I)I"⟩, prog_5_method_9_code, 2, (some .int), 3, 1, false, iO_leastCostFrom)
def iO_bestSong : List (Nat × Instr × Nat) := [(0, .iconst 0, 1), (1, .istore_n 2, 1), (2, .iconst 0, 1), (3, .istore_n 3, 1), (4, .iconst 0, 1), (5, .istore 4, 2), (7, .iload 4, 2), (9, .iload_n 1, 1), (10, .if_icmp .gt 29, 3), (13, .aload_n 0, 1), (14, .iload_n 2, 1), (15, .iload_n 3, 1), (16, .invokevirtual 57, 3), (19, .istore_n 3, 1), (20, .iload_n 3, 1), (21, .iconst (-1), 1), (22, .if_icmp .ne 5, 3), (25, .iconst (-1), 1), (26, .ireturn, 1), (27, .iload_n 2, 1), (28, .iconst 1, 1), (29, .iload_n 3, 1), (30, .ishl, 1), (31, .ior, 1), (32, .istore_n 2, 1), (33, .iinc 4 1, 3), (36, .goto (-29), 3), (39, .iload_n 3, 1), (40, .ireturn, 1)]
theorem iO_bestSong_ok : ∀ q ∈ iO_bestSong, decode prog_5_method_10_code q.1 = .ok q.2 := by decide +kernel
def mO_bestSong : MR := (⟨RX3, "bestSong", "(I)I"⟩, prog_5_method_10_code, 5, (some .int), 3, 1, false, iO_bestSong)
def iO_copyBestOrder : List (Nat × Instr × Nat) := [(0, .aload_n 0, 1), (1, .getfield 9, 3), (4, .aload_n 1, 1), (5, .arraylength, 1), (6, .invokestatic 60, 3), (9, .istore_n 2, 1), (10, .iconst 0, 1), (11, .istore_n 3, 1), (12, .iload_n 3, 1), (13, .iload_n 2, 1), (14, .if_icmp .ge 17, 3), (17, .aload_n 1, 1), (18, .iload_n 3, 1), (19, .aload_n 0, 1), (20, .iload_n 3, 1), (21, .invokevirtual 65, 3), (24, .iastore, 1), (25, .iinc 3 1, 3), (28, .goto (-16), 3), (31, .return_, 1)]
theorem iO_copyBestOrder_ok : ∀ q ∈ iO_copyBestOrder, decode prog_5_method_11_code q.1 = .ok q.2 := by decide +kernel
def mO_copyBestOrder : MR := (⟨RX3, "copyBestOrder", "([I)V"⟩, prog_5_method_11_code, 4, none, 3, 1, false, iO_copyBestOrder)
def iO_bestNext : List (Nat × Instr × Nat) := [(0, .aload_n 0, 1), (1, .getfield 23, 3), (4, .aload_n 0, 1), (5, .iload_n 1, 1), (6, .iload_n 2, 1), (7, .invokevirtual 40, 3), (10, .iaload, 1), (11, .istore_n 3, 1), (12, .iconst 0, 1), (13, .istore 4, 2), (15, .iload 4, 2), (17, .aload_n 0, 1), (18, .getfield 9, 3), (21, .if_icmp .ge 34, 3), (24, .aload_n 0, 1), (25, .iload_n 1, 1), (26, .iload_n 2, 1), (27, .iload 4, 2), (29, .invokevirtual 47, 3), (32, .istore 5, 2), (34, .iload 5, 2), (36, .iconst (-1), 1), (37, .if_icmp .eq 12, 3), (40, .iload 5, 2), (42, .iload_n 3, 1), (43, .if_icmp .ne 6, 3), (46, .iload 4, 2), (48, .ireturn, 1), (49, .iinc 4 1, 3), (52, .goto (-37), 3), (55, .iconst (-1), 1), (56, .ireturn, 1)]
theorem iO_bestNext_ok : ∀ q ∈ iO_bestNext, decode prog_5_method_12_code q.1 = .ok q.2 := by decide +kernel
def mO_bestNext : MR := (⟨RX3, "bestNext", "(II)I"⟩, prog_5_method_12_code, 6, (some .int), 3, 2, false, iO_bestNext)
def iI_bitCount : List (Nat × Instr × Nat) := [(0, .iload_n 0, 1), (1, .iload_n 0, 1), (2, .iconst 1, 1), (3, .iushr, 1), (4, .ldc_w 265, 3), (7, .iand, 1), (8, .isub, 1), (9, .istore_n 0, 1), (10, .iload_n 0, 1), (11, .ldc_w 266, 3), (14, .iand, 1), (15, .iload_n 0, 1), (16, .iconst 2, 1), (17, .iushr, 1), (18, .ldc_w 266, 3), (21, .iand, 1), (22, .iadd, 1), (23, .istore_n 0, 1), (24, .iload_n 0, 1), (25, .iload_n 0, 1), (26, .iconst 4, 1), (27, .iushr, 1), (28, .iadd, 1), (29, .ldc_w 267, 3), (32, .iand, 1), (33, .istore_n 0, 1), (34, .iload_n 0, 1), (35, .iload_n 0, 1), (36, .bipush 8, 2), (38, .iushr, 1), (39, .iadd, 1), (40, .istore_n 0, 1), (41, .iload_n 0, 1), (42, .iload_n 0, 1), (43, .bipush 16, 2), (45, .iushr, 1), (46, .iadd, 1), (47, .istore_n 0, 1), (48, .iload_n 0, 1), (49, .bipush 63, 2), (51, .iand, 1), (52, .ireturn, 1)]
theorem iI_bitCount_ok : ∀ q ∈ iI_bitCount, decode prog_8_method_49_code q.1 = .ok q.2 := by decide +kernel
def mI_bitCount : MR := (⟨RJ6, "bitCount", "(I)I"⟩, prog_8_method_49_code, 1, (some .int), 6, 1, true, iI_bitCount)
end
section
def iS_append : List (Nat × Instr × Nat) := [(0, .iload_n 1, 1), (1, .bipush 32, 2), (3, .if_icmp .lt 9, 3), (6, .iload_n 1, 1), (7, .bipush 126, 2), (9, .if_icmp .le 5, 3), (12, .iconst (-1), 1), (13, .ireturn, 1), (14, .aload_n 0, 1), (15, .getfield 10, 3), (18, .iload_n 1, 1), (19, .i2c, 1), (20, .invokevirtual 56, 3), (23, .ifCond .eq 13, 3), (26, .aload_n 0, 1), (27, .getfield 10, 3), (30, .getfield 68, 3), (33, .goto 5, 3), (36, .bipush (-3), 2), (38, .ireturn, 1)]
theorem iS_append_ok : ∀ q ∈ iS_append, decode prog_1_method_2_code q.1 = .ok q.2 := by decide +kernel
def mS_append : MR := (⟨RX4, "append", "(I)I"⟩, prog_1_method_2_code, 2, (some .int), 4, 1, false, iS_append)
def iS_clearText : List (Nat × Instr × Nat) := [(0, .aload_n 0, 1), (1, .getfield 10, 3), (4, .getfield 68, 3), (7, .istore_n 1, 1), (8, .aload_n 0, 1), (9, .getfield 10, 3), (12, .iconst 0, 1), (13, .putfield 68, 3), (16, .iload_n 1, 1), (17, .ireturn, 1)]
theorem iS_clearText_ok : ∀ q ∈ iS_clearText, decode prog_1_method_3_code q.1 = .ok q.2 := by decide +kernel
def mS_clearText : MR := (⟨RX4, "clearText", "()I"⟩, prog_1_method_3_code, 2, (some .int), 4, 0, false, iS_clearText)
def iS_firstError : List (Nat × Instr × Nat) := [(0, .aload_n 0, 1), (1, .getfield 10, 3), (4, .aload_n 0, 1), (5, .getfield 23, 3), (8, .invokevirtual 60, 3), (11, .istore_n 1, 1), (12, .iload_n 1, 1), (13, .iconst (-1), 1), (14, .if_icmp .ne 8, 3), (17, .bipush (-4), 2), (19, .goto 4, 3), (22, .iload_n 1, 1), (23, .ireturn, 1)]
theorem iS_firstError_ok : ∀ q ∈ iS_firstError, decode prog_1_method_4_code q.1 = .ok q.2 := by decide +kernel
def mS_firstError : MR := (⟨RX4, "firstError", "()I"⟩, prog_1_method_4_code, 2, (some .int), 4, 0, false, iS_firstError)
def iS_configure : List (Nat × Instr × Nat) := [(0, .aload_n 0, 1), (1, .getfield 10, 3), (4, .aload_n 0, 1), (5, .getfield 23, 3), (8, .invokevirtual 60, 3), (11, .iconst (-1), 1), (12, .if_icmp .ne 13, 3), (15, .aload_n 0, 1), (16, .getfield 23, 3), (19, .invokevirtual 71, 3), (22, .ifCond .ne 6, 3), (25, .bipush (-2), 2), (27, .ireturn, 1), (28, .aload_n 0, 1), (29, .getfield 19, 3), (32, .aload_n 0, 1), (33, .getfield 23, 3), (36, .invokevirtual 64, 3), (39, .aload_n 0, 1), (40, .getfield 29, 3), (43, .invokevirtual 75, 3), (46, .aload_n 0, 1), (47, .iconst 0, 1), (48, .putfield 40, 3), (51, .aload_n 0, 1), (52, .getfield 19, 3), (55, .getfield 78, 3), (58, .ireturn, 1)]
theorem iS_configure_ok : ∀ q ∈ iS_configure, decode prog_1_method_5_code q.1 = .ok q.2 := by decide +kernel
def mS_configure : MR := (⟨RX4, "configure", "()I"⟩, prog_1_method_5_code, 1, (some .int), 4, 0, false, iS_configure)
def iS_setPart : List (Nat × Instr × Nat) := [(0, .aload_n 0, 1), (1, .getfield 19, 3), (4, .iload_n 1, 1), (5, .iload_n 2, 1), (6, .iload_n 3, 1), (7, .iload 4, 2), (9, .invokevirtual 81, 3), (12, .ifCond .ne 5, 3), (15, .iconst (-1), 1), (16, .ireturn, 1), (17, .aload_n 0, 1), (18, .getfield 19, 3), (21, .iload_n 1, 1), (22, .iload_n 2, 1), (23, .iload_n 3, 1), (24, .invokevirtual 85, 3), (27, .ifCond .ne 6, 3), (30, .bipush (-2), 2), (32, .ireturn, 1), (33, .aload_n 0, 1), (34, .invokevirtual 89, 3), (37, .aload_n 0, 1), (38, .getfield 19, 3), (41, .iload_n 1, 1), (42, .iload_n 2, 1), (43, .iload_n 3, 1), (44, .iload 4, 2), (46, .invokevirtual 92, 3), (49, .aload_n 0, 1), (50, .getfield 19, 3), (53, .iload_n 1, 1), (54, .iload_n 3, 1), (55, .invokevirtual 96, 3), (58, .ireturn, 1)]
theorem iS_setPart_ok : ∀ q ∈ iS_setPart, decode prog_1_method_6_code q.1 = .ok q.2 := by decide +kernel
def mS_setPart : MR := (⟨RX4, "setPart", "(IIII)I"⟩, prog_1_method_6_code, 5, (some .int), 4, 4, false, iS_setPart)
def iS_removePart : List (Nat × Instr × Nat) := [(0, .aload_n 0, 1), (1, .iload_n 1, 1), (2, .iload_n 2, 1), (3, .invokevirtual 100, 3), (6, .istore_n 3, 1), (7, .iload_n 3, 1), (8, .ifCond .ge 5, 3), (11, .iload_n 3, 1), (12, .ireturn, 1), (13, .aload_n 0, 1), (14, .invokevirtual 89, 3), (17, .aload_n 0, 1), (18, .getfield 19, 3), (21, .iload_n 1, 1), (22, .iload_n 2, 1), (23, .iconst (-1), 1), (24, .iconst 0, 1), (25, .invokevirtual 92, 3), (28, .iload_n 3, 1), (29, .ireturn, 1)]
theorem iS_removePart_ok : ∀ q ∈ iS_removePart, decode prog_1_method_7_code q.1 = .ok q.2 := by decide +kernel
def mS_removePart : MR := (⟨RX4, "removePart", "(II)I"⟩, prog_1_method_7_code, 4, (some .int), 4, 2, false, iS_removePart)
def iS_setUnits : List (Nat × Instr × Nat) := [(0, .aload_n 0, 1), (1, .getfield 19, 3), (4, .iload_n 1, 1), (5, .invokevirtual 103, 3), (8, .ifCond .eq 13, 3), (11, .iload_n 2, 1), (12, .iconst 1, 1), (13, .if_icmp .lt 8, 3), (16, .iload_n 2, 1), (17, .iconst 5, 1), (18, .if_icmp .le 5, 3), (21, .iconst (-1), 1), (22, .ireturn, 1), (23, .aload_n 0, 1), (24, .getfield 19, 3), (27, .iload_n 1, 1), (28, .invokevirtual 107, 3), (31, .iload_n 2, 1), (32, .if_icmp .le 6, 3), (35, .bipush (-2), 2), (37, .ireturn, 1), (38, .aload_n 0, 1), (39, .getfield 19, 3), (42, .getfield 111, 3), (45, .iload_n 1, 1), (46, .iaload, 1), (47, .istore_n 3, 1), (48, .aload_n 0, 1), (49, .invokevirtual 89, 3), (52, .aload_n 0, 1), (53, .getfield 19, 3), (56, .getfield 111, 3), (59, .iload_n 1, 1), (60, .iload_n 2, 1), (61, .iastore, 1), (62, .iload_n 3, 1), (63, .ireturn, 1)]
theorem iS_setUnits_ok : ∀ q ∈ iS_setUnits, decode prog_1_method_8_code q.1 = .ok q.2 := by decide +kernel
def mS_setUnits : MR := (⟨RX4, "setUnits", "(II)I"⟩, prog_1_method_8_code, 4, (some .int), 4, 2, false, iS_setUnits)
def iS_pin : List (Nat × Instr × Nat) := [(0, .aload_n 0, 1), (1, .getfield 19, 3), (4, .iload_n 1, 1), (5, .invokevirtual 115, 3), (8, .ifCond .eq 14, 3), (11, .aload_n 0, 1), (12, .getfield 19, 3), (15, .iload_n 2, 1), (16, .invokevirtual 115, 3), (19, .ifCond .ne 5, 3), (22, .iconst (-1), 1), (23, .ireturn, 1), (24, .aload_n 0, 1), (25, .getfield 19, 3), (28, .iload_n 2, 1), (29, .invokevirtual 118, 3), (32, .istore_n 3, 1), (33, .iload_n 3, 1), (34, .iconst (-1), 1), (35, .if_icmp .eq 11, 3), (38, .iload_n 3, 1), (39, .iload_n 1, 1), (40, .if_icmp .eq 6, 3), (43, .bipush (-2), 2), (45, .ireturn, 1), (46, .aload_n 0, 1), (47, .invokevirtual 89, 3), (50, .aload_n 0, 1), (51, .getfield 19, 3), (54, .getfield 121, 3), (57, .iload_n 1, 1), (58, .iload_n 2, 1), (59, .iastore, 1), (60, .aload_n 0, 1), (61, .getfield 19, 3), (64, .invokevirtual 124, 3), (67, .ireturn, 1)]
theorem iS_pin_ok : ∀ q ∈ iS_pin, decode prog_1_method_9_code q.1 = .ok q.2 := by decide +kernel
def mS_pin : MR := (⟨RX4, "pin", "(II)I"⟩, prog_1_method_9_code, 4, (some .int), 4, 2, false, iS_pin)
def iS_unpin : List (Nat × Instr × Nat) := [(0, .aload_n 0, 1), (1, .getfield 19, 3), (4, .iload_n 1, 1), (5, .invokevirtual 115, 3), (8, .ifCond .ne 5, 3), (11, .iconst (-1), 1), (12, .ireturn, 1), (13, .aload_n 0, 1), (14, .getfield 19, 3), (17, .getfield 121, 3), (20, .iload_n 1, 1), (21, .iaload, 1), (22, .istore_n 2, 1), (23, .iload_n 2, 1), (24, .iconst (-1), 1), (25, .if_icmp .ne 6, 3), (28, .bipush (-4), 2), (30, .ireturn, 1), (31, .aload_n 0, 1), (32, .invokevirtual 89, 3), (35, .aload_n 0, 1), (36, .getfield 19, 3), (39, .getfield 121, 3), (42, .iload_n 1, 1), (43, .iconst (-1), 1), (44, .iastore, 1), (45, .iload_n 2, 1), (46, .ireturn, 1)]
theorem iS_unpin_ok : ∀ q ∈ iS_unpin, decode prog_1_method_10_code q.1 = .ok q.2 := by decide +kernel
def mS_unpin : MR := (⟨RX4, "unpin", "(I)I"⟩, prog_1_method_10_code, 3, (some .int), 4, 1, false, iS_unpin)
def iS_setEncore : List (Nat × Instr × Nat) := [(0, .aload_n 0, 1), (1, .getfield 19, 3), (4, .iload_n 1, 1), (5, .invokevirtual 115, 3), (8, .ifCond .eq 12, 3), (11, .iload_n 2, 1), (12, .ifCond .lt 8, 3), (15, .iload_n 2, 1), (16, .iconst 1, 1), (17, .if_icmp .le 5, 3), (20, .iconst (-1), 1), (21, .ireturn, 1), (22, .aload_n 0, 1), (23, .getfield 19, 3), (26, .iload_n 1, 1), (27, .invokevirtual 127, 3), (30, .ifCond .eq 7, 3), (33, .iconst 1, 1), (34, .goto 4, 3), (37, .iconst 0, 1), (38, .istore_n 3, 1), (39, .aload_n 0, 1), (40, .invokevirtual 89, 3), (43, .aload_n 0, 1), (44, .getfield 19, 3), (47, .aload_n 0, 1), (48, .getfield 19, 3), (51, .getfield 130, 3), (54, .iconst 1, 1), (55, .iload_n 1, 1), (56, .ishl, 1), (57, .iconst (-1), 1), (58, .ixor, 1), (59, .iand, 1), (60, .iload_n 2, 1), (61, .iload_n 1, 1), (62, .ishl, 1), (63, .ior, 1), (64, .putfield 130, 3), (67, .iload_n 3, 1), (68, .ireturn, 1)]
theorem iS_setEncore_ok : ∀ q ∈ iS_setEncore, decode prog_1_method_11_code q.1 = .ok q.2 := by decide +kernel
def mS_setEncore : MR := (⟨RX4, "setEncore", "(II)I"⟩, prog_1_method_11_code, 4, (some .int), 4, 2, false, iS_setEncore)
def iS_moveSong : List (Nat × Instr × Nat) := [(0, .aload_n 0, 1), (1, .getfield 19, 3), (4, .iload_n 1, 1), (5, .invokevirtual 115, 3), (8, .ifCond .eq 14, 3), (11, .aload_n 0, 1), (12, .getfield 19, 3), (15, .iload_n 2, 1), (16, .invokevirtual 115, 3), (19, .ifCond .ne 5, 3), (22, .iconst (-1), 1), (23, .ireturn, 1), (24, .aload_n 0, 1), (25, .invokevirtual 89, 3), (28, .aload_n 0, 1), (29, .getfield 19, 3), (32, .iload_n 1, 1), (33, .iload_n 2, 1), (34, .invokevirtual 133, 3), (37, .aload_n 0, 1), (38, .getfield 19, 3), (41, .getfield 137, 3), (44, .iload_n 2, 1), (45, .iaload, 1), (46, .ireturn, 1)]
theorem iS_moveSong_ok : ∀ q ∈ iS_moveSong, decode prog_1_method_12_code q.1 = .ok q.2 := by decide +kernel
def mS_moveSong : MR := (⟨RX4, "moveSong", "(II)I"⟩, prog_1_method_12_code, 3, (some .int), 4, 2, false, iS_moveSong)
def iS_adoptBest : List (Nat × Instr × Nat) := [(0, .aload_n 0, 1), (1, .invokevirtual 140, 3), (4, .invokevirtual 144, 3), (7, .istore_n 1, 1), (8, .iload_n 1, 1), (9, .iconst (-1), 1), (10, .if_icmp .ne 6, 3), (13, .bipush (-4), 2), (15, .ireturn, 1), (16, .aload_n 0, 1), (17, .invokevirtual 89, 3), (20, .aload_n 0, 1), (21, .getfield 36, 3), (24, .aload_n 0, 1), (25, .getfield 19, 3), (28, .getfield 137, 3), (31, .invokevirtual 147, 3), (34, .iload_n 1, 1), (35, .ireturn, 1)]
theorem iS_adoptBest_ok : ∀ q ∈ iS_adoptBest, decode prog_1_method_13_code q.1 = .ok q.2 := by decide +kernel
def mS_adoptBest : MR := (⟨RX4, "adoptBest", "()I"⟩, prog_1_method_13_code, 2, (some .int), 4, 0, false, iS_adoptBest)
def iS_undo : List (Nat × Instr × Nat) := [(0, .aload_n 0, 1), (1, .getfield 29, 3), (4, .getfield 151, 3), (7, .ifCond .ne 6, 3), (10, .bipush (-2), 2), (12, .ireturn, 1), (13, .aload_n 0, 1), (14, .getfield 29, 3), (17, .aload_n 0, 1), (18, .getfield 19, 3), (21, .invokevirtual 154, 3), (24, .aload_n 0, 1), (25, .iconst 0, 1), (26, .putfield 40, 3), (29, .aload_n 0, 1), (30, .getfield 29, 3), (33, .getfield 151, 3), (36, .ireturn, 1)]
theorem iS_undo_ok : ∀ q ∈ iS_undo, decode prog_1_method_14_code q.1 = .ok q.2 := by decide +kernel
def mS_undo : MR := (⟨RX4, "undo", "()I"⟩, prog_1_method_14_code, 1, (some .int), 4, 0, false, iS_undo)
def iS_songCount : List (Nat × Instr × Nat) := [(0, .aload_n 0, 1), (1, .getfield 19, 3), (4, .getfield 78, 3), (7, .ireturn, 1)]
theorem iS_songCount_ok : ∀ q ∈ iS_songCount, decode prog_1_method_15_code q.1 = .ok q.2 := by decide +kernel
def mS_songCount : MR := (⟨RX4, "songCount", "()I"⟩, prog_1_method_15_code, 1, (some .int), 4, 0, false, iS_songCount)
def iS_kindOf : List (Nat × Instr × Nat) := [(0, .aload_n 0, 1), (1, .getfield 19, 3), (4, .iload_n 1, 1), (5, .invokevirtual 115, 3), (8, .ifCond .eq 14, 3), (11, .aload_n 0, 1), (12, .getfield 19, 3), (15, .iload_n 2, 1), (16, .invokevirtual 157, 3), (19, .ifCond .ne 5, 3), (22, .iconst (-1), 1), (23, .ireturn, 1), (24, .aload_n 0, 1), (25, .getfield 19, 3), (28, .iload_n 1, 1), (29, .iload_n 2, 1), (30, .invokevirtual 160, 3), (33, .istore_n 3, 1), (34, .iload_n 3, 1), (35, .iconst (-1), 1), (36, .if_icmp .ne 8, 3), (39, .bipush (-4), 2), (41, .goto 4, 3), (44, .iload_n 3, 1), (45, .ireturn, 1)]
theorem iS_kindOf_ok : ∀ q ∈ iS_kindOf, decode prog_1_method_16_code q.1 = .ok q.2 := by decide +kernel
def mS_kindOf : MR := (⟨RX4, "kindOf", "(II)I"⟩, prog_1_method_16_code, 4, (some .int), 4, 2, false, iS_kindOf)
def iS_tuningOf : List (Nat × Instr × Nat) := [(0, .aload_n 0, 1), (1, .iload_n 1, 1), (2, .iload_n 2, 1), (3, .invokevirtual 100, 3), (6, .istore_n 3, 1), (7, .iload_n 3, 1), (8, .ifCond .ge 7, 3), (11, .iload_n 3, 1), (12, .goto 12, 3), (15, .aload_n 0, 1), (16, .getfield 19, 3), (19, .iload_n 1, 1), (20, .iload_n 2, 1), (21, .invokevirtual 163, 3), (24, .ireturn, 1)]
theorem iS_tuningOf_ok : ∀ q ∈ iS_tuningOf, decode prog_1_method_17_code q.1 = .ok q.2 := by decide +kernel
def mS_tuningOf : MR := (⟨RX4, "tuningOf", "(II)I"⟩, prog_1_method_17_code, 4, (some .int), 4, 2, false, iS_tuningOf)
def iS_spareUnits : List (Nat × Instr × Nat) := [(0, .aload_n 0, 1), (1, .getfield 19, 3), (4, .iload_n 1, 1), (5, .invokevirtual 115, 3), (8, .ifCond .eq 14, 3), (11, .aload_n 0, 1), (12, .getfield 19, 3), (15, .iload_n 2, 1), (16, .invokevirtual 103, 3), (19, .ifCond .ne 5, 3), (22, .iconst (-1), 1), (23, .ireturn, 1), (24, .aload_n 0, 1), (25, .getfield 19, 3), (28, .getfield 111, 3), (31, .iload_n 2, 1), (32, .iaload, 1), (33, .aload_n 0, 1), (34, .getfield 19, 3), (37, .iload_n 1, 1), (38, .iload_n 2, 1), (39, .invokevirtual 96, 3), (42, .isub, 1), (43, .ireturn, 1)]
theorem iS_spareUnits_ok : ∀ q ∈ iS_spareUnits, decode prog_1_method_18_code q.1 = .ok q.2 := by decide +kernel
def mS_spareUnits : MR := (⟨RX4, "spareUnits", "(II)I"⟩, prog_1_method_18_code, 3, (some .int), 4, 2, false, iS_spareUnits)
def iS_changeOf : List (Nat × Instr × Nat) := [(0, .aload_n 0, 1), (1, .getfield 19, 3), (4, .iload_n 1, 1), (5, .invokevirtual 157, 3), (8, .ifCond .eq 15, 3), (11, .aload_n 0, 1), (12, .getfield 19, 3), (15, .iload_n 2, 1), (16, .iload_n 3, 1), (17, .invokevirtual 166, 3), (20, .ifCond .ne 5, 3), (23, .iconst (-1), 1), (24, .ireturn, 1), (25, .aload_n 0, 1), (26, .getfield 19, 3), (29, .iload_n 1, 1), (30, .iload_n 2, 1), (31, .iload_n 3, 1), (32, .invokevirtual 170, 3), (35, .ireturn, 1)]
theorem iS_changeOf_ok : ∀ q ∈ iS_changeOf, decode prog_1_method_19_code q.1 = .ok q.2 := by decide +kernel
def mS_changeOf : MR := (⟨RX4, "changeOf", "(III)I"⟩, prog_1_method_19_code, 4, (some .int), 4, 3, false, iS_changeOf)
def iS_changeCost : List (Nat × Instr × Nat) := [(0, .aload_n 0, 1), (1, .getfield 19, 3), (4, .iload_n 1, 1), (5, .invokevirtual 157, 3), (8, .ifCond .eq 15, 3), (11, .aload_n 0, 1), (12, .getfield 19, 3), (15, .iload_n 2, 1), (16, .iload_n 3, 1), (17, .invokevirtual 166, 3), (20, .ifCond .ne 5, 3), (23, .iconst (-1), 1), (24, .ireturn, 1), (25, .aload_n 0, 1), (26, .getfield 19, 3), (29, .iload_n 1, 1), (30, .iload_n 2, 1), (31, .iload_n 3, 1), (32, .invokevirtual 174, 3), (35, .ireturn, 1)]
theorem iS_changeCost_ok : ∀ q ∈ iS_changeCost, decode prog_1_method_20_code q.1 = .ok q.2 := by decide +kernel
def mS_changeCost : MR := (⟨RX4, "changeCost", "(III)I"⟩, prog_1_method_20_code, 4, (some .int), 4, 3, false, iS_changeCost)
def iS_changeoverCost : List (Nat × Instr × Nat) := [(0, .aload_n 0, 1), (1, .getfield 19, 3), (4, .iload_n 1, 1), (5, .iload_n 2, 1), (6, .invokevirtual 166, 3), (9, .ifCond .ne 5, 3), (12, .iconst (-1), 1), (13, .ireturn, 1), (14, .aload_n 0, 1), (15, .getfield 19, 3), (18, .iload_n 1, 1), (19, .iload_n 2, 1), (20, .invokevirtual 177, 3), (23, .ireturn, 1)]
theorem iS_changeoverCost_ok : ∀ q ∈ iS_changeoverCost, decode prog_1_method_21_code q.1 = .ok q.2 := by decide +kernel
def mS_changeoverCost : MR := (⟨RX4, "changeoverCost", "(II)I"⟩, prog_1_method_21_code, 3, (some .int), 4, 2, false, iS_changeoverCost)
def iS_songAt : List (Nat × Instr × Nat) := [(0, .aload_n 0, 1), (1, .getfield 19, 3), (4, .iload_n 1, 1), (5, .invokevirtual 115, 3), (8, .ifCond .eq 15, 3), (11, .aload_n 0, 1), (12, .getfield 19, 3), (15, .getfield 137, 3), (18, .iload_n 1, 1), (19, .iaload, 1), (20, .goto 4, 3), (23, .iconst (-1), 1), (24, .ireturn, 1)]
theorem iS_songAt_ok : ∀ q ∈ iS_songAt, decode prog_1_method_22_code q.1 = .ok q.2 := by decide +kernel
def mS_songAt : MR := (⟨RX4, "songAt", "(I)I"⟩, prog_1_method_22_code, 2, (some .int), 4, 1, false, iS_songAt)
def iS_orderCost : List (Nat × Instr × Nat) := [(0, .iconst 0, 1), (1, .istore_n 1, 1), (2, .iconst 0, 1), (3, .istore_n 2, 1), (4, .iload_n 2, 1), (5, .aload_n 0, 1), (6, .getfield 19, 3), (9, .getfield 78, 3), (12, .iconst 1, 1), (13, .isub, 1), (14, .if_icmp .ge 20, 3), (17, .iload_n 1, 1), (18, .aload_n 0, 1), (19, .getfield 19, 3), (22, .iload_n 2, 1), (23, .invokevirtual 180, 3), (26, .iadd, 1), (27, .istore_n 1, 1), (28, .iinc 2 1, 3), (31, .goto (-27), 3), (34, .iload_n 1, 1), (35, .ireturn, 1)]
theorem iS_orderCost_ok : ∀ q ∈ iS_orderCost, decode prog_1_method_23_code q.1 = .ok q.2 := by decide +kernel
def mS_orderCost : MR := (⟨RX4, "orderCost", "()I"⟩, prog_1_method_23_code, 3, (some .int), 4, 0, false, iS_orderCost)
def iS_isAllowed : List (Nat × Instr × Nat) := [(0, .iconst 0, 1), (1, .istore_n 1, 1), (2, .iload_n 1, 1), (3, .aload_n 0, 1), (4, .getfield 19, 3), (7, .getfield 78, 3), (10, .if_icmp .ge 31, 3), (13, .aload_n 0, 1), (14, .getfield 19, 3), (17, .aload_n 0, 1), (18, .getfield 19, 3), (21, .getfield 137, 3), (24, .iload_n 1, 1), (25, .iaload, 1), (26, .iload_n 1, 1), (27, .invokevirtual 183, 3), (30, .ifCond .ne 5, 3), (33, .iconst 0, 1), (34, .ireturn, 1), (35, .iinc 1 1, 3), (38, .goto (-36), 3), (41, .iconst 1, 1), (42, .ireturn, 1)]
theorem iS_isAllowed_ok : ∀ q ∈ iS_isAllowed, decode prog_1_method_24_code q.1 = .ok q.2 := by decide +kernel
def mS_isAllowed : MR := (⟨RX4, "isAllowed", "()I"⟩, prog_1_method_24_code, 2, (some .int), 4, 0, false, iS_isAllowed)
def iS_dearestChangeover : List (Nat × Instr × Nat) := [(0, .bipush (-4), 2), (2, .istore_n 1, 1), (3, .iconst (-1), 1), (4, .istore_n 2, 1), (5, .iconst 0, 1), (6, .istore_n 3, 1), (7, .iload_n 3, 1), (8, .aload_n 0, 1), (9, .getfield 19, 3), (12, .getfield 78, 3), (15, .iconst 1, 1), (16, .isub, 1), (17, .if_icmp .ge 30, 3), (20, .aload_n 0, 1), (21, .getfield 19, 3), (24, .iload_n 3, 1), (25, .invokevirtual 180, 3), (28, .istore 4, 2), (30, .iload 4, 2), (32, .iload_n 2, 1), (33, .if_icmp .le 8, 3), (36, .iload 4, 2), (38, .istore_n 2, 1), (39, .iload_n 3, 1), (40, .istore_n 1, 1), (41, .iinc 3 1, 3), (44, .goto (-37), 3), (47, .iload_n 1, 1), (48, .ireturn, 1)]
theorem iS_dearestChangeover_ok : ∀ q ∈ iS_dearestChangeover, decode prog_1_method_25_code q.1 = .ok q.2 := by decide +kernel
def mS_dearestChangeover : MR := (⟨RX4, "dearestChangeover", "()I"⟩, prog_1_method_25_code, 5, (some .int), 4, 0, false, iS_dearestChangeover)
def iS_bestCost : List (Nat × Instr × Nat) := [(0, .aload_n 0, 1), (1, .invokevirtual 140, 3), (4, .invokevirtual 144, 3), (7, .istore_n 1, 1), (8, .iload_n 1, 1), (9, .iconst (-1), 1), (10, .if_icmp .ne 8, 3), (13, .bipush (-4), 2), (15, .goto 4, 3), (18, .iload_n 1, 1), (19, .ireturn, 1)]
theorem iS_bestCost_ok : ∀ q ∈ iS_bestCost, decode prog_1_method_26_code q.1 = .ok q.2 := by decide +kernel
def mS_bestCost : MR := (⟨RX4, "bestCost", "()I"⟩, prog_1_method_26_code, 2, (some .int), 4, 0, false, iS_bestCost)
def iS_bestSongAt : List (Nat × Instr × Nat) := [(0, .aload_n 0, 1), (1, .getfield 19, 3), (4, .iload_n 1, 1), (5, .invokevirtual 115, 3), (8, .ifCond .ne 5, 3), (11, .iconst (-1), 1), (12, .ireturn, 1), (13, .aload_n 0, 1), (14, .invokevirtual 140, 3), (17, .iload_n 1, 1), (18, .invokevirtual 186, 3), (21, .istore_n 2, 1), (22, .iload_n 2, 1), (23, .iconst (-1), 1), (24, .if_icmp .ne 8, 3), (27, .bipush (-4), 2), (29, .goto 4, 3), (32, .iload_n 2, 1), (33, .ireturn, 1)]
theorem iS_bestSongAt_ok : ∀ q ∈ iS_bestSongAt, decode prog_1_method_27_code q.1 = .ok q.2 := by decide +kernel
def mS_bestSongAt : MR := (⟨RX4, "bestSongAt", "(I)I"⟩, prog_1_method_27_code, 3, (some .int), 4, 1, false, iS_bestSongAt)
def iS_bestCostFrom : List (Nat × Instr × Nat) := [(0, .aload_n 0, 1), (1, .getfield 19, 3), (4, .iload_n 1, 1), (5, .invokevirtual 115, 3), (8, .ifCond .ne 5, 3), (11, .iconst (-1), 1), (12, .ireturn, 1), (13, .aload_n 0, 1), (14, .invokevirtual 140, 3), (17, .iload_n 1, 1), (18, .invokevirtual 189, 3), (21, .istore_n 2, 1), (22, .iload_n 2, 1), (23, .iconst (-1), 1), (24, .if_icmp .ne 8, 3), (27, .bipush (-4), 2), (29, .goto 4, 3), (32, .iload_n 2, 1), (33, .ireturn, 1)]
theorem iS_bestCostFrom_ok : ∀ q ∈ iS_bestCostFrom, decode prog_1_method_28_code q.1 = .ok q.2 := by decide +kernel
def mS_bestCostFrom : MR := (⟨RX4, "bestCostFrom", "(I)I"⟩, prog_1_method_28_code, 3, (some .int), 4, 1, false, iS_bestCostFrom)
def iS_bestOrderCount : List (Nat × Instr × Nat) := [(0, .aload_n 0, 1), (1, .invokevirtual 140, 3), (4, .invokevirtual 192, 3), (7, .ireturn, 1)]
theorem iS_bestOrderCount_ok : ∀ q ∈ iS_bestOrderCount, decode prog_1_method_29_code q.1 = .ok q.2 := by decide +kernel
def mS_bestOrderCount : MR := (⟨RX4, "bestOrderCount", "()I"⟩, prog_1_method_29_code, 1, (some .int), 4, 0, false, iS_bestOrderCount)
def iS_savingByUnit : List (Nat × Instr × Nat) := [(0, .aload_n 0, 1), (1, .getfield 19, 3), (4, .iload_n 1, 1), (5, .invokevirtual 103, 3), (8, .ifCond .ne 5, 3), (11, .iconst (-1), 1), (12, .ireturn, 1), (13, .aload_n 0, 1), (14, .invokevirtual 140, 3), (17, .invokevirtual 144, 3), (20, .istore_n 2, 1), (21, .iload_n 2, 1), (22, .iconst (-1), 1), (23, .if_icmp .ne 6, 3), (26, .bipush (-4), 2), (28, .ireturn, 1), (29, .aload_n 0, 1), (30, .getfield 23, 3), (33, .aload_n 0, 1), (34, .getfield 19, 3), (37, .invokevirtual 64, 3), (40, .aload_n 0, 1), (41, .getfield 23, 3), (44, .getfield 111, 3), (47, .iload_n 1, 1), (48, .dup2, 1), (49, .iaload, 1), (50, .iconst 1, 1), (51, .iadd, 1), (52, .iastore, 1), (53, .aload_n 0, 1), (54, .iconst 0, 1), (55, .putfield 40, 3), (58, .aload_n 0, 1), (59, .getfield 36, 3), (62, .aload_n 0, 1), (63, .getfield 23, 3), (66, .invokevirtual 195, 3), (69, .aload_n 0, 1), (70, .getfield 36, 3), (73, .invokevirtual 198, 3), (76, .iload_n 2, 1), (77, .aload_n 0, 1), (78, .getfield 36, 3), (81, .invokevirtual 144, 3), (84, .isub, 1), (85, .ireturn, 1)]
theorem iS_savingByUnit_ok : ∀ q ∈ iS_savingByUnit, decode prog_1_method_30_code q.1 = .ok q.2 := by decide +kernel
def mS_savingByUnit : MR := (⟨RX4, "savingByUnit", "(I)I"⟩, prog_1_method_30_code, 3, (some .int), 4, 1, false, iS_savingByUnit)
def iS_encoresWithin : List (Nat × Instr × Nat) := [(0, .iload_n 1, 1), (1, .ifCond .lt 10, 3), (4, .iload_n 1, 1), (5, .sipush 160, 3), (8, .if_icmp .le 5, 3), (11, .iconst (-1), 1), (12, .ireturn, 1), (13, .iconst 0, 1), (14, .istore_n 2, 1), (15, .iconst 0, 1), (16, .istore_n 3, 1), (17, .iconst 1, 1), (18, .istore 4, 2), (20, .iload 4, 2), (22, .iconst 1, 1), (23, .aload_n 0, 1), (24, .getfield 19, 3), (27, .getfield 78, 3), (30, .ishl, 1), (31, .if_icmp .ge 83, 3), (34, .iload 4, 2), (36, .aload_n 0, 1), (37, .getfield 19, 3), (40, .getfield 130, 3), (43, .iconst (-1), 1), (44, .ixor, 1), (45, .iand, 1), (46, .ifCond .ne 62, 3), (49, .aload_n 0, 1), (50, .getfield 19, 3), (53, .iload 4, 2), (55, .invokevirtual 201, 3), (58, .istore 5, 2), (60, .iload 4, 2), (62, .invokestatic 204, 3), (65, .iload_n 2, 1), (66, .invokestatic 204, 3), (69, .if_icmp .le 7, 3), (72, .iconst 1, 1), (73, .goto 4, 3), (76, .iconst 0, 1), (77, .istore 6, 2), (79, .iload 5, 2), (81, .iload_n 1, 1), (82, .if_icmp .gt 26, 3), (85, .iload 5, 2), (87, .iload_n 3, 1), (88, .if_icmp .gt 14, 3), (91, .iload 5, 2), (93, .iload_n 3, 1), (94, .if_icmp .ne 14, 3), (97, .iload 6, 2), (99, .ifCond .eq 9, 3), (102, .iload 4, 2), (104, .istore_n 2, 1), (105, .iload 5, 2), (107, .istore_n 3, 1), (108, .iinc 4 1, 3), (111, .goto (-91), 3), (114, .iload_n 2, 1), (115, .ireturn, 1)]
theorem iS_encoresWithin_ok : ∀ q ∈ iS_encoresWithin, decode prog_1_method_31_code q.1 = .ok q.2 := by decide +kernel
def mS_encoresWithin : MR := (⟨RX4, "encoresWithin", "(I)I"⟩, prog_1_method_31_code, 7, (some .int), 4, 1, false, iS_encoresWithin)
def iS_beginEdit : List (Nat × Instr × Nat) := [(0, .aload_n 0, 1), (1, .getfield 29, 3), (4, .aload_n 0, 1), (5, .getfield 19, 3), (8, .invokevirtual 209, 3), (11, .aload_n 0, 1), (12, .iconst 0, 1), (13, .putfield 40, 3), (16, .return_, 1)]
theorem iS_beginEdit_ok : ∀ q ∈ iS_beginEdit, decode prog_1_method_32_code q.1 = .ok q.2 := by decide +kernel
def mS_beginEdit : MR := (⟨RX4, "beginEdit", "()V"⟩, prog_1_method_32_code, 1, none, 4, 0, false, iS_beginEdit)
def iS_presentTable : List (Nat × Instr × Nat) := [(0, .aload_n 0, 1), (1, .getfield 40, 3), (4, .ifCond .ne 26, 3), (7, .aload_n 0, 1), (8, .getfield 36, 3), (11, .aload_n 0, 1), (12, .getfield 19, 3), (15, .invokevirtual 195, 3), (18, .aload_n 0, 1), (19, .getfield 36, 3), (22, .invokevirtual 198, 3), (25, .aload_n 0, 1), (26, .iconst 1, 1), (27, .putfield 40, 3), (30, .aload_n 0, 1), (31, .getfield 36, 3), (34, .areturn, 1)]
theorem iS_presentTable_ok : ∀ q ∈ iS_presentTable, decode prog_1_method_33_code q.1 = .ok q.2 := by decide +kernel
def mS_presentTable : MR := (⟨RX4, "presentTable", "()LSetlistPlanner$OrderTable;"⟩, prog_1_method_33_code, 1, (some (.object "SetlistPlanner$OrderTable")), 4, 0, false, iS_presentTable)
end
section
def iM_in : List (Nat × Instr × Nat) := [(0, .lload_n 0, 1), (1, .lload_n 2, 1), (2, .lcmp, 1), (3, .ifCond .lt 14, 3), (6, .lload_n 0, 1), (7, .lload 4, 2), (9, .lcmp, 1), (10, .ifCond .gt 7, 3), (13, .iconst 1, 1), (14, .goto 4, 3), (17, .iconst 0, 1), (18, .ireturn, 1)]
theorem iM_in_ok : ∀ q ∈ iM_in, decode prog_7_method_2_code q.1 = .ok q.2 := by decide +kernel
def mM_in : MR := (⟨RX5, "in", "(JJJ)Z"⟩, prog_7_method_2_code, 6, (some .boolean), 5, 3, true, iM_in)
def iM_empty : List (Nat × Instr × Nat) := [(0, .iconst 0, 1), (1, .istore_n 1, 1), (2, .iload_n 1, 1), (3, .bipush 125, 2), (5, .if_icmp .ge 13, 3), (8, .aload_n 0, 1), (9, .iload_n 1, 1), (10, .iconst 0, 1), (11, .iastore, 1), (12, .iinc 1 1, 3), (15, .goto (-13), 3), (18, .iconst 0, 1), (19, .istore_n 1, 1), (20, .iload_n 1, 1), (21, .bipush 8, 2), (23, .if_icmp .ge 23, 3), (26, .aload_n 0, 1), (27, .bipush 10, 2), (29, .iload_n 1, 1), (30, .iadd, 1), (31, .iconst (-1), 1), (32, .iastore, 1), (33, .aload_n 0, 1), (34, .bipush 18, 2), (36, .iload_n 1, 1), (37, .iadd, 1), (38, .iload_n 1, 1), (39, .iastore, 1), (40, .iinc 1 1, 3), (43, .goto (-23), 3), (46, .iconst 0, 1), (47, .istore_n 1, 1), (48, .iload_n 1, 1), (49, .bipush 40, 2), (51, .if_icmp .ge 18, 3), (54, .aload_n 0, 1), (55, .bipush 45, 2), (57, .iconst 2, 1), (58, .iload_n 1, 1), (59, .imul, 1), (60, .iadd, 1), (61, .iconst (-1), 1), (62, .iastore, 1), (63, .iinc 1 1, 3), (66, .goto (-18), 3), (69, .return_, 1)]
theorem iM_empty_ok : ∀ q ∈ iM_empty, decode prog_7_method_3_code q.1 = .ok q.2 := by decide +kernel
def mM_empty : MR := (⟨RX5, "empty", "([I)V"⟩, prog_7_method_3_code, 2, none, 5, 1, true, iM_empty)
def iM_at : List (Nat × Instr × Nat) := [(0, .bipush 45, 2), (2, .iconst 2, 1), (3, .iconst 5, 1), (4, .iload_n 0, 1), (5, .imul, 1), (6, .iload_n 1, 1), (7, .iadd, 1), (8, .imul, 1), (9, .iadd, 1), (10, .ireturn, 1)]
theorem iM_at_ok : ∀ q ∈ iM_at, decode prog_7_method_4_code q.1 = .ok q.2 := by decide +kernel
def mM_at : MR := (⟨RX5, "at", "(II)I"⟩, prog_7_method_4_code, 2, (some .int), 5, 2, true, iM_at)
def iM_part : List (Nat × Instr × Nat) := [(0, .aload_n 0, 1), (1, .iload_n 1, 1), (2, .iload_n 2, 1), (3, .invokestatic 42, 3), (6, .iload_n 3, 1), (7, .iastore, 1), (8, .aload_n 0, 1), (9, .iload_n 1, 1), (10, .iload_n 2, 1), (11, .invokestatic 42, 3), (14, .iconst 1, 1), (15, .iadd, 1), (16, .iload 4, 2), (18, .iastore, 1), (19, .return_, 1)]
theorem iM_part_ok : ∀ q ∈ iM_part, decode prog_7_method_5_code q.1 = .ok q.2 := by decide +kernel
def mM_part : MR := (⟨RX5, "part", "([IIIII)V"⟩, prog_7_method_5_code, 5, none, 5, 5, true, iM_part)
def iM_others : List (Nat × Instr × Nat) := [(0, .iconst 0, 1), (1, .istore 4, 2), (3, .iconst 0, 1), (4, .istore 5, 2), (6, .iload 5, 2), (8, .aload_n 0, 1), (9, .bipush 26, 2), (11, .iaload, 1), (12, .if_icmp .ge 37, 3), (15, .iload 4, 2), (17, .iload 5, 2), (19, .iload_n 3, 1), (20, .if_icmp .eq 19, 3), (23, .aload_n 0, 1), (24, .iload_n 1, 1), (25, .iload 5, 2), (27, .invokestatic 42, 3), (30, .iaload, 1), (31, .iload_n 2, 1), (32, .if_icmp .ne 7, 3), (35, .iconst 1, 1), (36, .goto 4, 3), (39, .iconst 0, 1), (40, .iadd, 1), (41, .istore 4, 2), (43, .iinc 5 1, 3), (46, .goto (-40), 3), (49, .iload 4, 2), (51, .ireturn, 1)]
theorem iM_others_ok : ∀ q ∈ iM_others, decode prog_7_method_6_code q.1 = .ok q.2 := by decide +kernel
def mM_others : MR := (⟨RX5, "others", "([IIII)I"⟩, prog_7_method_6_code, 6, (some .int), 5, 4, true, iM_others)
def iM_append : List (Nat × Instr × Nat) := [(0, .iload_n 1, 1), (1, .i2l, 1), (2, .ldc2_w 46, 3), (5, .ldc2_w 48, 3), (8, .invokestatic 50, 3), (11, .ifCond .ne 5, 3), (14, .iconst (-1), 1), (15, .ireturn, 1), (16, .aload_n 0, 1), (17, .getfield 54, 3), (20, .sipush 300, 3), (23, .if_icmp .ne 6, 3), (26, .bipush (-3), 2), (28, .ireturn, 1), (29, .aload_n 0, 1), (30, .getfield 19, 3), (33, .aload_n 0, 1), (34, .getfield 54, 3), (37, .iload_n 1, 1), (38, .iastore, 1), (39, .aload_n 0, 1), (40, .dup, 1), (41, .getfield 54, 3), (44, .iconst 1, 1), (45, .iadd, 1), (46, .putfield 54, 3), (49, .aload_n 0, 1), (50, .getfield 54, 3), (53, .ireturn, 1)]
theorem iM_append_ok : ∀ q ∈ iM_append, decode prog_7_method_7_code q.1 = .ok q.2 := by decide +kernel
def mM_append : MR := (⟨RX5, "append", "(I)I"⟩, prog_7_method_7_code, 2, (some .int), 5, 1, false, iM_append)
def iM_clearText : List (Nat × Instr × Nat) := [(0, .aload_n 0, 1), (1, .getfield 54, 3), (4, .istore_n 1, 1), (5, .aload_n 0, 1), (6, .iconst 0, 1), (7, .putfield 54, 3), (10, .iload_n 1, 1), (11, .ireturn, 1)]
theorem iM_clearText_ok : ∀ q ∈ iM_clearText, decode prog_7_method_8_code q.1 = .ok q.2 := by decide +kernel
def mM_clearText : MR := (⟨RX5, "clearText", "()I"⟩, prog_7_method_8_code, 2, (some .int), 5, 0, false, iM_clearText)
def iM_here : List (Nat × Instr × Nat) := [(0, .aload_n 0, 1), (1, .getfield 58, 3), (4, .aload_n 0, 1), (5, .getfield 54, 3), (8, .if_icmp .ge 15, 3), (11, .aload_n 0, 1), (12, .getfield 19, 3), (15, .aload_n 0, 1), (16, .getfield 58, 3), (19, .iaload, 1), (20, .goto 4, 3), (23, .iconst 0, 1), (24, .ireturn, 1)]
theorem iM_here_ok : ∀ q ∈ iM_here, decode prog_7_method_9_code q.1 = .ok q.2 := by decide +kernel
def mM_here : MR := (⟨RX5, "here", "()I"⟩, prog_7_method_9_code, 1, (some .int), 5, 0, false, iM_here)
def iM_isNumber : List (Nat × Instr × Nat) := [(0, .aload_n 0, 1), (1, .iconst 0, 1), (2, .putfield 61, 3), (5, .iconst 0, 1), (6, .istore 4, 2), (8, .aload_n 0, 1), (9, .invokevirtual 64, 3), (12, .i2l, 1), (13, .ldc2_w 68, 3), (16, .ldc2_w 70, 3), (19, .invokestatic 50, 3), (22, .ifCond .eq 44, 3), (25, .iload 4, 2), (27, .iconst 2, 1), (28, .if_icmp .ge 38, 3), (31, .aload_n 0, 1), (32, .bipush 10, 2), (34, .aload_n 0, 1), (35, .getfield 61, 3), (38, .imul, 1), (39, .aload_n 0, 1), (40, .invokevirtual 64, 3), (43, .iadd, 1), (44, .bipush 48, 2), (46, .isub, 1), (47, .putfield 61, 3), (50, .iinc 4 1, 3), (53, .aload_n 0, 1), (54, .dup, 1), (55, .getfield 58, 3), (58, .iconst 1, 1), (59, .iadd, 1), (60, .putfield 58, 3), (63, .goto (-55), 3), (66, .iload 4, 2), (68, .ifCond .le 30, 3), (71, .aload_n 0, 1), (72, .getfield 61, 3), (75, .i2l, 1), (76, .iload_n 1, 1), (77, .i2l, 1), (78, .iload_n 2, 1), (79, .i2l, 1), (80, .invokestatic 50, 3), (83, .ifCond .eq 15, 3), (86, .aload_n 0, 1), (87, .invokevirtual 64, 3), (90, .iload_n 3, 1), (91, .if_icmp .ne 7, 3), (94, .iconst 1, 1), (95, .goto 4, 3), (98, .iconst 0, 1), (99, .istore 5, 2), (101, .aload_n 0, 1), (102, .dup, 1), (103, .getfield 58, 3), (106, .iconst 1, 1), (107, .iadd, 1), (108, .putfield 58, 3), (111, .iload 5, 2), (113, .ireturn, 1)]
theorem iM_isNumber_ok : ∀ q ∈ iM_isNumber, decode prog_7_method_10_code q.1 = .ok q.2 := by decide +kernel
def mM_isNumber : MR := (⟨RX5, "isNumber", "(III)Z"⟩, prog_7_method_10_code, 6, (some .boolean), 5, 3, false, iM_isNumber)
def iM_partIs : List (Nat × Instr × Nat) := [(0, .aload_n 0, 1), (1, .iconst 0, 1), (2, .aload_n 0, 1), (3, .getfield 13, 3), (6, .iconst 0, 1), (7, .iaload, 1), (8, .iconst 1, 1), (9, .isub, 1), (10, .bipush 44, 2), (12, .invokevirtual 72, 3), (15, .ifCond .ne 5, 3), (18, .iconst 0, 1), (19, .ireturn, 1), (20, .aload_n 0, 1), (21, .getfield 61, 3), (24, .istore_n 1, 1), (25, .aload_n 0, 1), (26, .iconst 0, 1), (27, .aload_n 0, 1), (28, .getfield 13, 3), (31, .bipush 26, 2), (33, .iaload, 1), (34, .iconst 1, 1), (35, .isub, 1), (36, .bipush 44, 2), (38, .invokevirtual 72, 3), (41, .ifCond .ne 5, 3), (44, .iconst 0, 1), (45, .ireturn, 1), (46, .aload_n 0, 1), (47, .getfield 61, 3), (50, .istore_n 2, 1), (51, .aload_n 0, 1), (52, .iconst 0, 1), (53, .aload_n 0, 1), (54, .getfield 13, 3), (57, .bipush 32, 2), (59, .iaload, 1), (60, .iconst 1, 1), (61, .isub, 1), (62, .bipush 44, 2), (64, .invokevirtual 72, 3), (67, .ifCond .ne 5, 3), (70, .iconst 0, 1), (71, .ireturn, 1), (72, .aload_n 0, 1), (73, .getfield 61, 3), (76, .istore_n 3, 1), (77, .aload_n 0, 1), (78, .iconst 0, 1), (79, .iconst 5, 1), (80, .bipush 59, 2), (82, .invokevirtual 72, 3), (85, .ifCond .eq 25, 3), (88, .aload_n 0, 1), (89, .getfield 13, 3), (92, .iload_n 1, 1), (93, .iload_n 3, 1), (94, .iload_n 2, 1), (95, .invokestatic 76, 3), (98, .aload_n 0, 1), (99, .getfield 13, 3), (102, .bipush 33, 2), (104, .iload_n 3, 1), (105, .iadd, 1), (106, .iaload, 1), (107, .if_icmp .lt 5, 3), (110, .iconst 0, 1), (111, .ireturn, 1), (112, .aload_n 0, 1), (113, .getfield 13, 3), (116, .iload_n 1, 1), (117, .iload_n 2, 1), (118, .iload_n 3, 1), (119, .aload_n 0, 1), (120, .getfield 61, 3), (123, .invokestatic 38, 3), (126, .iconst 1, 1), (127, .ireturn, 1)]
theorem iM_partIs_ok : ∀ q ∈ iM_partIs, decode prog_7_method_11_code q.1 = .ok q.2 := by decide +kernel
def mM_partIs : MR := (⟨RX5, "partIs", "()Z"⟩, prog_7_method_11_code, 4, (some .boolean), 5, 0, false, iM_partIs)
def iM_statement : List (Nat × Instr × Nat) := [(0, .aload_n 0, 1), (1, .invokevirtual 64, 3), (4, .istore_n 1, 1), (5, .aload_n 0, 1), (6, .dup, 1), (7, .getfield 58, 3), (10, .iconst 1, 1), (11, .iadd, 1), (12, .putfield 58, 3), (15, .iload_n 1, 1), (16, .lookupswitch 294 #[(101, 256), (107, 162), (112, 106), (115, 52), (117, 251)], 52), (68, .aload_n 0, 1), (69, .iconst 1, 1), (70, .bipush 20, 2), (72, .bipush 59, 2), (74, .invokevirtual 72, 3), (77, .ifCond .eq 14, 3), (80, .aload_n 0, 1), (81, .getfield 13, 3), (84, .iconst 0, 1), (85, .iaload, 1), (86, .bipush 8, 2), (88, .if_icmp .ne 5, 3), (91, .iconst 0, 1), (92, .ireturn, 1), (93, .aload_n 0, 1), (94, .getfield 13, 3), (97, .iconst 1, 1), (98, .aload_n 0, 1), (99, .getfield 13, 3), (102, .iconst 0, 1), (103, .iaload, 1), (104, .iadd, 1), (105, .aload_n 0, 1), (106, .getfield 61, 3), (109, .iastore, 1), (110, .aload_n 0, 1), (111, .getfield 13, 3), (114, .iconst 0, 1), (115, .dup2, 1), (116, .iaload, 1), (117, .iconst 1, 1), (118, .iadd, 1), (119, .iastore, 1), (120, .iconst 1, 1), (121, .ireturn, 1), (122, .aload_n 0, 1), (123, .iconst 0, 1), (124, .iconst 1, 1), (125, .bipush 59, 2), (127, .invokevirtual 72, 3), (130, .ifCond .eq 14, 3), (133, .aload_n 0, 1), (134, .getfield 13, 3), (137, .bipush 26, 2), (139, .iaload, 1), (140, .iconst 5, 1), (141, .if_icmp .ne 5, 3), (144, .iconst 0, 1), (145, .ireturn, 1), (146, .aload_n 0, 1), (147, .getfield 13, 3), (150, .bipush 27, 2), (152, .aload_n 0, 1), (153, .getfield 13, 3), (156, .bipush 26, 2), (158, .iaload, 1), (159, .iadd, 1), (160, .aload_n 0, 1), (161, .getfield 61, 3), (164, .iastore, 1), (165, .aload_n 0, 1), (166, .getfield 13, 3), (169, .bipush 26, 2), (171, .dup2, 1), (172, .iaload, 1), (173, .iconst 1, 1), (174, .iadd, 1), (175, .iastore, 1), (176, .iconst 1, 1), (177, .ireturn, 1), (178, .aload_n 0, 1), (179, .iconst 1, 1), (180, .iconst 5, 1), (181, .bipush 44, 2), (183, .invokevirtual 72, 3), (186, .ifCond .eq 15, 3), (189, .aload_n 0, 1), (190, .getfield 13, 3), (193, .bipush 32, 2), (195, .iaload, 1), (196, .bipush 6, 2), (198, .if_icmp .ne 5, 3), (201, .iconst 0, 1), (202, .ireturn, 1), (203, .aload_n 0, 1), (204, .getfield 13, 3), (207, .bipush 33, 2), (209, .aload_n 0, 1), (210, .getfield 13, 3), (213, .bipush 32, 2), (215, .iaload, 1), (216, .iadd, 1), (217, .aload_n 0, 1), (218, .getfield 61, 3), (221, .iastore, 1), (222, .aload_n 0, 1), (223, .iconst 0, 1), (224, .iconst 1, 1), (225, .bipush 59, 2), (227, .invokevirtual 72, 3), (230, .ifCond .ne 5, 3), (233, .iconst 0, 1), (234, .ireturn, 1), (235, .aload_n 0, 1), (236, .getfield 13, 3), (239, .bipush 39, 2), (241, .aload_n 0, 1), (242, .getfield 13, 3), (245, .bipush 32, 2), (247, .iaload, 1), (248, .iadd, 1), (249, .aload_n 0, 1), (250, .getfield 61, 3), (253, .iastore, 1), (254, .aload_n 0, 1), (255, .getfield 13, 3), (258, .bipush 32, 2), (260, .dup2, 1), (261, .iaload, 1), (262, .iconst 1, 1), (263, .iadd, 1), (264, .iastore, 1), (265, .iconst 1, 1), (266, .ireturn, 1), (267, .aload_n 0, 1), (268, .invokevirtual 80, 3), (271, .ireturn, 1), (272, .aload_n 0, 1), (273, .iconst 0, 1), (274, .aload_n 0, 1), (275, .getfield 13, 3), (278, .iconst 0, 1), (279, .iaload, 1), (280, .iconst 1, 1), (281, .isub, 1), (282, .bipush 59, 2), (284, .invokevirtual 72, 3), (287, .ifCond .ne 5, 3), (290, .iconst 0, 1), (291, .ireturn, 1), (292, .aload_n 0, 1), (293, .getfield 13, 3), (296, .bipush 9, 2), (298, .dup2, 1), (299, .iaload, 1), (300, .iconst 1, 1), (301, .aload_n 0, 1), (302, .getfield 61, 3), (305, .ishl, 1), (306, .ior, 1), (307, .iastore, 1), (308, .iconst 1, 1), (309, .ireturn, 1), (310, .iconst 0, 1), (311, .ireturn, 1)]
theorem iM_statement_ok : ∀ q ∈ iM_statement, decode prog_7_method_12_code q.1 = .ok q.2 := by decide +kernel
def mM_statement : MR := (⟨RX5, "statement", "()Z"⟩, prog_7_method_12_code, 2, (some .boolean), 5, 0, false, iM_statement)
def iM_readAll : List (Nat × Instr × Nat) := [(0, .aload_n 0, 1), (1, .getfield 13, 3), (4, .invokestatic 34, 3), (7, .aload_n 0, 1), (8, .iconst 0, 1), (9, .putfield 58, 3), (12, .aload_n 0, 1), (13, .getfield 58, 3), (16, .aload_n 0, 1), (17, .getfield 54, 3), (20, .if_icmp .ge 20, 3), (23, .aload_n 0, 1), (24, .getfield 58, 3), (27, .istore_n 1, 1), (28, .aload_n 0, 1), (29, .invokevirtual 84, 3), (32, .ifCond .ne 5, 3), (35, .iload_n 1, 1), (36, .ireturn, 1), (37, .goto (-25), 3), (40, .bipush (-4), 2), (42, .ireturn, 1)]
theorem iM_readAll_ok : ∀ q ∈ iM_readAll, decode prog_7_method_13_code q.1 = .ok q.2 := by decide +kernel
def mM_readAll : MR := (⟨RX5, "readAll", "()I"⟩, prog_7_method_13_code, 2, (some .int), 5, 0, false, iM_readAll)
def iM_firstError : List (Nat × Instr × Nat) := [(0, .aload_n 0, 1), (1, .invokevirtual 87, 3), (4, .ireturn, 1)]
theorem iM_firstError_ok : ∀ q ∈ iM_firstError, decode prog_7_method_14_code q.1 = .ok q.2 := by decide +kernel
def mM_firstError : MR := (⟨RX5, "firstError", "()I"⟩, prog_7_method_14_code, 1, (some .int), 5, 0, false, iM_firstError)
def iM_configure : List (Nat × Instr × Nat) := [(0, .aload_n 0, 1), (1, .invokevirtual 87, 3), (4, .bipush (-4), 2), (6, .if_icmp .ne 32, 3), (9, .aload_n 0, 1), (10, .getfield 13, 3), (13, .iconst 0, 1), (14, .iaload, 1), (15, .ifCond .eq 23, 3), (18, .aload_n 0, 1), (19, .getfield 13, 3), (22, .bipush 26, 2), (24, .iaload, 1), (25, .ifCond .eq 13, 3), (28, .aload_n 0, 1), (29, .getfield 13, 3), (32, .bipush 32, 2), (34, .iaload, 1), (35, .ifCond .ne 6, 3), (38, .bipush (-2), 2), (40, .ireturn, 1), (41, .iconst 0, 1), (42, .istore_n 1, 1), (43, .iload_n 1, 1), (44, .bipush 125, 2), (46, .if_icmp .ge 21, 3), (49, .aload_n 0, 1), (50, .getfield 7, 3), (53, .iload_n 1, 1), (54, .aload_n 0, 1), (55, .getfield 13, 3), (58, .iload_n 1, 1), (59, .iaload, 1), (60, .iastore, 1), (61, .iinc 1 1, 3), (64, .goto (-21), 3), (67, .aload_n 0, 1), (68, .iconst 0, 1), (69, .putfield 90, 3), (72, .aload_n 0, 1), (73, .getfield 7, 3), (76, .iconst 0, 1), (77, .iaload, 1), (78, .ireturn, 1)]
theorem iM_configure_ok : ∀ q ∈ iM_configure, decode prog_7_method_15_code q.1 = .ok q.2 := by decide +kernel
def mM_configure : MR := (⟨RX5, "configure", "()I"⟩, prog_7_method_15_code, 2, (some .int), 5, 0, false, iM_configure)
def iM_keeps : List (Nat × Instr × Nat) := [(0, .aload_n 0, 1), (1, .getfield 90, 3), (4, .iconst 5, 1), (5, .if_icmp .ne 43, 3), (8, .iconst 0, 1), (9, .istore_n 1, 1), (10, .iload_n 1, 1), (11, .sipush 500, 3), (14, .if_icmp .ge 24, 3), (17, .aload_n 0, 1), (18, .getfield 16, 3), (21, .iload_n 1, 1), (22, .aload_n 0, 1), (23, .getfield 16, 3), (26, .bipush 125, 2), (28, .iload_n 1, 1), (29, .iadd, 1), (30, .iaload, 1), (31, .iastore, 1), (32, .iinc 1 1, 3), (35, .goto (-25), 3), (38, .aload_n 0, 1), (39, .dup, 1), (40, .getfield 90, 3), (43, .iconst 1, 1), (44, .isub, 1), (45, .putfield 90, 3), (48, .iconst 0, 1), (49, .istore_n 1, 1), (50, .iload_n 1, 1), (51, .bipush 125, 2), (53, .if_icmp .ge 29, 3), (56, .aload_n 0, 1), (57, .getfield 16, 3), (60, .bipush 125, 2), (62, .aload_n 0, 1), (63, .getfield 90, 3), (66, .imul, 1), (67, .iload_n 1, 1), (68, .iadd, 1), (69, .aload_n 0, 1), (70, .getfield 7, 3), (73, .iload_n 1, 1), (74, .iaload, 1), (75, .iastore, 1), (76, .iinc 1 1, 3), (79, .goto (-29), 3), (82, .aload_n 0, 1), (83, .dup, 1), (84, .getfield 90, 3), (87, .iconst 1, 1), (88, .iadd, 1), (89, .putfield 90, 3), (92, .return_, 1)]
theorem iM_keeps_ok : ∀ q ∈ iM_keeps, decode prog_7_method_16_code q.1 = .ok q.2 := by decide +kernel
def mM_keeps : MR := (⟨RX5, "keeps", "()V"⟩, prog_7_method_16_code, 2, none, 5, 0, false, iM_keeps)
def iM_undo : List (Nat × Instr × Nat) := [(0, .aload_n 0, 1), (1, .getfield 90, 3), (4, .ifCond .ne 6, 3), (7, .bipush (-2), 2), (9, .ireturn, 1), (10, .aload_n 0, 1), (11, .dup, 1), (12, .getfield 90, 3), (15, .iconst 1, 1), (16, .isub, 1), (17, .putfield 90, 3), (20, .iconst 0, 1), (21, .istore_n 1, 1), (22, .iload_n 1, 1), (23, .bipush 125, 2), (25, .if_icmp .ge 29, 3), (28, .aload_n 0, 1), (29, .getfield 7, 3), (32, .iload_n 1, 1), (33, .aload_n 0, 1), (34, .getfield 16, 3), (37, .bipush 125, 2), (39, .aload_n 0, 1), (40, .getfield 90, 3), (43, .imul, 1), (44, .iload_n 1, 1), (45, .iadd, 1), (46, .iaload, 1), (47, .iastore, 1), (48, .iinc 1 1, 3), (51, .goto (-29), 3), (54, .aload_n 0, 1), (55, .getfield 90, 3), (58, .ireturn, 1)]
theorem iM_undo_ok : ∀ q ∈ iM_undo, decode prog_7_method_17_code q.1 = .ok q.2 := by decide +kernel
def mM_undo : MR := (⟨RX5, "undo", "()I"⟩, prog_7_method_17_code, 2, (some .int), 5, 0, false, iM_undo)
def iM_isSong : List (Nat × Instr × Nat) := [(0, .iload_n 1, 1), (1, .i2l, 1), (2, .lconst 0, 1), (3, .aload_n 0, 1), (4, .getfield 7, 3), (7, .iconst 0, 1), (8, .iaload, 1), (9, .iconst 1, 1), (10, .isub, 1), (11, .i2l, 1), (12, .invokestatic 50, 3), (15, .ireturn, 1)]
theorem iM_isSong_ok : ∀ q ∈ iM_isSong, decode prog_7_method_18_code q.1 = .ok q.2 := by decide +kernel
def mM_isSong : MR := (⟨RX5, "isSong", "(I)Z"⟩, prog_7_method_18_code, 2, (some .boolean), 5, 1, false, iM_isSong)
def iM_isPlayer : List (Nat × Instr × Nat) := [(0, .iload_n 1, 1), (1, .i2l, 1), (2, .lconst 0, 1), (3, .aload_n 0, 1), (4, .getfield 7, 3), (7, .bipush 26, 2), (9, .iaload, 1), (10, .iconst 1, 1), (11, .isub, 1), (12, .i2l, 1), (13, .invokestatic 50, 3), (16, .ireturn, 1)]
theorem iM_isPlayer_ok : ∀ q ∈ iM_isPlayer, decode prog_7_method_19_code q.1 = .ok q.2 := by decide +kernel
def mM_isPlayer : MR := (⟨RX5, "isPlayer", "(I)Z"⟩, prog_7_method_19_code, 2, (some .boolean), 5, 1, false, iM_isPlayer)
def iM_isKind : List (Nat × Instr × Nat) := [(0, .iload_n 1, 1), (1, .i2l, 1), (2, .lconst 0, 1), (3, .aload_n 0, 1), (4, .getfield 7, 3), (7, .bipush 32, 2), (9, .iaload, 1), (10, .iconst 1, 1), (11, .isub, 1), (12, .i2l, 1), (13, .invokestatic 50, 3), (16, .ireturn, 1)]
theorem iM_isKind_ok : ∀ q ∈ iM_isKind, decode prog_7_method_20_code q.1 = .ok q.2 := by decide +kernel
def mM_isKind : MR := (⟨RX5, "isKind", "(I)Z"⟩, prog_7_method_20_code, 2, (some .boolean), 5, 1, false, iM_isKind)
def iM_setPart : List (Nat × Instr × Nat) := [(0, .aload_n 0, 1), (1, .iload_n 1, 1), (2, .invokevirtual 93, 3), (5, .ifCond .eq 32, 3), (8, .aload_n 0, 1), (9, .iload_n 2, 1), (10, .invokevirtual 97, 3), (13, .ifCond .eq 24, 3), (16, .aload_n 0, 1), (17, .iload_n 3, 1), (18, .invokevirtual 100, 3), (21, .ifCond .eq 16, 3), (24, .iload 4, 2), (26, .i2l, 1), (27, .lconst 0, 1), (28, .ldc2_w 103, 3), (31, .invokestatic 50, 3), (34, .ifCond .ne 5, 3), (37, .iconst (-1), 1), (38, .ireturn, 1), (39, .aload_n 0, 1), (40, .getfield 7, 3), (43, .iload_n 1, 1), (44, .iload_n 3, 1), (45, .iload_n 2, 1), (46, .invokestatic 76, 3), (49, .iconst 1, 1), (50, .iadd, 1), (51, .istore 5, 2), (53, .iload 5, 2), (55, .aload_n 0, 1), (56, .getfield 7, 3), (59, .bipush 33, 2), (61, .iload_n 3, 1), (62, .iadd, 1), (63, .iaload, 1), (64, .if_icmp .le 6, 3), (67, .bipush (-2), 2), (69, .ireturn, 1), (70, .aload_n 0, 1), (71, .invokevirtual 105, 3), (74, .aload_n 0, 1), (75, .getfield 7, 3), (78, .iload_n 1, 1), (79, .iload_n 2, 1), (80, .iload_n 3, 1), (81, .iload 4, 2), (83, .invokestatic 38, 3), (86, .iload 5, 2), (88, .ireturn, 1)]
theorem iM_setPart_ok : ∀ q ∈ iM_setPart, decode prog_7_method_21_code q.1 = .ok q.2 := by decide +kernel
def mM_setPart : MR := (⟨RX5, "setPart", "(IIII)I"⟩, prog_7_method_21_code, 6, (some .int), 5, 4, false, iM_setPart)
def iM_removePart : List (Nat × Instr × Nat) := [(0, .aload_n 0, 1), (1, .iload_n 1, 1), (2, .invokevirtual 93, 3), (5, .ifCond .eq 11, 3), (8, .aload_n 0, 1), (9, .iload_n 2, 1), (10, .invokevirtual 97, 3), (13, .ifCond .ne 5, 3), (16, .iconst (-1), 1), (17, .ireturn, 1), (18, .aload_n 0, 1), (19, .getfield 7, 3), (22, .iload_n 1, 1), (23, .iload_n 2, 1), (24, .invokestatic 42, 3), (27, .iaload, 1), (28, .istore_n 3, 1), (29, .iload_n 3, 1), (30, .iconst (-1), 1), (31, .if_icmp .ne 6, 3), (34, .bipush (-4), 2), (36, .ireturn, 1), (37, .aload_n 0, 1), (38, .invokevirtual 105, 3), (41, .aload_n 0, 1), (42, .getfield 7, 3), (45, .iload_n 1, 1), (46, .iload_n 2, 1), (47, .invokestatic 42, 3), (50, .iconst (-1), 1), (51, .iastore, 1), (52, .iload_n 3, 1), (53, .ireturn, 1)]
theorem iM_removePart_ok : ∀ q ∈ iM_removePart, decode prog_7_method_22_code q.1 = .ok q.2 := by decide +kernel
def mM_removePart : MR := (⟨RX5, "removePart", "(II)I"⟩, prog_7_method_22_code, 4, (some .int), 5, 2, false, iM_removePart)
def iM_setUnits : List (Nat × Instr × Nat) := [(0, .aload_n 0, 1), (1, .iload_n 1, 1), (2, .invokevirtual 100, 3), (5, .ifCond .eq 15, 3), (8, .iload_n 2, 1), (9, .i2l, 1), (10, .lconst 1, 1), (11, .ldc2_w 103, 3), (14, .invokestatic 50, 3), (17, .ifCond .ne 5, 3), (20, .iconst (-1), 1), (21, .ireturn, 1), (22, .iconst 0, 1), (23, .istore_n 3, 1), (24, .iload_n 3, 1), (25, .aload_n 0, 1), (26, .getfield 7, 3), (29, .iconst 0, 1), (30, .iaload, 1), (31, .if_icmp .ge 26, 3), (34, .aload_n 0, 1), (35, .getfield 7, 3), (38, .iload_n 3, 1), (39, .iload_n 1, 1), (40, .iconst (-1), 1), (41, .invokestatic 76, 3), (44, .iload_n 2, 1), (45, .if_icmp .le 6, 3), (48, .bipush (-2), 2), (50, .ireturn, 1), (51, .iinc 3 1, 3), (54, .goto (-30), 3), (57, .aload_n 0, 1), (58, .invokevirtual 105, 3), (61, .aload_n 0, 1), (62, .getfield 7, 3), (65, .bipush 33, 2), (67, .iload_n 1, 1), (68, .iadd, 1), (69, .iaload, 1), (70, .istore_n 3, 1), (71, .aload_n 0, 1), (72, .getfield 7, 3), (75, .bipush 33, 2), (77, .iload_n 1, 1), (78, .iadd, 1), (79, .iload_n 2, 1), (80, .iastore, 1), (81, .iload_n 3, 1), (82, .ireturn, 1)]
theorem iM_setUnits_ok : ∀ q ∈ iM_setUnits, decode prog_7_method_23_code q.1 = .ok q.2 := by decide +kernel
def mM_setUnits : MR := (⟨RX5, "setUnits", "(II)I"⟩, prog_7_method_23_code, 4, (some .int), 5, 2, false, iM_setUnits)
def iM_isPosition : List (Nat × Instr × Nat) := [(0, .iload_n 1, 1), (1, .i2l, 1), (2, .lconst 0, 1), (3, .aload_n 0, 1), (4, .getfield 7, 3), (7, .iconst 0, 1), (8, .iaload, 1), (9, .iconst 1, 1), (10, .isub, 1), (11, .i2l, 1), (12, .invokestatic 50, 3), (15, .ireturn, 1)]
theorem iM_isPosition_ok : ∀ q ∈ iM_isPosition, decode prog_7_method_24_code q.1 = .ok q.2 := by decide +kernel
def mM_isPosition : MR := (⟨RX5, "isPosition", "(I)Z"⟩, prog_7_method_24_code, 2, (some .boolean), 5, 1, false, iM_isPosition)
def iM_pin : List (Nat × Instr × Nat) := [(0, .aload_n 0, 1), (1, .iload_n 1, 1), (2, .invokevirtual 93, 3), (5, .ifCond .eq 11, 3), (8, .aload_n 0, 1), (9, .iload_n 2, 1), (10, .invokevirtual 108, 3), (13, .ifCond .ne 5, 3), (16, .iconst (-1), 1), (17, .ireturn, 1), (18, .iconst 0, 1), (19, .istore_n 3, 1), (20, .iload_n 3, 1), (21, .aload_n 0, 1), (22, .getfield 7, 3), (25, .iconst 0, 1), (26, .iaload, 1), (27, .if_icmp .ge 30, 3), (30, .iload_n 3, 1), (31, .iload_n 1, 1), (32, .if_icmp .eq 19, 3), (35, .aload_n 0, 1), (36, .getfield 7, 3), (39, .bipush 10, 2), (41, .iload_n 3, 1), (42, .iadd, 1), (43, .iaload, 1), (44, .iload_n 2, 1), (45, .if_icmp .ne 6, 3), (48, .bipush (-2), 2), (50, .ireturn, 1), (51, .iinc 3 1, 3), (54, .goto (-34), 3), (57, .aload_n 0, 1), (58, .invokevirtual 105, 3), (61, .aload_n 0, 1), (62, .getfield 7, 3), (65, .bipush 10, 2), (67, .iload_n 1, 1), (68, .iadd, 1), (69, .iload_n 2, 1), (70, .iastore, 1), (71, .iconst 0, 1), (72, .istore_n 3, 1), (73, .iconst 0, 1), (74, .istore 4, 2), (76, .iload 4, 2), (78, .aload_n 0, 1), (79, .getfield 7, 3), (82, .iconst 0, 1), (83, .iaload, 1), (84, .if_icmp .ge 31, 3), (87, .iload_n 3, 1), (88, .aload_n 0, 1), (89, .getfield 7, 3), (92, .bipush 10, 2), (94, .iload 4, 2), (96, .iadd, 1), (97, .iaload, 1), (98, .iconst (-1), 1), (99, .if_icmp .eq 7, 3), (102, .iconst 1, 1), (103, .goto 4, 3), (106, .iconst 0, 1), (107, .iadd, 1), (108, .istore_n 3, 1), (109, .iinc 4 1, 3), (112, .goto (-36), 3), (115, .iload_n 3, 1), (116, .ireturn, 1)]
theorem iM_pin_ok : ∀ q ∈ iM_pin, decode prog_7_method_25_code q.1 = .ok q.2 := by decide +kernel
def mM_pin : MR := (⟨RX5, "pin", "(II)I"⟩, prog_7_method_25_code, 5, (some .int), 5, 2, false, iM_pin)
def iM_unpin : List (Nat × Instr × Nat) := [(0, .aload_n 0, 1), (1, .iload_n 1, 1), (2, .invokevirtual 93, 3), (5, .ifCond .ne 5, 3), (8, .iconst (-1), 1), (9, .ireturn, 1), (10, .aload_n 0, 1), (11, .getfield 7, 3), (14, .bipush 10, 2), (16, .iload_n 1, 1), (17, .iadd, 1), (18, .iaload, 1), (19, .istore_n 2, 1), (20, .iload_n 2, 1), (21, .iconst (-1), 1), (22, .if_icmp .ne 6, 3), (25, .bipush (-4), 2), (27, .ireturn, 1), (28, .aload_n 0, 1), (29, .invokevirtual 105, 3), (32, .aload_n 0, 1), (33, .getfield 7, 3), (36, .bipush 10, 2), (38, .iload_n 1, 1), (39, .iadd, 1), (40, .iconst (-1), 1), (41, .iastore, 1), (42, .iload_n 2, 1), (43, .ireturn, 1)]
theorem iM_unpin_ok : ∀ q ∈ iM_unpin, decode prog_7_method_26_code q.1 = .ok q.2 := by decide +kernel
def mM_unpin : MR := (⟨RX5, "unpin", "(I)I"⟩, prog_7_method_26_code, 3, (some .int), 5, 1, false, iM_unpin)
def iM_setEncore : List (Nat × Instr × Nat) := [(0, .aload_n 0, 1), (1, .iload_n 1, 1), (2, .invokevirtual 93, 3), (5, .ifCond .eq 13, 3), (8, .iload_n 2, 1), (9, .i2l, 1), (10, .lconst 0, 1), (11, .lconst 1, 1), (12, .invokestatic 50, 3), (15, .ifCond .ne 5, 3), (18, .iconst (-1), 1), (19, .ireturn, 1), (20, .aload_n 0, 1), (21, .invokevirtual 105, 3), (24, .aload_n 0, 1), (25, .getfield 7, 3), (28, .bipush 9, 2), (30, .iaload, 1), (31, .iload_n 1, 1), (32, .ishr, 1), (33, .iconst 1, 1), (34, .iand, 1), (35, .istore_n 3, 1), (36, .aload_n 0, 1), (37, .getfield 7, 3), (40, .bipush 9, 2), (42, .aload_n 0, 1), (43, .getfield 7, 3), (46, .bipush 9, 2), (48, .iaload, 1), (49, .iconst 1, 1), (50, .iload_n 1, 1), (51, .ishl, 1), (52, .iconst (-1), 1), (53, .ixor, 1), (54, .iand, 1), (55, .iload_n 2, 1), (56, .iload_n 1, 1), (57, .ishl, 1), (58, .ior, 1), (59, .iastore, 1), (60, .iload_n 3, 1), (61, .ireturn, 1)]
theorem iM_setEncore_ok : ∀ q ∈ iM_setEncore, decode prog_7_method_27_code q.1 = .ok q.2 := by decide +kernel
def mM_setEncore : MR := (⟨RX5, "setEncore", "(II)I"⟩, prog_7_method_27_code, 4, (some .int), 5, 2, false, iM_setEncore)
def iM_moveSong : List (Nat × Instr × Nat) := [(0, .aload_n 0, 1), (1, .iload_n 1, 1), (2, .invokevirtual 108, 3), (5, .ifCond .eq 11, 3), (8, .aload_n 0, 1), (9, .iload_n 2, 1), (10, .invokevirtual 108, 3), (13, .ifCond .ne 5, 3), (16, .iconst (-1), 1), (17, .ireturn, 1), (18, .aload_n 0, 1), (19, .invokevirtual 105, 3), (22, .aload_n 0, 1), (23, .getfield 7, 3), (26, .bipush 18, 2), (28, .iload_n 1, 1), (29, .iadd, 1), (30, .iaload, 1), (31, .istore_n 3, 1), (32, .iload_n 1, 1), (33, .istore 4, 2), (35, .iload 4, 2), (37, .iload_n 2, 1), (38, .if_icmp .ge 31, 3), (41, .aload_n 0, 1), (42, .getfield 7, 3), (45, .bipush 18, 2), (47, .iload 4, 2), (49, .iadd, 1), (50, .aload_n 0, 1), (51, .getfield 7, 3), (54, .bipush 18, 2), (56, .iload 4, 2), (58, .iadd, 1), (59, .iconst 1, 1), (60, .iadd, 1), (61, .iaload, 1), (62, .iastore, 1), (63, .iinc 4 1, 3), (66, .goto (-31), 3), (69, .iload_n 1, 1), (70, .istore 4, 2), (72, .iload 4, 2), (74, .iload_n 2, 1), (75, .if_icmp .le 31, 3), (78, .aload_n 0, 1), (79, .getfield 7, 3), (82, .bipush 18, 2), (84, .iload 4, 2), (86, .iadd, 1), (87, .aload_n 0, 1), (88, .getfield 7, 3), (91, .bipush 18, 2), (93, .iload 4, 2), (95, .iadd, 1), (96, .iconst 1, 1), (97, .isub, 1), (98, .iaload, 1), (99, .iastore, 1), (100, .iinc 4 (-1), 3), (103, .goto (-31), 3), (106, .aload_n 0, 1), (107, .getfield 7, 3), (110, .bipush 18, 2), (112, .iload_n 2, 1), (113, .iadd, 1), (114, .iload_n 3, 1), (115, .iastore, 1), (116, .iload_n 3, 1), (117, .ireturn, 1)]
theorem iM_moveSong_ok : ∀ q ∈ iM_moveSong, decode prog_7_method_28_code q.1 = .ok q.2 := by decide +kernel
def mM_moveSong : MR := (⟨RX5, "moveSong", "(II)I"⟩, prog_7_method_28_code, 5, (some .int), 5, 2, false, iM_moveSong)
def iM_adoptBest : List (Nat × Instr × Nat) := [(0, .aload_n 0, 1), (1, .iconst (-1), 1), (2, .invokevirtual 111, 3), (5, .istore_n 1, 1), (6, .iload_n 1, 1), (7, .ldc 115, 2), (9, .if_icmp .lt 6, 3), (12, .bipush (-4), 2), (14, .ireturn, 1), (15, .aload_n 0, 1), (16, .invokevirtual 105, 3), (19, .aload_n 0, 1), (20, .iload_n 1, 1), (21, .invokevirtual 116, 3), (24, .iconst 0, 1), (25, .istore_n 2, 1), (26, .iload_n 2, 1), (27, .aload_n 0, 1), (28, .getfield 7, 3), (31, .iconst 0, 1), (32, .iaload, 1), (33, .if_icmp .ge 24, 3), (36, .aload_n 0, 1), (37, .getfield 7, 3), (40, .bipush 18, 2), (42, .iload_n 2, 1), (43, .iadd, 1), (44, .aload_n 0, 1), (45, .getfield 31, 3), (48, .iload_n 2, 1), (49, .iaload, 1), (50, .iastore, 1), (51, .iinc 2 1, 3), (54, .goto (-28), 3), (57, .iload_n 1, 1), (58, .ireturn, 1)]
theorem iM_adoptBest_ok : ∀ q ∈ iM_adoptBest, decode prog_7_method_29_code q.1 = .ok q.2 := by decide +kernel
def mM_adoptBest : MR := (⟨RX5, "adoptBest", "()I"⟩, prog_7_method_29_code, 3, (some .int), 5, 0, false, iM_adoptBest)
def iM_songCount : List (Nat × Instr × Nat) := [(0, .aload_n 0, 1), (1, .getfield 7, 3), (4, .iconst 0, 1), (5, .iaload, 1), (6, .ireturn, 1)]
theorem iM_songCount_ok : ∀ q ∈ iM_songCount, decode prog_7_method_30_code q.1 = .ok q.2 := by decide +kernel
def mM_songCount : MR := (⟨RX5, "songCount", "()I"⟩, prog_7_method_30_code, 1, (some .int), 5, 0, false, iM_songCount)
def iM_ofPart : List (Nat × Instr × Nat) := [(0, .aload_n 0, 1), (1, .iload_n 1, 1), (2, .invokevirtual 93, 3), (5, .ifCond .eq 11, 3), (8, .aload_n 0, 1), (9, .iload_n 2, 1), (10, .invokevirtual 97, 3), (13, .ifCond .ne 5, 3), (16, .iconst (-1), 1), (17, .ireturn, 1), (18, .aload_n 0, 1), (19, .getfield 7, 3), (22, .iload_n 1, 1), (23, .iload_n 2, 1), (24, .invokestatic 42, 3), (27, .iaload, 1), (28, .iconst (-1), 1), (29, .if_icmp .ne 8, 3), (32, .bipush (-4), 2), (34, .goto 15, 3), (37, .aload_n 0, 1), (38, .getfield 7, 3), (41, .iload_n 1, 1), (42, .iload_n 2, 1), (43, .invokestatic 42, 3), (46, .iload_n 3, 1), (47, .iadd, 1), (48, .iaload, 1), (49, .ireturn, 1)]
theorem iM_ofPart_ok : ∀ q ∈ iM_ofPart, decode prog_7_method_31_code q.1 = .ok q.2 := by decide +kernel
def mM_ofPart : MR := (⟨RX5, "ofPart", "(III)I"⟩, prog_7_method_31_code, 4, (some .int), 5, 3, false, iM_ofPart)
def iM_kindOf : List (Nat × Instr × Nat) := [(0, .aload_n 0, 1), (1, .iload_n 1, 1), (2, .iload_n 2, 1), (3, .iconst 0, 1), (4, .invokevirtual 120, 3), (7, .ireturn, 1)]
theorem iM_kindOf_ok : ∀ q ∈ iM_kindOf, decode prog_7_method_32_code q.1 = .ok q.2 := by decide +kernel
def mM_kindOf : MR := (⟨RX5, "kindOf", "(II)I"⟩, prog_7_method_32_code, 3, (some .int), 5, 2, false, iM_kindOf)
def iM_tuningOf : List (Nat × Instr × Nat) := [(0, .aload_n 0, 1), (1, .iload_n 1, 1), (2, .iload_n 2, 1), (3, .iconst 1, 1), (4, .invokevirtual 120, 3), (7, .ireturn, 1)]
theorem iM_tuningOf_ok : ∀ q ∈ iM_tuningOf, decode prog_7_method_33_code q.1 = .ok q.2 := by decide +kernel
def mM_tuningOf : MR := (⟨RX5, "tuningOf", "(II)I"⟩, prog_7_method_33_code, 3, (some .int), 5, 2, false, iM_tuningOf)
def iM_spareUnits : List (Nat × Instr × Nat) := [(0, .aload_n 0, 1), (1, .iload_n 1, 1), (2, .invokevirtual 93, 3), (5, .ifCond .eq 34, 3), (8, .aload_n 0, 1), (9, .iload_n 2, 1), (10, .invokevirtual 100, 3), (13, .ifCond .eq 26, 3), (16, .aload_n 0, 1), (17, .getfield 7, 3), (20, .bipush 33, 2), (22, .iload_n 2, 1), (23, .iadd, 1), (24, .iaload, 1), (25, .aload_n 0, 1), (26, .getfield 7, 3), (29, .iload_n 1, 1), (30, .iload_n 2, 1), (31, .iconst (-1), 1), (32, .invokestatic 76, 3), (35, .isub, 1), (36, .goto 4, 3), (39, .iconst (-1), 1), (40, .ireturn, 1)]
theorem iM_spareUnits_ok : ∀ q ∈ iM_spareUnits, decode prog_7_method_34_code q.1 = .ok q.2 := by decide +kernel
def mM_spareUnits : MR := (⟨RX5, "spareUnits", "(II)I"⟩, prog_7_method_34_code, 3, (some .int), 5, 2, false, iM_spareUnits)
def iM_change : List (Nat × Instr × Nat) := [(0, .aload_n 0, 1), (1, .getfield 7, 3), (4, .iload_n 2, 1), (5, .iload_n 1, 1), (6, .invokestatic 42, 3), (9, .iaload, 1), (10, .istore 5, 2), (12, .aload_n 0, 1), (13, .getfield 7, 3), (16, .iload_n 3, 1), (17, .iload_n 1, 1), (18, .invokestatic 42, 3), (21, .iaload, 1), (22, .istore 6, 2), (24, .iload 5, 2), (26, .iconst (-1), 1), (27, .if_icmp .eq 9, 3), (30, .iload 6, 2), (32, .iconst (-1), 1), (33, .if_icmp .ne 25, 3), (36, .iload 6, 2), (38, .iconst (-1), 1), (39, .if_icmp .eq 7, 3), (42, .iconst 1, 1), (43, .goto 14, 3), (46, .iload 5, 2), (48, .iconst (-1), 1), (49, .if_icmp .eq 7, 3), (52, .iconst 2, 1), (53, .goto 4, 3), (56, .iconst 0, 1), (57, .ireturn, 1), (58, .iload 5, 2), (60, .iload 6, 2), (62, .if_icmp .eq 5, 3), (65, .iconst 3, 1), (66, .ireturn, 1), (67, .aload_n 0, 1), (68, .getfield 7, 3), (71, .iload_n 2, 1), (72, .iload_n 1, 1), (73, .invokestatic 42, 3), (76, .iconst 1, 1), (77, .iadd, 1), (78, .iaload, 1), (79, .aload_n 0, 1), (80, .getfield 7, 3), (83, .iload_n 3, 1), (84, .iload_n 1, 1), (85, .invokestatic 42, 3), (88, .iconst 1, 1), (89, .iadd, 1), (90, .iaload, 1), (91, .if_icmp .ne 5, 3), (94, .iconst 0, 1), (95, .ireturn, 1), (96, .aload_n 0, 1), (97, .getfield 7, 3), (100, .bipush 33, 2), (102, .iload 6, 2), (104, .iadd, 1), (105, .iaload, 1), (106, .iload 6, 2), (108, .iload 4, 2), (110, .if_icmp .ne 7, 3), (113, .iconst 1, 1), (114, .goto 4, 3), (117, .iconst 0, 1), (118, .iadd, 1), (119, .istore 7, 2), (121, .aload_n 0, 1), (122, .getfield 7, 3), (125, .iload_n 3, 1), (126, .iload 6, 2), (128, .iconst (-1), 1), (129, .invokestatic 76, 3), (132, .iload 7, 2), (134, .if_icmp .ge 7, 3), (137, .iconst 4, 1), (138, .goto 4, 3), (141, .iconst 5, 1), (142, .ireturn, 1)]
theorem iM_change_ok : ∀ q ∈ iM_change, decode prog_7_method_35_code q.1 = .ok q.2 := by decide +kernel
def mM_change : MR := (⟨RX5, "change", "(IIII)I"⟩, prog_7_method_35_code, 8, (some .int), 5, 4, false, iM_change)
def iM_isFar : List (Nat × Instr × Nat) := [(0, .aload_n 0, 1), (1, .getfield 7, 3), (4, .bipush 39, 2), (6, .iload_n 2, 1), (7, .iadd, 1), (8, .iaload, 1), (9, .aload_n 0, 1), (10, .getfield 7, 3), (13, .bipush 27, 2), (15, .iload_n 1, 1), (16, .iadd, 1), (17, .iaload, 1), (18, .if_icmp .eq 7, 3), (21, .iconst 1, 1), (22, .goto 4, 3), (25, .iconst 0, 1), (26, .ireturn, 1)]
theorem iM_isFar_ok : ∀ q ∈ iM_isFar, decode prog_7_method_36_code q.1 = .ok q.2 := by decide +kernel
def mM_isFar : MR := (⟨RX5, "isFar", "(II)Z"⟩, prog_7_method_36_code, 3, (some .boolean), 5, 2, false, iM_isFar)
def iM_costOf : List (Nat × Instr × Nat) := [(0, .aload_n 0, 1), (1, .getfield 7, 3), (4, .iload_n 2, 1), (5, .iload_n 1, 1), (6, .invokestatic 42, 3), (9, .iaload, 1), (10, .istore 5, 2), (12, .aload_n 0, 1), (13, .getfield 7, 3), (16, .iload_n 3, 1), (17, .iload_n 1, 1), (18, .invokestatic 42, 3), (21, .iaload, 1), (22, .istore 6, 2), (24, .aload_n 0, 1), (25, .iload_n 1, 1), (26, .iload_n 2, 1), (27, .iload_n 3, 1), (28, .iload 4, 2), (30, .invokevirtual 124, 3), (33, .tableswitch 160 1 5 #[35, 51, 67, 101, 117], 35), (68, .aload_n 0, 1), (69, .iload_n 1, 1), (70, .iload 6, 2), (72, .invokevirtual 128, 3), (75, .ifCond .eq 7, 3), (78, .iconst 2, 1), (79, .goto 4, 3), (82, .iconst 1, 1), (83, .ireturn, 1), (84, .aload_n 0, 1), (85, .iload_n 1, 1), (86, .iload 5, 2), (88, .invokevirtual 128, 3), (91, .ifCond .eq 7, 3), (94, .iconst 2, 1), (95, .goto 4, 3), (98, .iconst 1, 1), (99, .ireturn, 1), (100, .iconst 3, 1), (101, .aload_n 0, 1), (102, .iload_n 1, 1), (103, .iload 5, 2), (105, .invokevirtual 128, 3), (108, .ifCond .eq 7, 3), (111, .iconst 1, 1), (112, .goto 4, 3), (115, .iconst 0, 1), (116, .iadd, 1), (117, .aload_n 0, 1), (118, .iload_n 1, 1), (119, .iload 6, 2), (121, .invokevirtual 128, 3), (124, .ifCond .eq 7, 3), (127, .iconst 1, 1), (128, .goto 4, 3), (131, .iconst 0, 1), (132, .iadd, 1), (133, .ireturn, 1), (134, .aload_n 0, 1), (135, .iload_n 1, 1), (136, .iload 6, 2), (138, .invokevirtual 128, 3), (141, .ifCond .eq 7, 3), (144, .iconst 3, 1), (145, .goto 4, 3), (148, .iconst 2, 1), (149, .ireturn, 1), (150, .aload_n 0, 1), (151, .getfield 7, 3), (154, .iload_n 2, 1), (155, .iload_n 1, 1), (156, .invokestatic 42, 3), (159, .iconst 1, 1), (160, .iadd, 1), (161, .iaload, 1), (162, .aload_n 0, 1), (163, .getfield 7, 3), (166, .iload_n 3, 1), (167, .iload_n 1, 1), (168, .invokestatic 42, 3), (171, .iconst 1, 1), (172, .iadd, 1), (173, .iaload, 1), (174, .isub, 1), (175, .istore 7, 2), (177, .iconst 2, 1), (178, .iload 7, 2), (180, .ifCond .ge 9, 3), (183, .iload 7, 2), (185, .ineg, 1), (186, .goto 5, 3), (189, .iload 7, 2), (191, .iadd, 1), (192, .ireturn, 1), (193, .iconst 0, 1), (194, .ireturn, 1)]
theorem iM_costOf_ok : ∀ q ∈ iM_costOf, decode prog_7_method_37_code q.1 = .ok q.2 := by decide +kernel
def mM_costOf : MR := (⟨RX5, "costOf", "(IIII)I"⟩, prog_7_method_37_code, 8, (some .int), 5, 4, false, iM_costOf)
def iM_between : List (Nat × Instr × Nat) := [(0, .iconst 0, 1), (1, .istore 4, 2), (3, .iconst 0, 1), (4, .istore 5, 2), (6, .iload 5, 2), (8, .aload_n 0, 1), (9, .getfield 7, 3), (12, .bipush 26, 2), (14, .iaload, 1), (15, .if_icmp .ge 23, 3), (18, .iload 4, 2), (20, .aload_n 0, 1), (21, .iload 5, 2), (23, .iload_n 1, 1), (24, .iload_n 2, 1), (25, .iload_n 3, 1), (26, .invokevirtual 132, 3), (29, .iadd, 1), (30, .istore 4, 2), (32, .iinc 5 1, 3), (35, .goto (-29), 3), (38, .iload 4, 2), (40, .ireturn, 1)]
theorem iM_between_ok : ∀ q ∈ iM_between, decode prog_7_method_38_code q.1 = .ok q.2 := by decide +kernel
def mM_between : MR := (⟨RX5, "between", "(III)I"⟩, prog_7_method_38_code, 6, (some .int), 5, 3, false, iM_between)
def iM_areTwo : List (Nat × Instr × Nat) := [(0, .aload_n 0, 1), (1, .iload_n 1, 1), (2, .invokevirtual 93, 3), (5, .ifCond .eq 20, 3), (8, .aload_n 0, 1), (9, .iload_n 2, 1), (10, .invokevirtual 93, 3), (13, .ifCond .eq 12, 3), (16, .iload_n 1, 1), (17, .iload_n 2, 1), (18, .if_icmp .eq 7, 3), (21, .iconst 1, 1), (22, .goto 4, 3), (25, .iconst 0, 1), (26, .ireturn, 1)]
theorem iM_areTwo_ok : ∀ q ∈ iM_areTwo, decode prog_7_method_39_code q.1 = .ok q.2 := by decide +kernel
def mM_areTwo : MR := (⟨RX5, "areTwo", "(II)Z"⟩, prog_7_method_39_code, 3, (some .boolean), 5, 2, false, iM_areTwo)
def iM_changeOf : List (Nat × Instr × Nat) := [(0, .aload_n 0, 1), (1, .iload_n 1, 1), (2, .invokevirtual 97, 3), (5, .ifCond .eq 23, 3), (8, .aload_n 0, 1), (9, .iload_n 2, 1), (10, .iload_n 3, 1), (11, .invokevirtual 135, 3), (14, .ifCond .eq 14, 3), (17, .aload_n 0, 1), (18, .iload_n 1, 1), (19, .iload_n 2, 1), (20, .iload_n 3, 1), (21, .iconst (-1), 1), (22, .invokevirtual 124, 3), (25, .goto 4, 3), (28, .iconst (-1), 1), (29, .ireturn, 1)]
theorem iM_changeOf_ok : ∀ q ∈ iM_changeOf, decode prog_7_method_40_code q.1 = .ok q.2 := by decide +kernel
def mM_changeOf : MR := (⟨RX5, "changeOf", "(III)I"⟩, prog_7_method_40_code, 4, (some .int), 5, 3, false, iM_changeOf)
def iM_changeCost : List (Nat × Instr × Nat) := [(0, .aload_n 0, 1), (1, .iload_n 1, 1), (2, .invokevirtual 97, 3), (5, .ifCond .eq 23, 3), (8, .aload_n 0, 1), (9, .iload_n 2, 1), (10, .iload_n 3, 1), (11, .invokevirtual 135, 3), (14, .ifCond .eq 14, 3), (17, .aload_n 0, 1), (18, .iload_n 1, 1), (19, .iload_n 2, 1), (20, .iload_n 3, 1), (21, .iconst (-1), 1), (22, .invokevirtual 132, 3), (25, .goto 4, 3), (28, .iconst (-1), 1), (29, .ireturn, 1)]
theorem iM_changeCost_ok : ∀ q ∈ iM_changeCost, decode prog_7_method_41_code q.1 = .ok q.2 := by decide +kernel
def mM_changeCost : MR := (⟨RX5, "changeCost", "(III)I"⟩, prog_7_method_41_code, 4, (some .int), 5, 3, false, iM_changeCost)
def iM_changeoverCost : List (Nat × Instr × Nat) := [(0, .aload_n 0, 1), (1, .iload_n 1, 1), (2, .iload_n 2, 1), (3, .invokevirtual 135, 3), (6, .ifCond .eq 13, 3), (9, .aload_n 0, 1), (10, .iload_n 1, 1), (11, .iload_n 2, 1), (12, .iconst (-1), 1), (13, .invokevirtual 138, 3), (16, .goto 4, 3), (19, .iconst (-1), 1), (20, .ireturn, 1)]
theorem iM_changeoverCost_ok : ∀ q ∈ iM_changeoverCost, decode prog_7_method_42_code q.1 = .ok q.2 := by decide +kernel
def mM_changeoverCost : MR := (⟨RX5, "changeoverCost", "(II)I"⟩, prog_7_method_42_code, 3, (some .int), 5, 2, false, iM_changeoverCost)
def iM_songAt : List (Nat × Instr × Nat) := [(0, .aload_n 0, 1), (1, .iload_n 1, 1), (2, .invokevirtual 108, 3), (5, .ifCond .eq 15, 3), (8, .aload_n 0, 1), (9, .getfield 7, 3), (12, .bipush 18, 2), (14, .iload_n 1, 1), (15, .iadd, 1), (16, .iaload, 1), (17, .goto 4, 3), (20, .iconst (-1), 1), (21, .ireturn, 1)]
theorem iM_songAt_ok : ∀ q ∈ iM_songAt, decode prog_7_method_43_code q.1 = .ok q.2 := by decide +kernel
def mM_songAt : MR := (⟨RX5, "songAt", "(I)I"⟩, prog_7_method_43_code, 2, (some .int), 5, 1, false, iM_songAt)
def iM_step : List (Nat × Instr × Nat) := [(0, .aload_n 0, 1), (1, .aload_n 0, 1), (2, .getfield 7, 3), (5, .bipush 18, 2), (7, .iload_n 1, 1), (8, .iadd, 1), (9, .iaload, 1), (10, .aload_n 0, 1), (11, .getfield 7, 3), (14, .bipush 18, 2), (16, .iload_n 1, 1), (17, .iadd, 1), (18, .iconst 1, 1), (19, .iadd, 1), (20, .iaload, 1), (21, .iconst (-1), 1), (22, .invokevirtual 138, 3), (25, .ireturn, 1)]
theorem iM_step_ok : ∀ q ∈ iM_step, decode prog_7_method_44_code q.1 = .ok q.2 := by decide +kernel
def mM_step : MR := (⟨RX5, "step", "(I)I"⟩, prog_7_method_44_code, 2, (some .int), 5, 1, false, iM_step)
def iM_orderCost : List (Nat × Instr × Nat) := [(0, .iconst 0, 1), (1, .istore_n 1, 1), (2, .iconst 0, 1), (3, .istore_n 2, 1), (4, .iload_n 2, 1), (5, .iconst 1, 1), (6, .iadd, 1), (7, .aload_n 0, 1), (8, .getfield 7, 3), (11, .iconst 0, 1), (12, .iaload, 1), (13, .if_icmp .ge 17, 3), (16, .iload_n 1, 1), (17, .aload_n 0, 1), (18, .iload_n 2, 1), (19, .invokevirtual 141, 3), (22, .iadd, 1), (23, .istore_n 1, 1), (24, .iinc 2 1, 3), (27, .goto (-23), 3), (30, .iload_n 1, 1), (31, .ireturn, 1)]
theorem iM_orderCost_ok : ∀ q ∈ iM_orderCost, decode prog_7_method_45_code q.1 = .ok q.2 := by decide +kernel
def mM_orderCost : MR := (⟨RX5, "orderCost", "()I"⟩, prog_7_method_45_code, 3, (some .int), 5, 0, false, iM_orderCost)
def iM_all : List (Nat × Instr × Nat) := [(0, .iconst 1, 1), (1, .aload_n 0, 1), (2, .getfield 7, 3), (5, .iconst 0, 1), (6, .iaload, 1), (7, .ishl, 1), (8, .iconst 1, 1), (9, .isub, 1), (10, .ireturn, 1)]
theorem iM_all_ok : ∀ q ∈ iM_all, decode prog_7_method_46_code q.1 = .ok q.2 := by decide +kernel
def mM_all : MR := (⟨RX5, "all", "()I"⟩, prog_7_method_46_code, 1, (some .int), 5, 0, false, iM_all)
def iM_ones : List (Nat × Instr × Nat) := [(0, .iconst 0, 1), (1, .istore_n 1, 1), (2, .iload_n 0, 1), (3, .istore_n 2, 1), (4, .iload_n 2, 1), (5, .ifCond .eq 15, 3), (8, .iinc 1 1, 3), (11, .iload_n 2, 1), (12, .iload_n 2, 1), (13, .iconst 1, 1), (14, .isub, 1), (15, .iand, 1), (16, .istore_n 2, 1), (17, .goto (-13), 3), (20, .iload_n 1, 1), (21, .ireturn, 1)]
theorem iM_ones_ok : ∀ q ∈ iM_ones, decode prog_7_method_47_code q.1 = .ok q.2 := by decide +kernel
def mM_ones : MR := (⟨RX5, "ones", "(I)I"⟩, prog_7_method_47_code, 3, (some .int), 5, 1, true, iM_ones)
def iM_mayCome : List (Nat × Instr × Nat) := [(0, .aload_n 0, 1), (1, .getfield 7, 3), (4, .bipush 9, 2), (6, .iaload, 1), (7, .iload_n 2, 1), (8, .ishr, 1), (9, .iconst 1, 1), (10, .iand, 1), (11, .iconst 1, 1), (12, .if_icmp .ne 7, 3), (15, .iconst 1, 1), (16, .goto 4, 3), (19, .iconst 0, 1), (20, .istore_n 3, 1), (21, .aload_n 0, 1), (22, .invokevirtual 144, 3), (25, .aload_n 0, 1), (26, .getfield 7, 3), (29, .bipush 9, 2), (31, .iaload, 1), (32, .iconst (-1), 1), (33, .ixor, 1), (34, .iand, 1), (35, .iload_n 1, 1), (36, .iconst (-1), 1), (37, .ixor, 1), (38, .iand, 1), (39, .ifCond .ne 7, 3), (42, .iconst 1, 1), (43, .goto 4, 3), (46, .iconst 0, 1), (47, .istore 4, 2), (49, .aload_n 0, 1), (50, .getfield 7, 3), (53, .bipush 10, 2), (55, .iload_n 2, 1), (56, .iadd, 1), (57, .iaload, 1), (58, .iconst (-1), 1), (59, .if_icmp .eq 19, 3), (62, .aload_n 0, 1), (63, .getfield 7, 3), (66, .bipush 10, 2), (68, .iload_n 2, 1), (69, .iadd, 1), (70, .iaload, 1), (71, .iload_n 1, 1), (72, .invokestatic 147, 3), (75, .if_icmp .ne 7, 3), (78, .iconst 1, 1), (79, .goto 4, 3), (82, .iconst 0, 1), (83, .istore 5, 2), (85, .iload_n 1, 1), (86, .iload_n 2, 1), (87, .ishr, 1), (88, .iconst 1, 1), (89, .iand, 1), (90, .ifCond .ne 21, 3), (93, .iload 5, 2), (95, .ifCond .eq 16, 3), (98, .iload_n 3, 1), (99, .ifCond .eq 8, 3), (102, .iload 4, 2), (104, .ifCond .eq 7, 3), (107, .iconst 1, 1), (108, .goto 4, 3), (111, .iconst 0, 1), (112, .ireturn, 1)]
theorem iM_mayCome_ok : ∀ q ∈ iM_mayCome, decode prog_7_method_48_code q.1 = .ok q.2 := by decide +kernel
def mM_mayCome : MR := (⟨RX5, "mayCome", "(II)Z"⟩, prog_7_method_48_code, 6, (some .boolean), 5, 2, false, iM_mayCome)
def iM_isAllowed : List (Nat × Instr × Nat) := [(0, .iconst 0, 1), (1, .istore_n 1, 1), (2, .iconst 1, 1), (3, .istore_n 2, 1), (4, .iconst 0, 1), (5, .istore_n 3, 1), (6, .iload_n 3, 1), (7, .aload_n 0, 1), (8, .getfield 7, 3), (11, .iconst 0, 1), (12, .iaload, 1), (13, .if_icmp .ge 50, 3), (16, .iload_n 2, 1), (17, .ifCond .eq 24, 3), (20, .aload_n 0, 1), (21, .iload_n 1, 1), (22, .aload_n 0, 1), (23, .getfield 7, 3), (26, .bipush 18, 2), (28, .iload_n 3, 1), (29, .iadd, 1), (30, .iaload, 1), (31, .invokevirtual 150, 3), (34, .ifCond .eq 7, 3), (37, .iconst 1, 1), (38, .goto 4, 3), (41, .iconst 0, 1), (42, .istore_n 2, 1), (43, .iload_n 1, 1), (44, .iconst 1, 1), (45, .aload_n 0, 1), (46, .getfield 7, 3), (49, .bipush 18, 2), (51, .iload_n 3, 1), (52, .iadd, 1), (53, .iaload, 1), (54, .ishl, 1), (55, .ior, 1), (56, .istore_n 1, 1), (57, .iinc 3 1, 3), (60, .goto (-54), 3), (63, .iload_n 2, 1), (64, .ifCond .eq 7, 3), (67, .iconst 1, 1), (68, .goto 4, 3), (71, .iconst 0, 1), (72, .ireturn, 1)]
theorem iM_isAllowed_ok : ∀ q ∈ iM_isAllowed, decode prog_7_method_49_code q.1 = .ok q.2 := by decide +kernel
def mM_isAllowed : MR := (⟨RX5, "isAllowed", "()I"⟩, prog_7_method_49_code, 4, (some .int), 5, 0, false, iM_isAllowed)
def iM_dearestChangeover : List (Nat × Instr × Nat) := [(0, .iconst (-1), 1), (1, .istore_n 1, 1), (2, .bipush (-4), 2), (4, .istore_n 2, 1), (5, .iconst 0, 1), (6, .istore_n 3, 1), (7, .iload_n 3, 1), (8, .iconst 1, 1), (9, .iadd, 1), (10, .aload_n 0, 1), (11, .getfield 7, 3), (14, .iconst 0, 1), (15, .iaload, 1), (16, .if_icmp .ge 43, 3), (19, .aload_n 0, 1), (20, .iload_n 3, 1), (21, .invokevirtual 141, 3), (24, .iload_n 1, 1), (25, .if_icmp .le 7, 3), (28, .iload_n 3, 1), (29, .goto 4, 3), (32, .iload_n 2, 1), (33, .istore_n 2, 1), (34, .aload_n 0, 1), (35, .iload_n 3, 1), (36, .invokevirtual 141, 3), (39, .iload_n 1, 1), (40, .if_icmp .le 11, 3), (43, .aload_n 0, 1), (44, .iload_n 3, 1), (45, .invokevirtual 141, 3), (48, .goto 4, 3), (51, .iload_n 1, 1), (52, .istore_n 1, 1), (53, .iinc 3 1, 3), (56, .goto (-49), 3), (59, .iload_n 2, 1), (60, .ireturn, 1)]
theorem iM_dearestChangeover_ok : ∀ q ∈ iM_dearestChangeover, decode prog_7_method_50_code q.1 = .ok q.2 := by decide +kernel
def mM_dearestChangeover : MR := (⟨RX5, "dearestChangeover", "()I"⟩, prog_7_method_50_code, 4, (some .int), 5, 0, false, iM_dearestChangeover)
def iM_layBest : List (Nat × Instr × Nat) := [(0, .iconst 0, 1), (1, .istore_n 2, 1), (2, .iload_n 2, 1), (3, .aload_n 0, 1), (4, .getfield 7, 3), (7, .iconst 0, 1), (8, .iaload, 1), (9, .if_icmp .ge 54, 3), (12, .iconst 0, 1), (13, .istore_n 3, 1), (14, .iload_n 3, 1), (15, .aload_n 0, 1), (16, .getfield 7, 3), (19, .iconst 0, 1), (20, .iaload, 1), (21, .if_icmp .ge 36, 3), (24, .aload_n 0, 1), (25, .getfield 28, 3), (28, .bipush 8, 2), (30, .iload_n 2, 1), (31, .imul, 1), (32, .iload_n 3, 1), (33, .iadd, 1), (34, .iload_n 2, 1), (35, .iload_n 3, 1), (36, .if_icmp .ne 7, 3), (39, .iconst 0, 1), (40, .goto 10, 3), (43, .aload_n 0, 1), (44, .iload_n 2, 1), (45, .iload_n 3, 1), (46, .iload_n 1, 1), (47, .invokevirtual 138, 3), (50, .iastore, 1), (51, .iinc 3 1, 3), (54, .goto (-40), 3), (57, .iinc 2 1, 3), (60, .goto (-58), 3), (63, .aload_n 0, 1), (64, .invokevirtual 144, 3), (67, .istore_n 2, 1), (68, .iload_n 2, 1), (69, .ifCond .le 140, 3), (72, .iconst 0, 1), (73, .istore_n 3, 1), (74, .iload_n 3, 1), (75, .aload_n 0, 1), (76, .getfield 7, 3), (79, .iconst 0, 1), (80, .iaload, 1), (81, .if_icmp .ge 122, 3), (84, .aload_n 0, 1), (85, .getfield 22, 3), (88, .bipush 8, 2), (90, .iload_n 2, 1), (91, .imul, 1), (92, .iload_n 3, 1), (93, .iadd, 1), (94, .iload_n 2, 1), (95, .aload_n 0, 1), (96, .invokevirtual 144, 3), (99, .if_icmp .ne 7, 3), (102, .iconst 0, 1), (103, .goto 5, 3), (106, .ldc 115, 2), (108, .iastore, 1), (109, .aload_n 0, 1), (110, .getfield 25, 3), (113, .bipush 8, 2), (115, .iload_n 2, 1), (116, .imul, 1), (117, .iload_n 3, 1), (118, .iadd, 1), (119, .iload_n 2, 1), (120, .aload_n 0, 1), (121, .invokevirtual 144, 3), (124, .if_icmp .ne 7, 3), (127, .iconst 1, 1), (128, .goto 4, 3), (131, .iconst 0, 1), (132, .iastore, 1), (133, .iconst 0, 1), (134, .istore 4, 2), (136, .iload 4, 2), (138, .aload_n 0, 1), (139, .getfield 7, 3), (142, .iconst 0, 1), (143, .iaload, 1), (144, .if_icmp .ge 53, 3), (147, .aload_n 0, 1), (148, .iload_n 2, 1), (149, .iload 4, 2), (151, .invokevirtual 150, 3), (154, .ifCond .eq 37, 3), (157, .aload_n 0, 1), (158, .bipush 8, 2), (160, .iload_n 2, 1), (161, .imul, 1), (162, .iload_n 3, 1), (163, .iadd, 1), (164, .bipush 8, 2), (166, .iload_n 2, 1), (167, .iconst 1, 1), (168, .iload 4, 2), (170, .ishl, 1), (171, .ior, 1), (172, .imul, 1), (173, .iload 4, 2), (175, .iadd, 1), (176, .aload_n 0, 1), (177, .getfield 28, 3), (180, .bipush 8, 2), (182, .iload_n 3, 1), (183, .imul, 1), (184, .iload 4, 2), (186, .iadd, 1), (187, .iaload, 1), (188, .invokevirtual 153, 3), (191, .iinc 4 1, 3), (194, .goto (-58), 3), (197, .iinc 3 1, 3), (200, .goto (-126), 3), (203, .iinc 2 (-1), 3), (206, .goto (-138), 3), (209, .ldc 115, 2), (211, .istore_n 2, 1), (212, .iconst 0, 1), (213, .istore_n 3, 1), (214, .iload_n 3, 1), (215, .aload_n 0, 1), (216, .getfield 7, 3), (219, .iconst 0, 1), (220, .iaload, 1), (221, .if_icmp .ge 29, 3), (224, .aload_n 0, 1), (225, .iload_n 3, 1), (226, .invokevirtual 157, 3), (229, .istore 4, 2), (231, .iload 4, 2), (233, .iload_n 2, 1), (234, .if_icmp .ge 8, 3), (237, .iload 4, 2), (239, .goto 4, 3), (242, .iload_n 2, 1), (243, .istore_n 2, 1), (244, .iinc 3 1, 3), (247, .goto (-33), 3), (250, .iload_n 2, 1), (251, .ireturn, 1)]
theorem iM_layBest_ok : ∀ q ∈ iM_layBest, decode prog_7_method_51_code q.1 = .ok q.2 := by decide +kernel
def mM_layBest : MR := (⟨RX5, "layBest", "(I)I"⟩, prog_7_method_51_code, 5, (some .int), 5, 1, false, iM_layBest)
def iM_takes : List (Nat × Instr × Nat) := [(0, .aload_n 0, 1), (1, .getfield 22, 3), (4, .iload_n 2, 1), (5, .iaload, 1), (6, .iload_n 3, 1), (7, .iadd, 1), (8, .istore 4, 2), (10, .aload_n 0, 1), (11, .getfield 22, 3), (14, .iload_n 2, 1), (15, .iaload, 1), (16, .ldc 115, 2), (18, .if_icmp .ge 61, 3), (21, .iload 4, 2), (23, .aload_n 0, 1), (24, .getfield 22, 3), (27, .iload_n 1, 1), (28, .iaload, 1), (29, .if_icmp .gt 50, 3), (32, .aload_n 0, 1), (33, .getfield 25, 3), (36, .iload_n 1, 1), (37, .iload 4, 2), (39, .aload_n 0, 1), (40, .getfield 22, 3), (43, .iload_n 1, 1), (44, .iaload, 1), (45, .if_icmp .ge 12, 3), (48, .aload_n 0, 1), (49, .getfield 25, 3), (52, .iload_n 2, 1), (53, .iaload, 1), (54, .goto 16, 3), (57, .aload_n 0, 1), (58, .getfield 25, 3), (61, .iload_n 1, 1), (62, .iaload, 1), (63, .aload_n 0, 1), (64, .getfield 25, 3), (67, .iload_n 2, 1), (68, .iaload, 1), (69, .iadd, 1), (70, .iastore, 1), (71, .aload_n 0, 1), (72, .getfield 22, 3), (75, .iload_n 1, 1), (76, .iload 4, 2), (78, .iastore, 1), (79, .return_, 1)]
theorem iM_takes_ok : ∀ q ∈ iM_takes, decode prog_7_method_52_code q.1 = .ok q.2 := by decide +kernel
def mM_takes : MR := (⟨RX5, "takes", "(III)V"⟩, prog_7_method_52_code, 5, none, 5, 3, false, iM_takes)
def iM_costFrom : List (Nat × Instr × Nat) := [(0, .aload_n 0, 1), (1, .iconst 0, 1), (2, .iload_n 1, 1), (3, .invokevirtual 150, 3), (6, .ifCond .eq 19, 3), (9, .aload_n 0, 1), (10, .getfield 22, 3), (13, .bipush 8, 2), (15, .iconst 1, 1), (16, .iload_n 1, 1), (17, .ishl, 1), (18, .imul, 1), (19, .iload_n 1, 1), (20, .iadd, 1), (21, .iaload, 1), (22, .goto 5, 3), (25, .ldc 115, 2), (27, .ireturn, 1)]
theorem iM_costFrom_ok : ∀ q ∈ iM_costFrom, decode prog_7_method_53_code q.1 = .ok q.2 := by decide +kernel
def mM_costFrom : MR := (⟨RX5, "costFrom", "(I)I"⟩, prog_7_method_53_code, 2, (some .int), 5, 1, false, iM_costFrom)
def iM_layOrder : List (Nat × Instr × Nat) := [(0, .iconst 0, 1), (1, .istore_n 2, 1), (2, .iload_n 1, 1), (3, .istore_n 3, 1), (4, .iconst (-1), 1), (5, .istore 4, 2), (7, .iconst 0, 1), (8, .istore 5, 2), (10, .iload 5, 2), (12, .aload_n 0, 1), (13, .getfield 7, 3), (16, .iconst 0, 1), (17, .iaload, 1), (18, .if_icmp .ge 111, 3), (21, .iconst 0, 1), (22, .istore 6, 2), (24, .aload_n 0, 1), (25, .iload_n 2, 1), (26, .iload 6, 2), (28, .invokevirtual 150, 3), (31, .ifCond .eq 48, 3), (34, .iload 4, 2), (36, .iconst (-1), 1), (37, .if_icmp .ne 7, 3), (40, .iconst 0, 1), (41, .goto 16, 3), (44, .aload_n 0, 1), (45, .getfield 28, 3), (48, .bipush 8, 2), (50, .iload 4, 2), (52, .imul, 1), (53, .iload 6, 2), (55, .iadd, 1), (56, .iaload, 1), (57, .aload_n 0, 1), (58, .getfield 22, 3), (61, .bipush 8, 2), (63, .iload_n 2, 1), (64, .iconst 1, 1), (65, .iload 6, 2), (67, .ishl, 1), (68, .ior, 1), (69, .imul, 1), (70, .iload 6, 2), (72, .iadd, 1), (73, .iaload, 1), (74, .iadd, 1), (75, .iload_n 3, 1), (76, .if_icmp .eq 9, 3), (79, .iinc 6 1, 3), (82, .goto (-58), 3), (85, .aload_n 0, 1), (86, .getfield 22, 3), (89, .bipush 8, 2), (91, .iload_n 2, 1), (92, .iconst 1, 1), (93, .iload 6, 2), (95, .ishl, 1), (96, .ior, 1), (97, .imul, 1), (98, .iload 6, 2), (100, .iadd, 1), (101, .iaload, 1), (102, .istore_n 3, 1), (103, .aload_n 0, 1), (104, .getfield 31, 3), (107, .iload 5, 2), (109, .iload 6, 2), (111, .iastore, 1), (112, .iload_n 2, 1), (113, .iconst 1, 1), (114, .iload 6, 2), (116, .ishl, 1), (117, .ior, 1), (118, .istore_n 2, 1), (119, .iload 6, 2), (121, .istore 4, 2), (123, .iinc 5 1, 3), (126, .goto (-116), 3), (129, .return_, 1)]
theorem iM_layOrder_ok : ∀ q ∈ iM_layOrder, decode prog_7_method_54_code q.1 = .ok q.2 := by decide +kernel
def mM_layOrder : MR := (⟨RX5, "layOrder", "(I)V"⟩, prog_7_method_54_code, 7, none, 5, 1, false, iM_layOrder)
def iM_bestCost : List (Nat × Instr × Nat) := [(0, .aload_n 0, 1), (1, .iconst (-1), 1), (2, .invokevirtual 111, 3), (5, .istore_n 1, 1), (6, .iload_n 1, 1), (7, .ldc 115, 2), (9, .if_icmp .lt 8, 3), (12, .bipush (-4), 2), (14, .goto 4, 3), (17, .iload_n 1, 1), (18, .ireturn, 1)]
theorem iM_bestCost_ok : ∀ q ∈ iM_bestCost, decode prog_7_method_55_code q.1 = .ok q.2 := by decide +kernel
def mM_bestCost : MR := (⟨RX5, "bestCost", "()I"⟩, prog_7_method_55_code, 2, (some .int), 5, 0, false, iM_bestCost)
def iM_bestSongAt : List (Nat × Instr × Nat) := [(0, .aload_n 0, 1), (1, .iload_n 1, 1), (2, .invokevirtual 108, 3), (5, .ifCond .ne 5, 3), (8, .iconst (-1), 1), (9, .ireturn, 1), (10, .aload_n 0, 1), (11, .iconst (-1), 1), (12, .invokevirtual 111, 3), (15, .istore_n 2, 1), (16, .iload_n 2, 1), (17, .ldc 115, 2), (19, .if_icmp .lt 6, 3), (22, .bipush (-4), 2), (24, .ireturn, 1), (25, .aload_n 0, 1), (26, .iload_n 2, 1), (27, .invokevirtual 116, 3), (30, .aload_n 0, 1), (31, .getfield 31, 3), (34, .iload_n 1, 1), (35, .iaload, 1), (36, .ireturn, 1)]
theorem iM_bestSongAt_ok : ∀ q ∈ iM_bestSongAt, decode prog_7_method_56_code q.1 = .ok q.2 := by decide +kernel
def mM_bestSongAt : MR := (⟨RX5, "bestSongAt", "(I)I"⟩, prog_7_method_56_code, 3, (some .int), 5, 1, false, iM_bestSongAt)
def iM_bestCostFrom : List (Nat × Instr × Nat) := [(0, .aload_n 0, 1), (1, .iload_n 1, 1), (2, .invokevirtual 93, 3), (5, .ifCond .ne 5, 3), (8, .iconst (-1), 1), (9, .ireturn, 1), (10, .aload_n 0, 1), (11, .iconst (-1), 1), (12, .invokevirtual 111, 3), (15, .pop, 1), (16, .aload_n 0, 1), (17, .iload_n 1, 1), (18, .invokevirtual 157, 3), (21, .ldc 115, 2), (23, .if_icmp .lt 8, 3), (26, .bipush (-4), 2), (28, .goto 8, 3), (31, .aload_n 0, 1), (32, .iload_n 1, 1), (33, .invokevirtual 157, 3), (36, .ireturn, 1)]
theorem iM_bestCostFrom_ok : ∀ q ∈ iM_bestCostFrom, decode prog_7_method_57_code q.1 = .ok q.2 := by decide +kernel
def mM_bestCostFrom : MR := (⟨RX5, "bestCostFrom", "(I)I"⟩, prog_7_method_57_code, 2, (some .int), 5, 1, false, iM_bestCostFrom)
def iM_bestOrderCount : List (Nat × Instr × Nat) := [(0, .aload_n 0, 1), (1, .iconst (-1), 1), (2, .invokevirtual 111, 3), (5, .istore_n 1, 1), (6, .iconst 0, 1), (7, .istore_n 2, 1), (8, .iconst 0, 1), (9, .istore_n 3, 1), (10, .iload_n 3, 1), (11, .aload_n 0, 1), (12, .getfield 7, 3), (15, .iconst 0, 1), (16, .iaload, 1), (17, .if_icmp .ge 44, 3), (20, .iload_n 1, 1), (21, .ldc 115, 2), (23, .if_icmp .ge 38, 3), (26, .iload_n 2, 1), (27, .aload_n 0, 1), (28, .iload_n 3, 1), (29, .invokevirtual 157, 3), (32, .iload_n 1, 1), (33, .if_icmp .ne 19, 3), (36, .aload_n 0, 1), (37, .getfield 25, 3), (40, .bipush 8, 2), (42, .iconst 1, 1), (43, .iload_n 3, 1), (44, .ishl, 1), (45, .imul, 1), (46, .iload_n 3, 1), (47, .iadd, 1), (48, .iaload, 1), (49, .goto 4, 3), (52, .iconst 0, 1), (53, .iadd, 1), (54, .istore_n 2, 1), (55, .iinc 3 1, 3), (58, .goto (-48), 3), (61, .iload_n 2, 1), (62, .ireturn, 1)]
theorem iM_bestOrderCount_ok : ∀ q ∈ iM_bestOrderCount, decode prog_7_method_58_code q.1 = .ok q.2 := by decide +kernel
def mM_bestOrderCount : MR := (⟨RX5, "bestOrderCount", "()I"⟩, prog_7_method_58_code, 4, (some .int), 5, 0, false, iM_bestOrderCount)
def iM_savingByUnit : List (Nat × Instr × Nat) := [(0, .aload_n 0, 1), (1, .iload_n 1, 1), (2, .invokevirtual 100, 3), (5, .ifCond .ne 5, 3), (8, .iconst (-1), 1), (9, .ireturn, 1), (10, .aload_n 0, 1), (11, .iconst (-1), 1), (12, .invokevirtual 111, 3), (15, .istore_n 2, 1), (16, .iload_n 2, 1), (17, .ldc 115, 2), (19, .if_icmp .lt 8, 3), (22, .bipush (-4), 2), (24, .goto 10, 3), (27, .iload_n 2, 1), (28, .aload_n 0, 1), (29, .iload_n 1, 1), (30, .invokevirtual 111, 3), (33, .isub, 1), (34, .ireturn, 1)]
theorem iM_savingByUnit_ok : ∀ q ∈ iM_savingByUnit, decode prog_7_method_59_code q.1 = .ok q.2 := by decide +kernel
def mM_savingByUnit : MR := (⟨RX5, "savingByUnit", "(I)I"⟩, prog_7_method_59_code, 3, (some .int), 5, 1, false, iM_savingByUnit)
def iM_encoresWithin : List (Nat × Instr × Nat) := [(0, .iload_n 1, 1), (1, .i2l, 1), (2, .lconst 0, 1), (3, .ldc2_w 160, 3), (6, .invokestatic 50, 3), (9, .ifCond .ne 5, 3), (12, .iconst (-1), 1), (13, .ireturn, 1), (14, .iconst 0, 1), (15, .istore_n 2, 1), (16, .iconst 0, 1), (17, .istore_n 3, 1), (18, .iconst 1, 1), (19, .istore 4, 2), (21, .iload 4, 2), (23, .aload_n 0, 1), (24, .invokevirtual 144, 3), (27, .if_icmp .gt 124, 3), (30, .iconst 0, 1), (31, .istore 5, 2), (33, .iconst 0, 1), (34, .istore 6, 2), (36, .iload 6, 2), (38, .aload_n 0, 1), (39, .getfield 7, 3), (42, .iconst 0, 1), (43, .iaload, 1), (44, .if_icmp .ge 38, 3), (47, .iload 5, 2), (49, .iload 4, 2), (51, .iload 6, 2), (53, .ishr, 1), (54, .iconst 1, 1), (55, .iand, 1), (56, .iconst 1, 1), (57, .if_icmp .ne 15, 3), (60, .aload_n 0, 1), (61, .getfield 7, 3), (64, .iconst 1, 1), (65, .iload 6, 2), (67, .iadd, 1), (68, .iaload, 1), (69, .goto 4, 3), (72, .iconst 0, 1), (73, .iadd, 1), (74, .istore 5, 2), (76, .iinc 6 1, 3), (79, .goto (-43), 3), (82, .iload 4, 2), (84, .aload_n 0, 1), (85, .getfield 7, 3), (88, .bipush 9, 2), (90, .iaload, 1), (91, .iconst (-1), 1), (92, .ixor, 1), (93, .iand, 1), (94, .ifCond .ne 13, 3), (97, .iload 5, 2), (99, .iload_n 1, 1), (100, .if_icmp .gt 7, 3), (103, .iconst 1, 1), (104, .goto 4, 3), (107, .iconst 0, 1), (108, .istore 6, 2), (110, .iload 6, 2), (112, .ifCond .eq 33, 3), (115, .iload 5, 2), (117, .iload_n 3, 1), (118, .if_icmp .gt 21, 3), (121, .iload 5, 2), (123, .iload_n 3, 1), (124, .if_icmp .ne 21, 3), (127, .iload 4, 2), (129, .invokestatic 147, 3), (132, .iload_n 2, 1), (133, .invokestatic 147, 3), (136, .if_icmp .le 9, 3), (139, .iload 4, 2), (141, .istore_n 2, 1), (142, .iload 5, 2), (144, .istore_n 3, 1), (145, .iinc 4 1, 3), (148, .goto (-127), 3), (151, .iload_n 2, 1), (152, .ireturn, 1)]
theorem iM_encoresWithin_ok : ∀ q ∈ iM_encoresWithin, decode prog_7_method_60_code q.1 = .ok q.2 := by decide +kernel
def mM_encoresWithin : MR := (⟨RX5, "encoresWithin", "(I)I"⟩, prog_7_method_60_code, 7, (some .int), 5, 1, false, iM_encoresWithin)
end
section
def cal0 : List (Nat × MR × List Nat) := [(55, mC_isSide, [244, 247, 34, 245, 246]), (59, mC_isPart, [256, 259, 34, 257, 258]), (63, mC_hasUnitFor, [272, 275, 34, 273, 274]), (67, mC_givePart, [284, 287, 34, 285, 286]), (71, mC_isSong, [260, 263, 34, 261, 262]), (74, mC_isPlayer, [264, 267, 34, 265, 266]), (77, mC_isKind, [268, 271, 34, 269, 270]), (80, mC_playersOn, [280, 283, 34, 281, 282]), (89, mC_kindPlayed, [276, 279, 34, 277, 278]), (92, mC_tuningPlayed, [442, 445, 34, 443, 444]), (95, mC_change, [438, 441, 34, 439, 440]), (99, mC_costOfSide, [446, 449, 34, 447, 448]), (106, mC_costOfChange, [434, 437, 34, 435, 436]), (109, mC_costOfChangeover, [551, 433, 34, 431, 432]), (112, mI_bitCount, [457, 459, 44, 458]), (117, mC_isEncore, [463, 409, 34, 407, 408])]
def cal1 : List (Nat × MR × List Nat) := [(26, mC_makeEmpty, [224, 227, 34, 225, 226]), (31, mT_readNumbers, [228, 231, 33, 230, 0]), (35, mT_state, [232, 235, 33, 234, 1]), (39, mC_addSong, [236, 239, 34, 237, 238]), (43, mC_addPlayer, [240, 243, 34, 241, 242]), (46, mC_addKind, [248, 251, 34, 249, 250]), (49, mC_addPart, [252, 255, 34, 253, 254]), (53, mC_addEncore, [288, 291, 34, 289, 290])]
def cal2 : List (Nat × MR × List Nat) := [(25, mC_copyFrom, [357, 295, 34, 293, 294])]
def cal3 : List (Nat × MR × List Nat) := [(32, mC_costOfChangeover, [430, 433, 34, 431, 432]), (36, mC_mayStandAt, [453, 456, 34, 454, 455]), (40, mO_cellOf, [468, 471, 36, 470, 4]), (43, mO_settle, [472, 475, 36, 474, 5]), (47, mO_costThrough, [476, 479, 36, 478, 6]), (51, mI_bitCount, [480, 459, 44, 458]), (57, mO_bestNext, [494, 497, 36, 496, 7]), (65, mO_bestSong, [490, 493, 36, 491, 492])]
def cal4 : List (Nat × MR × List Nat) := [(56, mT_add, [216, 219, 33, 217, 218]), (60, mT_readInto, [220, 223, 33, 221, 222]), (64, mC_copyFrom, [292, 295, 34, 293, 294]), (71, mC_hasAllSorts, [335, 338, 34, 336, 337]), (75, mH_forget, [339, 342, 35, 340, 341]), (81, mC_isPart, [347, 259, 34, 257, 258]), (85, mC_hasUnitFor, [348, 275, 34, 273, 274]), (89, mS_beginEdit, [349, 352, 32, 351, 2]), (92, mC_givePart, [361, 287, 34, 285, 286]), (96, mC_playersOn, [362, 283, 34, 281, 282]), (100, mS_kindOf, [367, 370, 32, 368, 369]), (103, mC_isKind, [378, 271, 34, 269, 270]), (107, mC_mostPlayersOn, [379, 382, 34, 380, 381]), (115, mC_isSong, [371, 263, 34, 261, 262]), (118, mC_songPinnedAt, [390, 393, 34, 391, 392]), (124, mC_pinCount, [394, 397, 34, 395, 396]), (127, mC_isEncore, [406, 409, 34, 407, 408]), (133, mC_shiftOrder, [414, 417, 34, 415, 416]), (140, mS_presentTable, [422, 425, 32, 424, 3]), (144, mO_leastCost, [481, 484, 36, 482, 483]), (147, mO_copyBestOrder, [485, 488, 36, 486, 487]), (154, mH_takeBack, [502, 505, 35, 503, 504]), (157, mC_isPlayer, [372, 267, 34, 265, 266]), (160, mC_kindPlayed, [373, 279, 34, 277, 278]), (163, mC_tuningPlayed, [515, 445, 34, 443, 444]), (166, mC_areTwoSongs, [524, 527, 34, 525, 526]), (170, mC_change, [528, 441, 34, 439, 440]), (174, mC_costOfChange, [533, 437, 34, 435, 436]), (177, mC_costOfChangeover, [538, 433, 34, 431, 432]), (180, mC_costAfter, [547, 550, 34, 548, 549]), (183, mC_mayStandAt, [556, 456, 34, 454, 455]), (186, mO_bestSong, [569, 493, 36, 491, 492]), (189, mO_leastCostFrom, [574, 577, 36, 575, 576]), (192, mO_leastCostOrders, [582, 585, 36, 583, 584]), (195, mO_load, [426, 429, 36, 427, 428]), (198, mO_solve, [464, 467, 36, 465, 466]), (201, mC_playingTime, [594, 597, 34, 595, 596]), (204, mI_bitCount, [598, 459, 44, 458]), (209, mH_keep, [353, 356, 35, 354, 355])]
def cal5 : List (Nat × MR × List Nat) := [(34, mM_empty, [605, 607, 42, 606]), (38, mM_part, [608, 610, 42, 609]), (42, mM_at, [611, 613, 42, 612]), (50, mM_in, [657, 659, 42, 658]), (64, mM_here, [676, 679, 42, 678, 10]), (72, mM_isNumber, [680, 683, 42, 682, 11]), (76, mM_others, [690, 692, 42, 691]), (80, mM_partIs, [686, 689, 42, 688, 12]), (84, mM_statement, [672, 675, 42, 674, 9]), (87, mM_readAll, [668, 671, 42, 670, 8]), (93, mM_isSong, [705, 708, 42, 707, 13]), (97, mM_isPlayer, [709, 712, 42, 711, 14]), (100, mM_isKind, [713, 716, 42, 715, 15]), (105, mM_keeps, [718, 721, 42, 720, 16]), (108, mM_isPosition, [734, 737, 42, 736, 17]), (111, mM_layBest, [754, 757, 42, 756, 18]), (116, mM_layOrder, [794, 797, 42, 796, 27]), (120, mM_ofPart, [806, 809, 42, 808, 28]), (124, mM_change, [766, 769, 42, 768, 21]), (128, mM_isFar, [770, 773, 42, 772, 22]), (132, mM_costOf, [762, 765, 42, 764, 20]), (135, mM_areTwo, [822, 825, 42, 824, 29]), (138, mM_between, [758, 761, 42, 760, 19]), (141, mM_step, [842, 845, 42, 844, 30]), (144, mM_all, [774, 777, 42, 776, 23]), (147, mM_ones, [783, 785, 42, 784]), (150, mM_mayCome, [779, 782, 42, 781, 24]), (153, mM_takes, [786, 789, 42, 788, 25]), (157, mM_costFrom, [790, 793, 42, 792, 26])]
def cal6 : List (Nat × MR × List Nat) := []
def cal7 : List (Nat × MR × List Nat) := []
def calT : Nat → List (Nat × MR × List Nat)
  | 0 => cal0
  | 1 => cal1
  | 2 => cal2
  | 3 => cal3
  | 4 => cal4
  | 5 => cal5
  | 6 => cal6
  | _ => cal7
def fld0 : List (Nat × Nat × Nat × Nat) := [(9, 0, 0, 81), (15, 0, 1, 84), (18, 0, 2, 85), (21, 0, 3, 86), (24, 0, 4, 88), (28, 0, 5, 89), (31, 0, 6, 90), (34, 0, 7, 92), (37, 0, 8, 93), (40, 0, 9, 94), (43, 0, 10, 95), (46, 0, 11, 97)]
def fld1 : List (Nat × Nat × Nat × Nat) := [(9, 1, 0, 59), (15, 1, 1, 60), (19, 1, 2, 62), (23, 1, 3, 63)]
def fld2 : List (Nat × Nat × Nat × Nat) := [(11, 2, 0, 133), (17, 2, 1, 134), (21, 2, 2, 135)]
def fld3 : List (Nat × Nat × Nat × Nat) := [(9, 3, 0, 150), (15, 3, 1, 151), (19, 3, 2, 152), (23, 3, 3, 153), (26, 3, 4, 154), (29, 0, 0, 82)]
def fld4 : List (Nat × Nat × Nat × Nat) := [(10, 4, 0, 299), (19, 4, 1, 300), (23, 4, 2, 301), (29, 4, 3, 302), (36, 4, 4, 303), (40, 4, 5, 304), (68, 1, 1, 61), (78, 0, 0, 83), (111, 0, 6, 91), (121, 0, 10, 96), (130, 0, 3, 87), (137, 0, 11, 98), (151, 2, 2, 136)]
def fld5 : List (Nat × Nat × Nat × Nat) := [(7, 5, 0, 614), (13, 5, 1, 615), (16, 5, 2, 616), (19, 5, 4, 618), (22, 5, 8, 622), (25, 5, 9, 623), (28, 5, 10, 624), (31, 5, 11, 625), (54, 5, 5, 619), (58, 5, 6, 620), (61, 5, 7, 621), (90, 5, 3, 617)]
def fldT : Nat → List (Nat × Nat × Nat × Nat)
  | 0 => fld0
  | 1 => fld1
  | 2 => fld2
  | 3 => fld3
  | 4 => fld4
  | 5 => fld5
  | _ => []
def cstT : Nat → List (Nat × Int32 × Nat)
  | 5 => [(115, 1000000, 778)]
  | 6 => [(265, 1431655765, 460), (266, 858993459, 461), (267, 252645135, 462)]
  | _ => []
def cslT : Nat → List (Nat × Int64 × Nat)
  | 5 => [(46, 32, 655), (48, 126, 656), (68, 48, 684), (70, 57, 685), (103, 5, 717), (160, 160, 878)]
  | _ => []
def mthT : Nat → List (Nat × Nat × Nat)
  | 0 => [(84, 1, 383), (102, 3, 450)]
  | 2 => [(29, 2, 358)]
  | 3 => [(60, 2, 489)]
  | _ => []
end
section
/-! THE SMALL MACHINE: a step function over ints, longs and references into a heap of fixed shape -/
abbrev AV : Type := Int32 ⊕ (Int64 ⊕ (Nat × Nat))
abbrev vI (x : Int32) : AV := Sum.inl x
abbrev vL (x : Int64) : AV := Sum.inr (Sum.inl x)
abbrev vR (g j : Nat) : AV := Sum.inr (Sum.inr (g, j))
abbrev HP : Type := Nat → Nat → Nat → Int32
def hrow (h : HP) (g j : Nat) (f : Nat → Int32) : HP := fun a b => if a = g ∧ b = j then f else h a b
def hset (h : HP) (g j k : Nat) (x : Int32) : HP := hrow h g j (upd (h g j) k x)
def isL : AV → Bool
  | .inr (.inl _) => true
  | _ => false
def lst (lv : List (Nat × AV)) (i : Nat) (x : AV) : List (Nat × AV) := (i, x) :: lv.filter (fun q => !(q.1 == i) && !(q.1 + 1 == i && isL q.2))
def lk {α : Type} : List (Nat × α) → Nat → Option α
  | [], _ => none
  | q :: r, i => cond (Nat.beq q.1 i) (some q.2) (lk r i)
def ent : Nat → List AV → List (Nat × AV)
  | _, [] => []
  | i, v :: vs => (i, v) :: ent (cond (isL v) (i + 2) (i + 1)) vs
/-- object cells: their class and number of fields -/
def oC : Nat → Option (Nat × Nat)
  | 0 => some (0, 12)
  | 9 => some (4, 6)
  | 10 => some (1, 4)
  | 13 => some (2, 3)
  | 15 => some (3, 5)
  | 20 => some (5, 12)
  | _ => none
/-- arrays of numbers: 0 int, 1 char, 2 boolean; their length -/
def aC : Nat → Option (Nat × Nat)
  | 1 => some (0, 8)
  | 2 => some (0, 5)
  | 3 => some (0, 6)
  | 4 => some (0, 6)
  | 5 => some (0, 40)
  | 6 => some (0, 40)
  | 7 => some (0, 8)
  | 8 => some (0, 8)
  | 11 => some (1, 300)
  | 12 => some (0, 4)
  | 16 => some (0, 64)
  | 17 => some (2, 64)
  | 18 => some (0, 2048)
  | 19 => some (0, 2048)
  | 21 => some (0, 125)
  | 22 => some (0, 125)
  | 23 => some (0, 625)
  | 24 => some (0, 300)
  | 25 => some (0, 2048)
  | 26 => some (0, 2048)
  | 27 => some (0, 64)
  | 28 => some (0, 8)
  | _ => none
/-- the fields that are references -/
def tg (g : Nat) : Nat → Nat → Option (Nat × Nat)
  | 0, 4 => some (g, 1)
  | 0, 5 => some (g, 2)
  | 0, 6 => some (g, 3)
  | 0, 7 => some (g, 4)
  | 0, 8 => some (g, 5)
  | 0, 9 => some (g, 6)
  | 0, 10 => some (g, 7)
  | 0, 11 => some (g, 8)
  | 9, 0 => some (7, 10)
  | 9, 1 => some (0, 0)
  | 9, 2 => some (1, 0)
  | 9, 3 => some (7, 13)
  | 9, 4 => some (7, 15)
  | 10, 0 => some (7, 11)
  | 10, 2 => some (7, 12)
  | 13, 0 => some (7, 14)
  | 15, 1 => some (7, 16)
  | 15, 2 => some (7, 17)
  | 15, 3 => some (7, 18)
  | 15, 4 => some (7, 19)
  | 20, 0 => some (8, 21)
  | 20, 1 => some (8, 22)
  | 20, 2 => some (8, 23)
  | 20, 4 => some (8, 24)
  | 20, 8 => some (8, 25)
  | 20, 9 => some (8, 26)
  | 20, 10 => some (8, 27)
  | 20, 11 => some (8, 28)
  | _, _ => none
def fA (h : HP) (g j k : Nat) : AV := match tg g j k with
  | some q => vR q.1 q.2
  | none => vI (h g j k)
def inb (i : Int32) (n : Nat) : Bool := !(decide (i < 0) || decide (n ≤ i.toNatClampNeg))
abbrev mN (M : MR) : MethodName := M.1
abbrev mC (M : MR) : ByteArray := M.2.1
abbrev mL (M : MR) : Nat := M.2.2.1
abbrev mR (M : MR) : Option FieldType := M.2.2.2.1
abbrev mK (M : MR) : Nat := M.2.2.2.2.1
abbrev mA (M : MR) : Nat := M.2.2.2.2.2.1
abbrev mS (M : MR) : Bool := M.2.2.2.2.2.2.1
abbrev mI (M : MR) : List (Nat × Instr × Nat) := M.2.2.2.2.2.2.2
abbrev CF : Type := Nat × List (Nat × AV) × List AV × HP
/-- what a step gives: the next place, an answer, or a call (callee, arguments, rest of the stack) -/
abbrev SR : Type := CF ⊕ ((Option AV × HP) ⊕ (MR × List AV × List AV))
def tgo (pc : Nat) (off : Int) : Option Nat := match (pc : Int) + off with
  | .ofNat t => some t
  | _ => none
def nx (pc : Nat) (lv : List (Nat × AV)) (st : List AV) (h : HP) : Option SR := some (.inl (pc, lv, st, h))
def jmp (c : Bool) (pc : Nat) (off : Int) (lv : List (Nat × AV)) (st : List AV) (h : HP) : Option SR := match tgo pc off with
  | some t => some (.inl (cond c t (pc + 3), lv, st, h))
  | none => none
def ldI (lv : List (Nat × AV)) (k : Nat) (pc : Nat) (st : List AV) (h : HP) : Option SR := match lk lv k with
  | some (.inl x) => nx pc lv (vI x :: st) h
  | _ => none
def ldL (lv : List (Nat × AV)) (k : Nat) (pc : Nat) (st : List AV) (h : HP) : Option SR := match lk lv k with
  | some (.inr (.inl x)) => nx pc lv (vL x :: st) h
  | _ => none
def ldR (lv : List (Nat × AV)) (k : Nat) (pc : Nat) (st : List AV) (h : HP) : Option SR := match lk lv k with
  | some (.inr (.inr q)) => nx pc lv (vR q.1 q.2 :: st) h
  | _ => none
def stI (M : MR) (lv : List (Nat × AV)) (k : Nat) (pc : Nat) (st : List AV) (h : HP) : Option SR := match st with
  | .inl x :: r => cond (Nat.blt k (mL M)) (nx pc (lst lv k (vI x)) r h) none
  | _ => none
def stR (M : MR) (lv : List (Nat × AV)) (k : Nat) (pc : Nat) (st : List AV) (h : HP) : Option SR := match st with
  | .inr (.inr q) :: r => cond (Nat.blt k (mL M)) (nx pc (lst lv k (vR q.1 q.2)) r h) none
  | _ => none
def o2 (f : Int32 → Int32 → Int32) (pc : Nat) (lv : List (Nat × AV)) (st : List AV) (h : HP) : Option SR := match st with
  | .inl y :: .inl x :: r => nx (pc + 1) lv (vI (f x y) :: r) h
  | _ => none
def o1 (f : Int32 → AV) (pc : Nat) (lv : List (Nat × AV)) (st : List AV) (h : HP) : Option SR := match st with
  | .inl x :: r => nx (pc + 1) lv (f x :: r) h
  | _ => none
def aLd (t : Nat) (pc : Nat) (lv : List (Nat × AV)) (st : List AV) (h : HP) : Option SR := match st with
  | .inl i :: .inr (.inr (g, j)) :: r => match aC j with
    | some (t', n) => cond (Nat.beq t t' && inb i n) (nx (pc + 1) lv (vI (h g j i.toNatClampNeg) :: r) h) none
    | none => none
  | _ => none
def aSt (t : Nat) (f : Int32 → Int32) (pc : Nat) (lv : List (Nat × AV)) (st : List AV) (h : HP) : Option SR := match st with
  | .inl x :: .inl i :: .inr (.inr (g, j)) :: r => match aC j with
    | some (t', n) => cond (Nat.beq t t' && inb i n) (nx (pc + 1) lv r (hset h g j i.toNatClampNeg (f x))) none
    | none => none
  | _ => none
def if0 (c : ClassFile.Cond) (x : Int32) : Bool := match c with
  | .eq => decide (x = 0)
  | .ne => decide (¬ x = 0)
  | .lt => decide (x < 0)
  | .ge => decide (0 ≤ x)
  | .gt => decide (0 < x)
  | .le => decide (x ≤ 0)
def if2 (c : ClassFile.Cond) (x y : Int32) : Bool := match c with
  | .eq => decide (x = y)
  | .ne => decide (¬ x = y)
  | .lt => decide (x < y)
  | .ge => decide (y ≤ x)
  | .gt => decide (y < x)
  | .le => decide (x ≤ y)
def opt {α β : Type} (o : Option α) (f : α → Option β) : Option β := match o with
  | some a => f a
  | none => none
def getF (M : MR) (idx pc : Nat) (lv : List (Nat × AV)) (st : List AV) (h : HP) : Option SR := match st with
  | .inr (.inr (g, j)) :: r => opt (lk (fldT (mK M)) idx) fun f => opt (oC j) fun o =>
      cond (Nat.beq f.1 o.1 && Nat.blt f.2.1 o.2) (nx (pc + 3) lv (fA h g j f.2.1 :: r) h) none
  | _ => none
def isZ (j k : Nat) : Bool := Nat.beq j 9 && Nat.beq k 5
def zero1 (x : Int32) : Bool := x == 0 || x == 1
def putF (M : MR) (idx pc : Nat) (lv : List (Nat × AV)) (st : List AV) (h : HP) : Option SR := match st with
  | .inl x :: .inr (.inr (g, j)) :: r => opt (lk (fldT (mK M)) idx) fun f => opt (oC j) fun o =>
      cond (Nat.beq f.1 o.1 && Nat.blt f.2.1 o.2 && (tg g j f.2.1).isNone && (!(isZ j f.2.1) || zero1 x)) (nx (pc + 3) lv r (hset h g j f.2.1 x)) none
  | _ => none
def acp (d pc : Nat) (lv : List (Nat × AV)) (st : List AV) (h : HP) : Option SR := match st with
  | [.inl n, .inl dp, .inr (.inr (g1, j1)), .inl sp, .inr (.inr (g0, j0))] => opt (aC j0) fun a0 => opt (aC j1) fun a1 =>
      cond (Nat.blt 0 d && Nat.beq a0.1 0 && Nat.beq a1.1 0 && (sp == 0) && (dp == 0) && !(decide (n < 0)) && Nat.ble n.toNatClampNeg a0.2 && Nat.ble n.toNatClampNeg a1.2)
        (nx (pc + 3) lv [] (hrow h g1 j1 (va_cpy (h g0 j0) (h g1 j1) 0 0 n.toNatClampNeg))) none
  | _ => none
def mth (d op pc : Nat) (lv : List (Nat × AV)) (st : List AV) (h : HP) : Option SR := match op, st with
  | 1, .inl y :: .inl x :: r => cond (Nat.blt 0 d && Nat.ble r.length 4) (nx (pc + 3) lv (vI (if x < y then y else x) :: r) h) none
  | 2, .inl y :: .inl x :: r => cond (Nat.blt 0 d && Nat.ble r.length 4) (nx (pc + 3) lv (vI (if y < x then y else x) :: r) h) none
  | 3, .inl x :: r => cond (Nat.blt 0 d && Nat.ble r.length 4) (nx (pc + 3) lv (vI (if 0 ≤ x then x else 0 - x) :: r) h) none
  | _, _ => none
def wds : List AV → Nat
  | [] => 0
  | v :: r => cond (isL v) 2 1 + wds r
def inv (M : MR) (idx : Nat) (st : List AV) : Option SR := opt (lk (calT (mK M)) idx) fun q =>
  cond (mS q.1) none (match st.drop (mA q.1) with
    | .inr (.inr (g, j)) :: r => opt (oC j) fun o => cond (Nat.beq o.1 (mK q.1) && Nat.ble r.length 4 && Nat.ble (1 + wds (st.take (mA q.1)).reverse) (mL q.1) && Nat.ble (mA q.1) st.length) (some (.inr (.inr (q.1, vR g j :: (st.take (mA q.1)).reverse, r)))) none
    | _ => none)
def ins (M : MR) (idx : Nat) (st : List AV) : Option SR := opt (lk (calT (mK M)) idx) fun q =>
  cond (mS q.1 && Nat.ble (mA q.1) st.length && Nat.ble (st.drop (mA q.1)).length 4 && Nat.ble (wds (st.take (mA q.1)).reverse) (mL q.1)) (some (.inr (.inr (q.1, (st.take (mA q.1)).reverse, st.drop (mA q.1))))) none
def sti (d : Nat) (M : MR) (i : Instr) (pc : Nat) (lv : List (Nat × AV)) (st : List AV) (h : HP) : Option SR := match i with
  | .iconst n => nx (pc + 1) lv (vI (Int32.ofInt n) :: st) h
  | .bipush n => nx (pc + 2) lv (vI (Int8.ofInt n).toInt32 :: st) h
  | .sipush n => nx (pc + 3) lv (vI (Int16.ofInt n).toInt32 :: st) h
  | .lconst n => nx (pc + 1) lv (vL (Int64.ofNat (n : Nat)) :: st) h
  | .ldc k => opt (lk (cstT (mK M)) k) fun q => nx (pc + 2) lv (vI q.1 :: st) h
  | .ldc_w k => opt (lk (cstT (mK M)) k) fun q => nx (pc + 3) lv (vI q.1 :: st) h
  | .ldc2_w k => opt (lk (cslT (mK M)) k) fun q => nx (pc + 3) lv (vL q.1 :: st) h
  | .iload_n k => ldI lv k (pc + 1) st h
  | .iload k => ldI lv k (pc + 2) st h
  | .lload_n k => ldL lv k (pc + 1) st h
  | .lload k => ldL lv k (pc + 2) st h
  | .aload_n k => ldR lv k (pc + 1) st h
  | .aload k => ldR lv k (pc + 2) st h
  | .istore_n k => stI M lv k (pc + 1) st h
  | .istore k => stI M lv k (pc + 2) st h
  | .astore_n k => stR M lv k (pc + 1) st h
  | .iinc k n => match lk lv k with
    | some (.inl x) => cond (Nat.blt k (mL M)) (nx (pc + 3) (lst lv k (vI (x + Int32.ofInt n))) st h) none
    | _ => none
  | .iadd => o2 (fun x y => x + y) pc lv st h
  | .isub => o2 (fun x y => x - y) pc lv st h
  | .imul => o2 (fun x y => x * y) pc lv st h
  | .iand => o2 (fun x y => x &&& y) pc lv st h
  | .ior => o2 (fun x y => x ||| y) pc lv st h
  | .ixor => o2 (fun x y => x ^^^ y) pc lv st h
  | .ishl => o2 (fun x y => x <<< (y &&& 31)) pc lv st h
  | .ishr => o2 (fun x y => x >>> (y &&& 31)) pc lv st h
  | .iushr => o2 (fun x y => (x.toUInt32 >>> (y.toUInt32 &&& Int32.toUInt32 31)).toInt32) pc lv st h
  | .irem => match st with
    | .inl y :: .inl x :: r => cond (y == 0) none (nx (pc + 1) lv (vI (x - x / y * y) :: r) h)
    | _ => none
  | .ineg => o1 (fun x => vI (-x)) pc lv st h
  | .i2l => o1 (fun x => vL x.toInt64) pc lv st h
  | .i2c => o1 (fun x => vI (x.toUInt32 % 65536).toInt32) pc lv st h
  | .lcmp => match st with
    | .inr (.inl y) :: .inr (.inl x) :: r => nx (pc + 1) lv (vI (lg_cmp x y) :: r) h
    | _ => none
  | .dup => match st with
    | v :: r => cond (isL v) none (nx (pc + 1) lv (v :: v :: r) h)
    | _ => none
  | .pop => match st with
    | v :: r => cond (isL v) none (nx (pc + 1) lv r h)
    | _ => none
  | .dup2 => match st with
    | v :: w :: r => cond (isL v || isL w) none (nx (pc + 1) lv (v :: w :: v :: w :: r) h)
    | _ => none
  | .ifCond c off => match st with
    | .inl x :: r => jmp (if0 c x) pc off lv r h
    | _ => none
  | .if_icmp c off => match st with
    | .inl y :: .inl x :: r => jmp (if2 c x y) pc off lv r h
    | _ => none
  | .goto off => opt (tgo pc off) fun t => nx t lv st h
  | .tableswitch dflt lo hi offs => match st with
    | .inl x :: r => cond (decide (x.toInt < lo) || decide (hi < x.toInt)) (opt (tgo pc dflt) fun t => nx t lv r h)
        (opt (offs[(x.toInt - lo).toNat]?) fun off => opt (tgo pc off) fun t => nx t lv r h)
    | _ => none
  | .lookupswitch dflt ps => match st with
    | .inl x :: r => cond ((ps.toList.zip (ps.toList.drop 1)).all (fun (a, next) => a.1 < next.1)) (opt (tgo pc (Op.lookupswitch.offset ps.toList dflt x.toInt)) fun t => nx t lv r h) none
    | _ => none
  | .getfield idx => getF M idx pc lv st h
  | .putfield idx => putF M idx pc lv st h
  | .arraylength => match st with
    | .inr (.inr (_, j)) :: r => opt (aC j) fun a => nx (pc + 1) lv (vI (Int32.ofNat a.2) :: r) h
    | _ => none
  | .iaload => aLd 0 pc lv st h
  | .caload => aLd 1 pc lv st h
  | .baload => aLd 2 pc lv st h
  | .aaload => match st with
    | .inl i :: .inr (.inr (_, j)) :: r => cond (Nat.beq j 14 && inb i 5) (nx (pc + 1) lv (vR (i.toNatClampNeg + 2) 0 :: r) h) none
    | _ => none
  | .iastore => aSt 0 (fun x => x) pc lv st h
  | .castore => aSt 1 (vp_nar .char) pc lv st h
  | .bastore => aSt 2 (vp_nar .boolean) pc lv st h
  | .ireturn => match st with
    | [.inl x] => match mR M with
      | some .int => some (.inr (.inl (some (vI x), h)))
      | some .boolean => cond (zero1 x) (some (.inr (.inl (some (vI x), h)))) none
      | _ => none
    | _ => none
  | .areturn => match st with
    | [.inr (.inr q)] => match mR M with
      | some (.object _) => some (.inr (.inl (some (vR q.1 q.2), h)))
      | _ => none
    | _ => none
  | .return_ => match st with
    | [] => match mR M with
      | none => some (.inr (.inl (none, h)))
      | _ => none
    | _ => none
  | .invokevirtual idx => inv M idx st
  | .invokestatic idx => match lk (mthT (mK M)) idx with
    | some q => mth d q.1 pc lv st h
    | none => cond (Nat.beq (mK M) 0 && Nat.beq idx 49) (acp d pc lv st h) (ins M idx st)
  | _ => none
def stp (d : Nat) (M : MR) (c : CF) : Option SR := opt (lk (mI M) c.1) fun q => sti d M q.1 c.1 c.2.1 c.2.2.1 c.2.2.2
def ex : Nat → Nat → MR → CF → Option (Option AV × HP)
  | 0, _, _, _ => none
  | n + 1, d, M, c => match stp d M c with
    | none => none
    | some (.inl c') => ex n d M c'
    | some (.inr (.inl r)) => some r
    | some (.inr (.inr (M', as, rest))) => match d with
      | 0 => none
      | d' + 1 => match ex n d' M' (0, ent 0 as, [], c.2.2.2) with
        | none => none
        | some (r, h') => ex n (d' + 1) M (c.1 + 3, c.2.1, r.toList ++ rest, h')
end
section
/-! inversions of the small machine's steps; references stay among the cells -/
theorem opt_some {α β : Type} {o : Option α} {f : α → Option β} {z : β} (h : opt o f = some z) : ∃ a, o = some a ∧ f a = some z := by
  cases o with
  | none => cases h
  | some a => exact ⟨a, rfl, h⟩
theorem cond_l {α : Type} {b : Bool} {x : Option α} {z : α} (h : cond b x none = some z) : b = true ∧ x = some z := by
  cases b with
  | false => cases h
  | true => exact ⟨rfl, h⟩
theorem cond_r {α : Type} {b : Bool} {x : Option α} {z : α} (h : cond b none x = some z) : b = false ∧ x = some z := by
  cases b with
  | true => cases h
  | false => exact ⟨rfl, h⟩
theorem nx_i {pc : Nat} {lv : List (Nat × AV)} {st : List AV} {h : HP} {z : SR} (hs : nx pc lv st h = some z) : z = .inl (pc, lv, st, h) := (Option.some.inj hs).symm
theorem lk_mem {α : Type} : ∀ {l : List (Nat × α)} {i : Nat} {x : α}, lk l i = some x → (i, x) ∈ l := by
  intro l
  induction l with
  | nil => intro i x h; cases h
  | cons q r ih =>
    intro i x h
    unfold lk at h
    cases hb : Nat.beq q.1 i with
    | true =>
      rw [hb] at h
      have e : q.1 = i := Nat.eq_of_beq_eq_true hb
      have e2 : q.2 = x := Option.some.inj h
      rw [← e, ← e2]
      exact List.mem_cons_self
    | false =>
      rw [hb] at h
      exact List.mem_cons_of_mem _ (ih h)
theorem ldI_i {lv : List (Nat × AV)} {k pc : Nat} {st : List AV} {h : HP} {z : SR} (hs : ldI lv k pc st h = some z) : ∃ x, (k, vI x) ∈ lv ∧ z = .inl (pc, lv, vI x :: st, h) := by
  unfold ldI at hs
  split at hs
  · rename_i x e
    exact ⟨x, lk_mem e, nx_i hs⟩
  · cases hs
theorem ldL_i {lv : List (Nat × AV)} {k pc : Nat} {st : List AV} {h : HP} {z : SR} (hs : ldL lv k pc st h = some z) : ∃ x, (k, vL x) ∈ lv ∧ z = .inl (pc, lv, vL x :: st, h) := by
  unfold ldL at hs
  split at hs
  · rename_i x e
    exact ⟨x, lk_mem e, nx_i hs⟩
  · cases hs
theorem ldR_i {lv : List (Nat × AV)} {k pc : Nat} {st : List AV} {h : HP} {z : SR} (hs : ldR lv k pc st h = some z) : ∃ x y, (k, vR x y) ∈ lv ∧ z = .inl (pc, lv, vR x y :: st, h) := by
  unfold ldR at hs
  split at hs
  · rename_i q e
    exact ⟨q.1, q.2, lk_mem e, nx_i hs⟩
  · cases hs
theorem blt_lt {a b : Nat} (h : Nat.blt a b = true) : a < b := Nat.le_of_ble_eq_true h
theorem stI_i {M : MR} {lv : List (Nat × AV)} {k pc : Nat} {st : List AV} {h : HP} {z : SR} (hs : stI M lv k pc st h = some z) : ∃ x r, st = vI x :: r ∧ k < mL M ∧ z = .inl (pc, lst lv k (vI x), r, h) := by
  unfold stI at hs
  split at hs
  · rename_i x r
    obtain ⟨h1, h2⟩ := cond_l hs
    exact ⟨x, r, rfl, blt_lt h1, nx_i h2⟩
  · cases hs
theorem stR_i {M : MR} {lv : List (Nat × AV)} {k pc : Nat} {st : List AV} {h : HP} {z : SR} (hs : stR M lv k pc st h = some z) : ∃ x y r, st = vR x y :: r ∧ k < mL M ∧ z = .inl (pc, lst lv k (vR x y), r, h) := by
  unfold stR at hs
  split at hs
  · rename_i q r
    obtain ⟨h1, h2⟩ := cond_l hs
    exact ⟨q.1, q.2, r, rfl, blt_lt h1, nx_i h2⟩
  · cases hs
theorem o2_i {f : Int32 → Int32 → Int32} {lv : List (Nat × AV)} {pc : Nat} {st : List AV} {h : HP} {z : SR} (hs : o2 f pc lv st h = some z) : ∃ x y r, st = vI y :: vI x :: r ∧ z = .inl (pc + 1, lv, vI (f x y) :: r, h) := by
  unfold o2 at hs
  split at hs
  · rename_i y x r
    exact ⟨x, y, r, rfl, nx_i hs⟩
  · cases hs
theorem o1_i {f : Int32 → AV} {lv : List (Nat × AV)} {pc : Nat} {st : List AV} {h : HP} {z : SR} (hs : o1 f pc lv st h = some z) : ∃ x r, st = vI x :: r ∧ z = .inl (pc + 1, lv, f x :: r, h) := by
  unfold o1 at hs
  split at hs
  · rename_i x r
    exact ⟨x, r, rfl, nx_i hs⟩
  · cases hs
theorem inb_vp {i : Int32} {n : Nat} (h : inb i n = true) : vp_in i n := by
  intro q
  unfold inb at h
  rcases q with q | q <;> simp [q] at h
theorem aLd_i {t : Nat} {lv : List (Nat × AV)} {pc : Nat} {st : List AV} {h : HP} {z : SR} (hs : aLd t pc lv st h = some z) : ∃ i g j r n, st = vI i :: vR g j :: r ∧ aC j = some (t, n) ∧ vp_in i n ∧ z = .inl (pc + 1, lv, vI (h g j i.toNatClampNeg) :: r, h) := by
  unfold aLd at hs
  split at hs
  · rename_i i g j r
    split at hs
    · rename_i t' n e
      obtain ⟨h1, h2⟩ := cond_l hs
      rw [Bool.and_eq_true] at h1
      have e1 : t = t' := Nat.eq_of_beq_eq_true h1.1
      exact ⟨i, g, j, r, n, rfl, by rw [e, e1], inb_vp h1.2, nx_i h2⟩
    · cases hs
  · cases hs
theorem aSt_i {t : Nat} {f : Int32 → Int32} {lv : List (Nat × AV)} {pc : Nat} {st : List AV} {h : HP} {z : SR} (hs : aSt t f pc lv st h = some z) : ∃ x i g j r n, st = vI x :: vI i :: vR g j :: r ∧ aC j = some (t, n) ∧ vp_in i n ∧ z = .inl (pc + 1, lv, r, hset h g j i.toNatClampNeg (f x)) := by
  unfold aSt at hs
  split at hs
  · rename_i x i g j r
    split at hs
    · rename_i t' n e
      obtain ⟨h1, h2⟩ := cond_l hs
      rw [Bool.and_eq_true] at h1
      have e1 : t = t' := Nat.eq_of_beq_eq_true h1.1
      exact ⟨x, i, g, j, r, n, rfl, by rw [e, e1], inb_vp h1.2, nx_i h2⟩
    · cases hs
  · cases hs
theorem getF_i {M : MR} {idx : Nat} {lv : List (Nat × AV)} {pc : Nat} {st : List AV} {h : HP} {z : SR} (hs : getF M idx pc lv st h = some z) : ∃ g j r ci k w nf, st = vR g j :: r ∧ (idx, ci, k, w) ∈ fldT (mK M) ∧ oC j = some (ci, nf) ∧ k < nf ∧ z = .inl (pc + 3, lv, fA h g j k :: r, h) := by
  unfold getF at hs
  split at hs
  · rename_i g j r
    obtain ⟨f, h1, hs⟩ := opt_some hs
    obtain ⟨o, h2, hs⟩ := opt_some hs
    obtain ⟨h3, h4⟩ := cond_l hs
    rw [Bool.and_eq_true] at h3
    have e1 : f.1 = o.1 := Nat.eq_of_beq_eq_true h3.1
    exact ⟨g, j, r, f.1, f.2.1, f.2.2, o.2, rfl, lk_mem h1, by rw [e1]; exact h2, blt_lt h3.2, nx_i h4⟩
  · cases hs
theorem putF_i {M : MR} {idx : Nat} {lv : List (Nat × AV)} {pc : Nat} {st : List AV} {h : HP} {z : SR} (hs : putF M idx pc lv st h = some z) : ∃ x g j r ci k w nf, st = vI x :: vR g j :: r ∧ (idx, ci, k, w) ∈ fldT (mK M) ∧ oC j = some (ci, nf) ∧ k < nf ∧ tg g j k = none ∧ (isZ j k = true → zero1 x = true) ∧ z = .inl (pc + 3, lv, r, hset h g j k x) := by
  unfold putF at hs
  split at hs
  · rename_i x g j r
    obtain ⟨f, h1, hs⟩ := opt_some hs
    obtain ⟨o, h2, hs⟩ := opt_some hs
    obtain ⟨h3, h4⟩ := cond_l hs
    simp only [Bool.and_eq_true, Option.isNone_iff_eq_none, Bool.or_eq_true, Bool.not_eq_true'] at h3
    obtain ⟨⟨⟨h5, h6⟩, h7⟩, h8⟩ := h3
    have e1 : f.1 = o.1 := Nat.eq_of_beq_eq_true h5
    exact ⟨x, g, j, r, f.1, f.2.1, f.2.2, o.2, rfl, lk_mem h1, by rw [e1]; exact h2, blt_lt h6, h7, fun q => h8.elim (fun y => by rw [q] at y; cases y) id, nx_i h4⟩
  · cases hs
theorem acp_i {d : Nat} {lv : List (Nat × AV)} {pc : Nat} {st : List AV} {h : HP} {z : SR} (hs : acp d pc lv st h = some z) : ∃ n g1 j1 g0 j0 n0 n1, st = [vI n, vI 0, vR g1 j1, vI 0, vR g0 j0] ∧ aC j0 = some (0, n0) ∧ aC j1 = some (0, n1) ∧ 0 < d ∧ ¬ n < 0 ∧ n.toNatClampNeg ≤ n0 ∧ n.toNatClampNeg ≤ n1 ∧ z = .inl (pc + 3, lv, [], hrow h g1 j1 (va_cpy (h g0 j0) (h g1 j1) 0 0 n.toNatClampNeg)) := by
  unfold acp at hs
  split at hs
  · rename_i n dp g1 j1 sp g0 j0
    obtain ⟨a0, h1, hs⟩ := opt_some hs
    obtain ⟨a1, h2, hs⟩ := opt_some hs
    obtain ⟨h3, h4⟩ := cond_l hs
    simp only [Bool.and_eq_true, Bool.not_eq_true', decide_eq_false_iff_not] at h3
    obtain ⟨⟨⟨⟨⟨⟨⟨q1, q2⟩, q3⟩, q4⟩, q5⟩, q6⟩, q7⟩, q8⟩ := h3
    have e1 : a0.1 = 0 := Nat.eq_of_beq_eq_true q2
    have e2 : a1.1 = 0 := Nat.eq_of_beq_eq_true q3
    have e3 : sp = 0 := eq_of_beq q4
    have e4 : dp = 0 := eq_of_beq q5
    subst e3; subst e4
    exact ⟨n, g1, j1, g0, j0, a0.2, a1.2, rfl, by rw [← e1]; exact h1, by rw [← e2]; exact h2, blt_lt q1, q6, Nat.le_of_ble_eq_true q7, Nat.le_of_ble_eq_true q8, nx_i h4⟩
  · cases hs
theorem inv_i {M : MR} {idx : Nat} {st : List AV} {z : SR} (hs : inv M idx st = some z) : ∃ M' w g j as r nf, (idx, M', w) ∈ calT (mK M) ∧ mS M' = false ∧ st = as.reverse ++ vR g j :: r ∧ as.length = mA M' ∧ oC j = some (mK M', nf) ∧ r.length ≤ 4 ∧ 1 + wds as ≤ mL M' ∧ z = .inr (.inr (M', vR g j :: as, r)) := by
  unfold inv at hs
  obtain ⟨q, h1, hs⟩ := opt_some hs
  obtain ⟨h2, hs⟩ := cond_r hs
  split at hs
  · rename_i g j r e
    obtain ⟨o, h3, hs⟩ := opt_some hs
    obtain ⟨h4, h5⟩ := cond_l hs
    simp only [Bool.and_eq_true] at h4
    obtain ⟨⟨⟨q1, q2⟩, q3⟩, q4⟩ := h4
    have e1 : o.1 = mK q.1 := Nat.eq_of_beq_eq_true q1
    refine ⟨q.1, q.2, g, j, (st.take (mA q.1)).reverse, r, o.2, lk_mem h1, h2, ?_, ?_, by rw [← e1]; exact h3, Nat.le_of_ble_eq_true q2, Nat.le_of_ble_eq_true q3, (Option.some.inj h5).symm⟩
    · rw [List.reverse_reverse, ← e, List.take_append_drop]
    · rw [List.length_reverse, List.length_take, Nat.min_eq_left (Nat.le_of_ble_eq_true q4)]
  · cases hs
theorem ins_i {M : MR} {idx : Nat} {st : List AV} {z : SR} (hs : ins M idx st = some z) : ∃ M' w as r, (idx, M', w) ∈ calT (mK M) ∧ mS M' = true ∧ st = as.reverse ++ r ∧ as.length = mA M' ∧ r.length ≤ 4 ∧ wds as ≤ mL M' ∧ z = .inr (.inr (M', as, r)) := by
  unfold ins at hs
  obtain ⟨q, h1, hs⟩ := opt_some hs
  obtain ⟨h4, h5⟩ := cond_l hs
  simp only [Bool.and_eq_true] at h4
  obtain ⟨⟨⟨q1, q2⟩, q3⟩, q4⟩ := h4
  refine ⟨q.1, q.2, (st.take (mA q.1)).reverse, st.drop (mA q.1), lk_mem h1, q1, ?_, ?_, Nat.le_of_ble_eq_true q3, Nat.le_of_ble_eq_true q4, (Option.some.inj h5).symm⟩
  · rw [List.reverse_reverse, List.take_append_drop]
  · rw [List.length_reverse, List.length_take, Nat.min_eq_left (Nat.le_of_ble_eq_true q2)]
theorem jmp_i {c : Bool} {pc : Nat} {off : Int} {lv : List (Nat × AV)} {st : List AV} {h : HP} {z : SR} (hs : jmp c pc off lv st h = some z) : ∃ t : Nat, (pc : Int) + off = (t : Int) ∧ z = .inl (cond c t (pc + 3), lv, st, h) := by
  unfold jmp at hs
  split at hs
  · rename_i t e
    refine ⟨t, ?_, (Option.some.inj hs).symm⟩
    unfold tgo at e
    split at e
    · rename_i u f
      cases e
      exact f
    · cases e
  · cases hs
theorem tgo_i {pc t : Nat} {off : Int} (e : tgo pc off = some t) : (pc : Int) + off = (t : Int) := by
  unfold tgo at e
  split at e
  · rename_i u f
    cases e
    exact f
  · cases e
theorem mth_i {d op : Nat} {lv : List (Nat × AV)} {pc : Nat} {st : List AV} {h : HP} {z : SR} (hs : mth d op pc lv st h = some z) : 0 < d ∧ ∃ r : List AV, r.length ≤ 4 ∧ ((∃ x y, op = 1 ∧ st = vI y :: vI x :: r ∧ z = .inl (pc + 3, lv, vI (if x < y then y else x) :: r, h)) ∨ (∃ x y, op = 2 ∧ st = vI y :: vI x :: r ∧ z = .inl (pc + 3, lv, vI (if y < x then y else x) :: r, h)) ∨ (∃ x, op = 3 ∧ st = vI x :: r ∧ z = .inl (pc + 3, lv, vI (if 0 ≤ x then x else 0 - x) :: r, h))) := by
  unfold mth at hs
  split at hs
  · rename_i y x r
    obtain ⟨h1, h2⟩ := cond_l hs
    rw [Bool.and_eq_true] at h1
    exact ⟨blt_lt h1.1, r, Nat.le_of_ble_eq_true h1.2, Or.inl ⟨x, y, rfl, rfl, nx_i h2⟩⟩
  · rename_i y x r
    obtain ⟨h1, h2⟩ := cond_l hs
    rw [Bool.and_eq_true] at h1
    exact ⟨blt_lt h1.1, r, Nat.le_of_ble_eq_true h1.2, Or.inr (Or.inl ⟨x, y, rfl, rfl, nx_i h2⟩)⟩
  · rename_i x r
    obtain ⟨h1, h2⟩ := cond_l hs
    rw [Bool.and_eq_true] at h1
    exact ⟨blt_lt h1.1, r, Nat.le_of_ble_eq_true h1.2, Or.inr (Or.inr ⟨x, rfl, rfl, nx_i h2⟩)⟩
  · cases hs
end
section
/-! references stay among the cells -/
def okv (cs : List (Nat × Nat)) : AV → Prop
  | .inr (.inr q) => q ∈ cs
  | _ => True
def clo (cs : List (Nat × Nat)) : Prop := cs.Nodup ∧ (∀ q ∈ cs, ∀ k t, tg q.1 q.2 k = some t → t ∈ cs) ∧ (∀ q ∈ cs, q.2 = 14 → ∀ i, i < 5 → (i + 2, 0) ∈ cs) ∧ (∀ q ∈ cs, oC q.2 = none → aC q.2 = none → q.2 = 14)
def OKC (cs : List (Nat × Nat)) (c : CF) : Prop := (∀ q ∈ c.2.1, okv cs q.2) ∧ ∀ v ∈ c.2.2.1, okv cs v
def OKR (cs : List (Nat × Nat)) : SR → Prop
  | .inl c => OKC cs c
  | .inr (.inl r) => ∀ v, r.1 = some v → okv cs v
  | .inr (.inr x) => (∀ v ∈ x.2.1, okv cs v) ∧ ∀ v ∈ x.2.2, okv cs v
theorem okv_cons {cs : List (Nat × Nat)} {v : AV} {r : List AV} (h : ∀ x ∈ v :: r, okv cs x) : okv cs v ∧ ∀ x ∈ r, okv cs x := ⟨h v List.mem_cons_self, fun x hx => h x (List.mem_cons_of_mem _ hx)⟩
theorem okv_mk {cs : List (Nat × Nat)} {v : AV} {r : List AV} (h1 : okv cs v) (h2 : ∀ x ∈ r, okv cs x) : ∀ x ∈ v :: r, okv cs x := fun x hx => (List.mem_cons.mp hx).elim (fun e => by rw [e]; exact h1) (h2 x)
theorem okv_lst {cs : List (Nat × Nat)} {lv : List (Nat × AV)} {k : Nat} {v : AV} (h1 : okv cs v) (h2 : ∀ q ∈ lv, okv cs q.2) : ∀ q ∈ lst lv k v, okv cs q.2 := by
  intro q hq
  unfold lst at hq
  rcases List.mem_cons.mp hq with e | e
  · rw [e]; exact h1
  · exact h2 q (List.mem_filter.mp e).1
theorem inb_lt {i : Int32} {n : Nat} (h : inb i n = true) : i.toNatClampNeg < n := Nat.not_le.mp fun q => inb_vp h (Or.inr q)
theorem okv_fA {cs : List (Nat × Nat)} (hc : clo cs) {h : HP} {g j k : Nat} (hq : (g, j) ∈ cs) : okv cs (fA h g j k) := by
  unfold fA
  split
  · rename_i q e
    exact hc.2.1 _ hq k q e
  · trivial
theorem sti_okv {cs : List (Nat × Nat)} {d : Nat} {M : MR} {i : Instr} {pc : Nat} {lv : List (Nat × AV)} {st : List AV} {h : HP} {z : SR} (hc : clo cs) (hl : ∀ q ∈ lv, okv cs q.2) (hv : ∀ v ∈ st, okv cs v) (hs : sti d M i pc lv st h = some z) : OKR cs z := by
  cases i with
  | iconst n => rw [nx_i hs]; exact ⟨hl, okv_mk trivial hv⟩
  | bipush n => rw [nx_i hs]; exact ⟨hl, okv_mk trivial hv⟩
  | sipush n => rw [nx_i hs]; exact ⟨hl, okv_mk trivial hv⟩
  | lconst n => rw [nx_i hs]; exact ⟨hl, okv_mk trivial hv⟩
  | ldc k => obtain ⟨q, -, hs⟩ := opt_some hs; rw [nx_i hs]; exact ⟨hl, okv_mk trivial hv⟩
  | ldc_w k => obtain ⟨q, -, hs⟩ := opt_some hs; rw [nx_i hs]; exact ⟨hl, okv_mk trivial hv⟩
  | ldc2_w k => obtain ⟨q, -, hs⟩ := opt_some hs; rw [nx_i hs]; exact ⟨hl, okv_mk trivial hv⟩
  | iload_n k => obtain ⟨x, -, rfl⟩ := ldI_i hs; exact ⟨hl, okv_mk trivial hv⟩
  | iload k => obtain ⟨x, -, rfl⟩ := ldI_i hs; exact ⟨hl, okv_mk trivial hv⟩
  | lload_n k => obtain ⟨x, -, rfl⟩ := ldL_i hs; exact ⟨hl, okv_mk trivial hv⟩
  | lload k => obtain ⟨x, -, rfl⟩ := ldL_i hs; exact ⟨hl, okv_mk trivial hv⟩
  | aload_n k => obtain ⟨x, y, e, rfl⟩ := ldR_i hs; exact ⟨hl, okv_mk (hl _ e) hv⟩
  | aload k => obtain ⟨x, y, e, rfl⟩ := ldR_i hs; exact ⟨hl, okv_mk (hl _ e) hv⟩
  | istore_n k => obtain ⟨x, r, rfl, -, rfl⟩ := stI_i hs; exact ⟨okv_lst trivial hl, (okv_cons hv).2⟩
  | istore k => obtain ⟨x, r, rfl, -, rfl⟩ := stI_i hs; exact ⟨okv_lst trivial hl, (okv_cons hv).2⟩
  | astore_n k => obtain ⟨x, y, r, rfl, -, rfl⟩ := stR_i hs; exact ⟨okv_lst (okv_cons hv).1 hl, (okv_cons hv).2⟩
  | iinc k n =>
    simp only [sti] at hs
    split at hs
    · obtain ⟨-, hs⟩ := cond_l hs
      rw [nx_i hs]; exact ⟨okv_lst trivial hl, hv⟩
    · cases hs
  | iadd => obtain ⟨x, y, r, rfl, rfl⟩ := o2_i hs; exact ⟨hl, okv_mk trivial (okv_cons (okv_cons hv).2).2⟩
  | isub => obtain ⟨x, y, r, rfl, rfl⟩ := o2_i hs; exact ⟨hl, okv_mk trivial (okv_cons (okv_cons hv).2).2⟩
  | imul => obtain ⟨x, y, r, rfl, rfl⟩ := o2_i hs; exact ⟨hl, okv_mk trivial (okv_cons (okv_cons hv).2).2⟩
  | iand => obtain ⟨x, y, r, rfl, rfl⟩ := o2_i hs; exact ⟨hl, okv_mk trivial (okv_cons (okv_cons hv).2).2⟩
  | ior => obtain ⟨x, y, r, rfl, rfl⟩ := o2_i hs; exact ⟨hl, okv_mk trivial (okv_cons (okv_cons hv).2).2⟩
  | ixor => obtain ⟨x, y, r, rfl, rfl⟩ := o2_i hs; exact ⟨hl, okv_mk trivial (okv_cons (okv_cons hv).2).2⟩
  | ishl => obtain ⟨x, y, r, rfl, rfl⟩ := o2_i hs; exact ⟨hl, okv_mk trivial (okv_cons (okv_cons hv).2).2⟩
  | ishr => obtain ⟨x, y, r, rfl, rfl⟩ := o2_i hs; exact ⟨hl, okv_mk trivial (okv_cons (okv_cons hv).2).2⟩
  | iushr => obtain ⟨x, y, r, rfl, rfl⟩ := o2_i hs; exact ⟨hl, okv_mk trivial (okv_cons (okv_cons hv).2).2⟩
  | irem =>
    simp only [sti] at hs
    split at hs
    · obtain ⟨-, hs⟩ := cond_r hs
      rw [nx_i hs]; exact ⟨hl, okv_mk trivial (okv_cons (okv_cons hv).2).2⟩
    · cases hs
  | ineg => obtain ⟨x, r, rfl, rfl⟩ := o1_i hs; exact ⟨hl, okv_mk trivial (okv_cons hv).2⟩
  | i2l => obtain ⟨x, r, rfl, rfl⟩ := o1_i hs; exact ⟨hl, okv_mk trivial (okv_cons hv).2⟩
  | i2c => obtain ⟨x, r, rfl, rfl⟩ := o1_i hs; exact ⟨hl, okv_mk trivial (okv_cons hv).2⟩
  | lcmp =>
    simp only [sti] at hs
    split at hs
    · rw [nx_i hs]; exact ⟨hl, okv_mk trivial (okv_cons (okv_cons hv).2).2⟩
    · cases hs
  | dup =>
    simp only [sti] at hs
    split at hs
    · obtain ⟨-, hs⟩ := cond_r hs
      rw [nx_i hs]; exact ⟨hl, okv_mk (okv_cons hv).1 hv⟩
    · cases hs
  | pop =>
    simp only [sti] at hs
    split at hs
    · obtain ⟨-, hs⟩ := cond_r hs
      rw [nx_i hs]; exact ⟨hl, (okv_cons hv).2⟩
    · cases hs
  | dup2 =>
    simp only [sti] at hs
    split at hs
    · obtain ⟨-, hs⟩ := cond_r hs
      rw [nx_i hs]; exact ⟨hl, okv_mk (okv_cons hv).1 (okv_mk (okv_cons (okv_cons hv).2).1 hv)⟩
    · cases hs
  | ifCond c off =>
    simp only [sti] at hs
    split at hs
    · obtain ⟨t, -, rfl⟩ := jmp_i hs; exact ⟨hl, (okv_cons hv).2⟩
    · cases hs
  | if_icmp c off =>
    simp only [sti] at hs
    split at hs
    · obtain ⟨t, -, rfl⟩ := jmp_i hs; exact ⟨hl, (okv_cons (okv_cons hv).2).2⟩
    · cases hs
  | goto off => obtain ⟨t, -, hs⟩ := opt_some hs; rw [nx_i hs]; exact ⟨hl, hv⟩
  | tableswitch dflt lo hi offs =>
    simp only [sti] at hs
    split at hs
    · rename_i x r
      cases hb : (decide (x.toInt < lo) || decide (hi < x.toInt)) with
      | true => rw [hb] at hs; obtain ⟨t, -, hs⟩ := opt_some hs; rw [nx_i hs]; exact ⟨hl, (okv_cons hv).2⟩
      | false => rw [hb] at hs; obtain ⟨o, -, hs⟩ := opt_some hs; obtain ⟨t, -, hs⟩ := opt_some hs; rw [nx_i hs]; exact ⟨hl, (okv_cons hv).2⟩
    · cases hs
  | lookupswitch dflt ps =>
    simp only [sti] at hs
    split at hs
    · obtain ⟨-, hs⟩ := cond_l hs
      obtain ⟨t, -, hs⟩ := opt_some hs; rw [nx_i hs]; exact ⟨hl, (okv_cons hv).2⟩
    · cases hs
  | getfield idx => obtain ⟨g, j, r, ci, k, w, nf, rfl, -, -, -, rfl⟩ := getF_i hs; exact ⟨hl, okv_mk (okv_fA hc (okv_cons hv).1) (okv_cons hv).2⟩
  | putfield idx => obtain ⟨x, g, j, r, ci, k, w, nf, rfl, -, -, -, -, -, rfl⟩ := putF_i hs; exact ⟨hl, (okv_cons (okv_cons hv).2).2⟩
  | arraylength =>
    simp only [sti] at hs
    split at hs
    · obtain ⟨t, -, hs⟩ := opt_some hs; rw [nx_i hs]; exact ⟨hl, okv_mk trivial (okv_cons hv).2⟩
    · cases hs
  | iaload => obtain ⟨i, g, j, r, n, rfl, -, -, rfl⟩ := aLd_i hs; exact ⟨hl, okv_mk trivial (okv_cons (okv_cons hv).2).2⟩
  | caload => obtain ⟨i, g, j, r, n, rfl, -, -, rfl⟩ := aLd_i hs; exact ⟨hl, okv_mk trivial (okv_cons (okv_cons hv).2).2⟩
  | baload => obtain ⟨i, g, j, r, n, rfl, -, -, rfl⟩ := aLd_i hs; exact ⟨hl, okv_mk trivial (okv_cons (okv_cons hv).2).2⟩
  | aaload =>
    simp only [sti] at hs
    split at hs
    · rename_i i g j r
      obtain ⟨h1, hs⟩ := cond_l hs
      rw [Bool.and_eq_true] at h1
      have e : j = 14 := Nat.eq_of_beq_eq_true h1.1
      rw [nx_i hs]
      exact ⟨hl, okv_mk (hc.2.2.1 _ (okv_cons (okv_cons hv).2).1 e _ (inb_lt h1.2)) (okv_cons (okv_cons hv).2).2⟩
    · cases hs
  | iastore => obtain ⟨x, i, g, j, r, n, rfl, -, -, rfl⟩ := aSt_i hs; exact ⟨hl, (okv_cons (okv_cons (okv_cons hv).2).2).2⟩
  | castore => obtain ⟨x, i, g, j, r, n, rfl, -, -, rfl⟩ := aSt_i hs; exact ⟨hl, (okv_cons (okv_cons (okv_cons hv).2).2).2⟩
  | bastore => obtain ⟨x, i, g, j, r, n, rfl, -, -, rfl⟩ := aSt_i hs; exact ⟨hl, (okv_cons (okv_cons (okv_cons hv).2).2).2⟩
  | ireturn =>
    simp only [sti] at hs
    split at hs
    · split at hs
      · cases hs; intro v e; cases e; trivial
      · obtain ⟨-, hs⟩ := cond_l hs
        cases hs; intro v e; cases e; trivial
      · cases hs
    · cases hs
  | areturn =>
    simp only [sti] at hs
    split at hs
    · split at hs
      · cases hs; intro v e; cases e; exact (okv_cons hv).1
      · cases hs
    · cases hs
  | return_ =>
    simp only [sti] at hs
    split at hs
    · split at hs
      · cases hs; intro v e; cases e
      · cases hs
    · cases hs
  | invokevirtual idx =>
    obtain ⟨M', w, g, j, as, r, nf, -, -, rfl, -, -, -, -, rfl⟩ := inv_i hs
    exact ⟨okv_mk (hv _ (List.mem_append_right _ List.mem_cons_self)) (fun v h9 => hv v (List.mem_append_left _ (List.mem_reverse.mpr h9))), fun v h9 => hv v (List.mem_append_right _ (List.mem_cons_of_mem _ h9))⟩
  | invokestatic idx =>
    simp only [sti] at hs
    split at hs
    · obtain ⟨-, r, -, ⟨x, y, -, rfl, rfl⟩ | ⟨x, y, -, rfl, rfl⟩ | ⟨x, -, rfl, rfl⟩⟩ := mth_i hs
      · exact ⟨hl, okv_mk trivial (okv_cons (okv_cons hv).2).2⟩
      · exact ⟨hl, okv_mk trivial (okv_cons (okv_cons hv).2).2⟩
      · exact ⟨hl, okv_mk trivial (okv_cons hv).2⟩
    cases hb : (Nat.beq (mK M) 0 && Nat.beq idx 49) with
    | true =>
      rw [hb] at hs
      obtain ⟨n, g1, j1, g0, j0, n0, n1, rfl, -, -, -, -, -, -, rfl⟩ := acp_i hs
      exact ⟨hl, fun v h9 => by cases h9⟩
    | false =>
      rw [hb] at hs
      obtain ⟨M', w, as, r, -, -, rfl, -, -, -, rfl⟩ := ins_i hs
      exact ⟨fun v h9 => hv v (List.mem_append_left _ (List.mem_reverse.mpr h9)), fun v h9 => hv v (List.mem_append_right _ h9)⟩
  | _ => exact absurd (show (none : Option SR) = some z from hs) (by simp)
theorem ent_mem {v : AV} : ∀ {as : List AV} {i : Nat} {q : Nat × AV}, q ∈ ent i as → q.2 ∈ as := by
  intro as
  induction as with
  | nil => intro i q h; cases h
  | cons a r ih =>
    intro i q h
    unfold ent at h
    rcases List.mem_cons.mp h with e | e
    · rw [e]; exact List.mem_cons_self
    · exact List.mem_cons_of_mem _ (ih e)
theorem okv_ent {cs : List (Nat × Nat)} {as : List AV} {i : Nat} (h : ∀ v ∈ as, okv cs v) : ∀ q ∈ ent i as, okv cs q.2 := fun q hq => h q.2 (ent_mem (v := q.2) hq)
theorem ex_okv {cs : List (Nat × Nat)} (hc : clo cs) : ∀ (n d : Nat) (M : MR) (c : CF) (r : Option AV × HP), OKC cs c → ex n d M c = some r → ∀ v, r.1 = some v → okv cs v := by
  intro n
  induction n with
  | zero => intro d M c r _ h; cases h
  | succ n ih =>
    intro d M c r hok h
    unfold ex at h
    cases hs : stp d M c with
    | none => rw [hs] at h; cases h
    | some z =>
      rw [hs] at h
      obtain ⟨q, -, hs⟩ := opt_some hs
      have hz := sti_okv hc hok.1 hok.2 hs
      match z, h, hz with
      | .inl c', h, hz => exact ih d M c' r hz h
      | .inr (.inl r'), h, hz =>
        cases h
        exact hz
      | .inr (.inr (M', as, rest)), h, hz =>
        cases d with
        | zero => cases h
        | succ d' =>
          dsimp only at h
          cases hx : ex n d' M' (0, ent 0 as, [], c.2.2.2) with
          | none => rw [hx] at h; cases h
          | some rr =>
            obtain ⟨r1, h'⟩ := rr
            rw [hx] at h
            have h1 := ih d' M' _ _ ⟨okv_ent hz.1, fun v h9 => by cases h9⟩ hx
            refine ih (d' + 1) M (c.1 + 3, c.2.1, r1.toList ++ rest, h') r ⟨hok.1, fun v hv => ?_⟩ h
            rcases List.mem_append.mp hv with h9 | h9
            · cases r1 with
              | none => cases h9
              | some w => rw [List.mem_singleton.mp h9]; exact h1 w rfl
            · exact hz.2 v h9
end
section
/-! what a program decides of the tables -/
abbrev CLS : List vw_C := [(RX0, TX0, 12), (RX1, TX1, 4), (RX2, TX2, 3), (RX3, TX3, 5), (RX4, TX4, 6), (RX5, TX5, 12)]
def kT : Nat → u_T
  | 0 => TX0
  | 1 => TX1
  | 2 => TX2
  | 3 => TX3
  | 4 => TX4
  | _ => TX5
def kF : Nat → Nat → FieldType
  | 0 => tyX0
  | 1 => tyX1
  | 2 => tyX2
  | 3 => tyX3
  | 4 => tyX4
  | _ => tyX5
def kN : Nat → Nat
  | 0 => 12
  | 1 => 4
  | 2 => 3
  | 3 => 5
  | 4 => 6
  | _ => 12
def gT : List Cond := lw_tbl.filter goodWord
theorem gT_in {w : Cond} {i : Nat} (h : lw_tbl[i]? = some w) (hg : goodWord w = true) : w ∈ gT := List.mem_filter.mpr ⟨List.mem_of_getElem? h, hg⟩
theorem gT_at {w : Cond} (h : w ∈ gT) : w ∈ lw_tbl := (List.mem_filter.mp h).1
theorem gT_gd {w : Cond} (h : w ∈ gT) : goodWord w = true := (List.mem_filter.mp h).2
theorem cls_at : ∀ ci, ci < 6 → CLS[ci]? = some (cnm ci, kT ci, kN ci)
  | 0, _ => rfl
  | 1, _ => rfl
  | 2, _ => rfl
  | 3, _ => rfl
  | 4, _ => rfl
  | 5, _ => rfl
  | n + 6, h => absurd h (by omega)
theorem kF_ok : ∀ ci, ci < 6 → ∀ k, k < kN ci → parseFieldDescriptor (kT ci k).2.2.1 = some (kF ci k)
  | 0, _ => tyX0_ok
  | 1, _ => tyX1_ok
  | 2, _ => tyX2_ok
  | 3, _ => tyX3_ok
  | 4, _ => tyX4_ok
  | 5, _ => tyX5_ok
  | n + 6, h => absurd h (by omega)
theorem kN_ok : ∀ ci, ci < 6 → ∀ a, a < kN ci → ∀ b, b < kN ci → a ≠ b → (kT ci a).2.1 ≠ (kT ci b).2.1
  | 0, _ => nmX0
  | 1, _ => nmX1
  | 2, _ => nmX2
  | 3, _ => nmX3
  | 4, _ => nmX4
  | 5, _ => nmX5
  | n + 6, h => absurd h (by omega)
theorem uw0 : u_ws (cnm 0) (kT 0) (kN 0) = [99, 101, 103, 105, 107, 109, 111, 113, 115, 117, 119, 121].filterMap (fun i => lw_tbl[i]?) := by decide +kernel
theorem ug0 : (u_ws (cnm 0) (kT 0) (kN 0)).all goodWord = true := by decide +kernel
theorem uw1 : u_ws (cnm 1) (kT 1) (kN 1) = [64, 66, 68, 70].filterMap (fun i => lw_tbl[i]?) := by decide +kernel
theorem ug1 : (u_ws (cnm 1) (kT 1) (kN 1)).all goodWord = true := by decide +kernel
theorem uw2 : u_ws (cnm 2) (kT 2) (kN 2) = [137, 139, 141].filterMap (fun i => lw_tbl[i]?) := by decide +kernel
theorem ug2 : (u_ws (cnm 2) (kT 2) (kN 2)).all goodWord = true := by decide +kernel
theorem uw3 : u_ws (cnm 3) (kT 3) (kN 3) = [155, 157, 159, 161, 163].filterMap (fun i => lw_tbl[i]?) := by decide +kernel
theorem ug3 : (u_ws (cnm 3) (kT 3) (kN 3)).all goodWord = true := by decide +kernel
theorem uw4 : u_ws (cnm 4) (kT 4) (kN 4) = [305, 307, 309, 311, 313, 315].filterMap (fun i => lw_tbl[i]?) := by decide +kernel
theorem ug4 : (u_ws (cnm 4) (kT 4) (kN 4)).all goodWord = true := by decide +kernel
theorem uw5 : u_ws (cnm 5) (kT 5) (kN 5) = [626, 628, 630, 632, 634, 636, 638, 640, 642, 644, 646, 648].filterMap (fun i => lw_tbl[i]?) := by decide +kernel
theorem ug5 : (u_ws (cnm 5) (kT 5) (kN 5)).all goodWord = true := by decide +kernel
theorem uws_of {ws : List Cond} {ix : List Nat} (h : ws = ix.filterMap (fun i => lw_tbl[i]?)) (hg : ws.all goodWord = true) : ∀ w ∈ ws, w ∈ gT := by
  intro w hw
  have h1 := List.all_eq_true.mp hg w hw
  rw [h] at hw
  obtain ⟨i, -, hi⟩ := List.mem_filterMap.mp hw
  exact gT_in hi h1
theorem uws_in : ∀ ci, ci < 6 → ∀ w ∈ u_ws (cnm ci) (kT ci) (kN ci), w ∈ gT
  | 0, _ => uws_of uw0 ug0
  | 1, _ => uws_of uw1 ug1
  | 2, _ => uws_of uw2 ug2
  | 3, _ => uws_of uw3 ug3
  | 4, _ => uws_of uw4 ug4
  | 5, _ => uws_of uw5 ug5
  | n + 6, h => absurd h (by omega)
def fok (c : Nat) (q : Nat × Nat × Nat × Nat) : Bool := decide (lw_tbl[q.2.2.2]? = some (.fieldLink (cnm c) q.1 (kT q.2.1 q.2.2.1).1 (kT q.2.1 q.2.2.1).2.1 (kT q.2.1 q.2.2.1).2.2.1)) && Nat.blt q.2.1 6 && Nat.blt q.2.2.1 (kN q.2.1)
theorem fld_ok0 : (fldT 0).all (fok 0) = true := by decide +kernel
theorem fld_ok1 : (fldT 1).all (fok 1) = true := by decide +kernel
theorem fld_ok2 : (fldT 2).all (fok 2) = true := by decide +kernel
theorem fld_ok3 : (fldT 3).all (fok 3) = true := by decide +kernel
theorem fld_ok4 : (fldT 4).all (fok 4) = true := by decide +kernel
theorem fld_ok5 : (fldT 5).all (fok 5) = true := by decide +kernel
theorem fld_all : ∀ c, (fldT c).all (fok c) = true
  | 0 => fld_ok0
  | 1 => fld_ok1
  | 2 => fld_ok2
  | 3 => fld_ok3
  | 4 => fld_ok4
  | 5 => fld_ok5
  | n + 6 => rfl
theorem fld_ok {c idx ci k w : Nat} (h : (idx, ci, k, w) ∈ fldT c) : Cond.fieldLink (cnm c) idx (kT ci k).1 (kT ci k).2.1 (kT ci k).2.2.1 ∈ gT ∧ ci < 6 ∧ k < kN ci := by
  have h1 := List.all_eq_true.mp (fld_all c) _ h
  simp only [fok, Bool.and_eq_true, decide_eq_true_eq] at h1
  exact ⟨gT_in h1.1.1 rfl, blt_lt h1.1.2, blt_lt h1.2⟩
def lenok : Instr → Nat → Bool
  | .iconst _, n => Nat.beq n 1
  | .bipush _, n => Nat.beq n 2
  | .sipush _, n => Nat.beq n 3
  | .lconst _, n => Nat.beq n 1
  | .ldc _, n => Nat.beq n 2
  | .ldc_w _, n => Nat.beq n 3
  | .ldc2_w _, n => Nat.beq n 3
  | .iload_n _, n => Nat.beq n 1
  | .iload _, n => Nat.beq n 2
  | .lload_n _, n => Nat.beq n 1
  | .lload _, n => Nat.beq n 2
  | .aload_n _, n => Nat.beq n 1
  | .aload _, n => Nat.beq n 2
  | .istore_n _, n => Nat.beq n 1
  | .istore _, n => Nat.beq n 2
  | .astore_n _, n => Nat.beq n 1
  | .iinc _ _, n => Nat.beq n 3
  | .ifCond _ _, n => Nat.beq n 3
  | .if_icmp _ _, n => Nat.beq n 3
  | .goto _, n => Nat.beq n 3
  | .tableswitch _ _ _ _, _ => true
  | .lookupswitch _ _, _ => true
  | .getfield _, n => Nat.beq n 3
  | .putfield _, n => Nat.beq n 3
  | .invokevirtual _, n => Nat.beq n 3
  | .invokestatic _, n => Nat.beq n 3
  | _, n => Nat.beq n 1
def lnk (c : Nat) (q : Nat × MR × List Nat) : Bool :=
  decide (lw_tbl[q.2.2.getD 0 0]? = some (.methodLink (cnm c) q.1 (mN q.2.1))) &&
  decide (lw_tbl[q.2.2.getD 1 0]? = some (.code (mN q.2.1) (mC q.2.1) (mL q.2.1) (mR q.2.1))) &&
  decide (lw_tbl[q.2.2.getD 2 0]? = some (.initialized (mN q.2.1).cls)) &&
  (cond (mS q.2.1) (decide (lw_tbl[q.2.2.getD 3 0]? = some (.static (mN q.2.1))))
    (decide (lw_tbl[q.2.2.getD 3 0]? = some (.instanceMethod (mN q.2.1))) && decide (lw_tbl[q.2.2.getD 4 0]? = some (.selects (mN q.2.1).cls (mN q.2.1) (mN q.2.1)))))
def gmb (M : MR) : Bool := decide ((parseMethodDescriptor (mN M).desc).map (fun d => d.parameters.length) = some (mA M)) && decide ((mN M).cls = cnm (mK M)) && Nat.ble (mL M) 24 && Nat.blt (mK M) 7 && (mI M).all (fun q => lenok q.2.1 q.2.2)
theorem gC_makeEmpty : gmb mC_makeEmpty = true := by decide +kernel
theorem gC_copyFrom : gmb mC_copyFrom = true := by decide +kernel
theorem gC_addSong : gmb mC_addSong = true := by decide +kernel
theorem gC_addPlayer : gmb mC_addPlayer = true := by decide +kernel
theorem gC_addKind : gmb mC_addKind = true := by decide +kernel
theorem gC_addPart : gmb mC_addPart = true := by decide +kernel
theorem gC_addEncore : gmb mC_addEncore = true := by decide +kernel
theorem gC_hasAllSorts : gmb mC_hasAllSorts = true := by decide +kernel
theorem gC_isSong : gmb mC_isSong = true := by decide +kernel
theorem gC_areTwoSongs : gmb mC_areTwoSongs = true := by decide +kernel
theorem gC_isPlayer : gmb mC_isPlayer = true := by decide +kernel
theorem gC_isKind : gmb mC_isKind = true := by decide +kernel
theorem gC_isSide : gmb mC_isSide = true := by decide +kernel
theorem gC_isPart : gmb mC_isPart = true := by decide +kernel
theorem gC_isEncore : gmb mC_isEncore = true := by decide +kernel
theorem gC_kindPlayed : gmb mC_kindPlayed = true := by decide +kernel
theorem gC_tuningPlayed : gmb mC_tuningPlayed = true := by decide +kernel
theorem gC_givePart : gmb mC_givePart = true := by decide +kernel
theorem gC_playersOn : gmb mC_playersOn = true := by decide +kernel
theorem gC_mostPlayersOn : gmb mC_mostPlayersOn = true := by decide +kernel
theorem gC_hasUnitFor : gmb mC_hasUnitFor = true := by decide +kernel
theorem gC_change : gmb mC_change = true := by decide +kernel
theorem gC_costOfChange : gmb mC_costOfChange = true := by decide +kernel
theorem gC_costOfSide : gmb mC_costOfSide = true := by decide +kernel
theorem gC_costOfChangeover : gmb mC_costOfChangeover = true := by decide +kernel
theorem gC_costAfter : gmb mC_costAfter = true := by decide +kernel
theorem gC_shiftOrder : gmb mC_shiftOrder = true := by decide +kernel
theorem gC_songPinnedAt : gmb mC_songPinnedAt = true := by decide +kernel
theorem gC_pinCount : gmb mC_pinCount = true := by decide +kernel
theorem gC_mayStandAt : gmb mC_mayStandAt = true := by decide +kernel
theorem gC_playingTime : gmb mC_playingTime = true := by decide +kernel
theorem gT_add : gmb mT_add = true := by decide +kernel
theorem gT_readInto : gmb mT_readInto = true := by decide +kernel
theorem gT_readNumbers : gmb mT_readNumbers = true := by decide +kernel
theorem gT_state : gmb mT_state = true := by decide +kernel
theorem gH_forget : gmb mH_forget = true := by decide +kernel
theorem gH_keep : gmb mH_keep = true := by decide +kernel
theorem gH_takeBack : gmb mH_takeBack = true := by decide +kernel
theorem gO_load : gmb mO_load = true := by decide +kernel
theorem gO_solve : gmb mO_solve = true := by decide +kernel
theorem gO_settle : gmb mO_settle = true := by decide +kernel
theorem gO_costThrough : gmb mO_costThrough = true := by decide +kernel
theorem gO_cellOf : gmb mO_cellOf = true := by decide +kernel
theorem gO_leastCost : gmb mO_leastCost = true := by decide +kernel
theorem gO_leastCostOrders : gmb mO_leastCostOrders = true := by decide +kernel
theorem gO_leastCostFrom : gmb mO_leastCostFrom = true := by decide +kernel
theorem gO_bestSong : gmb mO_bestSong = true := by decide +kernel
theorem gO_copyBestOrder : gmb mO_copyBestOrder = true := by decide +kernel
theorem gO_bestNext : gmb mO_bestNext = true := by decide +kernel
theorem gS_append : gmb mS_append = true := by decide +kernel
theorem gS_clearText : gmb mS_clearText = true := by decide +kernel
theorem gS_firstError : gmb mS_firstError = true := by decide +kernel
theorem gS_configure : gmb mS_configure = true := by decide +kernel
theorem gS_setPart : gmb mS_setPart = true := by decide +kernel
theorem gS_removePart : gmb mS_removePart = true := by decide +kernel
theorem gS_setUnits : gmb mS_setUnits = true := by decide +kernel
theorem gS_pin : gmb mS_pin = true := by decide +kernel
theorem gS_unpin : gmb mS_unpin = true := by decide +kernel
theorem gS_setEncore : gmb mS_setEncore = true := by decide +kernel
theorem gS_moveSong : gmb mS_moveSong = true := by decide +kernel
theorem gS_adoptBest : gmb mS_adoptBest = true := by decide +kernel
theorem gS_undo : gmb mS_undo = true := by decide +kernel
theorem gS_songCount : gmb mS_songCount = true := by decide +kernel
theorem gS_kindOf : gmb mS_kindOf = true := by decide +kernel
theorem gS_tuningOf : gmb mS_tuningOf = true := by decide +kernel
theorem gS_spareUnits : gmb mS_spareUnits = true := by decide +kernel
theorem gS_changeOf : gmb mS_changeOf = true := by decide +kernel
theorem gS_changeCost : gmb mS_changeCost = true := by decide +kernel
theorem gS_changeoverCost : gmb mS_changeoverCost = true := by decide +kernel
theorem gS_songAt : gmb mS_songAt = true := by decide +kernel
theorem gS_orderCost : gmb mS_orderCost = true := by decide +kernel
theorem gS_isAllowed : gmb mS_isAllowed = true := by decide +kernel
theorem gS_dearestChangeover : gmb mS_dearestChangeover = true := by decide +kernel
theorem gS_bestCost : gmb mS_bestCost = true := by decide +kernel
theorem gS_bestSongAt : gmb mS_bestSongAt = true := by decide +kernel
theorem gS_bestCostFrom : gmb mS_bestCostFrom = true := by decide +kernel
theorem gS_bestOrderCount : gmb mS_bestOrderCount = true := by decide +kernel
theorem gS_savingByUnit : gmb mS_savingByUnit = true := by decide +kernel
theorem gS_encoresWithin : gmb mS_encoresWithin = true := by decide +kernel
theorem gS_beginEdit : gmb mS_beginEdit = true := by decide +kernel
theorem gS_presentTable : gmb mS_presentTable = true := by decide +kernel
theorem gM_in : gmb mM_in = true := by decide +kernel
theorem gM_empty : gmb mM_empty = true := by decide +kernel
theorem gM_at : gmb mM_at = true := by decide +kernel
theorem gM_part : gmb mM_part = true := by decide +kernel
theorem gM_others : gmb mM_others = true := by decide +kernel
theorem gM_append : gmb mM_append = true := by decide +kernel
theorem gM_clearText : gmb mM_clearText = true := by decide +kernel
theorem gM_here : gmb mM_here = true := by decide +kernel
theorem gM_isNumber : gmb mM_isNumber = true := by decide +kernel
theorem gM_partIs : gmb mM_partIs = true := by decide +kernel
theorem gM_statement : gmb mM_statement = true := by decide +kernel
theorem gM_readAll : gmb mM_readAll = true := by decide +kernel
theorem gM_firstError : gmb mM_firstError = true := by decide +kernel
theorem gM_configure : gmb mM_configure = true := by decide +kernel
theorem gM_keeps : gmb mM_keeps = true := by decide +kernel
theorem gM_undo : gmb mM_undo = true := by decide +kernel
theorem gM_isSong : gmb mM_isSong = true := by decide +kernel
theorem gM_isPlayer : gmb mM_isPlayer = true := by decide +kernel
theorem gM_isKind : gmb mM_isKind = true := by decide +kernel
theorem gM_setPart : gmb mM_setPart = true := by decide +kernel
theorem gM_removePart : gmb mM_removePart = true := by decide +kernel
theorem gM_setUnits : gmb mM_setUnits = true := by decide +kernel
theorem gM_isPosition : gmb mM_isPosition = true := by decide +kernel
theorem gM_pin : gmb mM_pin = true := by decide +kernel
theorem gM_unpin : gmb mM_unpin = true := by decide +kernel
theorem gM_setEncore : gmb mM_setEncore = true := by decide +kernel
theorem gM_moveSong : gmb mM_moveSong = true := by decide +kernel
theorem gM_adoptBest : gmb mM_adoptBest = true := by decide +kernel
theorem gM_songCount : gmb mM_songCount = true := by decide +kernel
theorem gM_ofPart : gmb mM_ofPart = true := by decide +kernel
theorem gM_kindOf : gmb mM_kindOf = true := by decide +kernel
theorem gM_tuningOf : gmb mM_tuningOf = true := by decide +kernel
theorem gM_spareUnits : gmb mM_spareUnits = true := by decide +kernel
theorem gM_change : gmb mM_change = true := by decide +kernel
theorem gM_isFar : gmb mM_isFar = true := by decide +kernel
theorem gM_costOf : gmb mM_costOf = true := by decide +kernel
theorem gM_between : gmb mM_between = true := by decide +kernel
theorem gM_areTwo : gmb mM_areTwo = true := by decide +kernel
theorem gM_changeOf : gmb mM_changeOf = true := by decide +kernel
theorem gM_changeCost : gmb mM_changeCost = true := by decide +kernel
theorem gM_changeoverCost : gmb mM_changeoverCost = true := by decide +kernel
theorem gM_songAt : gmb mM_songAt = true := by decide +kernel
theorem gM_step : gmb mM_step = true := by decide +kernel
theorem gM_orderCost : gmb mM_orderCost = true := by decide +kernel
theorem gM_all : gmb mM_all = true := by decide +kernel
theorem gM_ones : gmb mM_ones = true := by decide +kernel
theorem gM_mayCome : gmb mM_mayCome = true := by decide +kernel
theorem gM_isAllowed : gmb mM_isAllowed = true := by decide +kernel
theorem gM_dearestChangeover : gmb mM_dearestChangeover = true := by decide +kernel
theorem gM_layBest : gmb mM_layBest = true := by decide +kernel
theorem gM_takes : gmb mM_takes = true := by decide +kernel
theorem gM_costFrom : gmb mM_costFrom = true := by decide +kernel
theorem gM_layOrder : gmb mM_layOrder = true := by decide +kernel
theorem gM_bestCost : gmb mM_bestCost = true := by decide +kernel
theorem gM_bestSongAt : gmb mM_bestSongAt = true := by decide +kernel
theorem gM_bestCostFrom : gmb mM_bestCostFrom = true := by decide +kernel
theorem gM_bestOrderCount : gmb mM_bestOrderCount = true := by decide +kernel
theorem gM_savingByUnit : gmb mM_savingByUnit = true := by decide +kernel
theorem gM_encoresWithin : gmb mM_encoresWithin = true := by decide +kernel
theorem gI_bitCount : gmb mI_bitCount = true := by decide +kernel
def GM (M : MR) : Prop := gmb M = true ∧ ∀ q ∈ mI M, decode (mC M) q.1 = .ok q.2
theorem kC_makeEmpty : GM mC_makeEmpty := ⟨gC_makeEmpty, iC_makeEmpty_ok⟩
theorem kC_copyFrom : GM mC_copyFrom := ⟨gC_copyFrom, iC_copyFrom_ok⟩
theorem kC_addSong : GM mC_addSong := ⟨gC_addSong, iC_addSong_ok⟩
theorem kC_addPlayer : GM mC_addPlayer := ⟨gC_addPlayer, iC_addPlayer_ok⟩
theorem kC_addKind : GM mC_addKind := ⟨gC_addKind, iC_addKind_ok⟩
theorem kC_addPart : GM mC_addPart := ⟨gC_addPart, iC_addPart_ok⟩
theorem kC_addEncore : GM mC_addEncore := ⟨gC_addEncore, iC_addEncore_ok⟩
theorem kC_hasAllSorts : GM mC_hasAllSorts := ⟨gC_hasAllSorts, iC_hasAllSorts_ok⟩
theorem kC_isSong : GM mC_isSong := ⟨gC_isSong, iC_isSong_ok⟩
theorem kC_areTwoSongs : GM mC_areTwoSongs := ⟨gC_areTwoSongs, iC_areTwoSongs_ok⟩
theorem kC_isPlayer : GM mC_isPlayer := ⟨gC_isPlayer, iC_isPlayer_ok⟩
theorem kC_isKind : GM mC_isKind := ⟨gC_isKind, iC_isKind_ok⟩
theorem kC_isSide : GM mC_isSide := ⟨gC_isSide, iC_isSide_ok⟩
theorem kC_isPart : GM mC_isPart := ⟨gC_isPart, iC_isPart_ok⟩
theorem kC_isEncore : GM mC_isEncore := ⟨gC_isEncore, iC_isEncore_ok⟩
theorem kC_kindPlayed : GM mC_kindPlayed := ⟨gC_kindPlayed, iC_kindPlayed_ok⟩
theorem kC_tuningPlayed : GM mC_tuningPlayed := ⟨gC_tuningPlayed, iC_tuningPlayed_ok⟩
theorem kC_givePart : GM mC_givePart := ⟨gC_givePart, iC_givePart_ok⟩
theorem kC_playersOn : GM mC_playersOn := ⟨gC_playersOn, iC_playersOn_ok⟩
theorem kC_mostPlayersOn : GM mC_mostPlayersOn := ⟨gC_mostPlayersOn, iC_mostPlayersOn_ok⟩
theorem kC_hasUnitFor : GM mC_hasUnitFor := ⟨gC_hasUnitFor, iC_hasUnitFor_ok⟩
theorem kC_change : GM mC_change := ⟨gC_change, iC_change_ok⟩
theorem kC_costOfChange : GM mC_costOfChange := ⟨gC_costOfChange, iC_costOfChange_ok⟩
theorem kC_costOfSide : GM mC_costOfSide := ⟨gC_costOfSide, iC_costOfSide_ok⟩
theorem kC_costOfChangeover : GM mC_costOfChangeover := ⟨gC_costOfChangeover, iC_costOfChangeover_ok⟩
theorem kC_costAfter : GM mC_costAfter := ⟨gC_costAfter, iC_costAfter_ok⟩
theorem kC_shiftOrder : GM mC_shiftOrder := ⟨gC_shiftOrder, iC_shiftOrder_ok⟩
theorem kC_songPinnedAt : GM mC_songPinnedAt := ⟨gC_songPinnedAt, iC_songPinnedAt_ok⟩
theorem kC_pinCount : GM mC_pinCount := ⟨gC_pinCount, iC_pinCount_ok⟩
theorem kC_mayStandAt : GM mC_mayStandAt := ⟨gC_mayStandAt, iC_mayStandAt_ok⟩
theorem kC_playingTime : GM mC_playingTime := ⟨gC_playingTime, iC_playingTime_ok⟩
theorem kT_add : GM mT_add := ⟨gT_add, iT_add_ok⟩
theorem kT_readInto : GM mT_readInto := ⟨gT_readInto, iT_readInto_ok⟩
theorem kT_readNumbers : GM mT_readNumbers := ⟨gT_readNumbers, iT_readNumbers_ok⟩
theorem kT_state : GM mT_state := ⟨gT_state, iT_state_ok⟩
theorem kH_forget : GM mH_forget := ⟨gH_forget, iH_forget_ok⟩
theorem kH_keep : GM mH_keep := ⟨gH_keep, iH_keep_ok⟩
theorem kH_takeBack : GM mH_takeBack := ⟨gH_takeBack, iH_takeBack_ok⟩
theorem kO_load : GM mO_load := ⟨gO_load, iO_load_ok⟩
theorem kO_solve : GM mO_solve := ⟨gO_solve, iO_solve_ok⟩
theorem kO_settle : GM mO_settle := ⟨gO_settle, iO_settle_ok⟩
theorem kO_costThrough : GM mO_costThrough := ⟨gO_costThrough, iO_costThrough_ok⟩
theorem kO_cellOf : GM mO_cellOf := ⟨gO_cellOf, iO_cellOf_ok⟩
theorem kO_leastCost : GM mO_leastCost := ⟨gO_leastCost, iO_leastCost_ok⟩
theorem kO_leastCostOrders : GM mO_leastCostOrders := ⟨gO_leastCostOrders, iO_leastCostOrders_ok⟩
theorem kO_leastCostFrom : GM mO_leastCostFrom := ⟨gO_leastCostFrom, iO_leastCostFrom_ok⟩
theorem kO_bestSong : GM mO_bestSong := ⟨gO_bestSong, iO_bestSong_ok⟩
theorem kO_copyBestOrder : GM mO_copyBestOrder := ⟨gO_copyBestOrder, iO_copyBestOrder_ok⟩
theorem kO_bestNext : GM mO_bestNext := ⟨gO_bestNext, iO_bestNext_ok⟩
theorem kS_append : GM mS_append := ⟨gS_append, iS_append_ok⟩
theorem kS_clearText : GM mS_clearText := ⟨gS_clearText, iS_clearText_ok⟩
theorem kS_firstError : GM mS_firstError := ⟨gS_firstError, iS_firstError_ok⟩
theorem kS_configure : GM mS_configure := ⟨gS_configure, iS_configure_ok⟩
theorem kS_setPart : GM mS_setPart := ⟨gS_setPart, iS_setPart_ok⟩
theorem kS_removePart : GM mS_removePart := ⟨gS_removePart, iS_removePart_ok⟩
theorem kS_setUnits : GM mS_setUnits := ⟨gS_setUnits, iS_setUnits_ok⟩
theorem kS_pin : GM mS_pin := ⟨gS_pin, iS_pin_ok⟩
theorem kS_unpin : GM mS_unpin := ⟨gS_unpin, iS_unpin_ok⟩
theorem kS_setEncore : GM mS_setEncore := ⟨gS_setEncore, iS_setEncore_ok⟩
theorem kS_moveSong : GM mS_moveSong := ⟨gS_moveSong, iS_moveSong_ok⟩
theorem kS_adoptBest : GM mS_adoptBest := ⟨gS_adoptBest, iS_adoptBest_ok⟩
theorem kS_undo : GM mS_undo := ⟨gS_undo, iS_undo_ok⟩
theorem kS_songCount : GM mS_songCount := ⟨gS_songCount, iS_songCount_ok⟩
theorem kS_kindOf : GM mS_kindOf := ⟨gS_kindOf, iS_kindOf_ok⟩
theorem kS_tuningOf : GM mS_tuningOf := ⟨gS_tuningOf, iS_tuningOf_ok⟩
theorem kS_spareUnits : GM mS_spareUnits := ⟨gS_spareUnits, iS_spareUnits_ok⟩
theorem kS_changeOf : GM mS_changeOf := ⟨gS_changeOf, iS_changeOf_ok⟩
theorem kS_changeCost : GM mS_changeCost := ⟨gS_changeCost, iS_changeCost_ok⟩
theorem kS_changeoverCost : GM mS_changeoverCost := ⟨gS_changeoverCost, iS_changeoverCost_ok⟩
theorem kS_songAt : GM mS_songAt := ⟨gS_songAt, iS_songAt_ok⟩
theorem kS_orderCost : GM mS_orderCost := ⟨gS_orderCost, iS_orderCost_ok⟩
theorem kS_isAllowed : GM mS_isAllowed := ⟨gS_isAllowed, iS_isAllowed_ok⟩
theorem kS_dearestChangeover : GM mS_dearestChangeover := ⟨gS_dearestChangeover, iS_dearestChangeover_ok⟩
theorem kS_bestCost : GM mS_bestCost := ⟨gS_bestCost, iS_bestCost_ok⟩
theorem kS_bestSongAt : GM mS_bestSongAt := ⟨gS_bestSongAt, iS_bestSongAt_ok⟩
theorem kS_bestCostFrom : GM mS_bestCostFrom := ⟨gS_bestCostFrom, iS_bestCostFrom_ok⟩
theorem kS_bestOrderCount : GM mS_bestOrderCount := ⟨gS_bestOrderCount, iS_bestOrderCount_ok⟩
theorem kS_savingByUnit : GM mS_savingByUnit := ⟨gS_savingByUnit, iS_savingByUnit_ok⟩
theorem kS_encoresWithin : GM mS_encoresWithin := ⟨gS_encoresWithin, iS_encoresWithin_ok⟩
theorem kS_beginEdit : GM mS_beginEdit := ⟨gS_beginEdit, iS_beginEdit_ok⟩
theorem kS_presentTable : GM mS_presentTable := ⟨gS_presentTable, iS_presentTable_ok⟩
theorem kM_in : GM mM_in := ⟨gM_in, iM_in_ok⟩
theorem kM_empty : GM mM_empty := ⟨gM_empty, iM_empty_ok⟩
theorem kM_at : GM mM_at := ⟨gM_at, iM_at_ok⟩
theorem kM_part : GM mM_part := ⟨gM_part, iM_part_ok⟩
theorem kM_others : GM mM_others := ⟨gM_others, iM_others_ok⟩
theorem kM_append : GM mM_append := ⟨gM_append, iM_append_ok⟩
theorem kM_clearText : GM mM_clearText := ⟨gM_clearText, iM_clearText_ok⟩
theorem kM_here : GM mM_here := ⟨gM_here, iM_here_ok⟩
theorem kM_isNumber : GM mM_isNumber := ⟨gM_isNumber, iM_isNumber_ok⟩
theorem kM_partIs : GM mM_partIs := ⟨gM_partIs, iM_partIs_ok⟩
theorem kM_statement : GM mM_statement := ⟨gM_statement, iM_statement_ok⟩
theorem kM_readAll : GM mM_readAll := ⟨gM_readAll, iM_readAll_ok⟩
theorem kM_firstError : GM mM_firstError := ⟨gM_firstError, iM_firstError_ok⟩
theorem kM_configure : GM mM_configure := ⟨gM_configure, iM_configure_ok⟩
theorem kM_keeps : GM mM_keeps := ⟨gM_keeps, iM_keeps_ok⟩
theorem kM_undo : GM mM_undo := ⟨gM_undo, iM_undo_ok⟩
theorem kM_isSong : GM mM_isSong := ⟨gM_isSong, iM_isSong_ok⟩
theorem kM_isPlayer : GM mM_isPlayer := ⟨gM_isPlayer, iM_isPlayer_ok⟩
theorem kM_isKind : GM mM_isKind := ⟨gM_isKind, iM_isKind_ok⟩
theorem kM_setPart : GM mM_setPart := ⟨gM_setPart, iM_setPart_ok⟩
theorem kM_removePart : GM mM_removePart := ⟨gM_removePart, iM_removePart_ok⟩
theorem kM_setUnits : GM mM_setUnits := ⟨gM_setUnits, iM_setUnits_ok⟩
theorem kM_isPosition : GM mM_isPosition := ⟨gM_isPosition, iM_isPosition_ok⟩
theorem kM_pin : GM mM_pin := ⟨gM_pin, iM_pin_ok⟩
theorem kM_unpin : GM mM_unpin := ⟨gM_unpin, iM_unpin_ok⟩
theorem kM_setEncore : GM mM_setEncore := ⟨gM_setEncore, iM_setEncore_ok⟩
theorem kM_moveSong : GM mM_moveSong := ⟨gM_moveSong, iM_moveSong_ok⟩
theorem kM_adoptBest : GM mM_adoptBest := ⟨gM_adoptBest, iM_adoptBest_ok⟩
theorem kM_songCount : GM mM_songCount := ⟨gM_songCount, iM_songCount_ok⟩
theorem kM_ofPart : GM mM_ofPart := ⟨gM_ofPart, iM_ofPart_ok⟩
theorem kM_kindOf : GM mM_kindOf := ⟨gM_kindOf, iM_kindOf_ok⟩
theorem kM_tuningOf : GM mM_tuningOf := ⟨gM_tuningOf, iM_tuningOf_ok⟩
theorem kM_spareUnits : GM mM_spareUnits := ⟨gM_spareUnits, iM_spareUnits_ok⟩
theorem kM_change : GM mM_change := ⟨gM_change, iM_change_ok⟩
theorem kM_isFar : GM mM_isFar := ⟨gM_isFar, iM_isFar_ok⟩
theorem kM_costOf : GM mM_costOf := ⟨gM_costOf, iM_costOf_ok⟩
theorem kM_between : GM mM_between := ⟨gM_between, iM_between_ok⟩
theorem kM_areTwo : GM mM_areTwo := ⟨gM_areTwo, iM_areTwo_ok⟩
theorem kM_changeOf : GM mM_changeOf := ⟨gM_changeOf, iM_changeOf_ok⟩
theorem kM_changeCost : GM mM_changeCost := ⟨gM_changeCost, iM_changeCost_ok⟩
theorem kM_changeoverCost : GM mM_changeoverCost := ⟨gM_changeoverCost, iM_changeoverCost_ok⟩
theorem kM_songAt : GM mM_songAt := ⟨gM_songAt, iM_songAt_ok⟩
theorem kM_step : GM mM_step := ⟨gM_step, iM_step_ok⟩
theorem kM_orderCost : GM mM_orderCost := ⟨gM_orderCost, iM_orderCost_ok⟩
theorem kM_all : GM mM_all := ⟨gM_all, iM_all_ok⟩
theorem kM_ones : GM mM_ones := ⟨gM_ones, iM_ones_ok⟩
theorem kM_mayCome : GM mM_mayCome := ⟨gM_mayCome, iM_mayCome_ok⟩
theorem kM_isAllowed : GM mM_isAllowed := ⟨gM_isAllowed, iM_isAllowed_ok⟩
theorem kM_dearestChangeover : GM mM_dearestChangeover := ⟨gM_dearestChangeover, iM_dearestChangeover_ok⟩
theorem kM_layBest : GM mM_layBest := ⟨gM_layBest, iM_layBest_ok⟩
theorem kM_takes : GM mM_takes := ⟨gM_takes, iM_takes_ok⟩
theorem kM_costFrom : GM mM_costFrom := ⟨gM_costFrom, iM_costFrom_ok⟩
theorem kM_layOrder : GM mM_layOrder := ⟨gM_layOrder, iM_layOrder_ok⟩
theorem kM_bestCost : GM mM_bestCost := ⟨gM_bestCost, iM_bestCost_ok⟩
theorem kM_bestSongAt : GM mM_bestSongAt := ⟨gM_bestSongAt, iM_bestSongAt_ok⟩
theorem kM_bestCostFrom : GM mM_bestCostFrom := ⟨gM_bestCostFrom, iM_bestCostFrom_ok⟩
theorem kM_bestOrderCount : GM mM_bestOrderCount := ⟨gM_bestOrderCount, iM_bestOrderCount_ok⟩
theorem kM_savingByUnit : GM mM_savingByUnit := ⟨gM_savingByUnit, iM_savingByUnit_ok⟩
theorem kM_encoresWithin : GM mM_encoresWithin := ⟨gM_encoresWithin, iM_encoresWithin_ok⟩
theorem kI_bitCount : GM mI_bitCount := ⟨gI_bitCount, iI_bitCount_ok⟩
theorem cl0_55 : lnk 0 (55, mC_isSide, [244, 247, 34, 245, 246]) = true := by decide +kernel
theorem cl0_59 : lnk 0 (59, mC_isPart, [256, 259, 34, 257, 258]) = true := by decide +kernel
theorem cl0_63 : lnk 0 (63, mC_hasUnitFor, [272, 275, 34, 273, 274]) = true := by decide +kernel
theorem cl0_67 : lnk 0 (67, mC_givePart, [284, 287, 34, 285, 286]) = true := by decide +kernel
theorem cl0_71 : lnk 0 (71, mC_isSong, [260, 263, 34, 261, 262]) = true := by decide +kernel
theorem cl0_74 : lnk 0 (74, mC_isPlayer, [264, 267, 34, 265, 266]) = true := by decide +kernel
theorem cl0_77 : lnk 0 (77, mC_isKind, [268, 271, 34, 269, 270]) = true := by decide +kernel
theorem cl0_80 : lnk 0 (80, mC_playersOn, [280, 283, 34, 281, 282]) = true := by decide +kernel
theorem cl0_89 : lnk 0 (89, mC_kindPlayed, [276, 279, 34, 277, 278]) = true := by decide +kernel
theorem cl0_92 : lnk 0 (92, mC_tuningPlayed, [442, 445, 34, 443, 444]) = true := by decide +kernel
theorem cl0_95 : lnk 0 (95, mC_change, [438, 441, 34, 439, 440]) = true := by decide +kernel
theorem cl0_99 : lnk 0 (99, mC_costOfSide, [446, 449, 34, 447, 448]) = true := by decide +kernel
theorem cl0_106 : lnk 0 (106, mC_costOfChange, [434, 437, 34, 435, 436]) = true := by decide +kernel
theorem cl0_109 : lnk 0 (109, mC_costOfChangeover, [551, 433, 34, 431, 432]) = true := by decide +kernel
theorem cl0_112 : lnk 0 (112, mI_bitCount, [457, 459, 44, 458]) = true := by decide +kernel
theorem cl0_117 : lnk 0 (117, mC_isEncore, [463, 409, 34, 407, 408]) = true := by decide +kernel
theorem cal_l0 : ∀ q ∈ calT 0, lnk 0 q = true := List.forall_mem_cons.mpr ⟨cl0_55, List.forall_mem_cons.mpr ⟨cl0_59, List.forall_mem_cons.mpr ⟨cl0_63, List.forall_mem_cons.mpr ⟨cl0_67, List.forall_mem_cons.mpr ⟨cl0_71, List.forall_mem_cons.mpr ⟨cl0_74, List.forall_mem_cons.mpr ⟨cl0_77, List.forall_mem_cons.mpr ⟨cl0_80, List.forall_mem_cons.mpr ⟨cl0_89, List.forall_mem_cons.mpr ⟨cl0_92, List.forall_mem_cons.mpr ⟨cl0_95, List.forall_mem_cons.mpr ⟨cl0_99, List.forall_mem_cons.mpr ⟨cl0_106, List.forall_mem_cons.mpr ⟨cl0_109, List.forall_mem_cons.mpr ⟨cl0_112, List.forall_mem_cons.mpr ⟨cl0_117, fun _ h => absurd h List.not_mem_nil⟩⟩⟩⟩⟩⟩⟩⟩⟩⟩⟩⟩⟩⟩⟩⟩
theorem cal_g0 : ∀ q ∈ calT 0, GM q.2.1 := List.forall_mem_cons.mpr ⟨kC_isSide, List.forall_mem_cons.mpr ⟨kC_isPart, List.forall_mem_cons.mpr ⟨kC_hasUnitFor, List.forall_mem_cons.mpr ⟨kC_givePart, List.forall_mem_cons.mpr ⟨kC_isSong, List.forall_mem_cons.mpr ⟨kC_isPlayer, List.forall_mem_cons.mpr ⟨kC_isKind, List.forall_mem_cons.mpr ⟨kC_playersOn, List.forall_mem_cons.mpr ⟨kC_kindPlayed, List.forall_mem_cons.mpr ⟨kC_tuningPlayed, List.forall_mem_cons.mpr ⟨kC_change, List.forall_mem_cons.mpr ⟨kC_costOfSide, List.forall_mem_cons.mpr ⟨kC_costOfChange, List.forall_mem_cons.mpr ⟨kC_costOfChangeover, List.forall_mem_cons.mpr ⟨kI_bitCount, List.forall_mem_cons.mpr ⟨kC_isEncore, fun _ h => absurd h List.not_mem_nil⟩⟩⟩⟩⟩⟩⟩⟩⟩⟩⟩⟩⟩⟩⟩⟩
theorem cl1_26 : lnk 1 (26, mC_makeEmpty, [224, 227, 34, 225, 226]) = true := by decide +kernel
theorem cl1_31 : lnk 1 (31, mT_readNumbers, [228, 231, 33, 230, 0]) = true := by decide +kernel
theorem cl1_35 : lnk 1 (35, mT_state, [232, 235, 33, 234, 1]) = true := by decide +kernel
theorem cl1_39 : lnk 1 (39, mC_addSong, [236, 239, 34, 237, 238]) = true := by decide +kernel
theorem cl1_43 : lnk 1 (43, mC_addPlayer, [240, 243, 34, 241, 242]) = true := by decide +kernel
theorem cl1_46 : lnk 1 (46, mC_addKind, [248, 251, 34, 249, 250]) = true := by decide +kernel
theorem cl1_49 : lnk 1 (49, mC_addPart, [252, 255, 34, 253, 254]) = true := by decide +kernel
theorem cl1_53 : lnk 1 (53, mC_addEncore, [288, 291, 34, 289, 290]) = true := by decide +kernel
theorem cal_l1 : ∀ q ∈ calT 1, lnk 1 q = true := List.forall_mem_cons.mpr ⟨cl1_26, List.forall_mem_cons.mpr ⟨cl1_31, List.forall_mem_cons.mpr ⟨cl1_35, List.forall_mem_cons.mpr ⟨cl1_39, List.forall_mem_cons.mpr ⟨cl1_43, List.forall_mem_cons.mpr ⟨cl1_46, List.forall_mem_cons.mpr ⟨cl1_49, List.forall_mem_cons.mpr ⟨cl1_53, fun _ h => absurd h List.not_mem_nil⟩⟩⟩⟩⟩⟩⟩⟩
theorem cal_g1 : ∀ q ∈ calT 1, GM q.2.1 := List.forall_mem_cons.mpr ⟨kC_makeEmpty, List.forall_mem_cons.mpr ⟨kT_readNumbers, List.forall_mem_cons.mpr ⟨kT_state, List.forall_mem_cons.mpr ⟨kC_addSong, List.forall_mem_cons.mpr ⟨kC_addPlayer, List.forall_mem_cons.mpr ⟨kC_addKind, List.forall_mem_cons.mpr ⟨kC_addPart, List.forall_mem_cons.mpr ⟨kC_addEncore, fun _ h => absurd h List.not_mem_nil⟩⟩⟩⟩⟩⟩⟩⟩
theorem cl2_25 : lnk 2 (25, mC_copyFrom, [357, 295, 34, 293, 294]) = true := by decide +kernel
theorem cal_l2 : ∀ q ∈ calT 2, lnk 2 q = true := List.forall_mem_cons.mpr ⟨cl2_25, fun _ h => absurd h List.not_mem_nil⟩
theorem cal_g2 : ∀ q ∈ calT 2, GM q.2.1 := List.forall_mem_cons.mpr ⟨kC_copyFrom, fun _ h => absurd h List.not_mem_nil⟩
theorem cl3_32 : lnk 3 (32, mC_costOfChangeover, [430, 433, 34, 431, 432]) = true := by decide +kernel
theorem cl3_36 : lnk 3 (36, mC_mayStandAt, [453, 456, 34, 454, 455]) = true := by decide +kernel
theorem cl3_40 : lnk 3 (40, mO_cellOf, [468, 471, 36, 470, 4]) = true := by decide +kernel
theorem cl3_43 : lnk 3 (43, mO_settle, [472, 475, 36, 474, 5]) = true := by decide +kernel
theorem cl3_47 : lnk 3 (47, mO_costThrough, [476, 479, 36, 478, 6]) = true := by decide +kernel
theorem cl3_51 : lnk 3 (51, mI_bitCount, [480, 459, 44, 458]) = true := by decide +kernel
theorem cl3_57 : lnk 3 (57, mO_bestNext, [494, 497, 36, 496, 7]) = true := by decide +kernel
theorem cl3_65 : lnk 3 (65, mO_bestSong, [490, 493, 36, 491, 492]) = true := by decide +kernel
theorem cal_l3 : ∀ q ∈ calT 3, lnk 3 q = true := List.forall_mem_cons.mpr ⟨cl3_32, List.forall_mem_cons.mpr ⟨cl3_36, List.forall_mem_cons.mpr ⟨cl3_40, List.forall_mem_cons.mpr ⟨cl3_43, List.forall_mem_cons.mpr ⟨cl3_47, List.forall_mem_cons.mpr ⟨cl3_51, List.forall_mem_cons.mpr ⟨cl3_57, List.forall_mem_cons.mpr ⟨cl3_65, fun _ h => absurd h List.not_mem_nil⟩⟩⟩⟩⟩⟩⟩⟩
theorem cal_g3 : ∀ q ∈ calT 3, GM q.2.1 := List.forall_mem_cons.mpr ⟨kC_costOfChangeover, List.forall_mem_cons.mpr ⟨kC_mayStandAt, List.forall_mem_cons.mpr ⟨kO_cellOf, List.forall_mem_cons.mpr ⟨kO_settle, List.forall_mem_cons.mpr ⟨kO_costThrough, List.forall_mem_cons.mpr ⟨kI_bitCount, List.forall_mem_cons.mpr ⟨kO_bestNext, List.forall_mem_cons.mpr ⟨kO_bestSong, fun _ h => absurd h List.not_mem_nil⟩⟩⟩⟩⟩⟩⟩⟩
theorem cl4_56 : lnk 4 (56, mT_add, [216, 219, 33, 217, 218]) = true := by decide +kernel
theorem cl4_60 : lnk 4 (60, mT_readInto, [220, 223, 33, 221, 222]) = true := by decide +kernel
theorem cl4_64 : lnk 4 (64, mC_copyFrom, [292, 295, 34, 293, 294]) = true := by decide +kernel
theorem cl4_71 : lnk 4 (71, mC_hasAllSorts, [335, 338, 34, 336, 337]) = true := by decide +kernel
theorem cl4_75 : lnk 4 (75, mH_forget, [339, 342, 35, 340, 341]) = true := by decide +kernel
theorem cl4_81 : lnk 4 (81, mC_isPart, [347, 259, 34, 257, 258]) = true := by decide +kernel
theorem cl4_85 : lnk 4 (85, mC_hasUnitFor, [348, 275, 34, 273, 274]) = true := by decide +kernel
theorem cl4_89 : lnk 4 (89, mS_beginEdit, [349, 352, 32, 351, 2]) = true := by decide +kernel
theorem cl4_92 : lnk 4 (92, mC_givePart, [361, 287, 34, 285, 286]) = true := by decide +kernel
theorem cl4_96 : lnk 4 (96, mC_playersOn, [362, 283, 34, 281, 282]) = true := by decide +kernel
theorem cl4_100 : lnk 4 (100, mS_kindOf, [367, 370, 32, 368, 369]) = true := by decide +kernel
theorem cl4_103 : lnk 4 (103, mC_isKind, [378, 271, 34, 269, 270]) = true := by decide +kernel
theorem cl4_107 : lnk 4 (107, mC_mostPlayersOn, [379, 382, 34, 380, 381]) = true := by decide +kernel
theorem cl4_115 : lnk 4 (115, mC_isSong, [371, 263, 34, 261, 262]) = true := by decide +kernel
theorem cl4_118 : lnk 4 (118, mC_songPinnedAt, [390, 393, 34, 391, 392]) = true := by decide +kernel
theorem cl4_124 : lnk 4 (124, mC_pinCount, [394, 397, 34, 395, 396]) = true := by decide +kernel
theorem cl4_127 : lnk 4 (127, mC_isEncore, [406, 409, 34, 407, 408]) = true := by decide +kernel
theorem cl4_133 : lnk 4 (133, mC_shiftOrder, [414, 417, 34, 415, 416]) = true := by decide +kernel
theorem cl4_140 : lnk 4 (140, mS_presentTable, [422, 425, 32, 424, 3]) = true := by decide +kernel
theorem cl4_144 : lnk 4 (144, mO_leastCost, [481, 484, 36, 482, 483]) = true := by decide +kernel
theorem cl4_147 : lnk 4 (147, mO_copyBestOrder, [485, 488, 36, 486, 487]) = true := by decide +kernel
theorem cl4_154 : lnk 4 (154, mH_takeBack, [502, 505, 35, 503, 504]) = true := by decide +kernel
theorem cl4_157 : lnk 4 (157, mC_isPlayer, [372, 267, 34, 265, 266]) = true := by decide +kernel
theorem cl4_160 : lnk 4 (160, mC_kindPlayed, [373, 279, 34, 277, 278]) = true := by decide +kernel
theorem cl4_163 : lnk 4 (163, mC_tuningPlayed, [515, 445, 34, 443, 444]) = true := by decide +kernel
theorem cl4_166 : lnk 4 (166, mC_areTwoSongs, [524, 527, 34, 525, 526]) = true := by decide +kernel
theorem cl4_170 : lnk 4 (170, mC_change, [528, 441, 34, 439, 440]) = true := by decide +kernel
theorem cl4_174 : lnk 4 (174, mC_costOfChange, [533, 437, 34, 435, 436]) = true := by decide +kernel
theorem cl4_177 : lnk 4 (177, mC_costOfChangeover, [538, 433, 34, 431, 432]) = true := by decide +kernel
theorem cl4_180 : lnk 4 (180, mC_costAfter, [547, 550, 34, 548, 549]) = true := by decide +kernel
theorem cl4_183 : lnk 4 (183, mC_mayStandAt, [556, 456, 34, 454, 455]) = true := by decide +kernel
theorem cl4_186 : lnk 4 (186, mO_bestSong, [569, 493, 36, 491, 492]) = true := by decide +kernel
theorem cl4_189 : lnk 4 (189, mO_leastCostFrom, [574, 577, 36, 575, 576]) = true := by decide +kernel
theorem cl4_192 : lnk 4 (192, mO_leastCostOrders, [582, 585, 36, 583, 584]) = true := by decide +kernel
theorem cl4_195 : lnk 4 (195, mO_load, [426, 429, 36, 427, 428]) = true := by decide +kernel
theorem cl4_198 : lnk 4 (198, mO_solve, [464, 467, 36, 465, 466]) = true := by decide +kernel
theorem cl4_201 : lnk 4 (201, mC_playingTime, [594, 597, 34, 595, 596]) = true := by decide +kernel
theorem cl4_204 : lnk 4 (204, mI_bitCount, [598, 459, 44, 458]) = true := by decide +kernel
theorem cl4_209 : lnk 4 (209, mH_keep, [353, 356, 35, 354, 355]) = true := by decide +kernel
theorem cal_l4 : ∀ q ∈ calT 4, lnk 4 q = true := List.forall_mem_cons.mpr ⟨cl4_56, List.forall_mem_cons.mpr ⟨cl4_60, List.forall_mem_cons.mpr ⟨cl4_64, List.forall_mem_cons.mpr ⟨cl4_71, List.forall_mem_cons.mpr ⟨cl4_75, List.forall_mem_cons.mpr ⟨cl4_81, List.forall_mem_cons.mpr ⟨cl4_85, List.forall_mem_cons.mpr ⟨cl4_89, List.forall_mem_cons.mpr ⟨cl4_92, List.forall_mem_cons.mpr ⟨cl4_96, List.forall_mem_cons.mpr ⟨cl4_100, List.forall_mem_cons.mpr ⟨cl4_103, List.forall_mem_cons.mpr ⟨cl4_107, List.forall_mem_cons.mpr ⟨cl4_115, List.forall_mem_cons.mpr ⟨cl4_118, List.forall_mem_cons.mpr ⟨cl4_124, List.forall_mem_cons.mpr ⟨cl4_127, List.forall_mem_cons.mpr ⟨cl4_133, List.forall_mem_cons.mpr ⟨cl4_140, List.forall_mem_cons.mpr ⟨cl4_144, List.forall_mem_cons.mpr ⟨cl4_147, List.forall_mem_cons.mpr ⟨cl4_154, List.forall_mem_cons.mpr ⟨cl4_157, List.forall_mem_cons.mpr ⟨cl4_160, List.forall_mem_cons.mpr ⟨cl4_163, List.forall_mem_cons.mpr ⟨cl4_166, List.forall_mem_cons.mpr ⟨cl4_170, List.forall_mem_cons.mpr ⟨cl4_174, List.forall_mem_cons.mpr ⟨cl4_177, List.forall_mem_cons.mpr ⟨cl4_180, List.forall_mem_cons.mpr ⟨cl4_183, List.forall_mem_cons.mpr ⟨cl4_186, List.forall_mem_cons.mpr ⟨cl4_189, List.forall_mem_cons.mpr ⟨cl4_192, List.forall_mem_cons.mpr ⟨cl4_195, List.forall_mem_cons.mpr ⟨cl4_198, List.forall_mem_cons.mpr ⟨cl4_201, List.forall_mem_cons.mpr ⟨cl4_204, List.forall_mem_cons.mpr ⟨cl4_209, fun _ h => absurd h List.not_mem_nil⟩⟩⟩⟩⟩⟩⟩⟩⟩⟩⟩⟩⟩⟩⟩⟩⟩⟩⟩⟩⟩⟩⟩⟩⟩⟩⟩⟩⟩⟩⟩⟩⟩⟩⟩⟩⟩⟩⟩
theorem cal_g4 : ∀ q ∈ calT 4, GM q.2.1 := List.forall_mem_cons.mpr ⟨kT_add, List.forall_mem_cons.mpr ⟨kT_readInto, List.forall_mem_cons.mpr ⟨kC_copyFrom, List.forall_mem_cons.mpr ⟨kC_hasAllSorts, List.forall_mem_cons.mpr ⟨kH_forget, List.forall_mem_cons.mpr ⟨kC_isPart, List.forall_mem_cons.mpr ⟨kC_hasUnitFor, List.forall_mem_cons.mpr ⟨kS_beginEdit, List.forall_mem_cons.mpr ⟨kC_givePart, List.forall_mem_cons.mpr ⟨kC_playersOn, List.forall_mem_cons.mpr ⟨kS_kindOf, List.forall_mem_cons.mpr ⟨kC_isKind, List.forall_mem_cons.mpr ⟨kC_mostPlayersOn, List.forall_mem_cons.mpr ⟨kC_isSong, List.forall_mem_cons.mpr ⟨kC_songPinnedAt, List.forall_mem_cons.mpr ⟨kC_pinCount, List.forall_mem_cons.mpr ⟨kC_isEncore, List.forall_mem_cons.mpr ⟨kC_shiftOrder, List.forall_mem_cons.mpr ⟨kS_presentTable, List.forall_mem_cons.mpr ⟨kO_leastCost, List.forall_mem_cons.mpr ⟨kO_copyBestOrder, List.forall_mem_cons.mpr ⟨kH_takeBack, List.forall_mem_cons.mpr ⟨kC_isPlayer, List.forall_mem_cons.mpr ⟨kC_kindPlayed, List.forall_mem_cons.mpr ⟨kC_tuningPlayed, List.forall_mem_cons.mpr ⟨kC_areTwoSongs, List.forall_mem_cons.mpr ⟨kC_change, List.forall_mem_cons.mpr ⟨kC_costOfChange, List.forall_mem_cons.mpr ⟨kC_costOfChangeover, List.forall_mem_cons.mpr ⟨kC_costAfter, List.forall_mem_cons.mpr ⟨kC_mayStandAt, List.forall_mem_cons.mpr ⟨kO_bestSong, List.forall_mem_cons.mpr ⟨kO_leastCostFrom, List.forall_mem_cons.mpr ⟨kO_leastCostOrders, List.forall_mem_cons.mpr ⟨kO_load, List.forall_mem_cons.mpr ⟨kO_solve, List.forall_mem_cons.mpr ⟨kC_playingTime, List.forall_mem_cons.mpr ⟨kI_bitCount, List.forall_mem_cons.mpr ⟨kH_keep, fun _ h => absurd h List.not_mem_nil⟩⟩⟩⟩⟩⟩⟩⟩⟩⟩⟩⟩⟩⟩⟩⟩⟩⟩⟩⟩⟩⟩⟩⟩⟩⟩⟩⟩⟩⟩⟩⟩⟩⟩⟩⟩⟩⟩⟩
theorem cl5_34 : lnk 5 (34, mM_empty, [605, 607, 42, 606]) = true := by decide +kernel
theorem cl5_38 : lnk 5 (38, mM_part, [608, 610, 42, 609]) = true := by decide +kernel
theorem cl5_42 : lnk 5 (42, mM_at, [611, 613, 42, 612]) = true := by decide +kernel
theorem cl5_50 : lnk 5 (50, mM_in, [657, 659, 42, 658]) = true := by decide +kernel
theorem cl5_64 : lnk 5 (64, mM_here, [676, 679, 42, 678, 10]) = true := by decide +kernel
theorem cl5_72 : lnk 5 (72, mM_isNumber, [680, 683, 42, 682, 11]) = true := by decide +kernel
theorem cl5_76 : lnk 5 (76, mM_others, [690, 692, 42, 691]) = true := by decide +kernel
theorem cl5_80 : lnk 5 (80, mM_partIs, [686, 689, 42, 688, 12]) = true := by decide +kernel
theorem cl5_84 : lnk 5 (84, mM_statement, [672, 675, 42, 674, 9]) = true := by decide +kernel
theorem cl5_87 : lnk 5 (87, mM_readAll, [668, 671, 42, 670, 8]) = true := by decide +kernel
theorem cl5_93 : lnk 5 (93, mM_isSong, [705, 708, 42, 707, 13]) = true := by decide +kernel
theorem cl5_97 : lnk 5 (97, mM_isPlayer, [709, 712, 42, 711, 14]) = true := by decide +kernel
theorem cl5_100 : lnk 5 (100, mM_isKind, [713, 716, 42, 715, 15]) = true := by decide +kernel
theorem cl5_105 : lnk 5 (105, mM_keeps, [718, 721, 42, 720, 16]) = true := by decide +kernel
theorem cl5_108 : lnk 5 (108, mM_isPosition, [734, 737, 42, 736, 17]) = true := by decide +kernel
theorem cl5_111 : lnk 5 (111, mM_layBest, [754, 757, 42, 756, 18]) = true := by decide +kernel
theorem cl5_116 : lnk 5 (116, mM_layOrder, [794, 797, 42, 796, 27]) = true := by decide +kernel
theorem cl5_120 : lnk 5 (120, mM_ofPart, [806, 809, 42, 808, 28]) = true := by decide +kernel
theorem cl5_124 : lnk 5 (124, mM_change, [766, 769, 42, 768, 21]) = true := by decide +kernel
theorem cl5_128 : lnk 5 (128, mM_isFar, [770, 773, 42, 772, 22]) = true := by decide +kernel
theorem cl5_132 : lnk 5 (132, mM_costOf, [762, 765, 42, 764, 20]) = true := by decide +kernel
theorem cl5_135 : lnk 5 (135, mM_areTwo, [822, 825, 42, 824, 29]) = true := by decide +kernel
theorem cl5_138 : lnk 5 (138, mM_between, [758, 761, 42, 760, 19]) = true := by decide +kernel
theorem cl5_141 : lnk 5 (141, mM_step, [842, 845, 42, 844, 30]) = true := by decide +kernel
theorem cl5_144 : lnk 5 (144, mM_all, [774, 777, 42, 776, 23]) = true := by decide +kernel
theorem cl5_147 : lnk 5 (147, mM_ones, [783, 785, 42, 784]) = true := by decide +kernel
theorem cl5_150 : lnk 5 (150, mM_mayCome, [779, 782, 42, 781, 24]) = true := by decide +kernel
theorem cl5_153 : lnk 5 (153, mM_takes, [786, 789, 42, 788, 25]) = true := by decide +kernel
theorem cl5_157 : lnk 5 (157, mM_costFrom, [790, 793, 42, 792, 26]) = true := by decide +kernel
theorem cal_l5 : ∀ q ∈ calT 5, lnk 5 q = true := List.forall_mem_cons.mpr ⟨cl5_34, List.forall_mem_cons.mpr ⟨cl5_38, List.forall_mem_cons.mpr ⟨cl5_42, List.forall_mem_cons.mpr ⟨cl5_50, List.forall_mem_cons.mpr ⟨cl5_64, List.forall_mem_cons.mpr ⟨cl5_72, List.forall_mem_cons.mpr ⟨cl5_76, List.forall_mem_cons.mpr ⟨cl5_80, List.forall_mem_cons.mpr ⟨cl5_84, List.forall_mem_cons.mpr ⟨cl5_87, List.forall_mem_cons.mpr ⟨cl5_93, List.forall_mem_cons.mpr ⟨cl5_97, List.forall_mem_cons.mpr ⟨cl5_100, List.forall_mem_cons.mpr ⟨cl5_105, List.forall_mem_cons.mpr ⟨cl5_108, List.forall_mem_cons.mpr ⟨cl5_111, List.forall_mem_cons.mpr ⟨cl5_116, List.forall_mem_cons.mpr ⟨cl5_120, List.forall_mem_cons.mpr ⟨cl5_124, List.forall_mem_cons.mpr ⟨cl5_128, List.forall_mem_cons.mpr ⟨cl5_132, List.forall_mem_cons.mpr ⟨cl5_135, List.forall_mem_cons.mpr ⟨cl5_138, List.forall_mem_cons.mpr ⟨cl5_141, List.forall_mem_cons.mpr ⟨cl5_144, List.forall_mem_cons.mpr ⟨cl5_147, List.forall_mem_cons.mpr ⟨cl5_150, List.forall_mem_cons.mpr ⟨cl5_153, List.forall_mem_cons.mpr ⟨cl5_157, fun _ h => absurd h List.not_mem_nil⟩⟩⟩⟩⟩⟩⟩⟩⟩⟩⟩⟩⟩⟩⟩⟩⟩⟩⟩⟩⟩⟩⟩⟩⟩⟩⟩⟩⟩
theorem cal_g5 : ∀ q ∈ calT 5, GM q.2.1 := List.forall_mem_cons.mpr ⟨kM_empty, List.forall_mem_cons.mpr ⟨kM_part, List.forall_mem_cons.mpr ⟨kM_at, List.forall_mem_cons.mpr ⟨kM_in, List.forall_mem_cons.mpr ⟨kM_here, List.forall_mem_cons.mpr ⟨kM_isNumber, List.forall_mem_cons.mpr ⟨kM_others, List.forall_mem_cons.mpr ⟨kM_partIs, List.forall_mem_cons.mpr ⟨kM_statement, List.forall_mem_cons.mpr ⟨kM_readAll, List.forall_mem_cons.mpr ⟨kM_isSong, List.forall_mem_cons.mpr ⟨kM_isPlayer, List.forall_mem_cons.mpr ⟨kM_isKind, List.forall_mem_cons.mpr ⟨kM_keeps, List.forall_mem_cons.mpr ⟨kM_isPosition, List.forall_mem_cons.mpr ⟨kM_layBest, List.forall_mem_cons.mpr ⟨kM_layOrder, List.forall_mem_cons.mpr ⟨kM_ofPart, List.forall_mem_cons.mpr ⟨kM_change, List.forall_mem_cons.mpr ⟨kM_isFar, List.forall_mem_cons.mpr ⟨kM_costOf, List.forall_mem_cons.mpr ⟨kM_areTwo, List.forall_mem_cons.mpr ⟨kM_between, List.forall_mem_cons.mpr ⟨kM_step, List.forall_mem_cons.mpr ⟨kM_all, List.forall_mem_cons.mpr ⟨kM_ones, List.forall_mem_cons.mpr ⟨kM_mayCome, List.forall_mem_cons.mpr ⟨kM_takes, List.forall_mem_cons.mpr ⟨kM_costFrom, fun _ h => absurd h List.not_mem_nil⟩⟩⟩⟩⟩⟩⟩⟩⟩⟩⟩⟩⟩⟩⟩⟩⟩⟩⟩⟩⟩⟩⟩⟩⟩⟩⟩⟩⟩
theorem cal_l6 : ∀ q ∈ calT 6, lnk 6 q = true := fun _ h => absurd h List.not_mem_nil
theorem cal_g6 : ∀ q ∈ calT 6, GM q.2.1 := fun _ h => absurd h List.not_mem_nil
theorem cal_l7 : ∀ q ∈ calT 7, lnk 7 q = true := fun _ h => absurd h List.not_mem_nil
theorem cal_g7 : ∀ q ∈ calT 7, GM q.2.1 := fun _ h => absurd h List.not_mem_nil
end
section
theorem gw_ml (a : String) (i : Nat) (y : MethodName) : goodWord (.methodLink a i y) = true := rfl
theorem gw_cd (y : MethodName) (b : ByteArray) (n : Nat) (r : Option FieldType) : goodWord (.code y b n r) = true := rfl
theorem gw_in (a : String) : goodWord (.initialized a) = true := rfl
theorem gw_st (y : MethodName) : goodWord (.static y) = true := rfl
theorem gw_im (y : MethodName) : goodWord (.instanceMethod y) = true := rfl
theorem gw_se (a : String) (y z : MethodName) : goodWord (.selects a y z) = true := rfl
theorem pn : ∀ c, c < 7 → plainName (cnm c) = true ∧ cnm c ≠ "java/lang/invoke/MethodHandle" ∧ cnm c ≠ "java/lang/invoke/VarHandle" := by decide +kernel
theorem cal_lk : ∀ c, ∀ q ∈ calT c, lnk c q = true
  | 0 => cal_l0
  | 1 => cal_l1
  | 2 => cal_l2
  | 3 => cal_l3
  | 4 => cal_l4
  | 5 => cal_l5
  | 6 => cal_l6
  | n + 7 => fun _ h => absurd h List.not_mem_nil
theorem cal_gm : ∀ c, ∀ q ∈ calT c, GM q.2.1
  | 0 => cal_g0
  | 1 => cal_g1
  | 2 => cal_g2
  | 3 => cal_g3
  | 4 => cal_g4
  | 5 => cal_g5
  | 6 => cal_g6
  | n + 7 => cal_g7
theorem cal_ok {c idx : Nat} {M : MR} {w : List Nat} (h : (idx, M, w) ∈ calT c) : GM M ∧ Cond.methodLink (cnm c) idx (mN M) ∈ gT ∧ Cond.code (mN M) (mC M) (mL M) (mR M) ∈ gT ∧ Cond.initialized (mN M).cls ∈ gT ∧ (mS M = true → Cond.static (mN M) ∈ gT) ∧ (mS M = false → Cond.instanceMethod (mN M) ∈ gT ∧ Cond.selects (mN M).cls (mN M) (mN M) ∈ gT) := by
  have h0 : GM M := cal_gm c (idx, M, w) h
  have h1 : lnk c (idx, M, w) = true := cal_lk c _ h
  unfold lnk at h1
  rw [Bool.and_eq_true, Bool.and_eq_true, Bool.and_eq_true] at h1
  obtain ⟨⟨⟨q1, q2⟩, q3⟩, q4⟩ := h1
  have q1 := of_decide_eq_true q1
  have q2 := of_decide_eq_true q2
  have q3 := of_decide_eq_true q3
  have r1 : Cond.methodLink (cnm c) idx (mN M) ∈ gT := gT_in q1 (gw_ml _ _ _)
  have r2 : Cond.code (mN M) (mC M) (mL M) (mR M) ∈ gT := gT_in q2 (gw_cd _ _ _ _)
  have r3 : Cond.initialized (mN M).cls ∈ gT := gT_in q3 (gw_in _)
  have r4 : mS M = true → Cond.static (mN M) ∈ gT := by
    intro e
    have q4 : cond (mS M) _ _ = true := q4
    rw [e] at q4
    exact gT_in (of_decide_eq_true q4) (gw_st _)
  have r5 : mS M = false → Cond.instanceMethod (mN M) ∈ gT ∧ Cond.selects (mN M).cls (mN M) (mN M) ∈ gT := by
    intro e
    have q4 : cond (mS M) _ _ = true := q4
    rw [e, cond_false, Bool.and_eq_true] at q4
    exact ⟨gT_in (of_decide_eq_true q4.1) (gw_im _), gT_in (of_decide_eq_true q4.2) (gw_se _ _ _)⟩
  exact ⟨h0, r1, r2, r3, r4, r5⟩
theorem cst_ok : ∀ c, (cstT c).all (fun q => decide (lw_tbl[q.2.2]? = some (.constant (cnm c) q.1 q.2.1))) = true
  | 0 => rfl
  | 1 => rfl
  | 2 => rfl
  | 3 => rfl
  | 4 => rfl
  | 5 => by decide +kernel
  | 6 => by decide +kernel
  | n + 7 => rfl
theorem csl_ok : ∀ c, (cslT c).all (fun q => decide (lw_tbl[q.2.2]? = some (.constantLong (cnm c) q.1 q.2.1))) = true
  | 0 => rfl
  | 1 => rfl
  | 2 => rfl
  | 3 => rfl
  | 4 => rfl
  | 5 => by decide +kernel
  | n + 6 => rfl
theorem cst_in {c k w : Nat} {v : Int32} (h : (k, v, w) ∈ cstT c) : Cond.constant (cnm c) k v ∈ gT := gT_in (of_decide_eq_true (List.all_eq_true.mp (cst_ok c) _ h)) rfl
theorem csl_in {c k w : Nat} {v : Int64} (h : (k, v, w) ∈ cslT c) : Cond.constantLong (cnm c) k v ∈ gT := gT_in (of_decide_eq_true (List.all_eq_true.mp (csl_ok c) _ h)) rfl
def mnm : Nat → MethodName
  | 1 => Lib.Math.max.name
  | 2 => Lib.Math.min.name
  | _ => Lib.Math.abs.name
def mok (c : Nat) (q : Nat × Nat × Nat) : Bool := decide (lw_tbl[q.2.2]? = some (.methodLink (cnm c) q.1 (mnm q.2.1)))
theorem mth_all : ∀ c, (mthT c).all (mok c) = true
  | 0 => by decide +kernel
  | 1 => by decide +kernel
  | 2 => by decide +kernel
  | 3 => by decide +kernel
  | n + 4 => rfl
theorem mth_ok {c idx op w : Nat} (h : (idx, op, w) ∈ mthT c) : Cond.methodLink (cnm c) idx (mnm op) ∈ gT := gT_in (of_decide_eq_true (show decide (lw_tbl[w]? = some (.methodLink (cnm c) idx (mnm op))) = true from List.all_eq_true.mp (mth_all c) _ h)) (gw_ml _ _ _)
theorem mt_i : Cond.initialized "java/lang/Math" ∈ gT := gT_in (i := 43) (by decide +kernel) rfl
theorem mt_smin : Cond.static Lib.Math.min.name ∈ gT := gT_in (i := 359) (by decide +kernel) rfl
theorem mt_cmin : Cond.code Lib.Math.min.name Lib.Math.min.code 2 (some .int) ∈ gT := gT_in (i := 360) (by decide +kernel) rfl
theorem mt_smax : Cond.static Lib.Math.max.name ∈ gT := gT_in (i := 384) (by decide +kernel) rfl
theorem mt_cmax : Cond.code Lib.Math.max.name Lib.Math.max.code 2 (some .int) ∈ gT := gT_in (i := 385) (by decide +kernel) rfl
theorem mt_sabs : Cond.static Lib.Math.abs.name ∈ gT := gT_in (i := 451) (by decide +kernel) rfl
theorem mt_cabs : Cond.code Lib.Math.abs.name Lib.Math.abs.code 1 (some .int) ∈ gT := gT_in (i := 452) (by decide +kernel) rfl
theorem acp_l : Cond.methodLink (cnm 0) 49 arraycopyName ∈ gT := gT_in (i := 296) (by decide +kernel) rfl
theorem acp_n : Cond.native arraycopyName ∈ gT := gT_in (i := 298) (by decide +kernel) rfl
theorem acp_s : Cond.static arraycopyName ∈ gT := gT_in (i := 297) (by decide +kernel) rfl
theorem acp_t : Cond.initialized "java/lang/System" ∈ gT := gT_in (i := 41) (by decide +kernel) rfl
theorem oC_ok {j ci nf : Nat} (h : oC j = some (ci, nf)) : ci < 6 ∧ nf = kN ci := by
  unfold oC at h
  split at h <;> first | (cases h; decide) | cases h
theorem tg_g {g j k : Nat} (h : tg g j k = none) : tg 0 j k = none := by
  unfold tg at h ⊢
  split at h <;> first | (cases h; done) | rfl
theorem ty_dec : ∀ j, j < 29 → ∀ k, k < 12 → ∀ o, oC j = some o → k < o.2 → tg 0 j k = none → kF o.1 k = (cond (isZ j k) .boolean .int) ∧ (kT o.1 k).2.2.2 = false := by
  intro j hj k hk o ho
  have h : ∀ j, j < 29 → ∀ k, k < 12 → (match oC j with
    | none => true
    | some o => !(Nat.blt k o.2) || !(tg 0 j k).isNone || (decide (kF o.1 k = (cond (isZ j k) .boolean .int)) && decide ((kT o.1 k).2.2.2 = false))) = true := by decide +kernel
  have h1 := h j hj k hk
  rw [ho] at h1
  intro h2 h3
  have e1 : Nat.blt k o.2 = true := Nat.ble_eq_true_of_le h2
  simp only [e1, h3, Option.isNone_none, Bool.not_true, Bool.false_or, Bool.and_eq_true, decide_eq_true_eq] at h1
  exact h1
theorem oC_lt {j : Nat} {o : Nat × Nat} (h : oC j = some o) : j < 29 := by
  unfold oC at h
  split at h <;> first | decide | cases h
theorem kN_le {ci : Nat} : kN ci ≤ 12 := by
  unfold kN
  split <;> decide
end
section
/-! the small machine inside the great one: worlds -/
def vl (ad : Nat → Nat → Nat) : AV → Value
  | .inl x => .int x
  | .inr (.inl x) => .long x
  | .inr (.inr q) => .ref (ad q.1 q.2)
def em (ad : Nat → Nat → Nat) (q : Nat × AV) : Nat × Value := (q.1, vl ad q.2)
def eN (ad : Nat → Nat → Nat) (ty : Nat → ClassId) (h : HP) (q : Nat × Nat) : va_E := match oC q.2 with
  | some o => .inr (o.1, (List.range o.2).map (fun k => vl ad (fA h q.1 q.2 k)))
  | none => match aC q.2 with
    | some a => .inl (ty a.1, a.2, .inl (h q.1 q.2))
    | none => .inl (ty 3, 5, .inr (.inr (.inr (.inr (fun i => some (ad (i + 2) 0))))))
def wl (ad : Nat → Nat → Nat) (ty : Nat → ClassId) (cs : List (Nat × Nat)) (h : HP) : va_W := cs.map (fun q => (ad q.1 q.2, eN ad ty h q))
def tyL (ty : Nat → ClassId) : List (ClassId × FieldType) := [(ty 0, .int), (ty 1, .char), (ty 2, .boolean), (ty 3, .object RX0)]
def aA (ad : Nat → Nat → Nat) (cs : List (Nat × Nat)) : Nat → Prop := fun x => ∃ q ∈ cs, ad q.1 q.2 = x
theorem isL_cat (ad : Nat → Nat → Nat) (v : AV) : ((vl ad v).category == 2) = isL v := by
  rcases v with x | x | x <;> rfl
theorem lst_map (ad : Nat → Nat → Nat) (lv : List (Nat × AV)) (k : Nat) (v : AV) : (lst lv k v).map (em ad) = (k, vl ad v) :: (lv.map (em ad)).filter (fun q => !(q.1 == k) && !(q.1 + 1 == k && q.2.category == 2)) := by
  unfold lst
  rw [List.map_cons, List.filter_map]
  congr 2
  apply List.filter_congr
  intro q _
  show _ = (!((em ad q).1 == k) && !((em ad q).1 + 1 == k && (em ad q).2.category == 2))
  rw [show (em ad q).2.category = (vl ad q.2).category from rfl, isL_cat]
  rfl
theorem ent_map (ad : Nat → Nat → Nat) : ∀ (as : List AV) (i : Nat), (ent i as).map (em ad) = lv_args i (as.map (vl ad)) := by
  intro as
  induction as with
  | nil => intro i; rfl
  | cons v r ih =>
    intro i
    show (i, vl ad v) :: (ent (cond (isL v) (i + 2) (i + 1)) r).map (em ad) = (i, vl ad v) :: lv_args (if (vl ad v).category = 2 then i + 2 else i + 1) (r.map (vl ad))
    rw [ih]
    rcases v with x | x | x <;> rfl
theorem wds_len (ad : Nat → Nat → Nat) : ∀ as : List AV, (lg_sl (as.map (vl ad))).length = wds as := by
  intro as
  induction as with
  | nil => rfl
  | cons v r ih =>
    show (lg_sl (vl ad v :: r.map (vl ad))).length = cond (isL v) 2 1 + wds r
    rw [← ih]
    unfold lg_sl
    rw [List.flatMap_cons, List.length_append]
    rcases v with x | x | x <;> rfl
theorem wl_at {ad : Nat → Nat → Nat} {ty : Nat → ClassId} {cs : List (Nat × Nat)} (h : HP) {q : Nat × Nat} (hq : q ∈ cs) : ∃ k : Nat, cs[k]? = some q ∧ (wl ad ty cs h)[k]? = some (ad q.1 q.2, eN ad ty h q) := by
  obtain ⟨k, hk⟩ := List.getElem?_of_mem hq
  exact ⟨k, hk, by unfold wl; rw [List.getElem?_map, hk]; rfl⟩
theorem eN_congr {ad : Nat → Nat → Nat} {ty : Nat → ClassId} {h h' : HP} {q : Nat × Nat} (e : h' q.1 q.2 = h q.1 q.2) : eN ad ty h' q = eN ad ty h q := by
  have e2 : ∀ k, fA h' q.1 q.2 k = fA h q.1 q.2 k := fun k => by unfold fA; rw [e]
  unfold eN
  simp only [e, e2]
theorem nodup_at {cs : List (Nat × Nat)} (hn : cs.Nodup) {i k : Nat} {q : Nat × Nat} (h1 : cs[i]? = some q) (h2 : cs[k]? = some q) : i = k := by
  have l1 : i < cs.length := (List.getElem?_eq_some_iff.mp h1).1
  exact (List.getElem?_inj l1 hn).mp (h1.trans h2.symm)
theorem wl_set {ad : Nat → Nat → Nat} {ty : Nat → ClassId} {cs : List (Nat × Nat)} {h h' : HP} {k : Nat} {q : Nat × Nat} (hn : cs.Nodup) (hk : cs[k]? = some q) (ho : ∀ a : Nat × Nat, a ≠ q → h' a.1 a.2 = h a.1 a.2) : (wl ad ty cs h).set k (ad q.1 q.2, eN ad ty h' q) = wl ad ty cs h' := by
  apply List.ext_getElem?
  intro i
  have hl : k < (wl ad ty cs h).length := by
    unfold wl
    rw [List.length_map]
    exact (List.getElem?_eq_some_iff.mp hk).1
  by_cases e : k = i
  · subst e
    rw [List.getElem?_set_self hl]
    unfold wl
    rw [List.getElem?_map, hk]
    rfl
  · rw [List.getElem?_set_ne e]
    unfold wl
    rw [List.getElem?_map, List.getElem?_map]
    cases hi : cs[i]? with
    | none => rfl
    | some a =>
      have hne : a ≠ q := fun e2 => e (nodup_at hn hk (by rw [hi, e2]))
      show some (ad a.1 a.2, eN ad ty h a) = some (ad a.1 a.2, eN ad ty h' a)
      rw [eN_congr (ho a hne)]
theorem hrow_ne {h : HP} {g j : Nat} {f : Nat → Int32} (a : Nat × Nat) (ha : a ≠ (g, j)) : hrow h g j f a.1 a.2 = h a.1 a.2 := by
  unfold hrow
  rw [if_neg]
  intro e
  exact ha (Prod.ext e.1 e.2)
theorem hrow_eq {h : HP} {g j : Nat} {f : Nat → Int32} : hrow h g j f g j = f := by
  unfold hrow
  rw [if_pos ⟨rfl, rfl⟩]
theorem eN_o {ad : Nat → Nat → Nat} {ty : Nat → ClassId} {h : HP} {g j : Nat} {o : Nat × Nat} (ho : oC j = some o) : eN ad ty h (g, j) = .inr (o.1, (List.range o.2).map (fun k => vl ad (fA h g j k))) := by
  unfold eN
  simp only [ho]
theorem aC_oC {j : Nat} {a : Nat × Nat} (h : aC j = some a) : oC j = none := by
  unfold aC at h
  split at h <;> first | rfl | cases h
theorem eN_a {ad : Nat → Nat → Nat} {ty : Nat → ClassId} {h : HP} {g j t n : Nat} (ha : aC j = some (t, n)) : eN ad ty h (g, j) = .inl (ty t, n, .inl (h g j)) := by
  unfold eN
  simp only [aC_oC ha, ha]
theorem eN_os {ad : Nat → Nat → Nat} {ty : Nat → ClassId} {h : HP} {g j k : Nat} {o : Nat × Nat} {x : Int32} (ho : oC j = some o) (hk : k < o.2) (ht : tg g j k = none) : eN ad ty (hset h g j k x) (g, j) = .inr (o.1, ((List.range o.2).map (fun k => vl ad (fA h g j k))).set k (.int x)) := by
  rw [eN_o ho]
  congr 2
  apply List.ext_getElem?
  intro i
  by_cases e : k = i
  · subst e
    rw [List.getElem?_set_self (by rw [List.length_map, List.length_range]; exact hk), List.getElem?_map, List.getElem?_range hk]
    show some (vl ad (fA (hset h g j k x) g j k)) = some (.int x)
    unfold fA hset
    rw [ht, hrow_eq]
    simp [upd, vl]
  · rw [List.getElem?_set_ne e, List.getElem?_map, List.getElem?_map]
    by_cases hi : i < o.2
    · rw [List.getElem?_range hi]
      show some (vl ad (fA (hset h g j k x) g j i)) = some (vl ad (fA h g j i))
      unfold fA hset
      rw [hrow_eq]
      have e2 : ¬ i = k := fun q => e q.symm
      simp [upd, e2]
    · have hn : (List.range o.2)[i]? = none := List.getElem?_eq_none (by rw [List.length_range]; omega)
      rw [hn]
      rfl
theorem wl_D {ad : Nat → Nat → Nat} {ty : Nat → ClassId} {cs : List (Nat × Nat)} {h h' : HP} {A : Nat → Prop} (hD : va_D A (wl ad ty cs h)) : va_D A (wl ad ty cs h') := by
  have key : ∀ (i : Nat) (p : Nat × va_E), (wl ad ty cs h')[i]? = some p → ∃ e, (wl ad ty cs h)[i]? = some (p.1, e) := by
    intro i p hp
    unfold wl at hp ⊢
    rw [List.getElem?_map] at hp ⊢
    cases hi : cs[i]? with
    | none => rw [hi] at hp; cases hp
    | some a =>
      rw [hi] at hp
      cases hp
      exact ⟨_, rfl⟩
  refine ⟨fun i j p q hp hq e => ?_, fun k q hq => ?_⟩
  · obtain ⟨e1, h1⟩ := key i p hp
    obtain ⟨e2, h2⟩ := key j q hq
    exact hD.1 i j _ _ h1 h2 e
  · obtain ⟨e1, h1⟩ := key k q hq
    exact hD.2 k (q.1, e1) h1
theorem aA_wl {ad : Nat → Nat → Nat} {ty : Nat → ClassId} {cs : List (Nat × Nat)} {h : HP} {A : Nat → Prop} (hD : va_D A (wl ad ty cs h)) : ∀ x, aA ad cs x → A x := by
  rintro x ⟨q, hq, rfl⟩
  obtain ⟨k, -, hk⟩ := wl_at (ad := ad) (ty := ty) h hq
  exact hD.2 k _ hk
theorem wl_Dself {ad : Nat → Nat → Nat} {ty : Nat → ClassId} {cs : List (Nat × Nat)} {h : HP} {A : Nat → Prop} (hD : va_D A (wl ad ty cs h)) : va_D (aA ad cs) (wl ad ty cs h) := by
  refine ⟨hD.1, fun k q hq => ?_⟩
  unfold wl at hq
  rw [List.getElem?_map] at hq
  cases hi : cs[k]? with
  | none => rw [hi] at hq; cases hq
  | some a =>
    rw [hi] at hq
    cases hq
    exact ⟨a, List.mem_of_getElem? hi, rfl⟩
end
section
/-! one step of the small machine is one of the great one -/
abbrev rmD (d : Nat) : Room := { frames := d, cells := 0, slots := 0, locals := 43 * d }
def CX (p : Program) (s : State) (m : MethodId) (args : Array Value) (meth : Method) (c : Code) (D : va_G) (ty : Nat → ClassId) (M : MR) : Prop :=
  p.tables.exec = Jvm.exec ∧ c.code = mC M ∧ meth.sig.returnType = mR M ∧ c.maxLocals = mL M ∧ s.vm.findClass (cnm (mK M)) = some m.cls ∧ (∀ w ∈ gT, w.before args s = true) ∧ meth.locks = false ∧ va_K D CLS (tyL ty) s
theorem cat_sum (ad : Nat → Nat → Nat) : ∀ r : List AV, ((r.map (vl ad)).map fun v => v.category).sum ≤ 2 * r.length := by
  intro r
  induction r with
  | nil => exact Nat.le_refl _
  | cons v r ih =>
    rw [List.map_cons, List.map_cons, List.sum_cons, List.length_cons]
    have : (vl ad v).category ≤ 2 := by rcases v with x | x | x <;> simp [vl, Value.category]
    omega
set_option maxRecDepth 20000 in
set_option maxHeartbeats 4000000 in
theorem one {p : Program} {l : Launch} {e : Env} {s : State} {m : MethodId} {args : Array Value} {below : List Frame} {meth : Method} {c : Code} {H H0 : Heap} {locs : List Loc} {Q : State → Prop} {ls : Array Slot}
    {ad : Nat → Nat → Nat} {ty : Nat → ClassId} {cs : List (Nat × Nat)} {D : va_G} {A : Nat → Prop} {d : Nat} {M : MR} {i : Instr} {len pc : Nat} {lv : List (Nat × AV)} {st : List AV} {h : HP} {c' : CF}
    (hc : clo cs) (X : CX p s m args meth c D ty M) (hdec : decode (mC M) pc = .ok (i, len)) (hlen : lenok i len = true)
    (hl : lv_has ls (mL M) (lv.map (em ad))) (hP : va_P D CLS (wl ad ty cs h) H) (hD : va_D A (wl ad ty cs h)) (hS : va_S A H0 H locs) (hv : ∀ v ∈ st, okv cs v)
    (hs : sti d M i pc lv st h = some (.inl c'))
    (k : ∀ (ls' : Array Slot) (H' : Heap) (locs' : List Loc), lv_has ls' (mL M) (c'.2.1.map (em ad)) → va_P D CLS (wl ad ty cs c'.2.2.2) H' → va_D A (wl ad ty cs c'.2.2.2) → va_S A H0 H' locs' → W p l e (rmD d) s m args below meth c H' locs' 0 0 Q (F0 m c'.1 ls' (c'.2.2.1.map (vl ad)))) :
    W p l e (rmD d) s m args below meth c H locs 0 0 Q (F0 m pc ls (st.map (vl ad))) := by
  obtain ⟨hx, hb, hr, hml, hown, hts, hlocks, hK⟩ := X
  have hat : ∀ {k : Nat} {v : AV}, (k, v) ∈ lv → ls[k]? = some (.val (vl ad v)) := fun hm => hl.2.2 _ (List.mem_map_of_mem (f := em ad) hm)
  cases i with
  | iconst n =>
    cases Nat.eq_of_beq_eq_true hlen
    cases nx_i hs
    exact lv_iconst hx hb hdec rfl (k ls H locs hl hP hD hS)
  | bipush n =>
    cases Nat.eq_of_beq_eq_true hlen
    cases nx_i hs
    exact lv_bipush hx hb hdec rfl (k ls H locs hl hP hD hS)
  | sipush n =>
    cases Nat.eq_of_beq_eq_true hlen
    cases nx_i hs
    exact lv_sipush hx hb hdec rfl (k ls H locs hl hP hD hS)
  | lconst n =>
    cases Nat.eq_of_beq_eq_true hlen
    cases nx_i hs
    exact lv_lconst hx hb hdec rfl (k ls H locs hl hP hD hS)
  | ldc n =>
    cases Nat.eq_of_beq_eq_true hlen
    obtain ⟨q, hq, hs⟩ := opt_some hs
    cases nx_i hs
    exact lv_ldc hx hb hown (hts _ (cst_in (lk_mem hq))) hdec (k ls H locs hl hP hD hS)
  | ldc_w n =>
    cases Nat.eq_of_beq_eq_true hlen
    obtain ⟨q, hq, hs⟩ := opt_some hs
    cases nx_i hs
    exact lv_ldcw hx hb hown (hts _ (cst_in (lk_mem hq))) hdec (k ls H locs hl hP hD hS)
  | ldc2_w n =>
    cases Nat.eq_of_beq_eq_true hlen
    obtain ⟨q, hq, hs⟩ := opt_some hs
    cases nx_i hs
    exact lv_ldc2 hx hb hown (hts _ (csl_in (lk_mem hq))) hdec (k ls H locs hl hP hD hS)
  | iload_n n =>
    cases Nat.eq_of_beq_eq_true hlen
    obtain ⟨x, hm, e9⟩ := ldI_i hs
    cases e9
    exact lv_iload_n hx hb hdec rfl (hat hm) (k ls H locs hl hP hD hS)
  | iload n =>
    cases Nat.eq_of_beq_eq_true hlen
    obtain ⟨x, hm, e9⟩ := ldI_i hs
    cases e9
    exact lv_iload hx hb hdec (hat hm) (k ls H locs hl hP hD hS)
  | lload_n n =>
    cases Nat.eq_of_beq_eq_true hlen
    obtain ⟨x, hm, e9⟩ := ldL_i hs
    cases e9
    exact lv_lload_n hx hb hdec rfl (hat hm) (k ls H locs hl hP hD hS)
  | lload n =>
    cases Nat.eq_of_beq_eq_true hlen
    obtain ⟨x, hm, e9⟩ := ldL_i hs
    cases e9
    exact lv_lload hx hb hdec (hat hm) (k ls H locs hl hP hD hS)
  | aload_n n =>
    cases Nat.eq_of_beq_eq_true hlen
    obtain ⟨x, y, hm, e9⟩ := ldR_i hs
    cases e9
    exact lv_aload_n hx hb hdec rfl (hat hm) (k ls H locs hl hP hD hS)
  | aload n =>
    cases Nat.eq_of_beq_eq_true hlen
    obtain ⟨x, y, hm, e9⟩ := ldR_i hs
    cases e9
    exact lv_aload hx hb hdec (hat hm) (k ls H locs hl hP hD hS)
  | istore_n n =>
    cases Nat.eq_of_beq_eq_true hlen
    obtain ⟨x, r, rfl, hk, e9⟩ := stI_i hs
    cases e9
    exact lv_istore_n hx hb hdec rfl hl hk rfl (fun ls' hl' => k ls' H locs (by rw [lst_map]; exact hl') hP hD hS)
  | istore n =>
    cases Nat.eq_of_beq_eq_true hlen
    obtain ⟨x, r, rfl, hk, e9⟩ := stI_i hs
    cases e9
    exact lv_istore hx hb hdec hl hk rfl (fun ls' hl' => k ls' H locs (by rw [lst_map]; exact hl') hP hD hS)
  | astore_n n =>
    cases Nat.eq_of_beq_eq_true hlen
    obtain ⟨x, y, r, rfl, hk, e9⟩ := stR_i hs
    cases e9
    exact lv_astore_n hx hb hdec rfl hl hk rfl (fun ls' hl' => k ls' H locs (by rw [lst_map]; exact hl') hP hD hS)
  | iinc n z =>
    cases Nat.eq_of_beq_eq_true hlen
    simp only [sti] at hs
    split at hs
    · rename_i x e8
      obtain ⟨hk, hs⟩ := cond_l hs
      cases nx_i hs
      obtain ⟨w, hw⟩ := List.getElem?_of_mem (List.mem_map_of_mem (f := em ad) (lk_mem e8))
      exact lv_iinc hx hb hdec hl hw rfl (blt_lt hk) rfl (fun ls' hl' => k ls' H locs (by rw [lst_map]; exact hl') hP hD hS)
    · cases hs
  | iadd =>
    cases Nat.eq_of_beq_eq_true hlen
    obtain ⟨x, y, r, rfl, e9⟩ := o2_i hs
    cases e9
    exact lv_iadd hx hb hdec (k ls H locs hl hP hD hS)
  | isub =>
    cases Nat.eq_of_beq_eq_true hlen
    obtain ⟨x, y, r, rfl, e9⟩ := o2_i hs
    cases e9
    exact lv_isub hx hb hdec (k ls H locs hl hP hD hS)
  | imul =>
    cases Nat.eq_of_beq_eq_true hlen
    obtain ⟨x, y, r, rfl, e9⟩ := o2_i hs
    cases e9
    exact lv_imul hx hb hdec (k ls H locs hl hP hD hS)
  | iand =>
    cases Nat.eq_of_beq_eq_true hlen
    obtain ⟨x, y, r, rfl, e9⟩ := o2_i hs
    cases e9
    exact lv_iand hx hb hdec (k ls H locs hl hP hD hS)
  | ior =>
    cases Nat.eq_of_beq_eq_true hlen
    obtain ⟨x, y, r, rfl, e9⟩ := o2_i hs
    cases e9
    exact lv_ior hx hb hdec (k ls H locs hl hP hD hS)
  | ixor =>
    cases Nat.eq_of_beq_eq_true hlen
    obtain ⟨x, y, r, rfl, e9⟩ := o2_i hs
    cases e9
    exact lv_ixor hx hb hdec (k ls H locs hl hP hD hS)
  | ishl =>
    cases Nat.eq_of_beq_eq_true hlen
    obtain ⟨x, y, r, rfl, e9⟩ := o2_i hs
    cases e9
    exact lv_ishl hx hb hdec (k ls H locs hl hP hD hS)
  | ishr =>
    cases Nat.eq_of_beq_eq_true hlen
    obtain ⟨x, y, r, rfl, e9⟩ := o2_i hs
    cases e9
    exact lv_ishr hx hb hdec (k ls H locs hl hP hD hS)
  | iushr =>
    cases Nat.eq_of_beq_eq_true hlen
    obtain ⟨x, y, r, rfl, e9⟩ := o2_i hs
    cases e9
    exact lv_iushr hx hb hdec rfl (k ls H locs hl hP hD hS)
  | irem =>
    cases Nat.eq_of_beq_eq_true hlen
    simp only [sti] at hs
    split at hs
    · rename_i y x r
      obtain ⟨h8, hs⟩ := cond_r hs
      cases nx_i hs
      exact lv_irem hx hb hdec (fun q => by rw [q] at h8; exact absurd h8 (by decide)) (k ls H locs hl hP hD hS)
    · cases hs
  | ineg =>
    cases Nat.eq_of_beq_eq_true hlen
    obtain ⟨x, r, rfl, e9⟩ := o1_i hs
    cases e9
    exact lv_ineg hx hb hdec (k ls H locs hl hP hD hS)
  | i2l =>
    cases Nat.eq_of_beq_eq_true hlen
    obtain ⟨x, r, rfl, e9⟩ := o1_i hs
    cases e9
    exact lv_i2l hx hb hdec rfl (k ls H locs hl hP hD hS)
  | i2c =>
    cases Nat.eq_of_beq_eq_true hlen
    obtain ⟨x, r, rfl, e9⟩ := o1_i hs
    cases e9
    exact lv_i2c hx hb hdec rfl (k ls H locs hl hP hD hS)
  | lcmp =>
    cases Nat.eq_of_beq_eq_true hlen
    simp only [sti] at hs
    split at hs
    · cases nx_i hs
      exact W.lcmp hx hb hdec (k ls H locs hl hP hD hS)
    · cases hs
  | dup =>
    cases Nat.eq_of_beq_eq_true hlen
    simp only [sti] at hs
    split at hs
    · rename_i v r
      obtain ⟨h8, hs⟩ := cond_r hs
      cases nx_i hs
      exact lv_dup hx hb hdec (by rcases v with x | x | x <;> first | rfl | (exact absurd (show true = false from h8) (by decide))) (k ls H locs hl hP hD hS)
    · cases hs
  | pop =>
    cases Nat.eq_of_beq_eq_true hlen
    simp only [sti] at hs
    split at hs
    · rename_i v r
      obtain ⟨h8, hs⟩ := cond_r hs
      cases nx_i hs
      exact lv_pop hx hb hdec (by rcases v with x | x | x <;> first | rfl | (exact absurd (show true = false from h8) (by decide))) (k ls H locs hl hP hD hS)
    · cases hs
  | dup2 =>
    cases Nat.eq_of_beq_eq_true hlen
    simp only [sti] at hs
    split at hs
    · rename_i v w r
      obtain ⟨h8, hs⟩ := cond_r hs
      rw [Bool.or_eq_false_iff] at h8
      cases nx_i hs
      exact lv_dup2_11 hx hb hdec (by rcases v with x | x | x <;> first | rfl | (exact absurd (show true = false from h8.1) (by decide))) (by rcases w with x | x | x <;> first | rfl | (exact absurd (show true = false from h8.2) (by decide))) (k ls H locs hl hP hD hS)
    · cases hs
  | ifCond cd off =>
    cases Nat.eq_of_beq_eq_true hlen
    simp only [sti] at hs
    split at hs
    · rename_i x r
      obtain ⟨t, ht, e9⟩ := jmp_i hs
      cases e9
      have k3 : ∀ z : Nat, z = cond (if0 cd x) t (pc + 3) → W p l e (rmD d) s m args below meth c H locs 0 0 Q (F0 m z ls (r.map (vl ad))) := fun z hz => by rw [hz]; exact k ls H locs hl hP hD hS
      cases cd with
      | eq => exact lv_if_eq hx hb hdec ht (fun q => k3 t (by simp [if0, q])) (fun q => k3 (pc + 3) (by simp [if0, q]))
      | ne => exact lv_if_ne hx hb hdec ht (fun q => k3 t (by simp [if0, q])) (fun q => k3 (pc + 3) (by simp [if0, q]))
      | lt => exact lv_if_lt hx hb hdec ht (fun q => k3 t (by simp [if0, q])) (fun q => k3 (pc + 3) (by simp [if0, q]))
      | ge => exact lv_if_ge hx hb hdec ht (fun q => k3 t (by simp [if0, q])) (fun q => k3 (pc + 3) (by simp [if0, q]))
      | gt => exact lv_if_gt hx hb hdec ht (fun q => k3 t (by simp [if0, q])) (fun q => k3 (pc + 3) (by simp [if0, q]))
      | le => exact lv_if_le hx hb hdec ht (fun q => k3 t (by simp [if0, q])) (fun q => k3 (pc + 3) (by simp [if0, q]))
    · cases hs
  | if_icmp cd off =>
    cases Nat.eq_of_beq_eq_true hlen
    simp only [sti] at hs
    split at hs
    · rename_i y x r
      obtain ⟨t, ht, e9⟩ := jmp_i hs
      cases e9
      have k3 : ∀ z : Nat, z = cond (if2 cd x y) t (pc + 3) → W p l e (rmD d) s m args below meth c H locs 0 0 Q (F0 m z ls (r.map (vl ad))) := fun z hz => by rw [hz]; exact k ls H locs hl hP hD hS
      cases cd with
      | eq => exact lv_icmp_eq hx hb hdec ht (fun q => k3 t (by simp [if2, q])) (fun q => k3 (pc + 3) (by simp [if2, q]))
      | ne => exact lv_icmp_ne hx hb hdec ht (fun q => k3 t (by simp [if2, q])) (fun q => k3 (pc + 3) (by simp [if2, q]))
      | lt => exact lv_icmp_lt hx hb hdec ht (fun q => k3 t (by simp [if2, q])) (fun q => k3 (pc + 3) (by simp [if2, q]))
      | ge => exact lv_icmp_ge hx hb hdec ht (fun q => k3 t (by simp [if2, q])) (fun q => k3 (pc + 3) (by simp [if2, q]))
      | gt => exact lv_icmp_gt hx hb hdec ht (fun q => k3 t (by simp [if2, q])) (fun q => k3 (pc + 3) (by simp [if2, q]))
      | le => exact lv_icmp_le hx hb hdec ht (fun q => k3 t (by simp [if2, q])) (fun q => k3 (pc + 3) (by simp [if2, q]))
    · cases hs
  | goto off =>
    cases Nat.eq_of_beq_eq_true hlen
    obtain ⟨t, ht, hs⟩ := opt_some hs
    cases nx_i hs
    exact lv_goto hx hb hdec (tgo_i ht) (k ls H locs hl hP hD hS)
  | tableswitch dflt lo hi offs =>
    simp only [sti] at hs
    split at hs
    · rename_i x r
      cases hb9 : (decide (x.toInt < lo) || decide (hi < x.toInt)) with
      | true =>
        rw [hb9] at hs
        obtain ⟨t, ht, hs⟩ := opt_some hs
        cases nx_i hs
        rw [Bool.or_eq_true, decide_eq_true_eq, decide_eq_true_eq] at hb9
        exact lv_tableOut hx hb hdec hb9 (tgo_i ht) (k ls H locs hl hP hD hS)
      | false =>
        rw [hb9] at hs
        obtain ⟨o, ho, hs⟩ := opt_some hs
        obtain ⟨t, ht, hs⟩ := opt_some hs
        cases nx_i hs
        rw [Bool.or_eq_false_iff, decide_eq_false_iff_not, decide_eq_false_iff_not] at hb9
        exact lv_tableIn hx hb hdec hb9.1 hb9.2 ho (tgo_i ht) (k ls H locs hl hP hD hS)
    · cases hs
  | lookupswitch dflt ps =>
    simp only [sti] at hs
    split at hs
    · obtain ⟨h8, hs⟩ := cond_l hs
      obtain ⟨t, ht, hs⟩ := opt_some hs
      cases nx_i hs
      exact lv_lookup hx hb hdec h8 rfl (tgo_i ht) (k ls H locs hl hP hD hS)
    · cases hs
  | getfield idx =>
    cases Nat.eq_of_beq_eq_true hlen
    obtain ⟨g, j, r, ci, kk, w, nf, rfl, hf, ho, hk, e9⟩ := getF_i hs
    cases e9
    obtain ⟨hlw, hci, hkc⟩ := fld_ok hf
    obtain ⟨q0, -, hq0⟩ := wl_at (ad := ad) (ty := ty) h (okv_cons hv).1
    rw [eN_o ho] at hq0
    exact va_get (C := cnm ci) (T := kT ci) (N := kN ci) hx hb hts (uws_in ci hci) hown hK hP q0 hq0 (cls_at ci hci) kk hkc (hts _ hlw) (fun _ h9 => h9) (by rw [List.getElem?_map, List.getElem?_range hk]; rfl) hdec (k ls H locs hl hP hD hS)
  | putfield idx =>
    cases Nat.eq_of_beq_eq_true hlen
    obtain ⟨x, g, j, r, ci, kk, w, nf, rfl, hf, ho, hk, htg, hz, e9⟩ := putF_i hs
    cases e9
    obtain ⟨hlw, hci, hkc⟩ := fld_ok hf
    obtain ⟨q0, hcq, hq0⟩ := wl_at (ad := ad) (ty := ty) h (okv_cons (okv_cons hv).2).1
    have hset9 := wl_set (ad := ad) (ty := ty) (h := h) (h' := hset h g j kk x) hc.1 hcq (fun a ha => hrow_ne a ha)
    have hno := eN_os (ad := ad) (ty := ty) (h := h) (g := g) (x := x) ho hk htg
    rw [eN_o ho] at hq0
    obtain ⟨ht1, ht2⟩ := ty_dec j (oC_lt ho) kk (Nat.lt_of_lt_of_le hkc kN_le) (ci, nf) ho hk (tg_g htg)
    have hty : parseFieldDescriptor (kT ci kk).2.2.1 = some (cond (isZ j kk) .boolean .int) := by rw [← ht1]; exact kF_ok ci hci kk hkc
    have hnr : narrow (cond (isZ j kk) .boolean .int) (.int x) = .int x ∧ fits (cond (isZ j kk) .boolean .int) (.int x) = true := by
      cases hzz : isZ j kk with
      | false => exact ⟨rfl, rfl⟩
      | true =>
        have h8 := hz hzz
        unfold zero1 at h8
        rw [Bool.or_eq_true] at h8
        rcases h8 with h8 | h8 <;> (rw [eq_of_beq h8]; exact ⟨rfl, rfl⟩)
    refine va_put (C := cnm ci) (T := kT ci) (N := kN ci) (v := .int x) hx hb hts (uws_in ci hci) (kF ci) (kF_ok ci hci) (kN_ok ci hci) hown hK hP hD hS q0 hq0 (cls_at ci hci) kk hkc (hts _ hlw) (fun _ h9 => h9) ht2 hty hnr.1 hnr.2 (by rw [List.length_map, List.length_range]; exact hk) hdec (fun H1 locs1 hP1 hD1 hS1 => ?_)
    have e7 : (wl ad ty cs h).set q0 (ad g j, .inr (ci, ((List.range nf).map (fun k => vl ad (fA h g j k))).set kk (.int x))) = wl ad ty cs (hset h g j kk x) := by
      rw [← hset9, hno]
    exact k ls H1 locs1 hl (by rw [← e7]; exact hP1) (by rw [← e7]; exact hD1) hS1
  | arraylength =>
    cases Nat.eq_of_beq_eq_true hlen
    simp only [sti] at hs
    split at hs
    · rename_i g j r
      obtain ⟨a, ha, hs⟩ := opt_some hs
      cases nx_i hs
      obtain ⟨q0, -, hq0⟩ := wl_at (ad := ad) (ty := ty) h (okv_cons hv).1
      rw [eN_a ha] at hq0
      have ht : ∃ (t0 : Nat) (ft : FieldType), (tyL ty)[t0]? = some (ty a.1, ft) := by
        have : a.1 = 0 ∨ a.1 = 1 ∨ a.1 = 2 := by
          unfold aC at ha
          split at ha <;> first | (cases ha; decide) | cases ha
        rcases this with e8 | e8 | e8 <;> rw [e8]
        · exact ⟨0, _, rfl⟩
        · exact ⟨1, _, rfl⟩
        · exact ⟨2, _, rfl⟩
      obtain ⟨t0, ft, ht⟩ := ht
      exact va_alen hx hb hK hP q0 t0 hq0 ht rfl hdec (k ls H locs hl hP hD hS)
    · cases hs
  | iaload =>
    cases Nat.eq_of_beq_eq_true hlen
    obtain ⟨i, g, j, r, n, rfl, ha, hin, e9⟩ := aLd_i hs
    cases e9
    obtain ⟨q0, -, hq0⟩ := wl_at (ad := ad) (ty := ty) h (okv_cons (okv_cons hv).2).1
    rw [eN_a ha] at hq0
    exact va_iald hx hb hK hP q0 0 hq0 rfl hin hdec (k ls H locs hl hP hD hS)
  | caload =>
    cases Nat.eq_of_beq_eq_true hlen
    obtain ⟨i, g, j, r, n, rfl, ha, hin, e9⟩ := aLd_i hs
    cases e9
    obtain ⟨q0, -, hq0⟩ := wl_at (ad := ad) (ty := ty) h (okv_cons (okv_cons hv).2).1
    rw [eN_a ha] at hq0
    exact va_cald hx hb hK hP q0 1 hq0 rfl hin hdec (k ls H locs hl hP hD hS)
  | baload =>
    cases Nat.eq_of_beq_eq_true hlen
    obtain ⟨i, g, j, r, n, rfl, ha, hin, e9⟩ := aLd_i hs
    cases e9
    obtain ⟨q0, -, hq0⟩ := wl_at (ad := ad) (ty := ty) h (okv_cons (okv_cons hv).2).1
    rw [eN_a ha] at hq0
    exact va_zald hx hb hK hP q0 2 hq0 rfl hin hdec (k ls H locs hl hP hD hS)
  | aaload =>
    cases Nat.eq_of_beq_eq_true hlen
    simp only [sti] at hs
    split at hs
    · rename_i i g j r
      obtain ⟨h1, hs2⟩ := cond_l hs
      rw [Bool.and_eq_true] at h1
      have e8 : j = 14 := Nat.eq_of_beq_eq_true h1.1
      subst e8
      cases nx_i hs2
      obtain ⟨q0, -, hq0⟩ := wl_at (ad := ad) (ty := ty) h (okv_cons (okv_cons hv).2).1
      exact va_aldq (C := RX0) hx hb hK hP q0 3 hq0 rfl (inb_vp h1.2) hdec (k ls H locs hl hP hD hS)
    · cases hs
  | iastore =>
    cases Nat.eq_of_beq_eq_true hlen
    obtain ⟨x, i, g, j, r, n, rfl, ha, hin, e9⟩ := aSt_i hs
    cases e9
    obtain ⟨q0, hcq, hq0⟩ := wl_at (ad := ad) (ty := ty) h (okv_cons (okv_cons (okv_cons hv).2).2).1
    have hset9 := wl_set (ad := ad) (ty := ty) (h := h) (h' := hset h g j i.toNatClampNeg x) hc.1 hcq (fun a ha => hrow_ne a ha)
    rw [eN_a ha] at hq0 hset9
    have e8 : hset h g j i.toNatClampNeg x g j = upd (h g j) i.toNatClampNeg x := hrow_eq
    rw [e8] at hset9
    refine va_iast hx hb hK hP hD hS q0 0 hq0 rfl hin hdec (fun H1 locs1 hP1 hD1 hS1 => ?_)
    exact k ls H1 locs1 hl (by rw [← hset9]; exact hP1) (by rw [← hset9]; exact hD1) hS1
  | castore =>
    cases Nat.eq_of_beq_eq_true hlen
    obtain ⟨x, i, g, j, r, n, rfl, ha, hin, e9⟩ := aSt_i hs
    cases e9
    obtain ⟨q0, hcq, hq0⟩ := wl_at (ad := ad) (ty := ty) h (okv_cons (okv_cons (okv_cons hv).2).2).1
    have hset9 := wl_set (ad := ad) (ty := ty) (h := h) (h' := hset h g j i.toNatClampNeg (vp_nar .char x)) hc.1 hcq (fun a ha => hrow_ne a ha)
    rw [eN_a ha] at hq0 hset9
    have e8 : hset h g j i.toNatClampNeg (vp_nar .char x) g j = upd (h g j) i.toNatClampNeg (vp_nar .char x) := hrow_eq
    rw [e8] at hset9
    refine va_cast hx hb hK hP hD hS q0 1 hq0 rfl hin hdec (fun H1 locs1 hP1 hD1 hS1 => ?_)
    exact k ls H1 locs1 hl (by rw [← hset9]; exact hP1) (by rw [← hset9]; exact hD1) hS1
  | bastore =>
    cases Nat.eq_of_beq_eq_true hlen
    obtain ⟨x, i, g, j, r, n, rfl, ha, hin, e9⟩ := aSt_i hs
    cases e9
    obtain ⟨q0, hcq, hq0⟩ := wl_at (ad := ad) (ty := ty) h (okv_cons (okv_cons (okv_cons hv).2).2).1
    have hset9 := wl_set (ad := ad) (ty := ty) (h := h) (h' := hset h g j i.toNatClampNeg (vp_nar .boolean x)) hc.1 hcq (fun a ha => hrow_ne a ha)
    rw [eN_a ha] at hq0 hset9
    have e8 : hset h g j i.toNatClampNeg (vp_nar .boolean x) g j = upd (h g j) i.toNatClampNeg (vp_nar .boolean x) := hrow_eq
    rw [e8] at hset9
    refine va_zast hx hb hK hP hD hS q0 2 hq0 rfl hin hdec (fun H1 locs1 hP1 hD1 hS1 => ?_)
    exact k ls H1 locs1 hl (by rw [← hset9]; exact hP1) (by rw [← hset9]; exact hD1) hS1
  | invokestatic idx =>
    cases Nat.eq_of_beq_eq_true hlen
    simp only [sti] at hs
    split at hs
    · rename_i q hq
      obtain ⟨hd, r, hr4, h9⟩ := mth_i hs
      have hml2 : c.maxLocals = ls.size := hml.trans hl.1.symm
      have hcs := cat_sum ad r
      have hlo : ((r.map (vl ad)).map fun v => v.category).sum + 13 ≤ (rmD d).locals := by
        show _ ≤ 43 * d
        omega
      have hlk := hts _ (mth_ok (lk_mem hq))
      rcases h9 with ⟨x, y, e8, rfl, e9⟩ | ⟨x, y, e8, rfl, e9⟩ | ⟨x, e8, rfl, e9⟩
      · cases e9
        rw [e8] at hlk
        exact va_mmax (R := rmD d) hx hb hml2 hown hlk (hts _ mt_smax) (hts _ mt_i) (hts _ mt_cmax) hd hlo (Nat.le_refl _) (Nat.le_refl _) hdec (k ls H locs hl hP hD hS)
      · cases e9
        rw [e8] at hlk
        exact va_mmin (R := rmD d) hx hb hml2 hown hlk (hts _ mt_smin) (hts _ mt_i) (hts _ mt_cmin) hd hlo (Nat.le_refl _) (Nat.le_refl _) hdec (k ls H locs hl hP hD hS)
      · cases e9
        rw [e8] at hlk
        exact va_mabs (R := rmD d) hx hb hml2 hown hlk (hts _ mt_sabs) (hts _ mt_i) (hts _ mt_cabs) hd hlo (Nat.le_refl _) (Nat.le_refl _) hdec (k ls H locs hl hP hD hS)
    · cases hb9 : (Nat.beq (mK M) 0 && Nat.beq idx 49) with
      | true =>
        rw [hb9] at hs
        obtain ⟨n, g1, j1, g0, j0, n0, n1, rfl, ha0, ha1, hd, hn, hn0, hn1, e9⟩ := acp_i hs
        cases e9
        rw [Bool.and_eq_true] at hb9
        have e1 : mK M = 0 := Nat.eq_of_beq_eq_true hb9.1
        have e2 : idx = 49 := Nat.eq_of_beq_eq_true hb9.2
        subst e2
        rw [e1] at hown
        have hml2 : c.maxLocals = ls.size := hml.trans hl.1.symm
        obtain ⟨q1, hcq, hq1⟩ := wl_at (ad := ad) (ty := ty) h (okv_cons (okv_cons (okv_cons hv).2).2).1
        obtain ⟨q0, -, hq0⟩ := wl_at (ad := ad) (ty := ty) h (okv_cons (okv_cons (okv_cons (okv_cons (okv_cons hv).2).2).2).2).1
        have hset9 := wl_set (ad := ad) (ty := ty) (h := h) (h' := hrow h g1 j1 (va_cpy (h g0 j0) (h g1 j1) 0 0 n.toNatClampNeg)) hc.1 hcq (fun a ha => hrow_ne a ha)
        rw [eN_a ha0] at hq0
        rw [eN_a ha1] at hq1 hset9
        rw [hrow_eq] at hset9
        have z0 : (0 : Int32).toNatClampNeg = 0 := by decide
        refine va_copyi (ls := ls) hx hb hml2 hown (hts _ acp_l) (hts _ acp_n) (hts _ acp_s) (hts _ acp_t) hK hP hD hS q0 q1 0 0 hq0 hq1 rfl rfl rfl (by decide) (by decide) hn (by rw [z0]; omega) (by rw [z0]; omega) (fun _ _ => rfl) hd ?_ hdec (fun H1 locs1 hP1 hD1 hS1 => ?_)
        · show _ ≤ 43 * d
          have : nativeFrameWords "java/lang/System" "arraycopy" 5 = 7 := by decide
          rw [this]
          simp
          omega
        · rw [z0] at hP1 hD1
          exact k ls H1 locs1 hl (by rw [← hset9]; exact hP1) (by rw [← hset9]; exact hD1) hS1
      | false =>
        rw [hb9] at hs
        obtain ⟨M', w, as, r, -, -, -, -, -, -, e9⟩ := ins_i hs
        cases e9
  | invokevirtual idx =>
    obtain ⟨M', w, g, j, as, r, nf, -, -, -, -, -, -, -, e9⟩ := inv_i hs
    cases e9
  | ireturn =>
    simp only [sti] at hs
    split at hs
    · split at hs
      · cases hs
      · obtain ⟨-, hs⟩ := cond_l hs
        cases hs
      · cases hs
    · cases hs
  | areturn =>
    simp only [sti] at hs
    split at hs
    · split at hs <;> cases hs
    · cases hs
  | return_ =>
    simp only [sti] at hs
    split at hs
    · split at hs <;> cases hs
    · cases hs
  | _ => exact absurd (show (none : Option SR) = some _ from hs) (by simp)
end
section
/-! a run of the small machine is a run of the great one -/
def PcX (D : va_G) (ad : Nat → Nat → Nat) (ty : Nat → ClassId) (cs : List (Nat × Nat)) (as : List AV) (h : HP) : Array Value → State → Prop := va_Pc (as.map (vl ad)) (fun U => va_P D CLS (wl ad ty cs h) U.heap ∧ va_K D CLS (tyL ty) U ∧ va_D (fun _ => True) (wl ad ty cs h))
def QcX (D : va_G) (ad : Nat → Nat → Nat) (ty : Nat → ClassId) (cs : List (Nat × Nat)) (r : Option AV × HP) : Array Value → State → Outcome → State → Prop := fun _ st oc t => oc = .returned (r.1.map (vl ad)) ∧ va_P D CLS (wl ad ty cs r.2) t.heap ∧ va_K D CLS (tyL ty) t ∧ va_F (aA ad cs) st t
def wsM (M : MR) : List Cond := .code (mN M) (mC M) (mL M) (mR M) :: gT
theorem blindX {D : va_G} {ad : Nat → Nat → Nat} {ty : Nat → ClassId} {cs : List (Nat × Nat)} {as : List AV} {h : HP} : FrameBlind (PcX D ad ty cs as h) := by
  intro a U g mk q
  obtain ⟨q0, qP, qK, qD⟩ := q
  exact ⟨q0, qP, va_K.moved (u := U) (U := U.calling g mk a) (Vm.Alike.refl U.vm) qK, qD⟩
theorem callx {p : Program} {l : Launch} {e : Env} {R : Room} {s : State} {m : MethodId} {args : Array Value} {below : List Frame} {meth : Method} {c : Code} {H H0 : Heap} {locs : List Loc} {cells slots mc ms : Nat} {Q : State → Prop} {pc : Nat} {ls : Array Slot} {rest st0 : List Value} {a : Array Value} {A0 : Nat → Prop} {free : Addr → Prop}
    {D : va_G} {ad : Nat → Nat → Nat} {ty : Nat → ClassId} {cs : List (Nat × Nat)} {r : Option AV × HP}
    (hr : va_Run p l e R s m args below meth c H locs cells slots mc ms (F0 m pc ls st0) rest (QcX D ad ty cs r a) free) (hS : va_S A0 H0 H locs) (hA : ∀ q, aA ad cs q → A0 q) (hf : ∀ q, free q → A0 q)
    (kk : ∀ (H1 : Heap) (locs1 : List Loc), va_P D CLS (wl ad ty cs r.2) H1 → H.size ≤ H1.size → (∀ q : Nat, q < H.size → ¬ aA ad cs q → H1[q]? = H[q]?) → va_S A0 H0 H1 locs1 → W p l e R s m args below meth c H1 locs1 (cells + mc) (slots + ms) Q (F0 m (pc + 3) ls ((r.1.map (vl ad)).toList ++ rest))) : W p l e R s m args below meth c H locs cells slots Q (F0 m pc ls st0) := by
  intro T hT X
  obtain ⟨v, st₀, t, T', L, h0, X', hL, e1, e2, ⟨hv, hp, hk9, hz, hk⟩, st⟩ := hr T hT X
  cases hv
  rw [h0] at hz hk
  obtain ⟨t2, a1, b1⟩ := kk T'.heap (locs ++ L) (by rw [e1]; exact hp) (by rw [e1]; exact hz) (fun q h1 h2 => by rw [e1]; exact hk q h1 h2)
    ⟨Nat.le_trans hS.1 (by rw [e1]; exact hz), fun q h1 h2 => by rw [e1, hk q (Nat.lt_of_lt_of_le h1 hS.1) (fun z => h2 (hA q z))]; exact hS.2.1 q h1 h2, fun q hq => by
      rcases List.mem_append.mp hq with h | h
      · exact hS.2.2 q h
      · exact hf _ (hL q h)⟩ T' rfl X'
  exact ⟨t2, st t2 a1, b1⟩
theorem gT_good {M : MR} (h : Cond.code (mN M) (mC M) (mL M) (mR M) ∈ gT) : GoodIn gT (wsM M) := by
  intro w hw
  unfold wsM at hw
  rcases List.mem_cons.mp hw with e | e
  · rw [e]
    exact ⟨h, good_of_word (gT_gd h)⟩
  · exact ⟨e, good_of_word (gT_gd e)⟩
theorem gm_get {M : MR} (h : GM M) : (parseMethodDescriptor (mN M).desc).map (fun d => d.parameters.length) = some (mA M) ∧ (mN M).cls = cnm (mK M) ∧ mL M ≤ 24 ∧ mK M < 7 ∧ ∀ q ∈ mI M, lenok q.2.1 q.2.2 = true := by
  have h1 := h.1
  unfold gmb at h1
  simp only [Bool.and_eq_true, decide_eq_true_eq] at h1
  obtain ⟨⟨⟨⟨q1, q2⟩, q3⟩, q4⟩, q5⟩ := h1
  exact ⟨q1, q2, Nat.le_of_ble_eq_true q3, blt_lt q4, fun q hq => List.all_eq_true.mp q5 q hq⟩
theorem cb_of {M' : MR} {own : Nat} {s : State} {args : Array Value} {d' idx : Nat} {w : List Nat} (hts : ∀ w ∈ gT, w.before args s = true) (hm : (idx, M', w) ∈ calT own) : CallB (rmD (d' + 1)) s args (cnm own) idx (mN M') (mC M') (mL M') (mR M') (wsM M') (rmD d') 0 0 (mA M') := by
  obtain ⟨hg, h1, h2, h3, -, -⟩ := cal_ok hm
  obtain ⟨g1, g2, g3, g4, -⟩ := gm_get hg
  obtain ⟨p1, p2, p3⟩ := pn _ g4
  refine ⟨rfl, rfl, Nat.le_refl _, ?_, pay_in hts (gT_good h2), List.mem_cons_self, hts _ h2, hts _ h3, ⟨by rw [g2]; exact p2, by rw [g2]; exact p3⟩, fun sig h => ?_, hts _ h1⟩
  · show 8 + (mL M' + 11) + 43 * d' ≤ 43 * (d' + 1)
    omega
  · rw [h] at g1
    exact (Option.some.inj g1).symm
theorem sti_l {d : Nat} {M : MR} {i : Instr} {pc : Nat} {lv : List (Nat × AV)} {st : List AV} {h : HP} {z : SR} (hs : sti d M i pc lv st h = some z) : (∃ c', z = .inl c') ∨ i = .ireturn ∨ i = .areturn ∨ i = .return_ ∨ (∃ k, i = .invokevirtual k) ∨ (∃ k, i = .invokestatic k) := by
  cases i with
  | iconst n => exact Or.inl ⟨_, nx_i hs⟩
  | bipush n => exact Or.inl ⟨_, nx_i hs⟩
  | sipush n => exact Or.inl ⟨_, nx_i hs⟩
  | lconst n => exact Or.inl ⟨_, nx_i hs⟩
  | ldc k => obtain ⟨q, -, hs⟩ := opt_some hs; exact Or.inl ⟨_, nx_i hs⟩
  | ldc_w k => obtain ⟨q, -, hs⟩ := opt_some hs; exact Or.inl ⟨_, nx_i hs⟩
  | ldc2_w k => obtain ⟨q, -, hs⟩ := opt_some hs; exact Or.inl ⟨_, nx_i hs⟩
  | goto off => obtain ⟨q, -, hs⟩ := opt_some hs; exact Or.inl ⟨_, nx_i hs⟩
  | iload_n k => obtain ⟨x, -, e⟩ := ldI_i hs; exact Or.inl ⟨_, e⟩
  | iload k => obtain ⟨x, -, e⟩ := ldI_i hs; exact Or.inl ⟨_, e⟩
  | lload_n k => obtain ⟨x, -, e⟩ := ldL_i hs; exact Or.inl ⟨_, e⟩
  | lload k => obtain ⟨x, -, e⟩ := ldL_i hs; exact Or.inl ⟨_, e⟩
  | aload_n k => obtain ⟨x, y, -, e⟩ := ldR_i hs; exact Or.inl ⟨_, e⟩
  | aload k => obtain ⟨x, y, -, e⟩ := ldR_i hs; exact Or.inl ⟨_, e⟩
  | istore_n k => obtain ⟨x, r, -, -, e⟩ := stI_i hs; exact Or.inl ⟨_, e⟩
  | istore k => obtain ⟨x, r, -, -, e⟩ := stI_i hs; exact Or.inl ⟨_, e⟩
  | astore_n k => obtain ⟨x, y, r, -, -, e⟩ := stR_i hs; exact Or.inl ⟨_, e⟩
  | iadd => obtain ⟨x, y, r, -, e⟩ := o2_i hs; exact Or.inl ⟨_, e⟩
  | isub => obtain ⟨x, y, r, -, e⟩ := o2_i hs; exact Or.inl ⟨_, e⟩
  | imul => obtain ⟨x, y, r, -, e⟩ := o2_i hs; exact Or.inl ⟨_, e⟩
  | iand => obtain ⟨x, y, r, -, e⟩ := o2_i hs; exact Or.inl ⟨_, e⟩
  | ior => obtain ⟨x, y, r, -, e⟩ := o2_i hs; exact Or.inl ⟨_, e⟩
  | ixor => obtain ⟨x, y, r, -, e⟩ := o2_i hs; exact Or.inl ⟨_, e⟩
  | ishl => obtain ⟨x, y, r, -, e⟩ := o2_i hs; exact Or.inl ⟨_, e⟩
  | ishr => obtain ⟨x, y, r, -, e⟩ := o2_i hs; exact Or.inl ⟨_, e⟩
  | iushr => obtain ⟨x, y, r, -, e⟩ := o2_i hs; exact Or.inl ⟨_, e⟩
  | ineg => obtain ⟨x, r, -, e⟩ := o1_i hs; exact Or.inl ⟨_, e⟩
  | i2l => obtain ⟨x, r, -, e⟩ := o1_i hs; exact Or.inl ⟨_, e⟩
  | i2c => obtain ⟨x, r, -, e⟩ := o1_i hs; exact Or.inl ⟨_, e⟩
  | iaload => obtain ⟨i, g, j, r, n, -, -, -, e⟩ := aLd_i hs; exact Or.inl ⟨_, e⟩
  | caload => obtain ⟨i, g, j, r, n, -, -, -, e⟩ := aLd_i hs; exact Or.inl ⟨_, e⟩
  | baload => obtain ⟨i, g, j, r, n, -, -, -, e⟩ := aLd_i hs; exact Or.inl ⟨_, e⟩
  | iastore => obtain ⟨x, i, g, j, r, n, -, -, -, e⟩ := aSt_i hs; exact Or.inl ⟨_, e⟩
  | castore => obtain ⟨x, i, g, j, r, n, -, -, -, e⟩ := aSt_i hs; exact Or.inl ⟨_, e⟩
  | bastore => obtain ⟨x, i, g, j, r, n, -, -, -, e⟩ := aSt_i hs; exact Or.inl ⟨_, e⟩
  | getfield idx => obtain ⟨g, j, r, ci, k, w, nf, -, -, -, -, e⟩ := getF_i hs; exact Or.inl ⟨_, e⟩
  | putfield idx => obtain ⟨x, g, j, r, ci, k, w, nf, -, -, -, -, -, -, e⟩ := putF_i hs; exact Or.inl ⟨_, e⟩
  | iinc k n =>
    simp only [sti] at hs
    split at hs
    · obtain ⟨-, hs⟩ := cond_l hs; exact Or.inl ⟨_, nx_i hs⟩
    · cases hs
  | irem =>
    simp only [sti] at hs
    split at hs
    · obtain ⟨-, hs⟩ := cond_r hs; exact Or.inl ⟨_, nx_i hs⟩
    · cases hs
  | lcmp =>
    simp only [sti] at hs
    split at hs
    · exact Or.inl ⟨_, nx_i hs⟩
    · cases hs
  | dup =>
    simp only [sti] at hs
    split at hs
    · obtain ⟨-, hs⟩ := cond_r hs; exact Or.inl ⟨_, nx_i hs⟩
    · cases hs
  | pop =>
    simp only [sti] at hs
    split at hs
    · obtain ⟨-, hs⟩ := cond_r hs; exact Or.inl ⟨_, nx_i hs⟩
    · cases hs
  | dup2 =>
    simp only [sti] at hs
    split at hs
    · obtain ⟨-, hs⟩ := cond_r hs; exact Or.inl ⟨_, nx_i hs⟩
    · cases hs
  | ifCond c off =>
    simp only [sti] at hs
    split at hs
    · obtain ⟨t, -, e⟩ := jmp_i hs; exact Or.inl ⟨_, e⟩
    · cases hs
  | if_icmp c off =>
    simp only [sti] at hs
    split at hs
    · obtain ⟨t, -, e⟩ := jmp_i hs; exact Or.inl ⟨_, e⟩
    · cases hs
  | tableswitch dflt lo hi offs =>
    simp only [sti] at hs
    split at hs
    · rename_i x r
      cases hb : (decide (x.toInt < lo) || decide (hi < x.toInt)) with
      | true => rw [hb] at hs; obtain ⟨t, -, hs⟩ := opt_some hs; exact Or.inl ⟨_, nx_i hs⟩
      | false => rw [hb] at hs; obtain ⟨o, -, hs⟩ := opt_some hs; obtain ⟨t, -, hs⟩ := opt_some hs; exact Or.inl ⟨_, nx_i hs⟩
    · cases hs
  | lookupswitch dflt ps =>
    simp only [sti] at hs
    split at hs
    · obtain ⟨-, hs⟩ := cond_l hs; obtain ⟨t, -, hs⟩ := opt_some hs; exact Or.inl ⟨_, nx_i hs⟩
    · cases hs
  | arraylength =>
    simp only [sti] at hs
    split at hs
    · obtain ⟨t, -, hs⟩ := opt_some hs; exact Or.inl ⟨_, nx_i hs⟩
    · cases hs
  | aaload =>
    simp only [sti] at hs
    split at hs
    · obtain ⟨-, hs⟩ := cond_l hs; exact Or.inl ⟨_, nx_i hs⟩
    · cases hs
  | ireturn => exact Or.inr (Or.inl rfl)
  | areturn => exact Or.inr (Or.inr (Or.inl rfl))
  | return_ => exact Or.inr (Or.inr (Or.inr (Or.inl rfl)))
  | invokevirtual k => exact Or.inr (Or.inr (Or.inr (Or.inr (Or.inl ⟨k, rfl⟩))))
  | invokestatic k => exact Or.inr (Or.inr (Or.inr (Or.inr (Or.inr ⟨k, rfl⟩))))
  | _ => exact absurd (show (none : Option SR) = some z from hs) (by simp)
set_option maxRecDepth 20000 in
set_option maxHeartbeats 4000000 in
theorem ex_ok (l : Launch) (D : va_G) (ad : Nat → Nat → Nat) (ty : Nat → ClassId) (cs : List (Nat × Nat)) (hc : clo cs) : ∀ (n d : Nat) (M : MR) (c : CF) (r : Option AV × HP), GM M → OKC cs c → ex n d M c = some r →
    ∀ {p : Program} {e : Env} {s : State} {m : MethodId} {args : Array Value} {below : List Frame} {meth : Method} {cd : Code} {H : Heap} {locs : List Loc} {ls : Array Slot}, CX p s m args meth cd D ty M → lv_has ls (mL M) (c.2.1.map (em ad)) → va_P D CLS (wl ad ty cs c.2.2.2) H → va_D (aA ad cs) (wl ad ty cs c.2.2.2) → va_S (aA ad cs) s.heap H locs →
      W p l e (rmD d) s m args below meth cd H locs 0 0 (MQ below (QcX D ad ty cs r) args s 0 0 (aA ad cs)) (F0 m c.1 ls (c.2.2.1.map (vl ad))) := by
  intro n
  induction n with
  | zero => intro d M c r _ _ h; cases h
  | succ n ih =>
    have met : ∀ (d : Nat) (M : MR) (as : List AV) (h : HP) (r : Option AV × HP), GM M → (∀ v ∈ as, okv cs v) → wds as ≤ mL M → ex n d M (0, ent 0 as, [], h) = some r → Met l (mN M) (wsM M) (rmD d) (PcX D ad ty cs as h) (QcX D ad ty cs r) 0 0 (aA ad cs) := by
      intro d M as h r hg hok hw hx
      obtain ⟨g1, g2, g3, g4, -⟩ := gm_get hg
      refine Met.ofW (cc := mC M) (maxL := mL M) (ret := mR M) (ws' := gT) (by rw [g2]; exact (pn _ g4).1) rfl ?_
      intro p e s m args below meth c s₁ B hml hv
      obtain ⟨rfl, hP, hK, hD0⟩ := hv
      have hts0 := atoms_spec (ws := wsM M) B.pre
      have hown : s.vm.findClass (mN M).cls = some m.cls := findClass_of_methodNamed B.named
      rw [g2] at hown
      have hl := lv_entry (as.map (vl ad)) (n := mL M) (by rw [wds_len]; exact hw)
      rw [← ent_map] at hl
      rw [lg_entry_eq]
      exact ih d M (0, ent 0 as, [], h) r hg ⟨okv_ent hok, fun v h9 => by cases h9⟩ hx ⟨B.exec, B.bytes, B.returns, hml, hown, fun w h9 => hts0 w (List.mem_cons_of_mem _ h9), B.notSynchronized, hK⟩ hl hP (wl_Dself hD0) va_S.rf
    intro d M c r hg hok hex p e s m args below meth cd H locs ls X hl hP hD hS
    unfold ex at hex
    cases hs : stp d M c with
    | none => rw [hs] at hex; cases hex
    | some z =>
      rw [hs] at hex
      obtain ⟨q, hq, hs⟩ := opt_some hs
      have hdec : decode (mC M) c.1 = .ok q := hg.2 (c.1, q) (lk_mem hq)
      have hlen : lenok q.1 q.2 = true := (gm_get hg).2.2.2.2 (c.1, q) (lk_mem hq)
      have hz := sti_okv hc hok.1 hok.2 hs
      rcases z with c' | r' | ⟨M', as, rest⟩
      · skip
        obtain ⟨i, len⟩ := q
        exact one hc X hdec hlen hl hP hD hS hok.2 hs (fun ls' H' locs' a1 a2 a3 a4 => ih d M c' r hg hz hex X a1 a2 a3 a4)
      · skip
        cases hex
        obtain ⟨hx, hb, hr, hml, hown, hts, hlocks, hK⟩ := X
        obtain ⟨pc, lv, st, h⟩ := c
        obtain ⟨i, len⟩ := q
        dsimp only at hs hdec hlen hP hD hl ⊢
        have fin : ∀ (v : Option Value) (t : State), v = r.1.map (vl ad) → wl ad ty cs r.2 = wl ad ty cs h → t.heap = H → s.WarmedH t.vm → QcX D ad ty cs r args s (.returned v) t := fun v t e1 e2 ht hW => ⟨by rw [e1], by rw [ht, e2]; exact hP, va_K.moved hW.alike hK, hS.F ht⟩
        cases i with
        | ireturn =>
          cases Nat.eq_of_beq_eq_true hlen
          simp only [sti] at hs
          split at hs
          · rename_i x
            split at hs
            · rename_i hR
              cases hs
              rw [hR] at hr
              exact W.iret hx hb hr (fun t ht hW => fin _ t rfl rfl ht hW) hS.2.2 hdec hlocks
            · rename_i hR
              obtain ⟨h8, hs⟩ := cond_l hs
              cases hs
              rw [hR] at hr
              unfold zero1 at h8
              rw [Bool.or_eq_true] at h8
              refine W.zret hx hb hr ?_ (fun t ht hW => fin _ t rfl rfl ht hW) hS.2.2 hdec hlocks
              rcases h8 with h8 | h8 <;> (rw [eq_of_beq h8]; rfl)
            · cases hs
          · cases hs
        | areturn =>
          cases Nat.eq_of_beq_eq_true hlen
          simp only [sti] at hs
          split at hs
          · split at hs
            · rename_i hR
              cases hs
              rw [hR] at hr
              exact W.aret hx hb hr (Or.inl ⟨_, rfl⟩) (Or.inr ⟨_, rfl⟩) (fun t ht hW => fin _ t rfl rfl ht hW) hS.2.2 hdec hlocks
            · cases hs
          · cases hs
        | return_ =>
          cases Nat.eq_of_beq_eq_true hlen
          simp only [sti] at hs
          split at hs
          · split at hs
            · rename_i hR
              cases hs
              rw [hR] at hr
              exact W.vret hx hb hr (fun t ht hW => fin _ t rfl rfl ht hW) hS.2.2 hdec hlocks
            · cases hs
          · cases hs
        | invokevirtual idx =>
          obtain ⟨M2, w, g, j, as2, r2, nf, -, -, -, -, -, -, -, e9⟩ := inv_i hs
          cases e9
        | invokestatic idx =>
          simp only [sti] at hs
          split at hs
          · obtain ⟨-, r, -, ⟨x, y, -, -, e9⟩ | ⟨x, y, -, -, e9⟩ | ⟨x, -, -, e9⟩⟩ := mth_i hs <;> cases e9
          · cases hb9 : (Nat.beq (mK M) 0 && Nat.beq idx 49) with
            | true =>
              rw [hb9] at hs
              obtain ⟨n, g1, j1, g0, j0, n0, n1, -, -, -, -, -, -, -, e9⟩ := acp_i hs
              cases e9
            | false =>
              rw [hb9] at hs
              obtain ⟨M2, w, as2, r2, -, -, -, -, -, -, e9⟩ := ins_i hs
              cases e9
        | _ =>
          rcases sti_l hs with ⟨_, e9⟩ | e9 | e9 | e9 | ⟨_, e9⟩ | ⟨_, e9⟩ <;> cases e9
      · skip
        cases d with
        | zero => cases hex
        | succ d' =>
          dsimp only at hex
          cases hx9 : ex n d' M' (0, ent 0 as, [], c.2.2.2) with
          | none => rw [hx9] at hex; cases hex
          | some rr =>
            obtain ⟨r1, h'⟩ := rr
            rw [hx9] at hex
            have ho1 : ∀ v, r1 = some v → okv cs v := ex_okv hc n d' M' _ (r1, h') ⟨okv_ent hz.1, fun v h9 => by cases h9⟩ hx9
            have hex : ex n (d' + 1) M (c.1 + 3, c.2.1, r1.toList ++ rest, h') = some r := hex
            have hokn : OKC cs (c.1 + 3, c.2.1, r1.toList ++ rest, h') := by
              refine ⟨hok.1, fun v hv => ?_⟩
              rcases List.mem_append.mp hv with h9 | h9
              · cases r1 with
                | none => cases h9
                | some w => rw [List.mem_singleton.mp h9]; exact ho1 w rfl
              · exact hz.2 v h9
            obtain ⟨pc, lv, st, h⟩ := c
            obtain ⟨i, len⟩ := q
            dsimp only at hs hdec hlen hP hD hl hex hokn hx9 ⊢
            obtain ⟨hx, hb, hr, hml, hown, hts, hlocks, hK⟩ := id X
            have hmap : ((r1.map (vl ad)).toList ++ rest.map (vl ad)) = (r1.toList ++ rest).map (vl ad) := by cases r1 <;> simp
            have fin : ∀ (H1 : Heap) (locs1 : List Loc), va_P D CLS (wl ad ty cs h') H1 → H.size ≤ H1.size → (∀ q : Nat, q < H.size → ¬ aA ad cs q → H1[q]? = H[q]?) → va_S (aA ad cs) s.heap H1 locs1 → W p l e (rmD (d' + 1)) s m args below meth cd H1 locs1 (0 + 0) (0 + 0) (MQ below (QcX D ad ty cs r) args s 0 0 (aA ad cs)) (F0 m (pc + 3) ls ((r1.map (vl ad)).toList ++ rest.map (vl ad))) := by
              intro H1 locs1 a1 _ _ a4
              rw [hmap]
              exact ih (d' + 1) M (pc + 3, lv, r1.toList ++ rest, h') r hg hokn hex X hl a1 (wl_D hD) a4
            cases i with
            | invokevirtual idx =>
              cases Nat.eq_of_beq_eq_true hlen
              obtain ⟨M2, w, g, j, as2, r2, nf, hm, hst, rfl, hn, ho, hr4, hw, e9⟩ := inv_i hs
              cases e9
              obtain ⟨hg', -, -, -, -, hi⟩ := cal_ok hm
              obtain ⟨hi1, hi2⟩ := hi hst
              obtain ⟨g1, g2, g3, g4, -⟩ := gm_get hg'
              have hci := (oC_ok ho).1
              obtain ⟨q0, -, hq0⟩ := wl_at (ad := ad) (ty := ty) h (show (g, j) ∈ cs from hz.1 _ List.mem_cons_self)
              rw [eN_o ho] at hq0
              have hrec := va_recv hK hP (cls_at _ hci) hq0
              have hcs := cat_sum ad rest
              refine callx (va_runV (As := as2.map (vl ad)) (rest := rest.map (vl ad)) (C := cnm (mK M')) ⟨hx, hb, hml, hown, hts⟩ (met d' M' (vR g j :: as2) h (r1, h') hg' hz.1 (by exact hw) hx9) ⟨cb_of hts hm, hts _ hi1, ?_⟩ ⟨blindX, hrec, fun U hU hW => ⟨rfl, by rw [hU]; exact hP, va_K.moved hW.alike hK, hD.weaken (fun _ _ _ _ => trivial)⟩⟩ rfl (by rw [List.length_map]; exact hn) hl.1 ?_ (lv_room (by omega)) hdec ⟨Nat.zero_le _, Nat.zero_le _⟩) hS (fun q h9 => h9) (fun q h9 => h9) fin
              · rw [← g2]; exact hts _ hi2
              · show (as2.reverse ++ vR g j :: rest).map (vl ad) = _
                rw [List.map_append, List.map_reverse]
                rfl
            | invokestatic idx =>
              cases Nat.eq_of_beq_eq_true hlen
              simp only [sti] at hs
              split at hs
              · obtain ⟨-, r, -, ⟨x, y, -, rfl, e9⟩ | ⟨x, y, -, rfl, e9⟩ | ⟨x, -, rfl, e9⟩⟩ := mth_i hs <;> cases e9
              · cases hb9 : (Nat.beq (mK M) 0 && Nat.beq idx 49) with
                | true =>
                  rw [hb9] at hs
                  obtain ⟨n, g1, j1, g0, j0, n0, n1, rfl, ha0, ha1, hd, hn, hn0, hn1, e9⟩ := acp_i hs
                  cases e9
                | false =>
                  rw [hb9] at hs
                  obtain ⟨M2, w, as2, r2, hm, hst, rfl, hn, hr4, hw, e9⟩ := ins_i hs
                  cases e9
                  obtain ⟨hg', -, -, -, hi, -⟩ := cal_ok hm
                  have hcs := cat_sum ad rest
                  refine callx (va_runS (As := as.map (vl ad)) (rest := rest.map (vl ad)) ⟨hx, hb, hml, hown, hts⟩ (met d' M' as h (r1, h') hg' hz.1 hw hx9) ⟨cb_of hts hm, hts _ (hi hst)⟩ ⟨blindX, fun U hU hW => ⟨rfl, by rw [hU]; exact hP, va_K.moved hW.alike hK, hD.weaken (fun _ _ _ _ => trivial)⟩⟩ rfl (by rw [List.length_map]; exact hn) hl.1 ?_ (lv_room (by omega)) hdec ⟨Nat.zero_le _, Nat.zero_le _⟩) hS (fun q h9 => h9) (fun q h9 => h9) fin
                  show (as.reverse ++ rest).map (vl ad) = _
                  rw [List.map_append, List.map_reverse]
            | ireturn =>
              simp only [sti] at hs
              split at hs
              · split at hs
                · cases hs
                · obtain ⟨-, hs⟩ := cond_l hs
                  cases hs
                · cases hs
              · cases hs
            | areturn =>
              simp only [sti] at hs
              split at hs
              · split at hs <;> cases hs
              · cases hs
            | return_ =>
              simp only [sti] at hs
              split at hs
              · split at hs <;> cases hs
              · cases hs
            | _ =>
              rcases sti_l hs with ⟨_, e9⟩ | e9 | e9 | e9 | ⟨_, e9⟩ | ⟨_, e9⟩ <;> cases e9
end
section
/-! RUNS of the small machine, goal first -/
theorem ex_up : ∀ (n d : Nat) (M : MR) (c : CF) (r : Option AV × HP), ex n d M c = some r → ex (n + 1) d M c = some r := by
  intro n
  induction n with
  | zero => intro d M c r h; cases h
  | succ n ih =>
    intro d M c r h
    unfold ex at h ⊢
    cases hs : stp d M c with
    | none => rw [hs] at h; cases h
    | some z =>
      rw [hs] at h
      rcases z with c' | r' | ⟨M', as, rest⟩
      · exact ih d M c' r h
      · exact h
      · cases d with
        | zero => cases h
        | succ d' =>
          dsimp only at h ⊢
          cases hx : ex n d' M' (0, ent 0 as, [], c.2.2.2) with
          | none => rw [hx] at h; cases h
          | some rr =>
            rw [hx] at h
            rw [ih d' M' _ rr hx]
            exact ih _ _ _ _ h
theorem ex_mono {n m d : Nat} {M : MR} {c : CF} {r : Option AV × HP} (h : ex n d M c = some r) (hm : n ≤ m) : ex m d M c = some r := by
  induction hm with
  | refl => exact h
  | step _ ih => exact ex_up _ _ _ _ _ ih
def R (d : Nat) (M : MR) (c : CF) (Q : Option AV → HP → Prop) : Prop := ∃ (n : Nat) (r : Option AV × HP), ex n d M c = some r ∧ Q r.1 r.2
abbrev MT (d : Nat) (M : MR) (as : List AV) (h : HP) (Q : Option AV → HP → Prop) : Prop := R d M (0, ent 0 as, [], h) Q
theorem R.mono {d : Nat} {M : MR} {c : CF} {Q Q' : Option AV → HP → Prop} (k : R d M c Q) (hq : ∀ r h, Q r h → Q' r h) : R d M c Q' := by
  obtain ⟨n, r, h1, h2⟩ := k
  exact ⟨n, r, h1, hq _ _ h2⟩
def stps : Nat → Nat → MR → CF → Option CF
  | 0, _, _, c => some c
  | k + 1, d, M, c => match stp d M c with
    | some (.inl c') => stps k d M c'
    | _ => none
theorem R_next {d : Nat} {M : MR} {c c' : CF} {Q : Option AV → HP → Prop} (h : stp d M c = some (.inl c')) (k : R d M c' Q) : R d M c Q := by
  obtain ⟨n, r, h1, h2⟩ := k
  exact ⟨n + 1, r, by unfold ex; rw [h]; exact h1, h2⟩
theorem R_s : ∀ (k : Nat) {d : Nat} {M : MR} {c : CF} (c' : CF) {Q : Option AV → HP → Prop}, stps k d M c = some c' → R d M c' Q → R d M c Q := by
  intro k
  induction k with
  | zero =>
    intro d M c c' Q h hR
    cases h
    exact hR
  | succ k ih =>
    intro d M c c' Q h hR
    unfold stps at h
    split at h
    · rename_i c2 e
      exact R_next e (ih c' h hR)
    · cases h
theorem R_ret {d : Nat} {M : MR} {c : CF} {Q : Option AV → HP → Prop} (r : Option AV) (h' : HP) (h : stp d M c = some (.inr (.inl (r, h')))) (k : Q r h') : R d M c Q := ⟨1, (r, h'), by unfold ex; rw [h], k⟩
theorem R_call {d : Nat} {M : MR} {pc : Nat} {lv : List (Nat × AV)} {st : List AV} {h : HP} {Q Q' : Option AV → HP → Prop} (M' : MR) (as rest : List AV) (hs : stp (d + 1) M (pc, lv, st, h) = some (.inr (.inr (M', as, rest)))) (hc : MT d M' as h Q')
    (k : ∀ r h', Q' r h' → R (d + 1) M (pc + 3, lv, r.toList ++ rest, h') Q) : R (d + 1) M (pc, lv, st, h) Q := by
  obtain ⟨n, ⟨r, h'⟩, h1, h2⟩ := hc
  obtain ⟨n2, r2, h3, h4⟩ := k r h' h2
  refine ⟨max n n2 + 1, r2, ?_, h4⟩
  unfold ex
  rw [hs]
  dsimp only
  rw [ex_mono h1 (Nat.le_max_left n n2)]
  exact ex_mono h3 (Nat.le_max_right n n2)
/-- a call whose answer is an int that is known -/
theorem R_calli {d : Nat} {M : MR} {pc : Nat} {lv : List (Nat × AV)} {st : List AV} {h : HP} {Q : Option AV → HP → Prop} (M' : MR) (as rest : List AV) (x : Int32) (h1 : HP) (hs : stp (d + 1) M (pc, lv, st, h) = some (.inr (.inr (M', as, rest)))) (hc : MT d M' as h (fun r h' => r = some (vI x) ∧ h' = h1))
    (k : R (d + 1) M (pc + 3, lv, vI x :: rest, h1) Q) : R (d + 1) M (pc, lv, st, h) Q :=
  R_call M' as rest hs hc (fun r h' e => by obtain ⟨rfl, rfl⟩ := e; exact k)
theorem R_callv {d : Nat} {M : MR} {pc : Nat} {lv : List (Nat × AV)} {st : List AV} {h : HP} {Q : Option AV → HP → Prop} (M' : MR) (as rest : List AV) (h1 : HP) (hs : stp (d + 1) M (pc, lv, st, h) = some (.inr (.inr (M', as, rest)))) (hc : MT d M' as h (fun r h' => r = none ∧ h' = h1))
    (k : R (d + 1) M (pc + 3, lv, rest, h1) Q) : R (d + 1) M (pc, lv, st, h) Q :=
  R_call M' as rest hs hc (fun r h' e => by obtain ⟨rfl, rfl⟩ := e; exact k)
theorem R_br {d : Nat} {M : MR} {b : Bool} {t f : Nat} {lv : List (Nat × AV)} {st : List AV} {h : HP} {Q : Option AV → HP → Prop} (kt : b = true → R d M (t, lv, st, h) Q) (kf : b = false → R d M (f, lv, st, h) Q) : R d M (cond b t f, lv, st, h) Q := by
  cases b with
  | true => exact kt rfl
  | false => exact kf rfl
/-- a branch on a proposition that the test decides -/
theorem R_bp {d : Nat} {M : MR} {b : Bool} (P : Prop) {t f : Nat} {lv : List (Nat × AV)} {st : List AV} {h : HP} {Q : Option AV → HP → Prop} (hb : b = true ↔ P) (kt : P → R d M (t, lv, st, h) Q) (kf : ¬ P → R d M (f, lv, st, h) Q) : R d M (cond b t f, lv, st, h) Q := by
  cases b with
  | true => exact kt (hb.mp rfl)
  | false => exact kf (fun q => by cases hb.mpr q)
theorem R_bt {d : Nat} {M : MR} {b : Bool} {t f : Nat} {lv : List (Nat × AV)} {st : List AV} {h : HP} {Q : Option AV → HP → Prop} (hb : b = true) (kt : R d M (t, lv, st, h) Q) : R d M (cond b t f, lv, st, h) Q := by rw [hb]; exact kt
theorem R_bf {d : Nat} {M : MR} {b : Bool} {t f : Nat} {lv : List (Nat × AV)} {st : List AV} {h : HP} {Q : Option AV → HP → Prop} (hb : b = false) (kf : R d M (f, lv, st, h) Q) : R d M (cond b t f, lv, st, h) Q := by rw [hb]; exact kf
theorem R_top {d : Nat} {M : MR} {pc : Nat} {lv : List (Nat × AV)} {st : List AV} {h : HP} {Q : Option AV → HP → Prop} {x : Int32} (y : Int32) (e : x = y) (k : R d M (pc, lv, vI y :: st, h) Q) : R d M (pc, lv, vI x :: st, h) Q := by rw [e]; exact k
theorem R_lv {d : Nat} {M : MR} {pc : Nat} {lv lv' : List (Nat × AV)} {st : List AV} {h : HP} {Q : Option AV → HP → Prop} (e : lv = lv') (k : R d M (pc, lv', st, h) Q) : R d M (pc, lv, st, h) Q := by rw [e]; exact k
theorem R_hp {d : Nat} {M : MR} {pc : Nat} {lv : List (Nat × AV)} {st : List AV} {h : HP} {Q : Option AV → HP → Prop} (k : ∀ h', h' = h → R d M (pc, lv, st, h') Q) : R d M (pc, lv, st, h) Q := k h rfl
/-! numbers -/
theorem nI_cl {n : Nat} (h : n < 2147483648) : (nI n).toNatClampNeg = n := nI_clamp h
theorem inb_n {x n : Nat} (h : x < n) (hn : n < 2147483648) : inb (nI x) n = true := by
  unfold inb
  have h1 : ¬ nI x < 0 := nI_pos (by omega)
  have h2 : ¬ n ≤ (nI x).toNatClampNeg := by rw [nI_cl (by omega)]; omega
  simp [h1, h2]
theorem i2_lt {a b : Nat} (ha : a < 2147483648) (hb : b < 2147483648) : if2 .lt (nI a) (nI b) = true ↔ a < b := by
  unfold if2; rw [decide_eq_true_eq]; exact nI_ltI ha hb
theorem i2_ge {a b : Nat} (ha : a < 2147483648) (hb : b < 2147483648) : if2 .ge (nI a) (nI b) = true ↔ b ≤ a := by
  unfold if2; rw [decide_eq_true_eq]; exact nI_leI hb ha
theorem i2_gt {a b : Nat} (ha : a < 2147483648) (hb : b < 2147483648) : if2 .gt (nI a) (nI b) = true ↔ b < a := by
  unfold if2; rw [decide_eq_true_eq]; exact nI_ltI hb ha
theorem i2_le {a b : Nat} (ha : a < 2147483648) (hb : b < 2147483648) : if2 .le (nI a) (nI b) = true ↔ a ≤ b := by
  unfold if2; rw [decide_eq_true_eq]; exact nI_leI ha hb
theorem i2_eq {a b : Nat} (ha : a < 2147483648) (hb : b < 2147483648) : if2 .eq (nI a) (nI b) = true ↔ a = b := by
  unfold if2; rw [decide_eq_true_eq]; exact nI_eq ha hb
theorem i2_ne {a b : Nat} (ha : a < 2147483648) (hb : b < 2147483648) : if2 .ne (nI a) (nI b) = true ↔ ¬ a = b := by
  unfold if2; rw [decide_eq_true_eq, nI_eq ha hb]
theorem x2_eq {x y : Int32} : if2 .eq x y = true ↔ x = y := by unfold if2; rw [decide_eq_true_eq]
theorem x2_ne {x y : Int32} : if2 .ne x y = true ↔ ¬ x = y := by unfold if2; rw [decide_eq_true_eq]
theorem x2_lt {x y : Int32} : if2 .lt x y = true ↔ x < y := by unfold if2; rw [decide_eq_true_eq]
theorem x2_ge {x y : Int32} : if2 .ge x y = true ↔ y ≤ x := by unfold if2; rw [decide_eq_true_eq]
theorem x2_gt {x y : Int32} : if2 .gt x y = true ↔ y < x := by unfold if2; rw [decide_eq_true_eq]
theorem x2_le {x y : Int32} : if2 .le x y = true ↔ x ≤ y := by unfold if2; rw [decide_eq_true_eq]
theorem x0_eq {x : Int32} : if0 .eq x = true ↔ x = 0 := by unfold if0; rw [decide_eq_true_eq]
theorem x0_ne {x : Int32} : if0 .ne x = true ↔ ¬ x = 0 := by unfold if0; rw [decide_eq_true_eq]
theorem x0_lt {x : Int32} : if0 .lt x = true ↔ x < 0 := by unfold if0; rw [decide_eq_true_eq]
theorem x0_ge {x : Int32} : if0 .ge x = true ↔ 0 ≤ x := by unfold if0; rw [decide_eq_true_eq]
theorem x0_gt {x : Int32} : if0 .gt x = true ↔ 0 < x := by unfold if0; rw [decide_eq_true_eq]
theorem x0_le {x : Int32} : if0 .le x = true ↔ x ≤ 0 := by unfold if0; rw [decide_eq_true_eq]
theorem hs_same {h : HP} {g j k : Nat} {x : Int32} : hset h g j k x g j = upd (h g j) k x := hrow_eq
theorem hs_ne {h : HP} {g j k g' j' : Nat} {x : Int32} (e : ¬ (g' = g ∧ j' = j)) : hset h g j k x g' j' = h g' j' := by
  unfold hset hrow
  rw [if_neg e]
theorem hr_ne {h : HP} {g j g' j' : Nat} {f : Nat → Int32} (e : ¬ (g' = g ∧ j' = j)) : hrow h g j f g' j' = h g' j' := by
  unfold hrow
  rw [if_neg e]
theorem up_same {f : Nat → Int32} {k : Nat} {x : Int32} : upd f k x k = x := by simp [upd]
theorem up_ne {f : Nat → Int32} {k j : Nat} {x : Int32} (e : ¬ j = k) : upd f k x j = f j := by simp [upd, e]
/-! array loads and stores, arithmetic, with indices that are written nI -/
theorem R_ld {d : Nat} {M : MR} {pc : Nat} {lv : List (Nat × AV)} {st : List AV} {h : HP} {Q : Option AV → HP → Prop} (g j x n : Nat) (hs : lk (mI M) pc = some (.iaload, 1)) (ha : aC j = some (0, n)) (hx : x < n) (hn : n < 2147483648) (k : R d M (pc + 1, lv, vI (h g j x) :: st, h) Q) : R d M (pc, lv, vI (nI x) :: vR g j :: st, h) Q := by
  refine R_next (c' := (pc + 1, lv, vI (h g j x) :: st, h)) ?_ k
  unfold stp opt
  rw [hs]
  simp only [sti, aLd, ha, inb_n hx hn, nI_cl (Nat.lt_trans hx hn)]
  rfl
theorem R_ldc {d : Nat} {M : MR} {pc : Nat} {lv : List (Nat × AV)} {st : List AV} {h : HP} {Q : Option AV → HP → Prop} (g j x n : Nat) (hs : lk (mI M) pc = some (.caload, 1)) (ha : aC j = some (1, n)) (hx : x < n) (hn : n < 2147483648) (k : R d M (pc + 1, lv, vI (h g j x) :: st, h) Q) : R d M (pc, lv, vI (nI x) :: vR g j :: st, h) Q := by
  refine R_next (c' := (pc + 1, lv, vI (h g j x) :: st, h)) ?_ k
  unfold stp opt
  rw [hs]
  simp only [sti, aLd, ha, inb_n hx hn, nI_cl (Nat.lt_trans hx hn)]
  rfl
theorem R_ldb {d : Nat} {M : MR} {pc : Nat} {lv : List (Nat × AV)} {st : List AV} {h : HP} {Q : Option AV → HP → Prop} (g j x n : Nat) (hs : lk (mI M) pc = some (.baload, 1)) (ha : aC j = some (2, n)) (hx : x < n) (hn : n < 2147483648) (k : R d M (pc + 1, lv, vI (h g j x) :: st, h) Q) : R d M (pc, lv, vI (nI x) :: vR g j :: st, h) Q := by
  refine R_next (c' := (pc + 1, lv, vI (h g j x) :: st, h)) ?_ k
  unfold stp opt
  rw [hs]
  simp only [sti, aLd, ha, inb_n hx hn, nI_cl (Nat.lt_trans hx hn)]
  rfl
theorem R_ldq {d : Nat} {M : MR} {pc : Nat} {lv : List (Nat × AV)} {st : List AV} {h : HP} {Q : Option AV → HP → Prop} (g x : Nat) (hs : lk (mI M) pc = some (.aaload, 1)) (hx : x < 5) (k : R d M (pc + 1, lv, vR (x + 2) 0 :: st, h) Q) : R d M (pc, lv, vI (nI x) :: vR g 14 :: st, h) Q := by
  refine R_next (c' := (pc + 1, lv, vR (x + 2) 0 :: st, h)) ?_ k
  unfold stp opt
  rw [hs]
  simp only [sti, inb_n hx (by decide), nI_cl (Nat.lt_trans hx (by decide : 5 < 2147483648))]
  rfl
theorem R_st {d : Nat} {M : MR} {pc : Nat} {lv : List (Nat × AV)} {st : List AV} {h : HP} {Q : Option AV → HP → Prop} (g j x n : Nat) (v : Int32) (hs : lk (mI M) pc = some (.iastore, 1)) (ha : aC j = some (0, n)) (hx : x < n) (hn : n < 2147483648) (k : ∀ h', h' = hset h g j x v → R d M (pc + 1, lv, st, h') Q) : R d M (pc, lv, vI v :: vI (nI x) :: vR g j :: st, h) Q := by
  refine R_next (c' := (pc + 1, lv, st, hset h g j x v)) ?_ (k _ rfl)
  unfold stp opt
  rw [hs]
  simp only [sti, aSt, ha, inb_n hx hn, nI_cl (Nat.lt_trans hx hn)]
  rfl
theorem R_stc {d : Nat} {M : MR} {pc : Nat} {lv : List (Nat × AV)} {st : List AV} {h : HP} {Q : Option AV → HP → Prop} (g j x n : Nat) (v : Int32) (hs : lk (mI M) pc = some (.castore, 1)) (ha : aC j = some (1, n)) (hx : x < n) (hn : n < 2147483648) (k : ∀ h', h' = hset h g j x (vp_nar .char v) → R d M (pc + 1, lv, st, h') Q) : R d M (pc, lv, vI v :: vI (nI x) :: vR g j :: st, h) Q := by
  refine R_next (c' := (pc + 1, lv, st, hset h g j x (vp_nar .char v))) ?_ (k _ rfl)
  unfold stp opt
  rw [hs]
  simp only [sti, aSt, ha, inb_n hx hn, nI_cl (Nat.lt_trans hx hn)]
  rfl
theorem R_stb {d : Nat} {M : MR} {pc : Nat} {lv : List (Nat × AV)} {st : List AV} {h : HP} {Q : Option AV → HP → Prop} (g j x n : Nat) (v : Int32) (hs : lk (mI M) pc = some (.bastore, 1)) (ha : aC j = some (2, n)) (hx : x < n) (hn : n < 2147483648) (k : ∀ h', h' = hset h g j x (vp_nar .boolean v) → R d M (pc + 1, lv, st, h') Q) : R d M (pc, lv, vI v :: vI (nI x) :: vR g j :: st, h) Q := by
  refine R_next (c' := (pc + 1, lv, st, hset h g j x (vp_nar .boolean v))) ?_ (k _ rfl)
  unfold stp opt
  rw [hs]
  simp only [sti, aSt, ha, inb_n hx hn, nI_cl (Nat.lt_trans hx hn)]
  rfl
theorem R_add {d : Nat} {M : MR} {pc : Nat} {lv : List (Nat × AV)} {st : List AV} {h : HP} {Q : Option AV → HP → Prop} (a b : Nat) (hs : lk (mI M) pc = some (.iadd, 1)) (k : R d M (pc + 1, lv, vI (nI (a + b)) :: st, h) Q) : R d M (pc, lv, vI (nI b) :: vI (nI a) :: st, h) Q := by
  refine R_next (c' := (pc + 1, lv, vI (nI (a + b)) :: st, h)) ?_ k
  unfold stp opt
  rw [hs]
  simp only [sti, o2, nx, nI_add]
theorem R_mul {d : Nat} {M : MR} {pc : Nat} {lv : List (Nat × AV)} {st : List AV} {h : HP} {Q : Option AV → HP → Prop} (a b : Nat) (hs : lk (mI M) pc = some (.imul, 1)) (k : R d M (pc + 1, lv, vI (nI (a * b)) :: st, h) Q) : R d M (pc, lv, vI (nI b) :: vI (nI a) :: st, h) Q := by
  refine R_next (c' := (pc + 1, lv, vI (nI (a * b)) :: st, h)) ?_ k
  unfold stp opt
  rw [hs]
  simp only [sti, o2, nx, pk_mul]
theorem R_sub {d : Nat} {M : MR} {pc : Nat} {lv : List (Nat × AV)} {st : List AV} {h : HP} {Q : Option AV → HP → Prop} (a b : Nat) (hs : lk (mI M) pc = some (.isub, 1)) (hab : b ≤ a) (k : R d M (pc + 1, lv, vI (nI (a - b)) :: st, h) Q) : R d M (pc, lv, vI (nI b) :: vI (nI a) :: st, h) Q := by
  refine R_next (c' := (pc + 1, lv, vI (nI (a - b)) :: st, h)) ?_ k
  unfold stp opt
  rw [hs]
  simp only [sti, o2, nx, pk_sub hab]
theorem R_gi {d : Nat} {M : MR} {pc : Nat} {lv : List (Nat × AV)} {st : List AV} {h : HP} {Q : Option AV → HP → Prop} {x : AV} (k : R d M (pc, lv, x :: st, h) Q) : R d M (pc, lv, x :: st, h) Q := k
end
section
/-! locals that nobody reads any more may be forgotten -/
def relv (lv : List (Nat × AV)) : SR → SR
  | .inl c => .inl (c.1, lv, c.2.2.1, c.2.2.2)
  | .inr z => .inr z
def Sb (lv' lv : List (Nat × AV)) : Prop := (∀ q ∈ lv', q ∈ lv) ∧ ∀ a ∈ lv, ∀ b ∈ lv, a.1 = b.1 → a = b
theorem o2_r {f : Int32 → Int32 → Int32} {pc : Nat} {lv lv' : List (Nat × AV)} {st : List AV} {h : HP} : o2 f pc lv st h = (o2 f pc lv' st h).map (relv lv) := by
  unfold o2
  split <;> rfl
theorem o1_r {f : Int32 → AV} {pc : Nat} {lv lv' : List (Nat × AV)} {st : List AV} {h : HP} : o1 f pc lv st h = (o1 f pc lv' st h).map (relv lv) := by
  unfold o1
  split <;> rfl
theorem cnd_r {b : Bool} {x y : Option SR} {lv : List (Nat × AV)} (h : x = y.map (relv lv)) : cond b x none = (cond b y none).map (relv lv) := by
  cases b with
  | true => exact h
  | false => rfl
theorem cnd_q {b : Bool} {x y : Option SR} {lv : List (Nat × AV)} (h : x = y.map (relv lv)) : cond b none x = (cond b none y).map (relv lv) := by
  cases b with
  | false => exact h
  | true => rfl
theorem opt_r {α : Type} {o : Option α} {f g : α → Option SR} {lv : List (Nat × AV)} (h : ∀ a, f a = (g a).map (relv lv)) : opt o f = (opt o g).map (relv lv) := by
  cases o with
  | none => rfl
  | some a => exact h a
theorem aLd_r {t pc : Nat} {lv lv' : List (Nat × AV)} {st : List AV} {h : HP} : aLd t pc lv st h = (aLd t pc lv' st h).map (relv lv) := by
  unfold aLd
  split
  · split
    · exact cnd_r rfl
    · rfl
  · rfl
theorem aSt_r {t pc : Nat} {f : Int32 → Int32} {lv lv' : List (Nat × AV)} {st : List AV} {h : HP} : aSt t f pc lv st h = (aSt t f pc lv' st h).map (relv lv) := by
  unfold aSt
  split
  · split
    · exact cnd_r rfl
    · rfl
  · rfl
theorem getF_r {M : MR} {idx pc : Nat} {lv lv' : List (Nat × AV)} {st : List AV} {h : HP} : getF M idx pc lv st h = (getF M idx pc lv' st h).map (relv lv) := by
  unfold getF
  split
  · exact opt_r (fun _ => opt_r (fun _ => cnd_r rfl))
  · rfl
theorem putF_r {M : MR} {idx pc : Nat} {lv lv' : List (Nat × AV)} {st : List AV} {h : HP} : putF M idx pc lv st h = (putF M idx pc lv' st h).map (relv lv) := by
  unfold putF
  split
  · exact opt_r (fun _ => opt_r (fun _ => cnd_r rfl))
  · rfl
theorem acp_r {d pc : Nat} {lv lv' : List (Nat × AV)} {st : List AV} {h : HP} : acp d pc lv st h = (acp d pc lv' st h).map (relv lv) := by
  unfold acp
  split
  · exact opt_r (fun _ => opt_r (fun _ => cnd_r rfl))
  · rfl
theorem mth_r {d op pc : Nat} {lv lv' : List (Nat × AV)} {st : List AV} {h : HP} : mth d op pc lv st h = (mth d op pc lv' st h).map (relv lv) := by
  unfold mth
  split
  · exact cnd_r rfl
  · exact cnd_r rfl
  · exact cnd_r rfl
  · rfl
theorem jmp_r {c : Bool} {pc : Nat} {off : Int} {lv lv' : List (Nat × AV)} {st : List AV} {h : HP} : jmp c pc off lv st h = (jmp c pc off lv' st h).map (relv lv) := by
  unfold jmp
  split <;> rfl
theorem inv_r {M : MR} {idx : Nat} {lv : List (Nat × AV)} {st : List AV} : inv M idx st = (inv M idx st).map (relv lv) := by
  cases h : inv M idx st with
  | none => rfl
  | some z =>
    obtain ⟨M', w, g, j, as, r, nf, -, -, -, -, -, -, -, rfl⟩ := inv_i h
    rfl
theorem ins_r {M : MR} {idx : Nat} {lv : List (Nat × AV)} {st : List AV} : ins M idx st = (ins M idx st).map (relv lv) := by
  cases h : ins M idx st with
  | none => rfl
  | some z =>
    obtain ⟨M', w, as, r, -, -, -, -, -, -, rfl⟩ := ins_i h
    rfl
theorem sb_lk {lv' lv : List (Nat × AV)} (hs : Sb lv' lv) {i : Nat} {v : AV} (h : lk lv' i = some v) : lk lv i = some v := by
  have h1 := hs.1 _ (lk_mem h)
  have key : ∀ l : List (Nat × AV), (i, v) ∈ l → (∀ b ∈ l, i = b.1 → (i, v) = b) → lk l i = some v := by
    intro l
    induction l with
    | nil => intro h9; cases h9
    | cons q r ih =>
      intro h9 hf
      unfold lk
      cases hb : Nat.beq q.1 i with
      | true =>
        have e := hf q List.mem_cons_self (Nat.eq_of_beq_eq_true hb).symm
        rw [← e]
        rfl
      | false =>
        refine ih ?_ (fun b hb2 => hf b (List.mem_cons_of_mem _ hb2))
        rcases List.mem_cons.mp h9 with e | e
        · rw [← e] at hb
          simp at hb
        · exact e
  exact key lv h1 (fun b hb e => hs.2 _ h1 b hb e)
theorem sb_lst {lv' lv : List (Nat × AV)} (hs : Sb lv' lv) (i : Nat) (x : AV) : Sb (lst lv' i x) (lst lv i x) := by
  unfold lst
  refine ⟨fun q hq => ?_, fun a ha b hb e => ?_⟩
  · rcases List.mem_cons.mp hq with e | e
    · rw [e]; exact List.mem_cons_self
    · have := List.mem_filter.mp e
      exact List.mem_cons_of_mem _ (List.mem_filter.mpr ⟨hs.1 _ this.1, this.2⟩)
  · rcases List.mem_cons.mp ha with e1 | e1 <;> rcases List.mem_cons.mp hb with e2 | e2
    · rw [e1, e2]
    · have := (List.mem_filter.mp e2).2
      rw [e1] at e
      rw [← e] at this
      simp at this
    · have := (List.mem_filter.mp e1).2
      rw [e2] at e
      rw [e] at this
      simp at this
    · exact hs.2 a (List.mem_filter.mp e1).1 b (List.mem_filter.mp e2).1 e
/-- the step with more locals -/
def SbR (lv' lv : List (Nat × AV)) (z z' : SR) : Prop := match z, z' with
  | .inl c, .inl c' => c.1 = c'.1 ∧ c.2.2 = c'.2.2 ∧ Sb c.2.1 c'.2.1
  | .inr a, .inr b => a = b
  | _, _ => False
theorem sbr_rel {lv' lv : List (Nat × AV)} (hs : Sb lv' lv) {x y : Option SR} (h : y = x.map (relv lv)) {z : SR} (hx : x = some z) (hz : ∀ c, z = .inl c → c.2.1 = lv') : ∃ z', y = some z' ∧ SbR lv' lv z z' := by
  refine ⟨relv lv z, by rw [h, hx]; rfl, ?_⟩
  rcases z with c | a
  · exact ⟨rfl, rfl, by rw [hz c rfl]; exact hs⟩
  · rfl
theorem sti_sub {d : Nat} {M : MR} {i : Instr} {pc : Nat} {lv' lv : List (Nat × AV)} {st : List AV} {h : HP} {z : SR} (hs : Sb lv' lv) (hz : sti d M i pc lv' st h = some z) : ∃ z', sti d M i pc lv st h = some z' ∧ SbR lv' lv z z' := by
  have rel : (sti d M i pc lv st h = (sti d M i pc lv' st h).map (relv lv)) → (∀ c, z = .inl c → c.2.1 = lv') → ∃ z', sti d M i pc lv st h = some z' ∧ SbR lv' lv z z' := fun a b => sbr_rel hs a hz b
  cases i with
  | iconst n => exact rel rfl (fun c e => by rw [nx_i hz] at e; cases e; rfl)
  | bipush n => exact rel rfl (fun c e => by rw [nx_i hz] at e; cases e; rfl)
  | sipush n => exact rel rfl (fun c e => by rw [nx_i hz] at e; cases e; rfl)
  | lconst n => exact rel rfl (fun c e => by rw [nx_i hz] at e; cases e; rfl)
  | ldc k => exact rel (opt_r (fun _ => rfl)) (fun c e => by obtain ⟨q, -, hq⟩ := opt_some hz; rw [nx_i hq] at e; cases e; rfl)
  | ldc_w k => exact rel (opt_r (fun _ => rfl)) (fun c e => by obtain ⟨q, -, hq⟩ := opt_some hz; rw [nx_i hq] at e; cases e; rfl)
  | ldc2_w k => exact rel (opt_r (fun _ => rfl)) (fun c e => by obtain ⟨q, -, hq⟩ := opt_some hz; rw [nx_i hq] at e; cases e; rfl)
  | iload_n k =>
    simp only [sti, ldI] at hz ⊢
    split at hz
    · rename_i x e
      cases nx_i hz
      rw [sb_lk hs e]
      exact ⟨_, rfl, rfl, rfl, hs⟩
    · cases hz
  | iload k =>
    simp only [sti, ldI] at hz ⊢
    split at hz
    · rename_i x e
      cases nx_i hz
      rw [sb_lk hs e]
      exact ⟨_, rfl, rfl, rfl, hs⟩
    · cases hz
  | lload_n k =>
    simp only [sti, ldL] at hz ⊢
    split at hz
    · rename_i x e
      cases nx_i hz
      rw [sb_lk hs e]
      exact ⟨_, rfl, rfl, rfl, hs⟩
    · cases hz
  | lload k =>
    simp only [sti, ldL] at hz ⊢
    split at hz
    · rename_i x e
      cases nx_i hz
      rw [sb_lk hs e]
      exact ⟨_, rfl, rfl, rfl, hs⟩
    · cases hz
  | aload_n k =>
    simp only [sti, ldR] at hz ⊢
    split at hz
    · rename_i x e
      cases nx_i hz
      rw [sb_lk hs e]
      exact ⟨_, rfl, rfl, rfl, hs⟩
    · cases hz
  | aload k =>
    simp only [sti, ldR] at hz ⊢
    split at hz
    · rename_i x e
      cases nx_i hz
      rw [sb_lk hs e]
      exact ⟨_, rfl, rfl, rfl, hs⟩
    · cases hz
  | istore_n k =>
    simp only [sti, stI] at hz ⊢
    split at hz
    · obtain ⟨h1, h2⟩ := cond_l hz
      cases nx_i h2
      rw [h1]
      exact ⟨_, rfl, rfl, rfl, sb_lst hs _ _⟩
    · cases hz
  | istore k =>
    simp only [sti, stI] at hz ⊢
    split at hz
    · obtain ⟨h1, h2⟩ := cond_l hz
      cases nx_i h2
      rw [h1]
      exact ⟨_, rfl, rfl, rfl, sb_lst hs _ _⟩
    · cases hz
  | astore_n k =>
    simp only [sti, stR] at hz ⊢
    split at hz
    · obtain ⟨h1, h2⟩ := cond_l hz
      cases nx_i h2
      rw [h1]
      exact ⟨_, rfl, rfl, rfl, sb_lst hs _ _⟩
    · cases hz
  | iinc k n =>
    simp only [sti] at hz ⊢
    split at hz
    · rename_i x e
      obtain ⟨h1, h2⟩ := cond_l hz
      cases nx_i h2
      rw [sb_lk hs e]
      simp only [h1]
      exact ⟨_, rfl, rfl, rfl, sb_lst hs _ _⟩
    · cases hz
  | iadd => exact rel o2_r (fun c e => by obtain ⟨x, y, r, -, rfl⟩ := o2_i hz; cases e; rfl)
  | isub => exact rel o2_r (fun c e => by obtain ⟨x, y, r, -, rfl⟩ := o2_i hz; cases e; rfl)
  | imul => exact rel o2_r (fun c e => by obtain ⟨x, y, r, -, rfl⟩ := o2_i hz; cases e; rfl)
  | iand => exact rel o2_r (fun c e => by obtain ⟨x, y, r, -, rfl⟩ := o2_i hz; cases e; rfl)
  | ior => exact rel o2_r (fun c e => by obtain ⟨x, y, r, -, rfl⟩ := o2_i hz; cases e; rfl)
  | ixor => exact rel o2_r (fun c e => by obtain ⟨x, y, r, -, rfl⟩ := o2_i hz; cases e; rfl)
  | ishl => exact rel o2_r (fun c e => by obtain ⟨x, y, r, -, rfl⟩ := o2_i hz; cases e; rfl)
  | ishr => exact rel o2_r (fun c e => by obtain ⟨x, y, r, -, rfl⟩ := o2_i hz; cases e; rfl)
  | iushr => exact rel o2_r (fun c e => by obtain ⟨x, y, r, -, rfl⟩ := o2_i hz; cases e; rfl)
  | ineg => exact rel o1_r (fun c e => by obtain ⟨x, r, -, rfl⟩ := o1_i hz; cases e; rfl)
  | i2l => exact rel o1_r (fun c e => by obtain ⟨x, r, -, rfl⟩ := o1_i hz; cases e; rfl)
  | i2c => exact rel o1_r (fun c e => by obtain ⟨x, r, -, rfl⟩ := o1_i hz; cases e; rfl)
  | irem =>
    refine rel ?_ (fun c e => ?_)
    · unfold sti
      dsimp only
      split
      · exact cnd_q rfl
      · rfl
    · simp only [sti] at hz
      split at hz
      · obtain ⟨-, hz⟩ := cond_r hz
        rw [nx_i hz] at e; cases e; rfl
      · cases hz
  | lcmp =>
    refine rel ?_ (fun c e => ?_)
    · unfold sti
      dsimp only
      split <;> rfl
    · simp only [sti] at hz
      split at hz
      · rw [nx_i hz] at e; cases e; rfl
      · cases hz
  | dup =>
    refine rel ?_ (fun c e => ?_)
    · unfold sti
      dsimp only
      split
      · exact cnd_q rfl
      · rfl
    · simp only [sti] at hz
      split at hz
      · obtain ⟨-, hz⟩ := cond_r hz
        rw [nx_i hz] at e; cases e; rfl
      · cases hz
  | pop =>
    refine rel ?_ (fun c e => ?_)
    · unfold sti
      dsimp only
      split
      · exact cnd_q rfl
      · rfl
    · simp only [sti] at hz
      split at hz
      · obtain ⟨-, hz⟩ := cond_r hz
        rw [nx_i hz] at e; cases e; rfl
      · cases hz
  | dup2 =>
    refine rel ?_ (fun c e => ?_)
    · unfold sti
      dsimp only
      split
      · exact cnd_q rfl
      · rfl
    · simp only [sti] at hz
      split at hz
      · obtain ⟨-, hz⟩ := cond_r hz
        rw [nx_i hz] at e; cases e; rfl
      · cases hz
  | ifCond cd off =>
    refine rel ?_ (fun c e => ?_)
    · unfold sti
      dsimp only
      split
      · exact jmp_r
      · rfl
    · simp only [sti] at hz
      split at hz
      · obtain ⟨t, -, rfl⟩ := jmp_i hz; cases e; rfl
      · cases hz
  | if_icmp cd off =>
    refine rel ?_ (fun c e => ?_)
    · unfold sti
      dsimp only
      split
      · exact jmp_r
      · rfl
    · simp only [sti] at hz
      split at hz
      · obtain ⟨t, -, rfl⟩ := jmp_i hz; cases e; rfl
      · cases hz
  | goto off => exact rel (opt_r (fun _ => rfl)) (fun c e => by obtain ⟨q, -, hq⟩ := opt_some hz; rw [nx_i hq] at e; cases e; rfl)
  | tableswitch dflt lo hi offs =>
    refine rel ?_ (fun c e => ?_)
    · unfold sti
      dsimp only
      split
      · rename_i x r
        cases (decide (x.toInt < lo) || decide (hi < x.toInt)) with
        | true => exact opt_r (fun _ => rfl)
        | false => exact opt_r (fun _ => opt_r (fun _ => rfl))
      · rfl
    · simp only [sti] at hz
      split at hz
      · rename_i x r
        cases hb : (decide (x.toInt < lo) || decide (hi < x.toInt)) with
        | true => rw [hb] at hz; obtain ⟨t, -, hz⟩ := opt_some hz; rw [nx_i hz] at e; cases e; rfl
        | false => rw [hb] at hz; obtain ⟨o, -, hz⟩ := opt_some hz; obtain ⟨t, -, hz⟩ := opt_some hz; rw [nx_i hz] at e; cases e; rfl
      · cases hz
  | lookupswitch dflt ps =>
    refine rel ?_ (fun c e => ?_)
    · unfold sti
      dsimp only
      split
      · exact cnd_r (opt_r (fun _ => rfl))
      · rfl
    · simp only [sti] at hz
      split at hz
      · obtain ⟨-, hz⟩ := cond_l hz
        obtain ⟨t, -, hz⟩ := opt_some hz; rw [nx_i hz] at e; cases e; rfl
      · cases hz
  | getfield idx => exact rel getF_r (fun c e => by obtain ⟨g, j, r, ci, k, w, nf, -, -, -, -, rfl⟩ := getF_i hz; cases e; rfl)
  | putfield idx => exact rel putF_r (fun c e => by obtain ⟨x, g, j, r, ci, k, w, nf, -, -, -, -, -, -, rfl⟩ := putF_i hz; cases e; rfl)
  | arraylength =>
    refine rel ?_ (fun c e => ?_)
    · unfold sti
      dsimp only
      split
      · exact opt_r (fun _ => rfl)
      · rfl
    · simp only [sti] at hz
      split at hz
      · obtain ⟨t, -, hz⟩ := opt_some hz; rw [nx_i hz] at e; cases e; rfl
      · cases hz
  | iaload => exact rel aLd_r (fun c e => by obtain ⟨i, g, j, r, n, -, -, -, rfl⟩ := aLd_i hz; cases e; rfl)
  | caload => exact rel aLd_r (fun c e => by obtain ⟨i, g, j, r, n, -, -, -, rfl⟩ := aLd_i hz; cases e; rfl)
  | baload => exact rel aLd_r (fun c e => by obtain ⟨i, g, j, r, n, -, -, -, rfl⟩ := aLd_i hz; cases e; rfl)
  | aaload =>
    refine rel ?_ (fun c e => ?_)
    · unfold sti
      dsimp only
      split
      · exact cnd_r rfl
      · rfl
    · simp only [sti] at hz
      split at hz
      · obtain ⟨-, hz⟩ := cond_l hz
        rw [nx_i hz] at e; cases e; rfl
      · cases hz
  | iastore => exact rel aSt_r (fun c e => by obtain ⟨x, i, g, j, r, n, -, -, -, rfl⟩ := aSt_i hz; cases e; rfl)
  | castore => exact rel aSt_r (fun c e => by obtain ⟨x, i, g, j, r, n, -, -, -, rfl⟩ := aSt_i hz; cases e; rfl)
  | bastore => exact rel aSt_r (fun c e => by obtain ⟨x, i, g, j, r, n, -, -, -, rfl⟩ := aSt_i hz; cases e; rfl)
  | ireturn =>
    have h0 : sti d M .ireturn pc lv st h = some z := hz
    simp only [sti] at hz
    split at hz
    · split at hz
      · cases hz
        exact ⟨_, h0, rfl⟩
      · obtain ⟨h8, hz⟩ := cond_l hz
        cases hz
        exact ⟨_, h0, rfl⟩
      · cases hz
    · cases hz
  | areturn =>
    have h0 : sti d M .areturn pc lv st h = some z := hz
    simp only [sti] at hz
    split at hz
    · split at hz
      · cases hz
        exact ⟨_, h0, rfl⟩
      · cases hz
    · cases hz
  | return_ =>
    have h0 : sti d M .return_ pc lv st h = some z := hz
    simp only [sti] at hz
    split at hz
    · split at hz
      · cases hz
        exact ⟨_, h0, rfl⟩
      · cases hz
    · cases hz
  | invokevirtual idx => exact ⟨z, hz, by obtain ⟨M', w, g, j, as, r, nf, -, -, -, -, -, -, -, rfl⟩ := inv_i hz; rfl⟩
  | invokestatic idx =>
    refine rel ?_ (fun c e => ?_)
    · unfold sti
      dsimp only
      split
      · exact mth_r
      · cases (Nat.beq (mK M) 0 && Nat.beq idx 49) with
        | true => exact acp_r
        | false => exact ins_r
    · simp only [sti] at hz
      split at hz
      · obtain ⟨-, r, -, ⟨x, y, -, -, rfl⟩ | ⟨x, y, -, -, rfl⟩ | ⟨x, -, -, rfl⟩⟩ := mth_i hz <;> (cases e; rfl)
      · cases hb9 : (Nat.beq (mK M) 0 && Nat.beq idx 49) with
        | true =>
          rw [hb9] at hz
          obtain ⟨n, g1, j1, g0, j0, n0, n1, -, -, -, -, -, -, -, rfl⟩ := acp_i hz
          cases e; rfl
        | false =>
          rw [hb9] at hz
          obtain ⟨M2, w, as2, r2, -, -, -, -, -, -, rfl⟩ := ins_i hz
          cases e
  | _ => exact absurd (show (none : Option SR) = some z from hz) (by simp)
theorem ex_sub : ∀ (n d : Nat) (M : MR) (pc : Nat) (lv' lv : List (Nat × AV)) (st : List AV) (h : HP) (r : Option AV × HP), Sb lv' lv → ex n d M (pc, lv', st, h) = some r → ex n d M (pc, lv, st, h) = some r := by
  intro n
  induction n with
  | zero => intro d M pc lv' lv st h r _ hx; cases hx
  | succ n ih =>
    intro d M pc lv' lv st h r hs hx
    unfold ex at hx ⊢
    cases hz : stp d M (pc, lv', st, h) with
    | none => rw [hz] at hx; cases hx
    | some z =>
      rw [hz] at hx
      obtain ⟨q, hq, hz⟩ := opt_some hz
      obtain ⟨z', hz', hr⟩ := sti_sub hs hz
      have e : stp d M (pc, lv, st, h) = some z' := by
        show opt (lk (mI M) pc) _ = _
        rw [show lk (mI M) pc = some q from hq]
        exact hz'
      rw [e]
      rcases z with c | a | ⟨M', as, rest⟩
      · rcases z' with c' | a'
        · obtain ⟨h1, h2, h3⟩ := hr
          obtain ⟨pc1, lv1, st1, hp1⟩ := c
          obtain ⟨pc2, lv2, st2, hp2⟩ := c'
          cases h1
          cases h2
          exact ih d M pc1 lv1 lv2 st1 hp1 r h3 hx
        · cases hr
      · rcases z' with c' | a'
        · cases hr
        · cases hr
          exact hx
      · rcases z' with c' | a'
        · cases hr
        · cases hr
          cases d with
          | zero => cases hx
          | succ d' =>
            dsimp only at hx ⊢
            cases h9 : ex n d' M' (0, ent 0 as, [], h) with
            | none => rw [h9] at hx; cases hx
            | some rr =>
              rw [h9] at hx
              exact ih _ _ _ _ _ _ _ _ hs hx
theorem R_fg {d : Nat} {M : MR} {pc : Nat} {lv lv' : List (Nat × AV)} {st : List AV} {h : HP} {Q : Option AV → HP → Prop} (ks : List Nat) (hk : ks.filterMap (fun k => lv[k]?) = lv') (keys : List Nat) (he : lv.map Prod.fst = keys) (hn : keys.Nodup) (k : R d M (pc, lv', st, h) Q) : R d M (pc, lv, st, h) Q := by
  obtain ⟨n, r, h1, h2⟩ := k
  refine ⟨n, r, ex_sub n d M pc lv' lv st h r ⟨fun q hq => ?_, fun a ha b hb e => ?_⟩ h1, h2⟩
  · rw [← hk] at hq
    obtain ⟨i, -, hi⟩ := List.mem_filterMap.mp hq
    exact List.mem_of_getElem? hi
  · obtain ⟨i, hi⟩ := List.getElem?_of_mem ha
    obtain ⟨j, hj⟩ := List.getElem?_of_mem hb
    have e1 : keys[i]? = some a.1 := by rw [← he, List.getElem?_map, hi]; rfl
    have e2 : keys[j]? = some b.1 := by rw [← he, List.getElem?_map, hj]; rfl
    have hl : i < keys.length := (List.getElem?_eq_some_iff.mp e1).1
    have : i = j := (List.getElem?_inj hl hn).mp (by rw [e1, e2, e])
    subst this
    exact Option.some.inj (hi.symm.trans hj)
end
section
/-! THE CONCERT, as the model's row of numbers: 0 songs, 1.. times, 9 encores, 10.. pins, 18.. order, 26 players, 27.. stands, 32 kinds, 33.. units, 39.. kept at, 45.. parts (kind, tuning) -/
def kd (s : Nat → Int32) (a q : Nat) : Int32 := s (45 + 2 * (a * 5 + q))
def tn (s : Nat → Int32) (a q : Nat) : Int32 := s (46 + 2 * (a * 5 + q))
/-- how many of the first players play a kind in a song -/
def cn (s : Nat → Int32) (a : Nat) (x : Int32) : Nat → Nat
  | 0 => 0
  | q + 1 => cn s a x q + (if kd s a q = x then 1 else 0)
theorem cn_le (s : Nat → Int32) (a : Nat) (x : Int32) : ∀ q, cn s a x q ≤ q := by
  intro q
  induction q with
  | zero => exact Nat.le_refl _
  | succ q ih =>
    show cn s a x q + (if kd s a q = x then 1 else 0) ≤ q + 1
    split <;> omega
/-- the cells of a Concert hold the row -/
def CO (h : HP) (g : Nat) (s : Nat → Int32) (n p k : Nat) : Prop :=
  (h g 0 0 = nI n ∧ h g 0 1 = nI p ∧ h g 0 2 = nI k ∧ h g 0 3 = s 9) ∧ (∀ j, j < n → h g 1 j = s (1 + j)) ∧ (∀ j, j < p → h g 2 j = s (27 + j)) ∧ (∀ j, j < k → h g 3 j = s (33 + j) ∧ h g 4 j = s (39 + j)) ∧
  (∀ i, i < 40 → h g 5 i = s (45 + 2 * i)) ∧ (∀ i, i < 40 → ¬ s (45 + 2 * i) = -1 → h g 6 i = s (46 + 2 * i)) ∧ (∀ j, j < 8 → h g 7 j = s (10 + j) ∧ h g 8 j = s (18 + j))
def WF (s : Nat → Int32) (n p k : Nat) : Prop :=
  (s 0 = nI n ∧ s 26 = nI p ∧ s 32 = nI k) ∧ (n ≤ 8 ∧ p ≤ 5 ∧ k ≤ 6) ∧ (∃ e, s 9 = nI e ∧ e < 2 ^ n) ∧
  (∀ j, j < n → ∃ t, s (1 + j) = nI t ∧ 1 ≤ t ∧ t ≤ 20) ∧ (∀ j, j < k → ∃ u, s (33 + j) = nI u ∧ u ≤ 6) ∧
  (∀ a, a < 8 → ∀ q, q < 5 → kd s a q = -1 ∨ ((∃ c, c < k ∧ kd s a q = nI c) ∧ ∃ t, t ≤ 5 ∧ tn s a q = nI t)) ∧
  (∀ a, a < n → ∀ c, c < k → nI (cn s a (nI c) p) ≤ s (33 + c))
def WO (s : Nat → Int32) (n : Nat) : Prop := (∀ a, a < 8 → s (10 + a) = -1 ∨ ∃ q, q < n ∧ s (10 + a) = nI q) ∧ (∀ j, j < n → ∃ o, o < n ∧ s (18 + j) = nI o) ∧ (∀ i j, i < n → j < n → s (18 + i) = s (18 + j) → i = j)
/-- as a reading begins and goes on: no pins, the order of the numbers -/
def WD (s : Nat → Int32) : Prop := (∀ a, a < 8 → s (10 + a) = -1) ∧ (∀ j, j < 8 → s (18 + j) = nI j)
def bI (b : Bool) : Int32 := cond b 1 0
/-- the change of a player; m: the kind that has one unit more, or -1 -/
def un (s : Nat → Int32) (m x : Int32) : Int32 := s (33 + x.toNatClampNeg) + (if x = m then 1 else 0)
def chg (s : Nat → Int32) (m : Int32) (p a b q : Nat) : Nat :=
  if kd s a q = -1 then (if kd s b q = -1 then 0 else 1) else if kd s b q = -1 then 2 else if kd s a q = kd s b q then
    (if tn s a q = tn s b q then 0 else if nI (cn s b (kd s b q) p) < un s m (kd s b q) then 4 else 5) else 3
def far (s : Nat → Int32) (q : Nat) (x : Int32) : Nat := if s (39 + x.toNatClampNeg) = s (27 + q) then 0 else 1
def dst (x y : Int32) : Nat := if x < y then y.toNatClampNeg - x.toNatClampNeg else x.toNatClampNeg - y.toNatClampNeg
def cof (s : Nat → Int32) (m : Int32) (p a b q : Nat) : Nat := match chg s m p a b q with
  | 1 => 1 + far s q (kd s b q)
  | 2 => 1 + far s q (kd s a q)
  | 3 => 3 + far s q (kd s a q) + far s q (kd s b q)
  | 4 => 2 + far s q (kd s b q)
  | 5 => 2 + dst (tn s a q) (tn s b q)
  | _ => 0
/-- the cost of a changeover: the first players -/
def btw (s : Nat → Int32) (m : Int32) (p a b : Nat) : Nat → Nat
  | 0 => 0
  | q + 1 => btw s m p a b q + cof s m p a b q
theorem chg_le (s : Nat → Int32) (m : Int32) (p a b q : Nat) : chg s m p a b q ≤ 5 := by
  unfold chg
  repeat' split
  all_goals omega
theorem far_le (s : Nat → Int32) (q : Nat) (x : Int32) : far s q x ≤ 1 := by
  unfold far
  split <;> omega
/-! bits of small masks -/
def pcn : Nat → Nat → Nat
  | 0, _ => 0
  | i + 1, x => pcn i x + (if x.testBit i then 1 else 0)
def pop (x : Nat) : Nat := pcn 8 x
theorem pcn_le (x : Nat) : ∀ i, pcn i x ≤ i := by
  intro i
  induction i with
  | zero => exact Nat.le_refl _
  | succ i ih =>
    show pcn i x + (if x.testBit i then 1 else 0) ≤ i + 1
    split <;> omega
theorem pop_le (x : Nat) : pop x ≤ 8 := pcn_le x 8
theorem bit_sh : ∀ x, x < 256 → ∀ a, a < 8 → ((nI x >>> (nI a &&& 31)) &&& nI 1) = nI (if x.testBit a then 1 else 0) := by decide +kernel
theorem bit_or : ∀ x, x < 256 → ∀ a, a < 8 → (nI x ||| (nI 1 <<< (nI a &&& 31))) = nI (x ||| 2 ^ a) := by decide +kernel
theorem bit_lt : ∀ x, x < 256 → ∀ a, a < 8 → x ||| 2 ^ a < 256 := by decide +kernel
theorem bit_tb : ∀ x, x < 256 → ∀ a, a < 8 → ∀ b, b < 8 → (x ||| 2 ^ a).testBit b = (x.testBit b || decide (a = b)) := by decide +kernel
theorem bit_pop : ∀ x, x < 256 → ∀ a, a < 8 → x.testBit a = false → pop (x ||| 2 ^ a) = pop x + 1 := by decide +kernel
theorem bit_all : ∀ n, n < 9 → (nI 1 <<< (nI n &&& 31)) = nI (2 ^ n) := by decide +kernel
theorem pw_le {n : Nat} (h : n ≤ 8) : 2 ^ n ≤ 256 := Nat.pow_le_pow_right (by decide) h
theorem inb_lo {x : Int32} {n : Nat} (h : x < 0) : inb x n = false := by simp [inb, h]
theorem inb_hi {x : Int32} {n : Nat} (hn : n < 2147483648) (h : nI n ≤ x) : inb x n = false := by
  have e : n ≤ x.toNatClampNeg := by
    have h1 := Int32.le_iff_toInt_le.mp h
    rw [nI_toInt hn] at h1
    show n ≤ x.toInt.toNat
    omega
  simp [inb, e]
theorem inb_mid {x : Int32} {n : Nat} (hn : n < 2147483648) (h0 : ¬ x < 0) (h : ¬ nI n ≤ x) : inb x n = true := by
  obtain ⟨j, hj, rfl⟩ := nI_of h0
  have h1 : j < n := by
    apply Nat.lt_of_not_le
    intro q
    exact h (nI_le q hj)
  exact inb_n h1 hn
theorem inb_ex {x : Int32} {n : Nat} (hn : n < 2147483648) (h : inb x n = true) : ∃ a, a < n ∧ x = nI a := vp_in_of (inb_vp h) hn
theorem bI_ne {b : Bool} : ¬ bI b = 0 ↔ b = true := by cases b <;> decide
theorem bI_eq {b : Bool} : bI b = 0 ↔ b = false := by cases b <;> decide
theorem nI_ne_m1 {c : Nat} (h : c < 2147483648) : ¬ nI c = -1 := by
  intro e
  have h1 := congrArg Int32.toInt e
  rw [nI_toInt h] at h1
  have h2 : (-1 : Int32).toInt = -1 := by decide
  omega
end
section
theorem tf {b : Bool} (h : ¬ b = false) : b = true := by cases b with
  | true => rfl
  | false => exact absurd rfl h
theorem i2_nb {b : Bool} : if2 .ne (nI (if b then 1 else 0)) (nI 1) = true ↔ b = false := by cases b <;> decide
theorem i2_eb {b : Bool} : if2 .eq (nI (if b then 1 else 0)) (nI 1) = true ↔ b = true := by cases b <;> decide
theorem t_C_isSong {d g n : Nat} {h : HP} {x : Int32} (hn : h g 0 0 = nI n) (h8 : n ≤ 8) : MT d mC_isSong [vR g 0, vI x] h (fun r h' => r = some (vI (bI (inb x n))) ∧ h' = h) := by
  refine R_s 2 (cond (if0 .lt x) 16 4, [(0, vR g 0), (1, vI x)], [], h) rfl ?_
  refine R_bp (x < 0) x0_lt (fun c1 => ?_) (fun c1 => ?_)
  · refine R_s 1 (17, [(0, vR g 0), (1, vI x)], [vI (nI 0)], h) rfl ?_
    exact R_ret (some (vI (nI 0))) h rfl ⟨by rw [inb_lo c1]; rfl, rfl⟩
  · refine R_s 3 (9, [(0, vR g 0), (1, vI x)], [vI (h g 0 0), vI x], h) rfl ?_
    refine R_top (nI n) hn ?_
    refine R_s 1 (cond (if2 .ge x (nI n)) 16 12, [(0, vR g 0), (1, vI x)], [], h) rfl ?_
    refine R_bp ((nI n) ≤ x) x2_ge (fun c2 => ?_) (fun c2 => ?_)
    · refine R_s 1 (17, [(0, vR g 0), (1, vI x)], [vI (nI 0)], h) rfl ?_
      exact R_ret (some (vI (nI 0))) h rfl ⟨by rw [inb_hi (by omega) c2]; rfl, rfl⟩
    · refine R_s 2 (17, [(0, vR g 0), (1, vI x)], [vI (nI 1)], h) rfl ?_
      exact R_ret (some (vI (nI 1))) h rfl ⟨by rw [inb_mid (by omega) c1 c2]; rfl, rfl⟩
theorem t_C_isPlayer {d g n : Nat} {h : HP} {x : Int32} (hn : h g 0 1 = nI n) (h8 : n ≤ 8) : MT d mC_isPlayer [vR g 0, vI x] h (fun r h' => r = some (vI (bI (inb x n))) ∧ h' = h) := by
  refine R_s 2 (cond (if0 .lt x) 16 4, [(0, vR g 0), (1, vI x)], [], h) rfl ?_
  refine R_bp (x < 0) x0_lt (fun c1 => ?_) (fun c1 => ?_)
  · refine R_s 1 (17, [(0, vR g 0), (1, vI x)], [vI (nI 0)], h) rfl ?_
    exact R_ret (some (vI (nI 0))) h rfl ⟨by rw [inb_lo c1]; rfl, rfl⟩
  · refine R_s 3 (9, [(0, vR g 0), (1, vI x)], [vI (h g 0 1), vI x], h) rfl ?_
    refine R_top (nI n) hn ?_
    refine R_s 1 (cond (if2 .ge x (nI n)) 16 12, [(0, vR g 0), (1, vI x)], [], h) rfl ?_
    refine R_bp ((nI n) ≤ x) x2_ge (fun c2 => ?_) (fun c2 => ?_)
    · refine R_s 1 (17, [(0, vR g 0), (1, vI x)], [vI (nI 0)], h) rfl ?_
      exact R_ret (some (vI (nI 0))) h rfl ⟨by rw [inb_hi (by omega) c2]; rfl, rfl⟩
    · refine R_s 2 (17, [(0, vR g 0), (1, vI x)], [vI (nI 1)], h) rfl ?_
      exact R_ret (some (vI (nI 1))) h rfl ⟨by rw [inb_mid (by omega) c1 c2]; rfl, rfl⟩
theorem t_C_isKind {d g n : Nat} {h : HP} {x : Int32} (hn : h g 0 2 = nI n) (h8 : n ≤ 8) : MT d mC_isKind [vR g 0, vI x] h (fun r h' => r = some (vI (bI (inb x n))) ∧ h' = h) := by
  refine R_s 2 (cond (if0 .lt x) 16 4, [(0, vR g 0), (1, vI x)], [], h) rfl ?_
  refine R_bp (x < 0) x0_lt (fun c1 => ?_) (fun c1 => ?_)
  · refine R_s 1 (17, [(0, vR g 0), (1, vI x)], [vI (nI 0)], h) rfl ?_
    exact R_ret (some (vI (nI 0))) h rfl ⟨by rw [inb_lo c1]; rfl, rfl⟩
  · refine R_s 3 (9, [(0, vR g 0), (1, vI x)], [vI (h g 0 2), vI x], h) rfl ?_
    refine R_top (nI n) hn ?_
    refine R_s 1 (cond (if2 .ge x (nI n)) 16 12, [(0, vR g 0), (1, vI x)], [], h) rfl ?_
    refine R_bp ((nI n) ≤ x) x2_ge (fun c2 => ?_) (fun c2 => ?_)
    · refine R_s 1 (17, [(0, vR g 0), (1, vI x)], [vI (nI 0)], h) rfl ?_
      exact R_ret (some (vI (nI 0))) h rfl ⟨by rw [inb_hi (by omega) c2]; rfl, rfl⟩
    · refine R_s 2 (17, [(0, vR g 0), (1, vI x)], [vI (nI 1)], h) rfl ?_
      exact R_ret (some (vI (nI 1))) h rfl ⟨by rw [inb_mid (by omega) c1 c2]; rfl, rfl⟩
theorem t_C_isSide {d g : Nat} {h : HP} {x : Int32} : MT d mC_isSide [vR g 0, vI x] h (fun r h' => r = some (vI (bI (zero1 x))) ∧ h' = h) := by
  refine R_s 2 (cond (if0 .eq x) 9 4, [(0, vR g 0), (1, vI x)], [], h) rfl ?_
  refine R_bp (x = 0) x0_eq (fun c1 => ?_) (fun c1 => ?_)
  · refine R_s 2 (14, [(0, vR g 0), (1, vI x)], [vI (nI 1)], h) rfl ?_
    exact R_ret (some (vI (nI 1))) h rfl ⟨by rw [c1]; rfl, rfl⟩
  · refine R_s 3 (cond (if2 .ne x (nI 1)) 13 9, [(0, vR g 0), (1, vI x)], [], h) rfl ?_
    refine R_bp (¬ x = 1) (show _ ↔ ¬ x = 1 from x2_ne) (fun c2 => ?_) (fun c2 => ?_)
    · refine R_s 1 (14, [(0, vR g 0), (1, vI x)], [vI (nI 0)], h) rfl ?_
      exact R_ret (some (vI (nI 0))) h rfl ⟨by rw [show zero1 x = false by simp [zero1, c1]; exact c2]; rfl, rfl⟩
    · refine R_s 2 (14, [(0, vR g 0), (1, vI x)], [vI (nI 1)], h) rfl ?_
      exact R_ret (some (vI (nI 1))) h rfl ⟨by rw [Classical.not_not.mp c2]; rfl, rfl⟩
theorem i5_6 {t : Int32} (h : nI 5 < t) : nI 6 ≤ t := by
  have h1 := Int32.lt_iff_toInt_lt.mp h
  apply Int32.le_iff_toInt_le.mpr
  rw [nI_toInt (by decide)] at h1 ⊢
  omega
theorem i6_5 {t : Int32} (h : nI 6 ≤ t) : nI 5 < t := by
  have h1 := Int32.le_iff_toInt_le.mp h
  apply Int32.lt_iff_toInt_lt.mpr
  rw [nI_toInt (by decide)] at h1 ⊢
  omega
theorem t_C_isPart {d g n p k : Nat} {h : HP} {x y z t : Int32} (hn : h g 0 0 = nI n) (hp : h g 0 1 = nI p) (hk : h g 0 2 = nI k) (h8 : n ≤ 8) (h5 : p ≤ 5) (h6 : k ≤ 6) : MT (d + 1) mC_isPart [vR g 0, vI x, vI y, vI z, vI t] h (fun r h' => r = some (vI (bI (inb x n && inb y p && inb z k && inb t 6))) ∧ h' = h) := by
  refine R_s 2 (2, [(0, vR g 0), (1, vI x), (2, vI y), (3, vI z), (4, vI t)], [vI x, vR g 0], h) rfl ?_
  refine R_calli mC_isSong [vR g 0, vI x] [] (bI (inb x n)) h rfl (t_C_isSong hn h8) ?_
  refine R_s 1 (cond (if0 .eq (bI (inb x n))) 39 8, [(0, vR g 0), (1, vI x), (2, vI y), (3, vI z), (4, vI t)], [], h) rfl ?_
  refine R_bp ((inb x n) = false) (x0_eq.trans bI_eq) (fun c1 => ?_) (fun c1 => ?_)
  · refine R_s 1 (40, [(0, vR g 0), (1, vI x), (2, vI y), (3, vI z), (4, vI t)], [vI (nI 0)], h) rfl ?_
    exact R_ret (some (vI (nI 0))) h rfl ⟨by simp [c1, bI, nI_0], rfl⟩
  · refine R_s 2 (10, [(0, vR g 0), (1, vI x), (2, vI y), (3, vI z), (4, vI t)], [vI y, vR g 0], h) rfl ?_
    refine R_calli mC_isPlayer [vR g 0, vI y] [] (bI (inb y p)) h rfl (t_C_isPlayer hp (by omega)) ?_
    refine R_s 1 (cond (if0 .eq (bI (inb y p))) 39 16, [(0, vR g 0), (1, vI x), (2, vI y), (3, vI z), (4, vI t)], [], h) rfl ?_
    refine R_bp ((inb y p) = false) (x0_eq.trans bI_eq) (fun c2 => ?_) (fun c2 => ?_)
    · refine R_s 1 (40, [(0, vR g 0), (1, vI x), (2, vI y), (3, vI z), (4, vI t)], [vI (nI 0)], h) rfl ?_
      exact R_ret (some (vI (nI 0))) h rfl ⟨by simp [c2, bI, nI_0], rfl⟩
    · refine R_s 2 (18, [(0, vR g 0), (1, vI x), (2, vI y), (3, vI z), (4, vI t)], [vI z, vR g 0], h) rfl ?_
      refine R_calli mC_isKind [vR g 0, vI z] [] (bI (inb z k)) h rfl (t_C_isKind hk (by omega)) ?_
      refine R_s 1 (cond (if0 .eq (bI (inb z k))) 39 24, [(0, vR g 0), (1, vI x), (2, vI y), (3, vI z), (4, vI t)], [], h) rfl ?_
      refine R_bp ((inb z k) = false) (x0_eq.trans bI_eq) (fun c3 => ?_) (fun c3 => ?_)
      · refine R_s 1 (40, [(0, vR g 0), (1, vI x), (2, vI y), (3, vI z), (4, vI t)], [vI (nI 0)], h) rfl ?_
        exact R_ret (some (vI (nI 0))) h rfl ⟨by simp [c3, bI, nI_0], rfl⟩
      · refine R_s 2 (cond (if0 .lt t) 39 29, [(0, vR g 0), (1, vI x), (2, vI y), (3, vI z), (4, vI t)], [], h) rfl ?_
        refine R_bp (t < 0) x0_lt (fun c4 => ?_) (fun c4 => ?_)
        · refine R_s 1 (40, [(0, vR g 0), (1, vI x), (2, vI y), (3, vI z), (4, vI t)], [vI (nI 0)], h) rfl ?_
          exact R_ret (some (vI (nI 0))) h rfl ⟨by rw [inb_lo (n := 6) c4]; simp [bI, nI_0], rfl⟩
        · refine R_s 3 (cond (if2 .gt t (nI 5)) 39 35, [(0, vR g 0), (1, vI x), (2, vI y), (3, vI z), (4, vI t)], [], h) rfl ?_
          refine R_bp ((nI 5) < t) x2_gt (fun c5 => ?_) (fun c5 => ?_)
          · refine R_s 1 (40, [(0, vR g 0), (1, vI x), (2, vI y), (3, vI z), (4, vI t)], [vI (nI 0)], h) rfl ?_
            exact R_ret (some (vI (nI 0))) h rfl ⟨by rw [show inb t 6 = false from inb_hi (by decide) (i5_6 c5)]; simp [bI, nI_0], rfl⟩
          · refine R_s 2 (40, [(0, vR g 0), (1, vI x), (2, vI y), (3, vI z), (4, vI t)], [vI (nI 1)], h) rfl ?_
            exact R_ret (some (vI (nI 1))) h rfl ⟨by rw [show inb t 6 = true from inb_mid (by decide) c4 (fun q => c5 (i6_5 q)), tf c1, tf c2, tf c3]; rfl, rfl⟩
theorem t_C_areTwoSongs {d g n : Nat} {h : HP} {x y : Int32} (hn : h g 0 0 = nI n) (h8 : n ≤ 8) : MT (d + 1) mC_areTwoSongs [vR g 0, vI x, vI y] h (fun r h' => r = some (vI (bI (inb x n && inb y n && !(decide (x = y))))) ∧ h' = h) := by
  refine R_s 2 (2, [(0, vR g 0), (1, vI x), (2, vI y)], [vI x, vR g 0], h) rfl ?_
  refine R_calli mC_isSong [vR g 0, vI x] [] (bI (inb x n)) h rfl (t_C_isSong hn h8) ?_
  refine R_s 1 (cond (if0 .eq (bI (inb x n))) 25 8, [(0, vR g 0), (1, vI x), (2, vI y)], [], h) rfl ?_
  refine R_bp ((inb x n) = false) (x0_eq.trans bI_eq) (fun c1 => ?_) (fun c1 => ?_)
  · refine R_s 1 (26, [(0, vR g 0), (1, vI x), (2, vI y)], [vI (nI 0)], h) rfl ?_
    exact R_ret (some (vI (nI 0))) h rfl ⟨by simp [c1, bI, nI_0], rfl⟩
  · refine R_s 2 (10, [(0, vR g 0), (1, vI x), (2, vI y)], [vI y, vR g 0], h) rfl ?_
    refine R_calli mC_isSong [vR g 0, vI y] [] (bI (inb y n)) h rfl (t_C_isSong hn h8) ?_
    refine R_s 1 (cond (if0 .eq (bI (inb y n))) 25 16, [(0, vR g 0), (1, vI x), (2, vI y)], [], h) rfl ?_
    refine R_bp ((inb y n) = false) (x0_eq.trans bI_eq) (fun c2 => ?_) (fun c2 => ?_)
    · refine R_s 1 (26, [(0, vR g 0), (1, vI x), (2, vI y)], [vI (nI 0)], h) rfl ?_
      exact R_ret (some (vI (nI 0))) h rfl ⟨by simp [c2, bI, nI_0], rfl⟩
    · refine R_s 3 (cond (if2 .eq x y) 25 21, [(0, vR g 0), (1, vI x), (2, vI y)], [], h) rfl ?_
      refine R_bp (x = y) x2_eq (fun c3 => ?_) (fun c3 => ?_)
      · refine R_s 1 (26, [(0, vR g 0), (1, vI x), (2, vI y)], [vI (nI 0)], h) rfl ?_
        exact R_ret (some (vI (nI 0))) h rfl ⟨by simp [c3, bI, nI_0], rfl⟩
      · refine R_s 2 (26, [(0, vR g 0), (1, vI x), (2, vI y)], [vI (nI 1)], h) rfl ?_
        exact R_ret (some (vI (nI 1))) h rfl ⟨by simp [c3, tf c1, tf c2, bI]; rfl, rfl⟩
theorem i0_le {n : Nat} (h : n < 2147483648) : if0 .le (nI n) = true ↔ n = 0 := by
  rw [x0_le, ← nI_0, nI_leI h (by decide)]
  omega
theorem t_C_hasAllSorts {d g n p k : Nat} {h : HP} (hn : h g 0 0 = nI n) (hp : h g 0 1 = nI p) (hk : h g 0 2 = nI k) (h8 : n ≤ 8) (h5 : p ≤ 5) (h6 : k ≤ 6) : MT d mC_hasAllSorts [vR g 0] h (fun r h' => r = some (vI (bI (decide (0 < n) && decide (0 < p) && decide (0 < k)))) ∧ h' = h) := by
  refine R_s 2 (4, [(0, vR g 0)], [vI (h g 0 0)], h) rfl ?_
  refine R_top (nI n) hn ?_
  refine R_s 1 (cond (if0 .le (nI n)) 25 7, [(0, vR g 0)], [], h) rfl ?_
  refine R_bp (n = 0) (i0_le (by omega)) (fun c0 => ?_) (fun c0 => ?_)
  · refine R_s 1 (26, [(0, vR g 0)], [vI (nI 0)], h) rfl ?_
    exact R_ret (some (vI (nI 0))) h rfl ⟨by rw [show decide (0 < n) = false by rw [c0]; rfl]; simp [bI, nI_0], rfl⟩
  · refine R_s 2 (11, [(0, vR g 0)], [vI (h g 0 1)], h) rfl ?_
    refine R_top (nI p) hp ?_
    refine R_s 1 (cond (if0 .le (nI p)) 25 14, [(0, vR g 0)], [], h) rfl ?_
    refine R_bp (p = 0) (i0_le (by omega)) (fun c1 => ?_) (fun c1 => ?_)
    · refine R_s 1 (26, [(0, vR g 0)], [vI (nI 0)], h) rfl ?_
      exact R_ret (some (vI (nI 0))) h rfl ⟨by rw [show decide (0 < p) = false by rw [c1]; rfl]; simp [bI, nI_0], rfl⟩
    · refine R_s 2 (18, [(0, vR g 0)], [vI (h g 0 2)], h) rfl ?_
      refine R_top (nI k) hk ?_
      refine R_s 1 (cond (if0 .le (nI k)) 25 21, [(0, vR g 0)], [], h) rfl ?_
      refine R_bp (k = 0) (i0_le (by omega)) (fun c2 => ?_) (fun c2 => ?_)
      · refine R_s 1 (26, [(0, vR g 0)], [vI (nI 0)], h) rfl ?_
        exact R_ret (some (vI (nI 0))) h rfl ⟨by rw [show decide (0 < k) = false by rw [c2]; rfl]; simp [bI, nI_0], rfl⟩
      · refine R_s 2 (26, [(0, vR g 0)], [vI (nI 1)], h) rfl ?_
        exact R_ret (some (vI (nI 1))) h rfl ⟨by rw [show decide (0 < n) = true from decide_eq_true (by omega), show decide (0 < p) = true from decide_eq_true (by omega), show decide (0 < k) = true from decide_eq_true (by omega)]; rfl, rfl⟩
theorem t_C_isEncore {d g e a : Nat} {h : HP} (he : h g 0 3 = nI e) (h8 : e < 256) (ha : a < 8) : MT d mC_isEncore [vR g 0, vI (nI a)] h (fun r h' => r = some (vI (bI (e.testBit a))) ∧ h' = h) := by
  refine R_s 2 (4, [(0, vR g 0), (1, vI (nI a))], [vI (h g 0 3)], h) rfl ?_
  refine R_top (nI e) he ?_
  refine R_s 4 (8, [(0, vR g 0), (1, vI (nI a))], [vI (((nI e) >>> ((nI a) &&& 31)) &&& (nI 1))], h) rfl ?_
  refine R_top (nI (if e.testBit a then 1 else 0)) (bit_sh e h8 a ha) ?_
  refine R_s 2 (cond (if2 .ne (nI (if e.testBit a then 1 else 0)) (nI 1)) 16 12, [(0, vR g 0), (1, vI (nI a))], [], h) rfl ?_
  refine R_bp (e.testBit a = false) i2_nb (fun c1 => ?_) (fun c1 => ?_)
  · refine R_s 1 (17, [(0, vR g 0), (1, vI (nI a))], [vI (nI 0)], h) rfl ?_
    exact R_ret (some (vI (nI 0))) h rfl ⟨by rw [c1]; rfl, rfl⟩
  · refine R_s 2 (17, [(0, vR g 0), (1, vI (nI a))], [vI (nI 1)], h) rfl ?_
    exact R_ret (some (vI (nI 1))) h rfl ⟨by rw [tf c1]; rfl, rfl⟩
theorem t_C_kindPlayed {d g n p k : Nat} {h : HP} {s : Nat → Int32} {a q : Nat} (C : CO h g s n p k) (ha : a < 8) (hq : q < 5) : MT d mC_kindPlayed [vR g 0, vI (nI a), vI (nI q)] h (fun r h' => r = some (vI (kd s a q)) ∧ h' = h) := by
  refine R_s 4 (6, [(0, vR g 0), (1, vI (nI a)), (2, vI (nI q))], [vI (nI 5), vI (nI a), vR g 5], h) rfl ?_
  refine R_mul a 5 rfl ?_
  refine R_s 1 (8, [(0, vR g 0), (1, vI (nI a)), (2, vI (nI q))], [vI (nI q), vI (nI (a * 5)), vR g 5], h) rfl ?_
  refine R_add (a * 5) q rfl ?_
  refine R_ld g 5 ((a * 5) + q) 40 rfl rfl (by omega) (by decide) ?_
  refine R_top (kd s a q) (C.2.2.2.2.1 _ (by omega)) ?_
  exact R_ret (some (vI (kd s a q))) h rfl ⟨rfl, rfl⟩
theorem t_C_tuningPlayed {d g n p k : Nat} {h : HP} {s : Nat → Int32} {a q : Nat} (C : CO h g s n p k) (ha : a < 8) (hq : q < 5) (hk : ¬ kd s a q = -1) : MT d mC_tuningPlayed [vR g 0, vI (nI a), vI (nI q)] h (fun r h' => r = some (vI (tn s a q)) ∧ h' = h) := by
  refine R_s 4 (6, [(0, vR g 0), (1, vI (nI a)), (2, vI (nI q))], [vI (nI 5), vI (nI a), vR g 6], h) rfl ?_
  refine R_mul a 5 rfl ?_
  refine R_s 1 (8, [(0, vR g 0), (1, vI (nI a)), (2, vI (nI q))], [vI (nI q), vI (nI (a * 5)), vR g 6], h) rfl ?_
  refine R_add (a * 5) q rfl ?_
  refine R_ld g 6 ((a * 5) + q) 40 rfl rfl (by omega) (by decide) ?_
  refine R_top (tn s a q) (C.2.2.2.2.2.1 _ (by omega) hk) ?_
  exact R_ret (some (vI (tn s a q))) h rfl ⟨rfl, rfl⟩
theorem t_C_playersOn {d g n p k : Nat} {h : HP} {s : Nat → Int32} {a : Nat} {y : Int32} (C : CO h g s n p k) (h5 : p ≤ 5) (ha : a < 8) : MT d mC_playersOn [vR g 0, vI (nI a), vI y] h (fun r h' => r = some (vI (nI (cn s a y p))) ∧ h' = h) := by
  refine R_s 4 (5, [(4, vI (nI 0)), (3, vI (nI 0)), (0, vR g 0), (1, vI (nI a)), (2, vI y)], [], h) rfl ?_
  suffices ∀ m q c, q + m = p → c = cn s a y q → R d mC_playersOn (5, [(4, vI (nI q)), (3, vI (nI c)), (0, vR g 0), (1, vI (nI a)), (2, vI y)], [], h) (fun r h' => r = some (vI (nI (cn s a y p))) ∧ h' = h) from this p 0 0 (by omega) rfl
  intro m
  induction m with
  | zero =>
    intro q c hm hc
    have hq : q ≤ 5 := by omega
    have hc5 : c ≤ 5 := by rw [hc]; exact Nat.le_trans (cn_le _ _ _ _) hq
    refine R_s 3 (11, [(4, vI (nI q)), (3, vI (nI c)), (0, vR g 0), (1, vI (nI a)), (2, vI y)], [vI (h g 0 1), vI (nI q)], h) rfl ?_
    refine R_top (nI p) C.1.2.1 ?_
    refine R_s 1 (cond (if2 .ge (nI q) (nI p)) 38 14, [(4, vI (nI q)), (3, vI (nI c)), (0, vR g 0), (1, vI (nI a)), (2, vI y)], [], h) rfl ?_
    refine R_bp (p ≤ q) (i2_ge (by omega) (by omega)) (fun c1 => ?_) (fun c1 => ?_)
    · refine R_s 1 (39, [(4, vI (nI q)), (3, vI (nI c)), (0, vR g 0), (1, vI (nI a)), (2, vI y)], [vI (nI c)], h) rfl ?_
      exact R_ret (some (vI (nI c))) h rfl ⟨by rw [hc, show q = p by omega], rfl⟩
    · exact absurd hm (by omega)
  | succ m ih =>
    intro q c hm hc
    have hq : q ≤ 5 := by omega
    have hc5 : c ≤ 5 := by rw [hc]; exact Nat.le_trans (cn_le _ _ _ _) hq
    refine R_s 3 (11, [(4, vI (nI q)), (3, vI (nI c)), (0, vR g 0), (1, vI (nI a)), (2, vI y)], [vI (h g 0 1), vI (nI q)], h) rfl ?_
    refine R_top (nI p) C.1.2.1 ?_
    refine R_s 1 (cond (if2 .ge (nI q) (nI p)) 38 14, [(4, vI (nI q)), (3, vI (nI c)), (0, vR g 0), (1, vI (nI a)), (2, vI y)], [], h) rfl ?_
    refine R_bp (p ≤ q) (i2_ge (by omega) (by omega)) (fun c1 => ?_) (fun c1 => ?_)
    · refine R_s 1 (39, [(4, vI (nI q)), (3, vI (nI c)), (0, vR g 0), (1, vI (nI a)), (2, vI y)], [vI (nI c)], h) rfl ?_
      exact R_ret (some (vI (nI c))) h rfl ⟨by rw [hc, show q = p by omega], rfl⟩
    · refine R_s 4 (20, [(4, vI (nI q)), (3, vI (nI c)), (0, vR g 0), (1, vI (nI a)), (2, vI y)], [vI (nI 5), vI (nI a), vR g 5], h) rfl ?_
      refine R_mul a 5 rfl ?_
      refine R_s 1 (23, [(4, vI (nI q)), (3, vI (nI c)), (0, vR g 0), (1, vI (nI a)), (2, vI y)], [vI (nI q), vI (nI (a * 5)), vR g 5], h) rfl ?_
      refine R_add (a * 5) q rfl ?_
      refine R_ld g 5 ((a * 5) + q) 40 rfl rfl (by omega) (by decide) ?_
      refine R_top (kd s a q) (C.2.2.2.2.1 _ (by omega)) ?_
      refine R_s 2 (cond (if2 .ne (kd s a q) y) 32 29, [(4, vI (nI q)), (3, vI (nI c)), (0, vR g 0), (1, vI (nI a)), (2, vI y)], [], h) rfl ?_
      refine R_bp (¬ (kd s a q) = y) x2_ne (fun c2 => ?_) (fun c2 => ?_)
      · refine R_s 1 (35, [(4, vI (nI q + Int32.ofInt 1)), (3, vI (nI c)), (0, vR g 0), (1, vI (nI a)), (2, vI y)], [], h) rfl ?_
        refine R_lv (lv' := [(4, vI (nI (q + 1))), (3, vI (nI c)), (0, vR g 0), (1, vI (nI a)), (2, vI y)]) (by rw [show nI q + Int32.ofInt 1 = nI (q + 1) from nI_add _ _]) ?_
        refine R_s 1 (5, [(4, vI (nI (q + 1))), (3, vI (nI c)), (0, vR g 0), (1, vI (nI a)), (2, vI y)], [], h) rfl ?_
        exact ih (q + 1) c (by omega) (by rw [hc]; show _ = cn s a y q + _; rw [if_neg c2]; rfl)
      · refine R_s 1 (32, [(3, vI (nI c + Int32.ofInt 1)), (4, vI (nI q)), (0, vR g 0), (1, vI (nI a)), (2, vI y)], [], h) rfl ?_
        refine R_lv (lv' := [(3, vI (nI (c + 1))), (4, vI (nI q)), (0, vR g 0), (1, vI (nI a)), (2, vI y)]) (by rw [show nI c + Int32.ofInt 1 = nI (c + 1) from nI_add _ _]) ?_
        refine R_s 1 (35, [(4, vI (nI q + Int32.ofInt 1)), (3, vI (nI (c + 1))), (0, vR g 0), (1, vI (nI a)), (2, vI y)], [], h) rfl ?_
        refine R_lv (lv' := [(4, vI (nI (q + 1))), (3, vI (nI (c + 1))), (0, vR g 0), (1, vI (nI a)), (2, vI y)]) (by rw [show nI q + Int32.ofInt 1 = nI (q + 1) from nI_add _ _]) ?_
        refine R_s 1 (5, [(4, vI (nI (q + 1))), (3, vI (nI (c + 1))), (0, vR g 0), (1, vI (nI a)), (2, vI y)], [], h) rfl ?_
        exact ih (q + 1) (c + 1) (by omega) (by rw [hc]; show _ = cn s a y q + _; rw [if_pos (Classical.not_not.mp c2)])
theorem t_C_hasUnitFor {d g n p k : Nat} {h : HP} {s : Nat → Int32} {a q c u : Nat} (C : CO h g s n p k) (h5 : p ≤ 5) (h6 : k ≤ 6) (ha : a < 8) (hq : q < 5) (hc : c < k) (hu : s (33 + c) = nI u) (hu9 : u ≤ 6) : MT (d + 1) mC_hasUnitFor [vR g 0, vI (nI a), vI (nI q), vI (nI c)] h (fun r h' => r = some (vI (bI (decide (kd s a q = nI c) || decide (cn s a (nI c) p < u)))) ∧ h' = h) := by
  have hcn : cn s a (nI c) p ≤ 5 := Nat.le_trans (cn_le _ _ _ _) h5
  refine R_s 3 (3, [(0, vR g 0), (1, vI (nI a)), (2, vI (nI q)), (3, vI (nI c))], [vI (nI q), vI (nI a), vR g 0], h) rfl ?_
  refine R_calli mC_kindPlayed [vR g 0, vI (nI a), vI (nI q)] [] (kd s a q) h rfl (t_C_kindPlayed C ha hq) ?_
  refine R_s 2 (cond (if2 .eq (kd s a q) (nI c)) 25 10, [(0, vR g 0), (1, vI (nI a)), (2, vI (nI q)), (3, vI (nI c))], [], h) rfl ?_
  refine R_bp ((kd s a q) = (nI c)) x2_eq (fun c1 => ?_) (fun c1 => ?_)
  · refine R_s 2 (30, [(0, vR g 0), (1, vI (nI a)), (2, vI (nI q)), (3, vI (nI c))], [vI (nI 1)], h) rfl ?_
    exact R_ret (some (vI (nI 1))) h rfl ⟨by rw [decide_eq_true c1]; rfl, rfl⟩
  · refine R_s 3 (13, [(0, vR g 0), (1, vI (nI a)), (2, vI (nI q)), (3, vI (nI c))], [vI (nI c), vI (nI a), vR g 0], h) rfl ?_
    refine R_calli mC_playersOn [vR g 0, vI (nI a), vI (nI c)] [] (nI (cn s a (nI c) p)) h rfl (t_C_playersOn C h5 ha) ?_
    refine R_s 3 (21, [(0, vR g 0), (1, vI (nI a)), (2, vI (nI q)), (3, vI (nI c))], [vI (nI c), vR g 3, vI (nI (cn s a (nI c) p))], h) rfl ?_
    refine R_ld g 3 c 6 rfl rfl (by omega) (by decide) ?_
    refine R_top (nI u) ((C.2.2.2.1 c hc).1.trans hu) ?_
    refine R_s 1 (cond (if2 .ge (nI (cn s a (nI c) p)) (nI u)) 29 25, [(0, vR g 0), (1, vI (nI a)), (2, vI (nI q)), (3, vI (nI c))], [], h) rfl ?_
    refine R_bp (u ≤ (cn s a (nI c) p)) (i2_ge (by omega) (by omega)) (fun c2 => ?_) (fun c2 => ?_)
    · refine R_s 1 (30, [(0, vR g 0), (1, vI (nI a)), (2, vI (nI q)), (3, vI (nI c))], [vI (nI 0)], h) rfl ?_
      exact R_ret (some (vI (nI 0))) h rfl ⟨by rw [decide_eq_false c1, decide_eq_false (by omega)]; rfl, rfl⟩
    · refine R_s 2 (30, [(0, vR g 0), (1, vI (nI a)), (2, vI (nI q)), (3, vI (nI c))], [vI (nI 1)], h) rfl ?_
      exact R_ret (some (vI (nI 1))) h rfl ⟨by rw [decide_eq_false c1, decide_eq_true (show cn s a (nI c) p < u by omega)]; rfl, rfl⟩
theorem un_m1 {s : Nat → Int32} {c : Nat} (hc : c < 2147483648) : un s (-1) (nI c) = s (33 + c) := by
  unfold un
  rw [if_neg (nI_ne_m1 hc), nI_cl hc, Int32.add_zero]
theorem t_C_change {d g n p k : Nat} {h : HP} {s : Nat → Int32} {a b q : Nat} (C : CO h g s n p k) (F : WF s n p k) (ha : a < 8) (hb : b < 8) (hq : q < 5) : MT (d + 1) mC_change [vR g 0, vI (nI q), vI (nI a), vI (nI b)] h (fun r h' => r = some (vI (nI (chg s (-1) p a b q))) ∧ h' = h) := by
  have h5 := F.2.1.2.1
  have h6 := F.2.1.2.2
  refine R_s 3 (3, [(0, vR g 0), (1, vI (nI q)), (2, vI (nI a)), (3, vI (nI b))], [vI (nI q), vI (nI a), vR g 0], h) rfl ?_
  refine R_calli mC_kindPlayed [vR g 0, vI (nI a), vI (nI q)] [] (kd s a q) h rfl (t_C_kindPlayed C ha hq) ?_
  refine R_s 4 (11, [(4, vI (kd s a q)), (0, vR g 0), (1, vI (nI q)), (2, vI (nI a)), (3, vI (nI b))], [vI (nI q), vI (nI b), vR g 0], h) rfl ?_
  refine R_calli mC_kindPlayed [vR g 0, vI (nI b), vI (nI q)] [] (kd s b q) h rfl (t_C_kindPlayed C hb hq) ?_
  refine R_s 4 (cond (if2 .ne (kd s a q) (-1)) 34 22, [(5, vI (kd s b q)), (4, vI (kd s a q)), (0, vR g 0), (1, vI (nI q)), (2, vI (nI a)), (3, vI (nI b))], [], h) rfl ?_
  refine R_bp (¬ (kd s a q) = (-1)) x2_ne (fun c1 => ?_) (fun c1 => ?_)
  · refine R_s 3 (cond (if2 .ne (kd s b q) (-1)) 42 40, [(5, vI (kd s b q)), (4, vI (kd s a q)), (0, vR g 0), (1, vI (nI q)), (2, vI (nI a)), (3, vI (nI b))], [], h) rfl ?_
    refine R_bp (¬ (kd s b q) = (-1)) x2_ne (fun c2 => ?_) (fun c2 => ?_)
    · refine R_s 3 (cond (if2 .eq (kd s a q) (kd s b q)) 51 49, [(5, vI (kd s b q)), (4, vI (kd s a q)), (0, vR g 0), (1, vI (nI q)), (2, vI (nI a)), (3, vI (nI b))], [], h) rfl ?_
      refine R_bp ((kd s a q) = (kd s b q)) x2_eq (fun c3 => ?_) (fun c3 => ?_)
      · refine R_s 3 (54, [(5, vI (kd s b q)), (4, vI (kd s a q)), (0, vR g 0), (1, vI (nI q)), (2, vI (nI a)), (3, vI (nI b))], [vI (nI q), vI (nI a), vR g 0], h) rfl ?_
        refine R_calli mC_tuningPlayed [vR g 0, vI (nI a), vI (nI q)] [] (tn s a q) h rfl (t_C_tuningPlayed C ha hq c1) ?_
        refine R_s 3 (60, [(5, vI (kd s b q)), (4, vI (kd s a q)), (0, vR g 0), (1, vI (nI q)), (2, vI (nI a)), (3, vI (nI b))], [vI (nI q), vI (nI b), vR g 0, vI (tn s a q)], h) rfl ?_
        refine R_calli mC_tuningPlayed [vR g 0, vI (nI b), vI (nI q)] [vI (tn s a q)] (tn s b q) h rfl (t_C_tuningPlayed C hb hq c2) ?_
        refine R_s 1 (cond (if2 .ne (tn s a q) (tn s b q)) 68 66, [(5, vI (kd s b q)), (4, vI (kd s a q)), (0, vR g 0), (1, vI (nI q)), (2, vI (nI a)), (3, vI (nI b))], [], h) rfl ?_
        refine R_bp (¬ (tn s a q) = (tn s b q)) x2_ne (fun c4 => ?_) (fun c4 => ?_)
        · obtain ⟨c, hc, ec⟩ := ((F.2.2.2.2.2.1 b hb q hq).resolve_left c2).1
          obtain ⟨u, hu, hu6⟩ := F.2.2.2.2.1 c hc
          have hcn : cn s b (nI c) p ≤ 5 := Nat.le_trans (cn_le _ _ _ _) h5
          refine R_lv (lv' := [(5, vI (nI c)), (4, vI (kd s a q)), (0, vR g 0), (1, vI (nI q)), (2, vI (nI a)), (3, vI (nI b))]) (by rw [ec]) ?_
          refine R_s 3 (72, [(5, vI (nI c)), (4, vI (kd s a q)), (0, vR g 0), (1, vI (nI q)), (2, vI (nI a)), (3, vI (nI b))], [vI (nI c), vI (nI b), vR g 0], h) rfl ?_
          refine R_calli mC_playersOn [vR g 0, vI (nI b), vI (nI c)] [] (nI (cn s b (nI c) p)) h rfl (t_C_playersOn C h5 hb) ?_
          refine R_s 3 (81, [(5, vI (nI c)), (4, vI (kd s a q)), (0, vR g 0), (1, vI (nI q)), (2, vI (nI a)), (3, vI (nI b))], [vI (nI c), vR g 3, vI (nI (cn s b (nI c) p))], h) rfl ?_
          refine R_ld g 3 c 6 rfl rfl (by omega) (by decide) ?_
          refine R_top (nI u) ((C.2.2.2.1 c hc).1.trans hu) ?_
          refine R_s 1 (cond (if2 .ge (nI (cn s b (nI c) p)) (nI u)) 89 85, [(5, vI (nI c)), (4, vI (kd s a q)), (0, vR g 0), (1, vI (nI q)), (2, vI (nI a)), (3, vI (nI b))], [], h) rfl ?_
          refine R_bp (u ≤ (cn s b (nI c) p)) (i2_ge (by omega) (by omega)) (fun c5 => ?_) (fun c5 => ?_)
          · refine R_s 1 (90, [(5, vI (nI c)), (4, vI (kd s a q)), (0, vR g 0), (1, vI (nI q)), (2, vI (nI a)), (3, vI (nI b))], [vI (nI 5)], h) rfl ?_
            exact R_ret (some (vI (nI 5))) h rfl ⟨by unfold chg; rw [if_neg c1, if_neg c2, if_pos c3, if_neg c4, if_neg (by rw [ec, un_m1 (by omega), hu]; exact nI_nlt c5 (by omega))], rfl⟩
          · refine R_s 2 (90, [(5, vI (nI c)), (4, vI (kd s a q)), (0, vR g 0), (1, vI (nI q)), (2, vI (nI a)), (3, vI (nI b))], [vI (nI 4)], h) rfl ?_
            exact R_ret (some (vI (nI 4))) h rfl ⟨by unfold chg; rw [if_neg c1, if_neg c2, if_pos c3, if_neg c4, if_pos (by rw [ec, un_m1 (by omega), hu]; exact nI_lt (by omega) (by omega))], rfl⟩
        · refine R_s 1 (67, [(5, vI (kd s b q)), (4, vI (kd s a q)), (0, vR g 0), (1, vI (nI q)), (2, vI (nI a)), (3, vI (nI b))], [vI (nI 0)], h) rfl ?_
          exact R_ret (some (vI (nI 0))) h rfl ⟨by unfold chg; rw [if_neg c1, if_neg c2, if_pos c3, if_pos (Classical.not_not.mp c4)], rfl⟩
      · refine R_s 1 (50, [(5, vI (kd s b q)), (4, vI (kd s a q)), (0, vR g 0), (1, vI (nI q)), (2, vI (nI a)), (3, vI (nI b))], [vI (nI 3)], h) rfl ?_
        exact R_ret (some (vI (nI 3))) h rfl ⟨by unfold chg; rw [if_neg c1, if_neg c2, if_neg c3], rfl⟩
    · refine R_s 1 (41, [(5, vI (kd s b q)), (4, vI (kd s a q)), (0, vR g 0), (1, vI (nI q)), (2, vI (nI a)), (3, vI (nI b))], [vI (nI 2)], h) rfl ?_
      exact R_ret (some (vI (nI 2))) h rfl ⟨by unfold chg; rw [if_neg c1, if_pos (Classical.not_not.mp c2)], rfl⟩
  · refine R_s 3 (cond (if2 .ne (kd s b q) (-1)) 32 28, [(5, vI (kd s b q)), (4, vI (kd s a q)), (0, vR g 0), (1, vI (nI q)), (2, vI (nI a)), (3, vI (nI b))], [], h) rfl ?_
    refine R_bp (¬ (kd s b q) = (-1)) x2_ne (fun c2 => ?_) (fun c2 => ?_)
    · refine R_s 1 (33, [(5, vI (kd s b q)), (4, vI (kd s a q)), (0, vR g 0), (1, vI (nI q)), (2, vI (nI a)), (3, vI (nI b))], [vI (nI 1)], h) rfl ?_
      exact R_ret (some (vI (nI 1))) h rfl ⟨by unfold chg; rw [if_pos (Classical.not_not.mp c1), if_neg c2], rfl⟩
    · refine R_s 2 (33, [(5, vI (kd s b q)), (4, vI (kd s a q)), (0, vR g 0), (1, vI (nI q)), (2, vI (nI a)), (3, vI (nI b))], [vI (nI 0)], h) rfl ?_
      exact R_ret (some (vI (nI 0))) h rfl ⟨by unfold chg; rw [if_pos (Classical.not_not.mp c1), if_pos (Classical.not_not.mp c2)], rfl⟩
theorem t_C_costOfSide {d g n p k : Nat} {h : HP} {s : Nat → Int32} {q c : Nat} (C : CO h g s n p k) (h6 : k ≤ 6) (h5 : p ≤ 5) (hq : q < p) (hc : c < k) : MT (d + 1) mC_costOfSide [vR g 0, vI (nI q), vI (nI c)] h (fun r h' => r = some (vI (nI (far s q (nI c)))) ∧ h' = h) := by
  refine R_s 2 (2, [(0, vR g 0), (1, vI (nI q)), (2, vI (nI c))], [vI (nI c), vR g 0], h) rfl ?_
  refine R_calli mC_isKind [vR g 0, vI (nI c)] [] (bI (inb (nI c) k)) h rfl (t_C_isKind C.1.2.2.1 (by omega)) ?_
  refine R_top (nI 1) (by rw [inb_n hc (by omega)]; rfl) ?_
  refine R_s 1 (cond (if0 .eq (nI 1)) 27 8, [(0, vR g 0), (1, vI (nI q)), (2, vI (nI c))], [], h) rfl ?_
  refine R_bf rfl ?_
  refine R_s 3 (13, [(0, vR g 0), (1, vI (nI q)), (2, vI (nI c))], [vI (nI c), vR g 4], h) rfl ?_
  refine R_ld g 4 c 6 rfl rfl (by omega) (by decide) ?_
  refine R_top (s (39 + c)) (C.2.2.2.1 c hc).2 ?_
  refine R_s 3 (19, [(0, vR g 0), (1, vI (nI q)), (2, vI (nI c))], [vI (nI q), vR g 2, vI (s (39 + c))], h) rfl ?_
  refine R_ld g 2 q 5 rfl rfl (by omega) (by decide) ?_
  refine R_top (s (27 + q)) (C.2.2.1 q hq) ?_
  refine R_s 1 (cond (if2 .eq (s (39 + c)) (s (27 + q))) 27 23, [(0, vR g 0), (1, vI (nI q)), (2, vI (nI c))], [], h) rfl ?_
  refine R_bp ((s (39 + c)) = (s (27 + q))) x2_eq (fun c1 => ?_) (fun c1 => ?_)
  · refine R_s 1 (28, [(0, vR g 0), (1, vI (nI q)), (2, vI (nI c))], [vI (nI 0)], h) rfl ?_
    exact R_ret (some (vI (nI 0))) h rfl ⟨by unfold far; rw [nI_cl (by omega), if_pos c1], rfl⟩
  · refine R_s 2 (28, [(0, vR g 0), (1, vI (nI q)), (2, vI (nI c))], [vI (nI 1)], h) rfl ?_
    exact R_ret (some (vI (nI 1))) h rfl ⟨by unfold far; rw [nI_cl (by omega), if_neg c1], rfl⟩
theorem abs_d {t u : Nat} (ht : t ≤ 5) (hu : u ≤ 5) : (if 0 ≤ (nI t - nI u) then (nI t - nI u) else 0 - (nI t - nI u)) = nI (dst (nI t) (nI u)) := by
  have h : ∀ t, t < 6 → ∀ u, u < 6 → (if 0 ≤ (nI t - nI u) then (nI t - nI u) else 0 - (nI t - nI u)) = nI (dst (nI t) (nI u)) := by decide +kernel
  exact h t (by omega) u (by omega)
theorem sw_c {m : MR} : True := trivial
/-- what a change says of the two parts -/
theorem chg_kd (s : Nat → Int32) (m : Int32) (p a b q : Nat) : match chg s m p a b q with
  | 0 => True
  | 1 => ¬ kd s b q = -1
  | 2 => ¬ kd s a q = -1
  | _ => ¬ kd s a q = -1 ∧ ¬ kd s b q = -1 := by
  unfold chg
  by_cases h1 : kd s a q = -1
  · rw [if_pos h1]
    by_cases h2 : kd s b q = -1
    · rw [if_pos h2]; trivial
    · rw [if_neg h2]; exact h2
  · rw [if_neg h1]
    by_cases h2 : kd s b q = -1
    · rw [if_pos h2]; exact h1
    · rw [if_neg h2]
      repeat' split
      all_goals first | trivial | exact ⟨h1, h2⟩ | skip
      all_goals (rename_i e; revert e; repeat' split) 
      all_goals (intro e; first | trivial | exact h2 | exact h1 | exact ⟨h1, h2⟩ | (exfalso; omega))
theorem t_C_costOfChange {d g n p k : Nat} {h : HP} {s : Nat → Int32} {a b q : Nat} (C : CO h g s n p k) (F : WF s n p k) (ha : a < 8) (hb : b < 8) (hq : q < p) : MT (d + 2) mC_costOfChange [vR g 0, vI (nI q), vI (nI a), vI (nI b)] h (fun r h' => r = some (vI (nI (cof s (-1) p a b q))) ∧ h' = h) := by
  have h5 := F.2.1.2.1
  have h6 := F.2.1.2.2
  have hq5 : q < 5 := by omega
  refine R_s 3 (3, [(0, vR g 0), (1, vI (nI q)), (2, vI (nI a)), (3, vI (nI b))], [vI (nI q), vI (nI a), vR g 0], h) rfl ?_
  refine R_calli mC_kindPlayed [vR g 0, vI (nI a), vI (nI q)] [] (kd s a q) h rfl (t_C_kindPlayed C ha hq5) ?_
  refine R_s 4 (11, [(4, vI (kd s a q)), (0, vR g 0), (1, vI (nI q)), (2, vI (nI a)), (3, vI (nI b))], [vI (nI q), vI (nI b), vR g 0], h) rfl ?_
  refine R_calli mC_kindPlayed [vR g 0, vI (nI b), vI (nI q)] [] (kd s b q) h rfl (t_C_kindPlayed C hb hq5) ?_
  refine R_s 5 (20, [(5, vI (kd s b q)), (4, vI (kd s a q)), (0, vR g 0), (1, vI (nI q)), (2, vI (nI a)), (3, vI (nI b))], [vI (nI b), vI (nI a), vI (nI q), vR g 0], h) rfl ?_
  refine R_calli mC_change [vR g 0, vI (nI q), vI (nI a), vI (nI b)] [] (nI (chg s (-1) p a b q)) h rfl (t_C_change C F ha hb hq5) ?_
  have hle := chg_le s (-1) p a b q
  have hcof : cof s (-1) p a b q = cof s (-1) p a b q := rfl
  unfold cof
  have key := chg_kd s (-1) p a b q
  generalize chg s (-1) p a b q = z at hle key ⊢
  rcases (show z = 0 ∨ z = 1 ∨ z = 2 ∨ z = 3 ∨ z = 4 ∨ z = 5 by omega) with rfl | rfl | rfl | rfl | rfl | rfl
  · refine R_s 1 (123, [(5, vI (kd s b q)), (4, vI (kd s a q)), (0, vR g 0), (1, vI (nI q)), (2, vI (nI a)), (3, vI (nI b))], [], h) rfl ?_
    refine R_s 1 (124, [(5, vI (kd s b q)), (4, vI (kd s a q)), (0, vR g 0), (1, vI (nI q)), (2, vI (nI a)), (3, vI (nI b))], [vI (nI 0)], h) rfl ?_
    exact R_ret (some (vI (nI 0))) h rfl ⟨rfl, rfl⟩
  · refine R_s 1 (56, [(5, vI (kd s b q)), (4, vI (kd s a q)), (0, vR g 0), (1, vI (nI q)), (2, vI (nI a)), (3, vI (nI b))], [], h) rfl ?_
    obtain ⟨e, he, ee⟩ := ((F.2.2.2.2.2.1 b hb q hq5).resolve_left key).1
    refine R_lv (lv' := [(5, vI (nI e)), (4, vI (kd s a q)), (0, vR g 0), (1, vI (nI q)), (2, vI (nI a)), (3, vI (nI b))]) (by rw [ee]) ?_
    rw [ee]
    refine R_s 4 (61, [(5, vI (nI e)), (4, vI (kd s a q)), (0, vR g 0), (1, vI (nI q)), (2, vI (nI a)), (3, vI (nI b))], [vI (nI e), vI (nI q), vR g 0, vI (nI 1)], h) rfl ?_
    refine R_calli mC_costOfSide [vR g 0, vI (nI q), vI (nI e)] [vI (nI 1)] (nI (far s q (nI e))) h rfl (t_C_costOfSide C h6 h5 hq he) ?_
    refine R_add 1 (far s q (nI e)) rfl ?_
    exact R_ret (some (vI (nI (1 + (far s q (nI e)))))) h rfl ⟨rfl, rfl⟩
  · refine R_s 1 (66, [(5, vI (kd s b q)), (4, vI (kd s a q)), (0, vR g 0), (1, vI (nI q)), (2, vI (nI a)), (3, vI (nI b))], [], h) rfl ?_
    obtain ⟨c, hc, ec⟩ := ((F.2.2.2.2.2.1 a ha q hq5).resolve_left key).1
    refine R_lv (lv' := [(5, vI (kd s b q)), (4, vI (nI c)), (0, vR g 0), (1, vI (nI q)), (2, vI (nI a)), (3, vI (nI b))]) (by rw [ec]) ?_
    rw [ec]
    refine R_s 4 (71, [(5, vI (kd s b q)), (4, vI (nI c)), (0, vR g 0), (1, vI (nI q)), (2, vI (nI a)), (3, vI (nI b))], [vI (nI c), vI (nI q), vR g 0, vI (nI 1)], h) rfl ?_
    refine R_calli mC_costOfSide [vR g 0, vI (nI q), vI (nI c)] [vI (nI 1)] (nI (far s q (nI c))) h rfl (t_C_costOfSide C h6 h5 hq hc) ?_
    refine R_add 1 (far s q (nI c)) rfl ?_
    exact R_ret (some (vI (nI (1 + (far s q (nI c)))))) h rfl ⟨rfl, rfl⟩
  · refine R_s 1 (76, [(5, vI (kd s b q)), (4, vI (kd s a q)), (0, vR g 0), (1, vI (nI q)), (2, vI (nI a)), (3, vI (nI b))], [], h) rfl ?_
    obtain ⟨c, hc, ec⟩ := ((F.2.2.2.2.2.1 a ha q hq5).resolve_left key.1).1
    obtain ⟨e, he, ee⟩ := ((F.2.2.2.2.2.1 b hb q hq5).resolve_left key.2).1
    refine R_lv (lv' := [(5, vI (kd s b q)), (4, vI (nI c)), (0, vR g 0), (1, vI (nI q)), (2, vI (nI a)), (3, vI (nI b))]) (by rw [ec]) ?_
    refine R_lv (lv' := [(5, vI (nI e)), (4, vI (nI c)), (0, vR g 0), (1, vI (nI q)), (2, vI (nI a)), (3, vI (nI b))]) (by rw [ee]) ?_
    rw [ec, ee]
    refine R_s 4 (81, [(5, vI (nI e)), (4, vI (nI c)), (0, vR g 0), (1, vI (nI q)), (2, vI (nI a)), (3, vI (nI b))], [vI (nI c), vI (nI q), vR g 0, vI (nI 3)], h) rfl ?_
    refine R_calli mC_costOfSide [vR g 0, vI (nI q), vI (nI c)] [vI (nI 3)] (nI (far s q (nI c))) h rfl (t_C_costOfSide C h6 h5 hq hc) ?_
    refine R_add 3 (far s q (nI c)) rfl ?_
    refine R_s 3 (89, [(5, vI (nI e)), (4, vI (nI c)), (0, vR g 0), (1, vI (nI q)), (2, vI (nI a)), (3, vI (nI b))], [vI (nI e), vI (nI q), vR g 0, vI (nI (3 + (far s q (nI c))))], h) rfl ?_
    refine R_calli mC_costOfSide [vR g 0, vI (nI q), vI (nI e)] [vI (nI (3 + (far s q (nI c))))] (nI (far s q (nI e))) h rfl (t_C_costOfSide C h6 h5 hq he) ?_
    refine R_add (3 + (far s q (nI c))) (far s q (nI e)) rfl ?_
    exact R_ret (some (vI (nI ((3 + (far s q (nI c))) + (far s q (nI e)))))) h rfl ⟨rfl, rfl⟩
  · refine R_s 1 (94, [(5, vI (kd s b q)), (4, vI (kd s a q)), (0, vR g 0), (1, vI (nI q)), (2, vI (nI a)), (3, vI (nI b))], [], h) rfl ?_
    obtain ⟨e, he, ee⟩ := ((F.2.2.2.2.2.1 b hb q hq5).resolve_left key.2).1
    refine R_lv (lv' := [(5, vI (nI e)), (4, vI (kd s a q)), (0, vR g 0), (1, vI (nI q)), (2, vI (nI a)), (3, vI (nI b))]) (by rw [ee]) ?_
    rw [ee]
    refine R_s 4 (99, [(5, vI (nI e)), (4, vI (kd s a q)), (0, vR g 0), (1, vI (nI q)), (2, vI (nI a)), (3, vI (nI b))], [vI (nI e), vI (nI q), vR g 0, vI (nI 2)], h) rfl ?_
    refine R_calli mC_costOfSide [vR g 0, vI (nI q), vI (nI e)] [vI (nI 2)] (nI (far s q (nI e))) h rfl (t_C_costOfSide C h6 h5 hq he) ?_
    refine R_add 2 (far s q (nI e)) rfl ?_
    exact R_ret (some (vI (nI (2 + (far s q (nI e)))))) h rfl ⟨rfl, rfl⟩
  · refine R_s 1 (104, [(5, vI (kd s b q)), (4, vI (kd s a q)), (0, vR g 0), (1, vI (nI q)), (2, vI (nI a)), (3, vI (nI b))], [], h) rfl ?_
    obtain ⟨t, ht, et⟩ := ((F.2.2.2.2.2.1 a ha q hq5).resolve_left key.1).2
    obtain ⟨u, hu, eu⟩ := ((F.2.2.2.2.2.1 b hb q hq5).resolve_left key.2).2
    refine R_s 4 (108, [(5, vI (kd s b q)), (4, vI (kd s a q)), (0, vR g 0), (1, vI (nI q)), (2, vI (nI a)), (3, vI (nI b))], [vI (nI q), vI (nI a), vR g 0, vI (nI 2)], h) rfl ?_
    refine R_calli mC_tuningPlayed [vR g 0, vI (nI a), vI (nI q)] [vI (nI 2)] (tn s a q) h rfl (t_C_tuningPlayed C ha hq5 key.1) ?_
    refine R_top (nI t) et ?_
    refine R_s 3 (114, [(5, vI (kd s b q)), (4, vI (kd s a q)), (0, vR g 0), (1, vI (nI q)), (2, vI (nI a)), (3, vI (nI b))], [vI (nI q), vI (nI b), vR g 0, vI (nI t), vI (nI 2)], h) rfl ?_
    refine R_calli mC_tuningPlayed [vR g 0, vI (nI b), vI (nI q)] [vI (nI t), vI (nI 2)] (tn s b q) h rfl (t_C_tuningPlayed C hb hq5 key.2) ?_
    refine R_top (nI u) eu ?_
    refine R_s 2 (121, [(5, vI (kd s b q)), (4, vI (kd s a q)), (0, vR g 0), (1, vI (nI q)), (2, vI (nI a)), (3, vI (nI b))], [vI (if 0 ≤ (nI t - nI u) then (nI t - nI u) else 0 - (nI t - nI u)), vI (nI 2)], h) rfl ?_
    refine R_top (nI (dst (nI t) (nI u))) (abs_d ht hu) ?_
    refine R_add 2 (dst (nI t) (nI u)) rfl ?_
    exact R_ret (some (vI (nI (2 + (dst (nI t) (nI u)))))) h rfl ⟨by rw [et, eu]; rfl, rfl⟩
end
section
theorem t_C_costOfChangeover {d g n p k : Nat} {h : HP} {s : Nat → Int32} {a b : Nat} (C : CO h g s n p k) (F : WF s n p k) (ha : a < 8) (hb : b < 8) : MT (d + 3) mC_costOfChangeover [vR g 0, vI (nI a), vI (nI b)] h (fun r h' => r = some (vI (nI (btw s (-1) p a b p))) ∧ h' = h) := by
  have h5 := F.2.1.2.1
  refine R_s 4 (5, [(4, vI (nI 0)), (3, vI (nI 0)), (0, vR g 0), (1, vI (nI a)), (2, vI (nI b))], [], h) rfl ?_
  suffices ∀ m q c, q + m = p → c = btw s (-1) p a b q → R (d + 3) mC_costOfChangeover (5, [(4, vI (nI q)), (3, vI (nI c)), (0, vR g 0), (1, vI (nI a)), (2, vI (nI b))], [], h) (fun r h' => r = some (vI (nI (btw s (-1) p a b p))) ∧ h' = h) from this p 0 0 (by omega) rfl
  intro m
  induction m with
  | zero =>
    intro q c hm hc
    have hq : q ≤ 5 := by omega
    refine R_s 3 (11, [(4, vI (nI q)), (3, vI (nI c)), (0, vR g 0), (1, vI (nI a)), (2, vI (nI b))], [vI (h g 0 1), vI (nI q)], h) rfl ?_
    refine R_top (nI p) C.1.2.1 ?_
    refine R_s 1 (cond (if2 .ge (nI q) (nI p)) 31 14, [(4, vI (nI q)), (3, vI (nI c)), (0, vR g 0), (1, vI (nI a)), (2, vI (nI b))], [], h) rfl ?_
    refine R_bp (p ≤ q) (i2_ge (by omega) (by omega)) (fun c1 => ?_) (fun c1 => ?_)
    · refine R_s 1 (32, [(4, vI (nI q)), (3, vI (nI c)), (0, vR g 0), (1, vI (nI a)), (2, vI (nI b))], [vI (nI c)], h) rfl ?_
      exact R_ret (some (vI (nI c))) h rfl ⟨by rw [hc, show q = p by omega], rfl⟩
    · exact absurd hm (by omega)
  | succ m ih =>
    intro q c hm hc
    have hq : q ≤ 5 := by omega
    refine R_s 3 (11, [(4, vI (nI q)), (3, vI (nI c)), (0, vR g 0), (1, vI (nI a)), (2, vI (nI b))], [vI (h g 0 1), vI (nI q)], h) rfl ?_
    refine R_top (nI p) C.1.2.1 ?_
    refine R_s 1 (cond (if2 .ge (nI q) (nI p)) 31 14, [(4, vI (nI q)), (3, vI (nI c)), (0, vR g 0), (1, vI (nI a)), (2, vI (nI b))], [], h) rfl ?_
    refine R_bp (p ≤ q) (i2_ge (by omega) (by omega)) (fun c1 => ?_) (fun c1 => ?_)
    · refine R_s 1 (32, [(4, vI (nI q)), (3, vI (nI c)), (0, vR g 0), (1, vI (nI a)), (2, vI (nI b))], [vI (nI c)], h) rfl ?_
      exact R_ret (some (vI (nI c))) h rfl ⟨by rw [hc, show q = p by omega], rfl⟩
    · refine R_s 5 (20, [(4, vI (nI q)), (3, vI (nI c)), (0, vR g 0), (1, vI (nI a)), (2, vI (nI b))], [vI (nI b), vI (nI a), vI (nI q), vR g 0, vI (nI c)], h) rfl ?_
      refine R_calli mC_costOfChange [vR g 0, vI (nI q), vI (nI a), vI (nI b)] [vI (nI c)] (nI (cof s (-1) p a b q)) h rfl (t_C_costOfChange C F ha hb (by omega)) ?_
      refine R_add c (cof s (-1) p a b q) rfl ?_
      refine R_s 2 (28, [(4, vI (nI q + Int32.ofInt 1)), (3, vI (nI (c + (cof s (-1) p a b q)))), (0, vR g 0), (1, vI (nI a)), (2, vI (nI b))], [], h) rfl ?_
      refine R_lv (lv' := [(4, vI (nI (q + 1))), (3, vI (nI (c + (cof s (-1) p a b q)))), (0, vR g 0), (1, vI (nI a)), (2, vI (nI b))]) (by rw [show nI q + Int32.ofInt 1 = nI (q + 1) from nI_add _ _]) ?_
      refine R_s 1 (5, [(4, vI (nI (q + 1))), (3, vI (nI (c + (cof s (-1) p a b q)))), (0, vR g 0), (1, vI (nI a)), (2, vI (nI b))], [], h) rfl ?_
      exact ih (q + 1) _ (by omega) (by rw [hc]; rfl)
theorem t_C_costAfter {d g n p k : Nat} {h : HP} {s : Nat → Int32} {j a b : Nat} (C : CO h g s n p k) (F : WF s n p k) (hj : j + 1 < 8) (ha : a < 8) (hb : b < 8) (ea : s (18 + j) = nI a) (eb : s (18 + (j + 1)) = nI b) : MT (d + 4) mC_costAfter [vR g 0, vI (nI j)] h (fun r h' => r = some (vI (nI (btw s (-1) p a b p))) ∧ h' = h) := by
  refine R_s 4 (6, [(0, vR g 0), (1, vI (nI j))], [vI (nI j), vR g 8, vR g 0], h) rfl ?_
  refine R_ld g 8 j 8 rfl rfl (by omega) (by decide) ?_
  refine R_top (nI a) ((C.2.2.2.2.2.2 j (by omega)).2.trans ea) ?_
  refine R_s 4 (13, [(0, vR g 0), (1, vI (nI j))], [vI (nI 1), vI (nI j), vR g 8, vI (nI a), vR g 0], h) rfl ?_
  refine R_add j 1 rfl ?_
  refine R_ld g 8 (j + 1) 8 rfl rfl (by omega) (by decide) ?_
  refine R_top (nI b) ((C.2.2.2.2.2.2 (j + 1) (by omega)).2.trans eb) ?_
  refine R_calli mC_costOfChangeover [vR g 0, vI (nI a), vI (nI b)] [] (nI (btw s (-1) p a b p)) h rfl (t_C_costOfChangeover C F ha hb) ?_
  exact R_ret (some (vI (nI (btw s (-1) p a b p)))) h rfl ⟨rfl, rfl⟩
def mx (s : Nat → Int32) (y : Int32) (p : Nat) : Nat → Nat
  | 0 => 0
  | a + 1 => if mx s y p a < cn s a y p then cn s a y p else mx s y p a
theorem mx_le (s : Nat → Int32) (y : Int32) (p : Nat) : ∀ a, mx s y p a ≤ p := by
  intro a
  induction a with
  | zero => exact Nat.zero_le _
  | succ a ih =>
    show (if mx s y p a < cn s a y p then cn s a y p else mx s y p a) ≤ p
    split
    · exact cn_le _ _ _ _
    · exact ih
theorem if_nI {a b : Nat} (ha : a < 2147483648) (hb : b < 2147483648) : (if nI a < nI b then nI b else nI a) = nI (if a < b then b else a) := by
  by_cases h : a < b
  · rw [if_pos h, if_pos (nI_lt h hb)]
  · rw [if_neg h, if_neg (nI_nlt (by omega) ha)]
theorem t_C_mostPlayersOn {d g n p k : Nat} {h : HP} {s : Nat → Int32} {y : Int32} (C : CO h g s n p k) (h8 : n ≤ 8) (h5 : p ≤ 5) : MT (d + 1) mC_mostPlayersOn [vR g 0, vI y] h (fun r h' => r = some (vI (nI (mx s y p n))) ∧ h' = h) := by
  refine R_s 4 (4, [(3, vI (nI 0)), (2, vI (nI 0)), (0, vR g 0), (1, vI y)], [], h) rfl ?_
  suffices ∀ m a c, a + m = n → c = mx s y p a → R (d + 1) mC_mostPlayersOn (4, [(3, vI (nI a)), (2, vI (nI c)), (0, vR g 0), (1, vI y)], [], h) (fun r h' => r = some (vI (nI (mx s y p n))) ∧ h' = h) from this n 0 0 (by omega) rfl
  intro m
  induction m with
  | zero =>
    intro a c hm hc
    have hcn := cn_le s a y p
    have hcl : c ≤ p := by rw [hc]; exact mx_le _ _ _ _
    refine R_s 3 (9, [(3, vI (nI a)), (2, vI (nI c)), (0, vR g 0), (1, vI y)], [vI (h g 0 0), vI (nI a)], h) rfl ?_
    refine R_top (nI n) C.1.1 ?_
    refine R_s 1 (cond (if2 .ge (nI a) (nI n)) 29 12, [(3, vI (nI a)), (2, vI (nI c)), (0, vR g 0), (1, vI y)], [], h) rfl ?_
    refine R_bp (n ≤ a) (i2_ge (by omega) (by omega)) (fun c1 => ?_) (fun c1 => ?_)
    · refine R_s 1 (30, [(3, vI (nI a)), (2, vI (nI c)), (0, vR g 0), (1, vI y)], [vI (nI c)], h) rfl ?_
      exact R_ret (some (vI (nI c))) h rfl ⟨by rw [hc, show a = n by omega], rfl⟩
    · exact absurd hm (by omega)
  | succ m ih =>
    intro a c hm hc
    have hcn := cn_le s a y p
    have hcl : c ≤ p := by rw [hc]; exact mx_le _ _ _ _
    refine R_s 3 (9, [(3, vI (nI a)), (2, vI (nI c)), (0, vR g 0), (1, vI y)], [vI (h g 0 0), vI (nI a)], h) rfl ?_
    refine R_top (nI n) C.1.1 ?_
    refine R_s 1 (cond (if2 .ge (nI a) (nI n)) 29 12, [(3, vI (nI a)), (2, vI (nI c)), (0, vR g 0), (1, vI y)], [], h) rfl ?_
    refine R_bp (n ≤ a) (i2_ge (by omega) (by omega)) (fun c1 => ?_) (fun c1 => ?_)
    · refine R_s 1 (30, [(3, vI (nI a)), (2, vI (nI c)), (0, vR g 0), (1, vI y)], [vI (nI c)], h) rfl ?_
      exact R_ret (some (vI (nI c))) h rfl ⟨by rw [hc, show a = n by omega], rfl⟩
    · refine R_s 4 (16, [(3, vI (nI a)), (2, vI (nI c)), (0, vR g 0), (1, vI y)], [vI y, vI (nI a), vR g 0, vI (nI c)], h) rfl ?_
      refine R_calli mC_playersOn [vR g 0, vI (nI a), vI y] [vI (nI c)] (nI (cn s a y p)) h rfl (t_C_playersOn C h5 (by omega)) ?_
      refine R_s 1 (22, [(3, vI (nI a)), (2, vI (nI c)), (0, vR g 0), (1, vI y)], [vI (if (nI c) < (nI (cn s a y p)) then (nI (cn s a y p)) else (nI c))], h) rfl ?_
      refine R_top (nI (if c < cn s a y p then cn s a y p else c)) (if_nI (by omega) (by omega)) ?_
      refine R_s 2 (26, [(3, vI (nI a + Int32.ofInt 1)), (2, vI (nI (if c < cn s a y p then cn s a y p else c))), (0, vR g 0), (1, vI y)], [], h) rfl ?_
      refine R_lv (lv' := [(3, vI (nI (a + 1))), (2, vI (nI (if c < cn s a y p then cn s a y p else c))), (0, vR g 0), (1, vI y)]) (by rw [show nI a + Int32.ofInt 1 = nI (a + 1) from nI_add _ _]) ?_
      refine R_s 1 (4, [(3, vI (nI (a + 1))), (2, vI (nI (if c < cn s a y p then cn s a y p else c))), (0, vR g 0), (1, vI y)], [], h) rfl ?_
      exact ih (a + 1) _ (by omega) (by rw [hc]; rfl)
/-- the first song from a on, of the m next ones, that is pinned at y; -1 if none -/
def spn (s : Nat → Int32) (y : Int32) : Nat → Nat → Int32
  | 0, _ => -1
  | m + 1, a => if s (10 + a) = y then nI a else spn s y m (a + 1)
theorem t_C_songPinnedAt {d g n p k : Nat} {h : HP} {s : Nat → Int32} {y : Int32} (C : CO h g s n p k) (h8 : n ≤ 8) : MT d mC_songPinnedAt [vR g 0, vI y] h (fun r h' => r = some (vI (spn s y n 0)) ∧ h' = h) := by
  refine R_s 2 (2, [(2, vI (nI 0)), (0, vR g 0), (1, vI y)], [], h) rfl ?_
  suffices ∀ m a, a + m = n → spn s y n 0 = spn s y m a → R d mC_songPinnedAt (2, [(2, vI (nI a)), (0, vR g 0), (1, vI y)], [], h) (fun r h' => r = some (vI (spn s y n 0)) ∧ h' = h) from this n 0 (by omega) rfl
  intro m
  induction m with
  | zero =>
    intro a hm hc
    refine R_s 3 (7, [(2, vI (nI a)), (0, vR g 0), (1, vI y)], [vI (h g 0 0), vI (nI a)], h) rfl ?_
    refine R_top (nI n) C.1.1 ?_
    refine R_s 1 (cond (if2 .ge (nI a) (nI n)) 28 10, [(2, vI (nI a)), (0, vR g 0), (1, vI y)], [], h) rfl ?_
    refine R_bp (n ≤ a) (i2_ge (by omega) (by omega)) (fun c1 => ?_) (fun c1 => ?_)
    · refine R_s 1 (29, [(2, vI (nI a)), (0, vR g 0), (1, vI y)], [vI (-1)], h) rfl ?_
      exact R_ret (some (vI (-1))) h rfl ⟨by rw [hc, show 0 = 0 by omega]; rfl, rfl⟩
    · exact absurd hm (by omega)
  | succ m ih =>
    intro a hm hc
    refine R_s 3 (7, [(2, vI (nI a)), (0, vR g 0), (1, vI y)], [vI (h g 0 0), vI (nI a)], h) rfl ?_
    refine R_top (nI n) C.1.1 ?_
    refine R_s 1 (cond (if2 .ge (nI a) (nI n)) 28 10, [(2, vI (nI a)), (0, vR g 0), (1, vI y)], [], h) rfl ?_
    refine R_bp (n ≤ a) (i2_ge (by omega) (by omega)) (fun c1 => ?_) (fun c1 => ?_)
    · refine R_s 1 (29, [(2, vI (nI a)), (0, vR g 0), (1, vI y)], [vI (-1)], h) rfl ?_
      exact R_ret (some (vI (-1))) h rfl ⟨by rw [hc, show m + 1 = 0 by omega]; rfl, rfl⟩
    · refine R_s 3 (15, [(2, vI (nI a)), (0, vR g 0), (1, vI y)], [vI (nI a), vR g 7], h) rfl ?_
      refine R_ld g 7 a 8 rfl rfl (by omega) (by decide) ?_
      refine R_top (s (10 + a)) (C.2.2.2.2.2.2 a (by omega)).1 ?_
      refine R_s 2 (cond (if2 .ne (s (10 + a)) y) 22 20, [(2, vI (nI a)), (0, vR g 0), (1, vI y)], [], h) rfl ?_
      refine R_bp (¬ (s (10 + a)) = y) x2_ne (fun c2 => ?_) (fun c2 => ?_)
      · refine R_s 1 (25, [(2, vI (nI a + Int32.ofInt 1)), (0, vR g 0), (1, vI y)], [], h) rfl ?_
        refine R_lv (lv' := [(2, vI (nI (a + 1))), (0, vR g 0), (1, vI y)]) (by rw [show nI a + Int32.ofInt 1 = nI (a + 1) from nI_add _ _]) ?_
        refine R_s 1 (2, [(2, vI (nI (a + 1))), (0, vR g 0), (1, vI y)], [], h) rfl ?_
        exact ih (a + 1) (by omega) (by rw [hc]; show (if _ then _ else _) = _; rw [if_neg c2])
      · refine R_s 1 (21, [(2, vI (nI a)), (0, vR g 0), (1, vI y)], [vI (nI a)], h) rfl ?_
        exact R_ret (some (vI (nI a))) h rfl ⟨by rw [hc]; show _ = some (vI (if _ then _ else _)); rw [if_pos (Classical.not_not.mp c2)], rfl⟩
def pinc (s : Nat → Int32) : Nat → Nat
  | 0 => 0
  | a + 1 => pinc s a + (if s (10 + a) = -1 then 0 else 1)
theorem pinc_le (s : Nat → Int32) : ∀ a, pinc s a ≤ a := by
  intro a
  induction a with
  | zero => exact Nat.le_refl _
  | succ a ih =>
    show pinc s a + (if s (10 + a) = -1 then 0 else 1) ≤ a + 1
    split <;> omega
theorem t_C_pinCount {d g n p k : Nat} {h : HP} {s : Nat → Int32} (C : CO h g s n p k) (h8 : n ≤ 8) : MT d mC_pinCount [vR g 0] h (fun r h' => r = some (vI (nI (pinc s n))) ∧ h' = h) := by
  refine R_s 4 (4, [(2, vI (nI 0)), (1, vI (nI 0)), (0, vR g 0)], [], h) rfl ?_
  suffices ∀ m a c, a + m = n → c = pinc s a → R d mC_pinCount (4, [(2, vI (nI a)), (1, vI (nI c)), (0, vR g 0)], [], h) (fun r h' => r = some (vI (nI (pinc s n))) ∧ h' = h) from this n 0 0 (by omega) rfl
  intro m
  induction m with
  | zero =>
    intro a c hm hc
    have hcl : c ≤ a := by rw [hc]; exact pinc_le _ _
    refine R_s 3 (9, [(2, vI (nI a)), (1, vI (nI c)), (0, vR g 0)], [vI (h g 0 0), vI (nI a)], h) rfl ?_
    refine R_top (nI n) C.1.1 ?_
    refine R_s 1 (cond (if2 .ge (nI a) (nI n)) 31 12, [(2, vI (nI a)), (1, vI (nI c)), (0, vR g 0)], [], h) rfl ?_
    refine R_bp (n ≤ a) (i2_ge (by omega) (by omega)) (fun c1 => ?_) (fun c1 => ?_)
    · refine R_s 1 (32, [(2, vI (nI a)), (1, vI (nI c)), (0, vR g 0)], [vI (nI c)], h) rfl ?_
      exact R_ret (some (vI (nI c))) h rfl ⟨by rw [hc, show a = n by omega], rfl⟩
    · exact absurd hm (by omega)
  | succ m ih =>
    intro a c hm hc
    have hcl : c ≤ a := by rw [hc]; exact pinc_le _ _
    refine R_s 3 (9, [(2, vI (nI a)), (1, vI (nI c)), (0, vR g 0)], [vI (h g 0 0), vI (nI a)], h) rfl ?_
    refine R_top (nI n) C.1.1 ?_
    refine R_s 1 (cond (if2 .ge (nI a) (nI n)) 31 12, [(2, vI (nI a)), (1, vI (nI c)), (0, vR g 0)], [], h) rfl ?_
    refine R_bp (n ≤ a) (i2_ge (by omega) (by omega)) (fun c1 => ?_) (fun c1 => ?_)
    · refine R_s 1 (32, [(2, vI (nI a)), (1, vI (nI c)), (0, vR g 0)], [vI (nI c)], h) rfl ?_
      exact R_ret (some (vI (nI c))) h rfl ⟨by rw [hc, show a = n by omega], rfl⟩
    · refine R_s 3 (17, [(2, vI (nI a)), (1, vI (nI c)), (0, vR g 0)], [vI (nI a), vR g 7], h) rfl ?_
      refine R_ld g 7 a 8 rfl rfl (by omega) (by decide) ?_
      refine R_top (s (10 + a)) (C.2.2.2.2.2.2 a (by omega)).1 ?_
      refine R_s 2 (cond (if2 .eq (s (10 + a)) (-1)) 25 22, [(2, vI (nI a)), (1, vI (nI c)), (0, vR g 0)], [], h) rfl ?_
      refine R_bp ((s (10 + a)) = (-1)) x2_eq (fun c2 => ?_) (fun c2 => ?_)
      · refine R_s 1 (28, [(2, vI (nI a + Int32.ofInt 1)), (1, vI (nI c)), (0, vR g 0)], [], h) rfl ?_
        refine R_lv (lv' := [(2, vI (nI (a + 1))), (1, vI (nI c)), (0, vR g 0)]) (by rw [show nI a + Int32.ofInt 1 = nI (a + 1) from nI_add _ _]) ?_
        refine R_s 1 (4, [(2, vI (nI (a + 1))), (1, vI (nI c)), (0, vR g 0)], [], h) rfl ?_
        exact ih (a + 1) _ (by omega) (by rw [hc]; show _ = _ + (if _ then _ else _); rw [if_pos c2]; rfl)
      · refine R_s 1 (25, [(1, vI (nI c + Int32.ofInt 1)), (2, vI (nI a)), (0, vR g 0)], [], h) rfl ?_
        refine R_lv (lv' := [(1, vI (nI (c + 1))), (2, vI (nI a)), (0, vR g 0)]) (by rw [show nI c + Int32.ofInt 1 = nI (c + 1) from nI_add _ _]) ?_
        refine R_s 1 (28, [(2, vI (nI a + Int32.ofInt 1)), (1, vI (nI (c + 1))), (0, vR g 0)], [], h) rfl ?_
        refine R_lv (lv' := [(2, vI (nI (a + 1))), (1, vI (nI (c + 1))), (0, vR g 0)]) (by rw [show nI a + Int32.ofInt 1 = nI (a + 1) from nI_add _ _]) ?_
        refine R_s 1 (4, [(2, vI (nI (a + 1))), (1, vI (nI (c + 1))), (0, vR g 0)], [], h) rfl ?_
        exact ih (a + 1) _ (by omega) (by rw [hc]; show _ = _ + (if _ then _ else _); rw [if_neg c2])
def bq1 (x : Int32) : Int32 := x - (((x).toUInt32 >>> ((nI 1).toUInt32 &&& Int32.toUInt32 31)).toInt32 &&& nI 1431655765)
def bq2 (x : Int32) : Int32 := (x &&& nI 858993459) + (((x).toUInt32 >>> ((nI 2).toUInt32 &&& Int32.toUInt32 31)).toInt32 &&& nI 858993459)
def bq3 (x : Int32) : Int32 := (x + ((x).toUInt32 >>> ((nI 4).toUInt32 &&& Int32.toUInt32 31)).toInt32) &&& nI 252645135
def bq4 (x : Int32) : Int32 := x + ((x).toUInt32 >>> ((nI 8).toUInt32 &&& Int32.toUInt32 31)).toInt32
def bq5 (x : Int32) : Int32 := x + ((x).toUInt32 >>> ((nI 16).toUInt32 &&& Int32.toUInt32 31)).toInt32
theorem bq_ok : ∀ e, e < 256 → bq5 (bq4 (bq3 (bq2 (bq1 (nI e))))) &&& nI 63 = nI (pop e) := by decide +kernel
theorem t_I_bitCount {d e : Nat} {h : HP} (he : e < 256) : MT d mI_bitCount [vI (nI e)] h (fun r h' => r = some (vI (nI (pop e))) ∧ h' = h) := by
  refine R_s 8 (10, [(0, vI ((nI e) - ((((nI e).toUInt32 >>> ((nI 1).toUInt32 &&& Int32.toUInt32 31)).toInt32) &&& (nI 1431655765))))], [], h) rfl ?_
  refine R_lv (lv' := [(0, vI (bq1 (nI e)))]) rfl ?_
  refine R_s 10 (24, [(0, vI (((bq1 (nI e)) &&& (nI 858993459)) + ((((bq1 (nI e)).toUInt32 >>> ((nI 2).toUInt32 &&& Int32.toUInt32 31)).toInt32) &&& (nI 858993459))))], [], h) rfl ?_
  refine R_lv (lv' := [(0, vI (bq2 (bq1 (nI e))))]) rfl ?_
  refine R_s 8 (34, [(0, vI (((bq2 (bq1 (nI e))) + (((bq2 (bq1 (nI e))).toUInt32 >>> ((nI 4).toUInt32 &&& Int32.toUInt32 31)).toInt32)) &&& (nI 252645135)))], [], h) rfl ?_
  refine R_lv (lv' := [(0, vI (bq3 (bq2 (bq1 (nI e)))))]) rfl ?_
  refine R_s 6 (41, [(0, vI ((bq3 (bq2 (bq1 (nI e)))) + (((bq3 (bq2 (bq1 (nI e)))).toUInt32 >>> ((nI 8).toUInt32 &&& Int32.toUInt32 31)).toInt32)))], [], h) rfl ?_
  refine R_lv (lv' := [(0, vI (bq4 (bq3 (bq2 (bq1 (nI e))))))]) rfl ?_
  refine R_s 6 (48, [(0, vI ((bq4 (bq3 (bq2 (bq1 (nI e))))) + (((bq4 (bq3 (bq2 (bq1 (nI e))))).toUInt32 >>> ((nI 16).toUInt32 &&& Int32.toUInt32 31)).toInt32)))], [], h) rfl ?_
  refine R_lv (lv' := [(0, vI (bq5 (bq4 (bq3 (bq2 (bq1 (nI e)))))))]) rfl ?_
  refine R_s 3 (52, [(0, vI (bq5 (bq4 (bq3 (bq2 (bq1 (nI e)))))))], [vI ((bq5 (bq4 (bq3 (bq2 (bq1 (nI e)))))) &&& (nI 63))], h) rfl ?_
  exact R_ret (some (vI ((bq5 (bq4 (bq3 (bq2 (bq1 (nI e)))))) &&& (nI 63)))) h rfl ⟨by rw [← bq_ok e he], rfl⟩
theorem pop_n : ∀ n, n < 9 → ∀ e, e < 2 ^ n → pop e ≤ n := by decide +kernel
def msb (s : Nat → Int32) (e n a j : Nat) : Bool := (decide (s (10 + a) = -1) || decide (s (10 + a) = nI j)) && (e.testBit a == decide (n - pop e ≤ j))
theorem i2_bb {b c : Bool} : if2 .ne (bI b) (nI (if c then 1 else 0)) = true ↔ ¬ b = c := by cases b <;> cases c <;> decide
theorem t_C_mayStandAt {d g n p k : Nat} {h : HP} {s : Nat → Int32} {e a j : Nat} (C : CO h g s n p k) (h8 : n ≤ 8) (he : s 9 = nI e) (hen : e < 2 ^ n) (ha : a < 8) (hj : j < 8) : MT (d + 1) mC_mayStandAt [vR g 0, vI (nI a), vI (nI j)] h (fun r h' => r = some (vI (bI (msb s e n a j))) ∧ h' = h) := by
  have he8 : e < 256 := Nat.lt_of_lt_of_le hen (pw_le h8)
  have hpn := pop_n n (by omega) e hen
  refine R_s 3 (5, [(0, vR g 0), (1, vI (nI a)), (2, vI (nI j))], [vI (h g 0 0), vI (nI j)], h) rfl ?_
  refine R_top (nI n) C.1.1 ?_
  refine R_s 2 (9, [(0, vR g 0), (1, vI (nI a)), (2, vI (nI j))], [vI (h g 0 3), vI (nI n), vI (nI j)], h) rfl ?_
  refine R_top (nI e) (C.1.2.2.2.trans he) ?_
  refine R_calli mI_bitCount [vI (nI e)] [vI (nI n), vI (nI j)] (nI (pop e)) h rfl (t_I_bitCount he8) ?_
  refine R_sub n (pop e) rfl hpn ?_
  refine R_s 1 (cond (if2 .lt (nI j) (nI (n - (pop e)))) 20 16, [(0, vR g 0), (1, vI (nI a)), (2, vI (nI j))], [], h) rfl ?_
  refine R_bp (j < (n - (pop e))) (i2_lt (by omega) (by omega)) (fun c1 => ?_) (fun c1 => ?_)
  · refine R_s 2 (22, [(3, vI (nI 0)), (0, vR g 0), (1, vI (nI a)), (2, vI (nI j))], [], h) rfl ?_
    refine R_s 3 (27, [(3, vI (nI 0)), (0, vR g 0), (1, vI (nI a)), (2, vI (nI j))], [vI (nI a), vR g 7], h) rfl ?_
    refine R_ld g 7 a 8 rfl rfl (by omega) (by decide) ?_
    refine R_top (s (10 + a)) (C.2.2.2.2.2.2 a ha).1 ?_
    refine R_s 2 (cond (if2 .eq (s (10 + a)) (-1)) 42 32, [(3, vI (nI 0)), (0, vR g 0), (1, vI (nI a)), (2, vI (nI j))], [], h) rfl ?_
    refine R_bp ((s (10 + a)) = (-1)) x2_eq (fun c2 => ?_) (fun c2 => ?_)
    · refine R_s 5 (cond (if0 .eq (nI 1)) 67 54, [(4, vI (nI 1)), (3, vI (nI 0)), (0, vR g 0), (1, vI (nI a)), (2, vI (nI j))], [], h) rfl ?_
      refine R_bf rfl ?_
      refine R_s 2 (56, [(4, vI (nI 1)), (3, vI (nI 0)), (0, vR g 0), (1, vI (nI a)), (2, vI (nI j))], [vI (nI a), vR g 0], h) rfl ?_
      refine R_calli mC_isEncore [vR g 0, vI (nI a)] [] (bI (e.testBit a)) h rfl (t_C_isEncore (C.1.2.2.2.trans he) he8 ha) ?_
      refine R_s 2 (cond (if2 .ne (bI (e.testBit a)) (nI 0)) 67 63, [(4, vI (nI 1)), (3, vI (nI 0)), (0, vR g 0), (1, vI (nI a)), (2, vI (nI j))], [], h) rfl ?_
      refine R_bp (¬ e.testBit a = false) (i2_bb (c := false)) (fun c9 => ?_) (fun c9 => ?_)
      · refine R_s 1 (68, [(4, vI (nI 1)), (3, vI (nI 0)), (0, vR g 0), (1, vI (nI a)), (2, vI (nI j))], [vI (nI 0)], h) rfl ?_
        exact R_ret (some (vI (nI 0))) h rfl ⟨by rw [show msb s e n a j = false by unfold msb; rw [show decide (n - pop e ≤ j) = false from decide_eq_false (by omega)]; cases hb : e.testBit a <;> simp [hb] at c9 ⊢]; rfl, rfl⟩
      · refine R_s 2 (68, [(4, vI (nI 1)), (3, vI (nI 0)), (0, vR g 0), (1, vI (nI a)), (2, vI (nI j))], [vI (nI 1)], h) rfl ?_
        exact R_ret (some (vI (nI 1))) h rfl ⟨by rw [show msb s e n a j = true by unfold msb; rw [show decide (n - pop e ≤ j) = false from decide_eq_false (by omega), Classical.not_not.mp c9]; simp [c2]]; rfl, rfl⟩
    · refine R_s 3 (37, [(3, vI (nI 0)), (0, vR g 0), (1, vI (nI a)), (2, vI (nI j))], [vI (nI a), vR g 7], h) rfl ?_
      refine R_ld g 7 a 8 rfl rfl (by omega) (by decide) ?_
      refine R_top (s (10 + a)) (C.2.2.2.2.2.2 a ha).1 ?_
      refine R_s 2 (cond (if2 .ne (s (10 + a)) (nI j)) 46 42, [(3, vI (nI 0)), (0, vR g 0), (1, vI (nI a)), (2, vI (nI j))], [], h) rfl ?_
      refine R_bp (¬ (s (10 + a)) = (nI j)) x2_ne (fun c3 => ?_) (fun c3 => ?_)
      · refine R_s 4 (cond (if0 .eq (nI 0)) 67 54, [(4, vI (nI 0)), (3, vI (nI 0)), (0, vR g 0), (1, vI (nI a)), (2, vI (nI j))], [], h) rfl ?_
        refine R_bt rfl ?_
        refine R_s 1 (68, [(4, vI (nI 0)), (3, vI (nI 0)), (0, vR g 0), (1, vI (nI a)), (2, vI (nI j))], [vI (nI 0)], h) rfl ?_
        exact R_ret (some (vI (nI 0))) h rfl ⟨by rw [show msb s e n a j = false by unfold msb; simp [c2, c3]]; rfl, rfl⟩
      · refine R_s 5 (cond (if0 .eq (nI 1)) 67 54, [(4, vI (nI 1)), (3, vI (nI 0)), (0, vR g 0), (1, vI (nI a)), (2, vI (nI j))], [], h) rfl ?_
        refine R_bf rfl ?_
        refine R_s 2 (56, [(4, vI (nI 1)), (3, vI (nI 0)), (0, vR g 0), (1, vI (nI a)), (2, vI (nI j))], [vI (nI a), vR g 0], h) rfl ?_
        refine R_calli mC_isEncore [vR g 0, vI (nI a)] [] (bI (e.testBit a)) h rfl (t_C_isEncore (C.1.2.2.2.trans he) he8 ha) ?_
        refine R_s 2 (cond (if2 .ne (bI (e.testBit a)) (nI 0)) 67 63, [(4, vI (nI 1)), (3, vI (nI 0)), (0, vR g 0), (1, vI (nI a)), (2, vI (nI j))], [], h) rfl ?_
        refine R_bp (¬ e.testBit a = false) (i2_bb (c := false)) (fun c9 => ?_) (fun c9 => ?_)
        · refine R_s 1 (68, [(4, vI (nI 1)), (3, vI (nI 0)), (0, vR g 0), (1, vI (nI a)), (2, vI (nI j))], [vI (nI 0)], h) rfl ?_
          exact R_ret (some (vI (nI 0))) h rfl ⟨by rw [show msb s e n a j = false by unfold msb; rw [show decide (n - pop e ≤ j) = false from decide_eq_false (by omega)]; cases hb : e.testBit a <;> simp [hb] at c9 ⊢]; rfl, rfl⟩
        · refine R_s 2 (68, [(4, vI (nI 1)), (3, vI (nI 0)), (0, vR g 0), (1, vI (nI a)), (2, vI (nI j))], [vI (nI 1)], h) rfl ?_
          exact R_ret (some (vI (nI 1))) h rfl ⟨by rw [show msb s e n a j = true by unfold msb; rw [show decide (n - pop e ≤ j) = false from decide_eq_false (by omega), Classical.not_not.mp c9]; simp [Classical.not_not.mp c3]]; rfl, rfl⟩
  · refine R_s 3 (22, [(3, vI (nI 1)), (0, vR g 0), (1, vI (nI a)), (2, vI (nI j))], [], h) rfl ?_
    refine R_s 3 (27, [(3, vI (nI 1)), (0, vR g 0), (1, vI (nI a)), (2, vI (nI j))], [vI (nI a), vR g 7], h) rfl ?_
    refine R_ld g 7 a 8 rfl rfl (by omega) (by decide) ?_
    refine R_top (s (10 + a)) (C.2.2.2.2.2.2 a ha).1 ?_
    refine R_s 2 (cond (if2 .eq (s (10 + a)) (-1)) 42 32, [(3, vI (nI 1)), (0, vR g 0), (1, vI (nI a)), (2, vI (nI j))], [], h) rfl ?_
    refine R_bp ((s (10 + a)) = (-1)) x2_eq (fun c2 => ?_) (fun c2 => ?_)
    · refine R_s 5 (cond (if0 .eq (nI 1)) 67 54, [(4, vI (nI 1)), (3, vI (nI 1)), (0, vR g 0), (1, vI (nI a)), (2, vI (nI j))], [], h) rfl ?_
      refine R_bf rfl ?_
      refine R_s 2 (56, [(4, vI (nI 1)), (3, vI (nI 1)), (0, vR g 0), (1, vI (nI a)), (2, vI (nI j))], [vI (nI a), vR g 0], h) rfl ?_
      refine R_calli mC_isEncore [vR g 0, vI (nI a)] [] (bI (e.testBit a)) h rfl (t_C_isEncore (C.1.2.2.2.trans he) he8 ha) ?_
      refine R_s 2 (cond (if2 .ne (bI (e.testBit a)) (nI 1)) 67 63, [(4, vI (nI 1)), (3, vI (nI 1)), (0, vR g 0), (1, vI (nI a)), (2, vI (nI j))], [], h) rfl ?_
      refine R_bp (¬ e.testBit a = true) (i2_bb (c := true)) (fun c9 => ?_) (fun c9 => ?_)
      · refine R_s 1 (68, [(4, vI (nI 1)), (3, vI (nI 1)), (0, vR g 0), (1, vI (nI a)), (2, vI (nI j))], [vI (nI 0)], h) rfl ?_
        exact R_ret (some (vI (nI 0))) h rfl ⟨by rw [show msb s e n a j = false by unfold msb; rw [show decide (n - pop e ≤ j) = true from decide_eq_true (by omega)]; cases hb : e.testBit a <;> simp [hb] at c9 ⊢]; rfl, rfl⟩
      · refine R_s 2 (68, [(4, vI (nI 1)), (3, vI (nI 1)), (0, vR g 0), (1, vI (nI a)), (2, vI (nI j))], [vI (nI 1)], h) rfl ?_
        exact R_ret (some (vI (nI 1))) h rfl ⟨by rw [show msb s e n a j = true by unfold msb; rw [show decide (n - pop e ≤ j) = true from decide_eq_true (by omega), Classical.not_not.mp c9]; simp [c2]]; rfl, rfl⟩
    · refine R_s 3 (37, [(3, vI (nI 1)), (0, vR g 0), (1, vI (nI a)), (2, vI (nI j))], [vI (nI a), vR g 7], h) rfl ?_
      refine R_ld g 7 a 8 rfl rfl (by omega) (by decide) ?_
      refine R_top (s (10 + a)) (C.2.2.2.2.2.2 a ha).1 ?_
      refine R_s 2 (cond (if2 .ne (s (10 + a)) (nI j)) 46 42, [(3, vI (nI 1)), (0, vR g 0), (1, vI (nI a)), (2, vI (nI j))], [], h) rfl ?_
      refine R_bp (¬ (s (10 + a)) = (nI j)) x2_ne (fun c3 => ?_) (fun c3 => ?_)
      · refine R_s 4 (cond (if0 .eq (nI 0)) 67 54, [(4, vI (nI 0)), (3, vI (nI 1)), (0, vR g 0), (1, vI (nI a)), (2, vI (nI j))], [], h) rfl ?_
        refine R_bt rfl ?_
        refine R_s 1 (68, [(4, vI (nI 0)), (3, vI (nI 1)), (0, vR g 0), (1, vI (nI a)), (2, vI (nI j))], [vI (nI 0)], h) rfl ?_
        exact R_ret (some (vI (nI 0))) h rfl ⟨by rw [show msb s e n a j = false by unfold msb; simp [c2, c3]]; rfl, rfl⟩
      · refine R_s 5 (cond (if0 .eq (nI 1)) 67 54, [(4, vI (nI 1)), (3, vI (nI 1)), (0, vR g 0), (1, vI (nI a)), (2, vI (nI j))], [], h) rfl ?_
        refine R_bf rfl ?_
        refine R_s 2 (56, [(4, vI (nI 1)), (3, vI (nI 1)), (0, vR g 0), (1, vI (nI a)), (2, vI (nI j))], [vI (nI a), vR g 0], h) rfl ?_
        refine R_calli mC_isEncore [vR g 0, vI (nI a)] [] (bI (e.testBit a)) h rfl (t_C_isEncore (C.1.2.2.2.trans he) he8 ha) ?_
        refine R_s 2 (cond (if2 .ne (bI (e.testBit a)) (nI 1)) 67 63, [(4, vI (nI 1)), (3, vI (nI 1)), (0, vR g 0), (1, vI (nI a)), (2, vI (nI j))], [], h) rfl ?_
        refine R_bp (¬ e.testBit a = true) (i2_bb (c := true)) (fun c9 => ?_) (fun c9 => ?_)
        · refine R_s 1 (68, [(4, vI (nI 1)), (3, vI (nI 1)), (0, vR g 0), (1, vI (nI a)), (2, vI (nI j))], [vI (nI 0)], h) rfl ?_
          exact R_ret (some (vI (nI 0))) h rfl ⟨by rw [show msb s e n a j = false by unfold msb; rw [show decide (n - pop e ≤ j) = true from decide_eq_true (by omega)]; cases hb : e.testBit a <;> simp [hb] at c9 ⊢]; rfl, rfl⟩
        · refine R_s 2 (68, [(4, vI (nI 1)), (3, vI (nI 1)), (0, vR g 0), (1, vI (nI a)), (2, vI (nI j))], [vI (nI 1)], h) rfl ?_
          exact R_ret (some (vI (nI 1))) h rfl ⟨by rw [show msb s e n a j = true by unfold msb; rw [show decide (n - pop e ≤ j) = true from decide_eq_true (by omega), Classical.not_not.mp c9]; simp [Classical.not_not.mp c3]]; rfl, rfl⟩
def ptm (s : Nat → Int32) (S : Nat) : Nat → Int32
  | 0 => nI 0
  | a + 1 => if S.testBit a then ptm s S a + s (1 + a) else ptm s S a
theorem t_C_playingTime {d g n p k : Nat} {h : HP} {s : Nat → Int32} {S : Nat} (C : CO h g s n p k) (h8 : n ≤ 8) (hS : S < 256) : MT d mC_playingTime [vR g 0, vI (nI S)] h (fun r h' => r = some (vI (ptm s S n)) ∧ h' = h) := by
  refine R_s 4 (4, [(3, vI (nI 0)), (2, vI (nI 0)), (0, vR g 0), (1, vI (nI S))], [], h) rfl ?_
  suffices ∀ m a c, a + m = n → c = ptm s S a → R d mC_playingTime (4, [(3, vI (nI a)), (2, vI c), (0, vR g 0), (1, vI (nI S))], [], h) (fun r h' => r = some (vI (ptm s S n)) ∧ h' = h) from this n 0 _ (by omega) rfl
  intro m
  induction m with
  | zero =>
    intro a c hm hc
    refine R_s 3 (9, [(3, vI (nI a)), (2, vI c), (0, vR g 0), (1, vI (nI S))], [vI (h g 0 0), vI (nI a)], h) rfl ?_
    refine R_top (nI n) C.1.1 ?_
    refine R_s 1 (cond (if2 .ge (nI a) (nI n)) 36 12, [(3, vI (nI a)), (2, vI c), (0, vR g 0), (1, vI (nI S))], [], h) rfl ?_
    refine R_bp (n ≤ a) (i2_ge (by omega) (by omega)) (fun c1 => ?_) (fun c1 => ?_)
    · refine R_s 1 (37, [(3, vI (nI a)), (2, vI c), (0, vR g 0), (1, vI (nI S))], [vI c], h) rfl ?_
      exact R_ret (some (vI c)) h rfl ⟨by rw [hc, show a = n by omega], rfl⟩
    · exact absurd hm (by omega)
  | succ m ih =>
    intro a c hm hc
    refine R_s 3 (9, [(3, vI (nI a)), (2, vI c), (0, vR g 0), (1, vI (nI S))], [vI (h g 0 0), vI (nI a)], h) rfl ?_
    refine R_top (nI n) C.1.1 ?_
    refine R_s 1 (cond (if2 .ge (nI a) (nI n)) 36 12, [(3, vI (nI a)), (2, vI c), (0, vR g 0), (1, vI (nI S))], [], h) rfl ?_
    refine R_bp (n ≤ a) (i2_ge (by omega) (by omega)) (fun c1 => ?_) (fun c1 => ?_)
    · refine R_s 1 (37, [(3, vI (nI a)), (2, vI c), (0, vR g 0), (1, vI (nI S))], [vI c], h) rfl ?_
      exact R_ret (some (vI c)) h rfl ⟨by rw [hc, show a = n by omega], rfl⟩
    · refine R_s 5 (17, [(3, vI (nI a)), (2, vI c), (0, vR g 0), (1, vI (nI S))], [vI (((nI S) >>> ((nI a) &&& 31)) &&& (nI 1))], h) rfl ?_
      refine R_top (nI (if S.testBit a then 1 else 0)) (bit_sh S hS a (by omega)) ?_
      refine R_s 2 (cond (if2 .ne (nI (if S.testBit a then 1 else 0)) (nI 1)) 30 21, [(3, vI (nI a)), (2, vI c), (0, vR g 0), (1, vI (nI S))], [], h) rfl ?_
      refine R_bp (S.testBit a = false) i2_nb (fun c2 => ?_) (fun c2 => ?_)
      · refine R_s 1 (33, [(3, vI (nI a + Int32.ofInt 1)), (2, vI c), (0, vR g 0), (1, vI (nI S))], [], h) rfl ?_
        refine R_lv (lv' := [(3, vI (nI (a + 1))), (2, vI c), (0, vR g 0), (1, vI (nI S))]) (by rw [show nI a + Int32.ofInt 1 = nI (a + 1) from nI_add _ _]) ?_
        refine R_s 1 (4, [(3, vI (nI (a + 1))), (2, vI c), (0, vR g 0), (1, vI (nI S))], [], h) rfl ?_
        exact ih (a + 1) _ (by omega) (by rw [hc]; show _ = (if _ then _ else _); rw [c2]; rfl)
      · refine R_s 4 (27, [(3, vI (nI a)), (2, vI c), (0, vR g 0), (1, vI (nI S))], [vI (nI a), vR g 1, vI c], h) rfl ?_
        refine R_ld g 1 a 8 rfl rfl (by omega) (by decide) ?_
        refine R_top (s (1 + a)) (C.2.1 a (by omega)) ?_
        refine R_s 3 (33, [(3, vI (nI a + Int32.ofInt 1)), (2, vI (c + (s (1 + a)))), (0, vR g 0), (1, vI (nI S))], [], h) rfl ?_
        refine R_lv (lv' := [(3, vI (nI (a + 1))), (2, vI (c + (s (1 + a)))), (0, vR g 0), (1, vI (nI S))]) (by rw [show nI a + Int32.ofInt 1 = nI (a + 1) from nI_add _ _]) ?_
        refine R_s 1 (4, [(3, vI (nI (a + 1))), (2, vI (c + (s (1 + a)))), (0, vR g 0), (1, vI (nI S))], [], h) rfl ?_
        exact ih (a + 1) _ (by omega) (by rw [hc]; show _ = (if _ then _ else _); rw [tf c2]; rfl)
end
section
/-! what updates do to a concert's cells and to its row -/
theorem co_frame {h h' : HP} {g n p k : Nat} {s : Nat → Int32} (C : CO h g s n p k) (e : ∀ j, h' g j = h g j) : CO h' g s n p k := by
  unfold CO at C ⊢
  simp only [e]
  exact C
theorem co_ext {h : HP} {g n p k : Nat} {s s' : Nat → Int32} (hn : n ≤ 8) (hp : p ≤ 5) (hk : k ≤ 6) (C : CO h g s n p k) (e : ∀ i, i < 125 → s' i = s i) : CO h g s' n p k := by
  obtain ⟨⟨c1, c2, c3, c4⟩, c5, c6, c7, c8, c9, c10⟩ := C
  exact ⟨⟨c1, c2, c3, by rw [e 9 (by omega)]; exact c4⟩, fun j hj => by rw [e _ (by omega)]; exact c5 j hj, fun j hj => by rw [e _ (by omega)]; exact c6 j hj, fun j hj => ⟨by rw [e _ (by omega)]; exact (c7 j hj).1, by rw [e _ (by omega)]; exact (c7 j hj).2⟩, fun j hj => by rw [e _ (by omega)]; exact c8 j hj, fun j hj hx => by rw [e _ (by omega)] at hx ⊢; exact c9 j hj hx, fun j hj => ⟨by rw [e _ (by omega)]; exact (c10 j hj).1, by rw [e _ (by omega)]; exact (c10 j hj).2⟩⟩
theorem co_song {h : HP} {g n p k : Nat} {s : Nat → Int32} {v : Int32} (hn : n ≤ 8) (hp : p ≤ 5) (hk : k ≤ 6) (h8 : n < 8) (C : CO h g s n p k) : CO (hset (hset h g 1 n v) g 0 0 (nI (n + 1))) g (upd (upd s (1 + n) v) 0 (nI (n + 1))) (n + 1) p k := by
  obtain ⟨⟨c1, c2, c3, c4⟩, c5, c6, c7, c8, c9, c10⟩ := C
  refine ⟨⟨?_, ?_, ?_, ?_⟩, fun j hj => ?_, fun j hj => ?_, fun j hj => ⟨?_, ?_⟩, fun j hj => ?_, fun j hj hx => ?_, fun j hj => ⟨?_, ?_⟩⟩
  · (try simp [hset, hrow, upd]) <;> (try (repeat' split)) <;> (first | rfl | exact c1 | (exfalso; omega) | (simp_all; done))
  · (try simp [hset, hrow, upd]) <;> (try (repeat' split)) <;> (first | rfl | exact c2 | (exfalso; omega) | (simp_all; done))
  · (try simp [hset, hrow, upd]) <;> (try (repeat' split)) <;> (first | rfl | exact c3 | (exfalso; omega) | (simp_all; done))
  · (try simp [hset, hrow, upd]) <;> (try (repeat' split)) <;> (first | rfl | exact c4 | (exfalso; omega) | (simp_all; done))
  · (try simp [hset, hrow, upd]) <;> (try (repeat' split)) <;> (first | rfl | exact c5 j (by omega) | (exfalso; omega) | (simp_all; done))
  · (try simp [hset, hrow, upd]) <;> (try (repeat' split)) <;> (first | rfl | exact c6 j (by omega) | (exfalso; omega) | (simp_all; done))
  · (try simp [hset, hrow, upd]) <;> (try (repeat' split)) <;> (first | rfl | exact (c7 j (by omega)).1 | (exfalso; omega) | (simp_all; done))
  · (try simp [hset, hrow, upd]) <;> (try (repeat' split)) <;> (first | rfl | exact (c7 j (by omega)).2 | (exfalso; omega) | (simp_all; done))
  · (try simp [hset, hrow, upd]) <;> (try (repeat' split)) <;> (first | rfl | exact c8 j (by omega) | (exfalso; omega) | (simp_all; done))
  · have c9 := c9 j (by omega)
    revert hx
    (try simp [hset, hrow, upd]) <;> (try (repeat' split)) <;> (try intro hx) <;> (first | rfl | exact c9 hx | (exfalso; omega) | (exact absurd rfl hx) | (simp_all; done))
  · (try simp [hset, hrow, upd]) <;> (try (repeat' split)) <;> (first | rfl | exact (c10 j (by omega)).1 | (exfalso; omega) | (simp_all; done))
  · (try simp [hset, hrow, upd]) <;> (try (repeat' split)) <;> (first | rfl | exact (c10 j (by omega)).2 | (exfalso; omega) | (simp_all; done))
theorem co_player {h : HP} {g n p k : Nat} {s : Nat → Int32} {v : Int32} (hn : n ≤ 8) (hp : p ≤ 5) (hk : k ≤ 6) (h5 : p < 5) (C : CO h g s n p k) : CO (hset (hset h g 2 p v) g 0 1 (nI (p + 1))) g (upd (upd s (27 + p) v) 26 (nI (p + 1))) n (p + 1) k := by
  obtain ⟨⟨c1, c2, c3, c4⟩, c5, c6, c7, c8, c9, c10⟩ := C
  refine ⟨⟨?_, ?_, ?_, ?_⟩, fun j hj => ?_, fun j hj => ?_, fun j hj => ⟨?_, ?_⟩, fun j hj => ?_, fun j hj hx => ?_, fun j hj => ⟨?_, ?_⟩⟩
  · (try simp [hset, hrow, upd]) <;> (try (repeat' split)) <;> (first | rfl | exact c1 | (exfalso; omega) | (simp_all; done))
  · (try simp [hset, hrow, upd]) <;> (try (repeat' split)) <;> (first | rfl | exact c2 | (exfalso; omega) | (simp_all; done))
  · (try simp [hset, hrow, upd]) <;> (try (repeat' split)) <;> (first | rfl | exact c3 | (exfalso; omega) | (simp_all; done))
  · (try simp [hset, hrow, upd]) <;> (try (repeat' split)) <;> (first | rfl | exact c4 | (exfalso; omega) | (simp_all; done))
  · (try simp [hset, hrow, upd]) <;> (try (repeat' split)) <;> (first | rfl | exact c5 j (by omega) | (exfalso; omega) | (simp_all; done))
  · (try simp [hset, hrow, upd]) <;> (try (repeat' split)) <;> (first | rfl | exact c6 j (by omega) | (exfalso; omega) | (simp_all; done))
  · (try simp [hset, hrow, upd]) <;> (try (repeat' split)) <;> (first | rfl | exact (c7 j (by omega)).1 | (exfalso; omega) | (simp_all; done))
  · (try simp [hset, hrow, upd]) <;> (try (repeat' split)) <;> (first | rfl | exact (c7 j (by omega)).2 | (exfalso; omega) | (simp_all; done))
  · (try simp [hset, hrow, upd]) <;> (try (repeat' split)) <;> (first | rfl | exact c8 j (by omega) | (exfalso; omega) | (simp_all; done))
  · have c9 := c9 j (by omega)
    revert hx
    (try simp [hset, hrow, upd]) <;> (try (repeat' split)) <;> (try intro hx) <;> (first | rfl | exact c9 hx | (exfalso; omega) | (exact absurd rfl hx) | (simp_all; done))
  · (try simp [hset, hrow, upd]) <;> (try (repeat' split)) <;> (first | rfl | exact (c10 j (by omega)).1 | (exfalso; omega) | (simp_all; done))
  · (try simp [hset, hrow, upd]) <;> (try (repeat' split)) <;> (first | rfl | exact (c10 j (by omega)).2 | (exfalso; omega) | (simp_all; done))
theorem co_kind {h : HP} {g n p k : Nat} {s : Nat → Int32} {u v : Int32} (hn : n ≤ 8) (hp : p ≤ 5) (hk : k ≤ 6) (h6 : k < 6) (C : CO h g s n p k) : CO (hset (hset (hset h g 3 k u) g 4 k v) g 0 2 (nI (k + 1))) g (upd (upd (upd s (33 + k) u) (39 + k) v) 32 (nI (k + 1))) n p (k + 1) := by
  obtain ⟨⟨c1, c2, c3, c4⟩, c5, c6, c7, c8, c9, c10⟩ := C
  refine ⟨⟨?_, ?_, ?_, ?_⟩, fun j hj => ?_, fun j hj => ?_, fun j hj => ⟨?_, ?_⟩, fun j hj => ?_, fun j hj hx => ?_, fun j hj => ⟨?_, ?_⟩⟩
  · (try simp [hset, hrow, upd]) <;> (try (repeat' split)) <;> (first | rfl | exact c1 | (exfalso; omega) | (simp_all; done))
  · (try simp [hset, hrow, upd]) <;> (try (repeat' split)) <;> (first | rfl | exact c2 | (exfalso; omega) | (simp_all; done))
  · (try simp [hset, hrow, upd]) <;> (try (repeat' split)) <;> (first | rfl | exact c3 | (exfalso; omega) | (simp_all; done))
  · (try simp [hset, hrow, upd]) <;> (try (repeat' split)) <;> (first | rfl | exact c4 | (exfalso; omega) | (simp_all; done))
  · (try simp [hset, hrow, upd]) <;> (try (repeat' split)) <;> (first | rfl | exact c5 j (by omega) | (exfalso; omega) | (simp_all; done))
  · (try simp [hset, hrow, upd]) <;> (try (repeat' split)) <;> (first | rfl | exact c6 j (by omega) | (exfalso; omega) | (simp_all; done))
  · (try simp [hset, hrow, upd]) <;> (try (repeat' split)) <;> (first | rfl | exact (c7 j (by omega)).1 | (exfalso; omega) | (simp_all; done))
  · (try simp [hset, hrow, upd]) <;> (try (repeat' split)) <;> (first | rfl | exact (c7 j (by omega)).2 | (exfalso; omega) | (simp_all; done))
  · (try simp [hset, hrow, upd]) <;> (try (repeat' split)) <;> (first | rfl | exact c8 j (by omega) | (exfalso; omega) | (simp_all; done))
  · have c9 := c9 j (by omega)
    revert hx
    (try simp [hset, hrow, upd]) <;> (try (repeat' split)) <;> (try intro hx) <;> (first | rfl | exact c9 hx | (exfalso; omega) | (exact absurd rfl hx) | (simp_all; done))
  · (try simp [hset, hrow, upd]) <;> (try (repeat' split)) <;> (first | rfl | exact (c10 j (by omega)).1 | (exfalso; omega) | (simp_all; done))
  · (try simp [hset, hrow, upd]) <;> (try (repeat' split)) <;> (first | rfl | exact (c10 j (by omega)).2 | (exfalso; omega) | (simp_all; done))
theorem co_part {h : HP} {g n p k : Nat} {s : Nat → Int32} {i : Nat} {u v : Int32} (hn : n ≤ 8) (hp : p ≤ 5) (hk : k ≤ 6) (hi : i < 40) (C : CO h g s n p k) : CO (hset (hset h g 5 i u) g 6 i v) g (upd (upd s (45 + 2 * i) u) (46 + 2 * i) v) n p k := by
  obtain ⟨⟨c1, c2, c3, c4⟩, c5, c6, c7, c8, c9, c10⟩ := C
  refine ⟨⟨?_, ?_, ?_, ?_⟩, fun j hj => ?_, fun j hj => ?_, fun j hj => ⟨?_, ?_⟩, fun j hj => ?_, fun j hj hx => ?_, fun j hj => ⟨?_, ?_⟩⟩
  · (try simp [hset, hrow, upd]) <;> (try (repeat' split)) <;> (first | rfl | exact c1 | (exfalso; omega) | (simp_all; done))
  · (try simp [hset, hrow, upd]) <;> (try (repeat' split)) <;> (first | rfl | exact c2 | (exfalso; omega) | (simp_all; done))
  · (try simp [hset, hrow, upd]) <;> (try (repeat' split)) <;> (first | rfl | exact c3 | (exfalso; omega) | (simp_all; done))
  · (try simp [hset, hrow, upd]) <;> (try (repeat' split)) <;> (first | rfl | exact c4 | (exfalso; omega) | (simp_all; done))
  · (try simp [hset, hrow, upd]) <;> (try (repeat' split)) <;> (first | rfl | exact c5 j (by omega) | (exfalso; omega) | (simp_all; done))
  · (try simp [hset, hrow, upd]) <;> (try (repeat' split)) <;> (first | rfl | exact c6 j (by omega) | (exfalso; omega) | (simp_all; done))
  · (try simp [hset, hrow, upd]) <;> (try (repeat' split)) <;> (first | rfl | exact (c7 j (by omega)).1 | (exfalso; omega) | (simp_all; done))
  · (try simp [hset, hrow, upd]) <;> (try (repeat' split)) <;> (first | rfl | exact (c7 j (by omega)).2 | (exfalso; omega) | (simp_all; done))
  · (try simp [hset, hrow, upd]) <;> (try (repeat' split)) <;> (first | rfl | exact c8 j (by omega) | (exfalso; omega) | (simp_all; done))
  · have c9 := c9 j (by omega)
    revert hx
    (try simp [hset, hrow, upd]) <;> (try (repeat' split)) <;> (try intro hx) <;> (first | rfl | exact c9 hx | (exfalso; omega) | (exact absurd rfl hx) | (simp_all; done))
  · (try simp [hset, hrow, upd]) <;> (try (repeat' split)) <;> (first | rfl | exact (c10 j (by omega)).1 | (exfalso; omega) | (simp_all; done))
  · (try simp [hset, hrow, upd]) <;> (try (repeat' split)) <;> (first | rfl | exact (c10 j (by omega)).2 | (exfalso; omega) | (simp_all; done))
theorem co_unpart {h : HP} {g n p k : Nat} {s : Nat → Int32} {i : Nat} {v : Int32} (hn : n ≤ 8) (hp : p ≤ 5) (hk : k ≤ 6) (hi : i < 40) (C : CO h g s n p k) : CO (hset (hset h g 5 i (-1)) g 6 i v) g (upd s (45 + 2 * i) (-1)) n p k := by
  obtain ⟨⟨c1, c2, c3, c4⟩, c5, c6, c7, c8, c9, c10⟩ := C
  refine ⟨⟨?_, ?_, ?_, ?_⟩, fun j hj => ?_, fun j hj => ?_, fun j hj => ⟨?_, ?_⟩, fun j hj => ?_, fun j hj hx => ?_, fun j hj => ⟨?_, ?_⟩⟩
  · (try simp [hset, hrow, upd]) <;> (try (repeat' split)) <;> (first | rfl | exact c1 | (exfalso; omega) | (simp_all; done))
  · (try simp [hset, hrow, upd]) <;> (try (repeat' split)) <;> (first | rfl | exact c2 | (exfalso; omega) | (simp_all; done))
  · (try simp [hset, hrow, upd]) <;> (try (repeat' split)) <;> (first | rfl | exact c3 | (exfalso; omega) | (simp_all; done))
  · (try simp [hset, hrow, upd]) <;> (try (repeat' split)) <;> (first | rfl | exact c4 | (exfalso; omega) | (simp_all; done))
  · (try simp [hset, hrow, upd]) <;> (try (repeat' split)) <;> (first | rfl | exact c5 j (by omega) | (exfalso; omega) | (simp_all; done))
  · (try simp [hset, hrow, upd]) <;> (try (repeat' split)) <;> (first | rfl | exact c6 j (by omega) | (exfalso; omega) | (simp_all; done))
  · (try simp [hset, hrow, upd]) <;> (try (repeat' split)) <;> (first | rfl | exact (c7 j (by omega)).1 | (exfalso; omega) | (simp_all; done))
  · (try simp [hset, hrow, upd]) <;> (try (repeat' split)) <;> (first | rfl | exact (c7 j (by omega)).2 | (exfalso; omega) | (simp_all; done))
  · (try simp [hset, hrow, upd]) <;> (try (repeat' split)) <;> (first | rfl | exact c8 j (by omega) | (exfalso; omega) | (simp_all; done))
  · have c9 := c9 j (by omega)
    revert hx
    (try simp [hset, hrow, upd]) <;> (try (repeat' split)) <;> (try intro hx) <;> (first | rfl | exact c9 hx | (exfalso; omega) | (exact absurd rfl hx) | (simp_all; done))
  · (try simp [hset, hrow, upd]) <;> (try (repeat' split)) <;> (first | rfl | exact (c10 j (by omega)).1 | (exfalso; omega) | (simp_all; done))
  · (try simp [hset, hrow, upd]) <;> (try (repeat' split)) <;> (first | rfl | exact (c10 j (by omega)).2 | (exfalso; omega) | (simp_all; done))
theorem co_enc {h : HP} {g n p k : Nat} {s : Nat → Int32} {v : Int32} (hn : n ≤ 8) (hp : p ≤ 5) (hk : k ≤ 6) (C : CO h g s n p k) : CO (hset h g 0 3 v) g (upd s 9 v) n p k := by
  obtain ⟨⟨c1, c2, c3, c4⟩, c5, c6, c7, c8, c9, c10⟩ := C
  refine ⟨⟨?_, ?_, ?_, ?_⟩, fun j hj => ?_, fun j hj => ?_, fun j hj => ⟨?_, ?_⟩, fun j hj => ?_, fun j hj hx => ?_, fun j hj => ⟨?_, ?_⟩⟩
  · (try simp [hset, hrow, upd]) <;> (try (repeat' split)) <;> (first | rfl | exact c1 | (exfalso; omega) | (simp_all; done))
  · (try simp [hset, hrow, upd]) <;> (try (repeat' split)) <;> (first | rfl | exact c2 | (exfalso; omega) | (simp_all; done))
  · (try simp [hset, hrow, upd]) <;> (try (repeat' split)) <;> (first | rfl | exact c3 | (exfalso; omega) | (simp_all; done))
  · (try simp [hset, hrow, upd]) <;> (try (repeat' split)) <;> (first | rfl | exact c4 | (exfalso; omega) | (simp_all; done))
  · (try simp [hset, hrow, upd]) <;> (try (repeat' split)) <;> (first | rfl | exact c5 j (by omega) | (exfalso; omega) | (simp_all; done))
  · (try simp [hset, hrow, upd]) <;> (try (repeat' split)) <;> (first | rfl | exact c6 j (by omega) | (exfalso; omega) | (simp_all; done))
  · (try simp [hset, hrow, upd]) <;> (try (repeat' split)) <;> (first | rfl | exact (c7 j (by omega)).1 | (exfalso; omega) | (simp_all; done))
  · (try simp [hset, hrow, upd]) <;> (try (repeat' split)) <;> (first | rfl | exact (c7 j (by omega)).2 | (exfalso; omega) | (simp_all; done))
  · (try simp [hset, hrow, upd]) <;> (try (repeat' split)) <;> (first | rfl | exact c8 j (by omega) | (exfalso; omega) | (simp_all; done))
  · have c9 := c9 j (by omega)
    revert hx
    (try simp [hset, hrow, upd]) <;> (try (repeat' split)) <;> (try intro hx) <;> (first | rfl | exact c9 hx | (exfalso; omega) | (exact absurd rfl hx) | (simp_all; done))
  · (try simp [hset, hrow, upd]) <;> (try (repeat' split)) <;> (first | rfl | exact (c10 j (by omega)).1 | (exfalso; omega) | (simp_all; done))
  · (try simp [hset, hrow, upd]) <;> (try (repeat' split)) <;> (first | rfl | exact (c10 j (by omega)).2 | (exfalso; omega) | (simp_all; done))
theorem co_unit {h : HP} {g n p k : Nat} {s : Nat → Int32} {c : Nat} {v : Int32} (hn : n ≤ 8) (hp : p ≤ 5) (hk : k ≤ 6) (hc : c < 6) (C : CO h g s n p k) : CO (hset h g 3 c v) g (upd s (33 + c) v) n p k := by
  obtain ⟨⟨c1, c2, c3, c4⟩, c5, c6, c7, c8, c9, c10⟩ := C
  refine ⟨⟨?_, ?_, ?_, ?_⟩, fun j hj => ?_, fun j hj => ?_, fun j hj => ⟨?_, ?_⟩, fun j hj => ?_, fun j hj hx => ?_, fun j hj => ⟨?_, ?_⟩⟩
  · (try simp [hset, hrow, upd]) <;> (try (repeat' split)) <;> (first | rfl | exact c1 | (exfalso; omega) | (simp_all; done))
  · (try simp [hset, hrow, upd]) <;> (try (repeat' split)) <;> (first | rfl | exact c2 | (exfalso; omega) | (simp_all; done))
  · (try simp [hset, hrow, upd]) <;> (try (repeat' split)) <;> (first | rfl | exact c3 | (exfalso; omega) | (simp_all; done))
  · (try simp [hset, hrow, upd]) <;> (try (repeat' split)) <;> (first | rfl | exact c4 | (exfalso; omega) | (simp_all; done))
  · (try simp [hset, hrow, upd]) <;> (try (repeat' split)) <;> (first | rfl | exact c5 j (by omega) | (exfalso; omega) | (simp_all; done))
  · (try simp [hset, hrow, upd]) <;> (try (repeat' split)) <;> (first | rfl | exact c6 j (by omega) | (exfalso; omega) | (simp_all; done))
  · (try simp [hset, hrow, upd]) <;> (try (repeat' split)) <;> (first | rfl | exact (c7 j (by omega)).1 | (exfalso; omega) | (simp_all; done))
  · (try simp [hset, hrow, upd]) <;> (try (repeat' split)) <;> (first | rfl | exact (c7 j (by omega)).2 | (exfalso; omega) | (simp_all; done))
  · (try simp [hset, hrow, upd]) <;> (try (repeat' split)) <;> (first | rfl | exact c8 j (by omega) | (exfalso; omega) | (simp_all; done))
  · have c9 := c9 j (by omega)
    revert hx
    (try simp [hset, hrow, upd]) <;> (try (repeat' split)) <;> (try intro hx) <;> (first | rfl | exact c9 hx | (exfalso; omega) | (exact absurd rfl hx) | (simp_all; done))
  · (try simp [hset, hrow, upd]) <;> (try (repeat' split)) <;> (first | rfl | exact (c10 j (by omega)).1 | (exfalso; omega) | (simp_all; done))
  · (try simp [hset, hrow, upd]) <;> (try (repeat' split)) <;> (first | rfl | exact (c10 j (by omega)).2 | (exfalso; omega) | (simp_all; done))
theorem co_pin {h : HP} {g n p k : Nat} {s : Nat → Int32} {a : Nat} {v : Int32} (hn : n ≤ 8) (hp : p ≤ 5) (hk : k ≤ 6) (ha : a < 8) (C : CO h g s n p k) : CO (hset h g 7 a v) g (upd s (10 + a) v) n p k := by
  obtain ⟨⟨c1, c2, c3, c4⟩, c5, c6, c7, c8, c9, c10⟩ := C
  refine ⟨⟨?_, ?_, ?_, ?_⟩, fun j hj => ?_, fun j hj => ?_, fun j hj => ⟨?_, ?_⟩, fun j hj => ?_, fun j hj hx => ?_, fun j hj => ⟨?_, ?_⟩⟩
  · (try simp [hset, hrow, upd]) <;> (try (repeat' split)) <;> (first | rfl | exact c1 | (exfalso; omega) | (simp_all; done))
  · (try simp [hset, hrow, upd]) <;> (try (repeat' split)) <;> (first | rfl | exact c2 | (exfalso; omega) | (simp_all; done))
  · (try simp [hset, hrow, upd]) <;> (try (repeat' split)) <;> (first | rfl | exact c3 | (exfalso; omega) | (simp_all; done))
  · (try simp [hset, hrow, upd]) <;> (try (repeat' split)) <;> (first | rfl | exact c4 | (exfalso; omega) | (simp_all; done))
  · (try simp [hset, hrow, upd]) <;> (try (repeat' split)) <;> (first | rfl | exact c5 j (by omega) | (exfalso; omega) | (simp_all; done))
  · (try simp [hset, hrow, upd]) <;> (try (repeat' split)) <;> (first | rfl | exact c6 j (by omega) | (exfalso; omega) | (simp_all; done))
  · (try simp [hset, hrow, upd]) <;> (try (repeat' split)) <;> (first | rfl | exact (c7 j (by omega)).1 | (exfalso; omega) | (simp_all; done))
  · (try simp [hset, hrow, upd]) <;> (try (repeat' split)) <;> (first | rfl | exact (c7 j (by omega)).2 | (exfalso; omega) | (simp_all; done))
  · (try simp [hset, hrow, upd]) <;> (try (repeat' split)) <;> (first | rfl | exact c8 j (by omega) | (exfalso; omega) | (simp_all; done))
  · have c9 := c9 j (by omega)
    revert hx
    (try simp [hset, hrow, upd]) <;> (try (repeat' split)) <;> (try intro hx) <;> (first | rfl | exact c9 hx | (exfalso; omega) | (exact absurd rfl hx) | (simp_all; done))
  · (try simp [hset, hrow, upd]) <;> (try (repeat' split)) <;> (first | rfl | exact (c10 j (by omega)).1 | (exfalso; omega) | (simp_all; done))
  · (try simp [hset, hrow, upd]) <;> (try (repeat' split)) <;> (first | rfl | exact (c10 j (by omega)).2 | (exfalso; omega) | (simp_all; done))
/-- another order -/
def ord (s o : Nat → Int32) : Nat → Int32 := fun i => if 18 ≤ i ∧ i < 26 then o (i - 18) else s i
theorem co_ord {h h' : HP} {g n p k : Nat} {s o : Nat → Int32} (hn : n ≤ 8) (hp : p ≤ 5) (hk : k ≤ 6) (C : CO h g s n p k) (e : ∀ j, ¬ j = 8 → h' g j = h g j) (eo : ∀ j, j < 8 → h' g 8 j = o j) : CO h' g (ord s o) n p k := by
  obtain ⟨⟨c1, c2, c3, c4⟩, c5, c6, c7, c8, c9, c10⟩ := C
  have q : ∀ i, ¬ (18 ≤ i ∧ i < 26) → ord s o i = s i := fun i hi => if_neg hi
  refine ⟨⟨by rw [e 0 (by omega)]; exact c1, by rw [e 0 (by omega)]; exact c2, by rw [e 0 (by omega)]; exact c3, by rw [e 0 (by omega), q 9 (by omega)]; exact c4⟩, fun j hj => ?_, fun j hj => ?_, fun j hj => ⟨?_, ?_⟩, fun j hj => ?_, fun j hj hx => ?_, fun j hj => ⟨?_, ?_⟩⟩
  · rw [e 1 (by omega), q _ (by omega)]; exact c5 j hj
  · rw [e 2 (by omega), q _ (by omega)]; exact c6 j hj
  · rw [e 3 (by omega), q _ (by omega)]; exact (c7 j hj).1
  · rw [e 4 (by omega), q _ (by omega)]; exact (c7 j hj).2
  · rw [e 5 (by omega), q _ (by omega)]; exact c8 j hj
  · rw [q _ (by omega)] at hx; rw [e 6 (by omega), q _ (by omega)]; exact c9 j hj hx
  · rw [e 7 (by omega), q _ (by omega)]; exact (c10 j hj).1
  · rw [eo j hj]
    show o j = if 18 ≤ 18 + j ∧ 18 + j < 26 then o (18 + j - 18) else s (18 + j)
    rw [if_pos (by omega), Nat.add_sub_cancel_left]
/-- the empty row -/
def emp : Nat → Int32 := fun i => if 10 ≤ i ∧ i < 18 then -1 else if 18 ≤ i ∧ i < 26 then nI (i - 18) else if 45 ≤ i ∧ i < 125 ∧ (i - 45) % 2 = 0 then -1 else 0
def WP (s : Nat → Int32) (n p : Nat) : Prop := ∀ a, a < 8 → ∀ q, q < 5 → ¬ (a < n ∧ q < p) → kd s a q = -1
theorem emp_WF : WF emp 0 0 0 := by
  refine ⟨⟨rfl, rfl, rfl⟩, ⟨by decide, by decide, by decide⟩, ⟨0, rfl, by decide⟩, fun j hj => by omega, fun j hj => by omega, fun a ha q hq => Or.inl ?_, fun a ha => by omega⟩
  unfold kd emp
  rw [if_neg (by omega), if_neg (by omega), if_pos (by omega)]
theorem emp_WD : WD emp := by
  refine ⟨fun a ha => ?_, fun j hj => ?_⟩
  · unfold emp
    rw [if_pos (by omega)]
  · unfold emp
    rw [if_neg (by omega), if_pos (by omega), Nat.add_sub_cancel_left]
theorem emp_WP : WP emp 0 0 := by
  intro a ha q hq _
  unfold kd emp
  rw [if_neg (by omega), if_neg (by omega), if_pos (by omega)]
theorem cn_congr {s s' : Nat → Int32} {a : Nat} {y : Int32} : ∀ q, (∀ i, i < q → kd s' a i = kd s a i) → cn s' a y q = cn s a y q := by
  intro q
  induction q with
  | zero => intro _; rfl
  | succ q ih =>
    intro h
    show cn s' a y q + (if kd s' a q = y then 1 else 0) = cn s a y q + (if kd s a q = y then 1 else 0)
    rw [ih (fun i hi => h i (by omega)), h q (by omega)]
theorem cn_zero {s : Nat → Int32} {a : Nat} {y : Int32} : ∀ q, (∀ i, i < q → ¬ kd s a i = y) → cn s a y q = 0 := by
  intro q
  induction q with
  | zero => intro _; rfl
  | succ q ih =>
    intro h
    show cn s a y q + (if kd s a q = y then 1 else 0) = 0
    rw [ih (fun i hi => h i (by omega)), if_neg (h q (by omega))]
theorem kd_upd {s : Nat → Int32} {i : Nat} {v : Int32} (h : i < 45) (a q : Nat) : kd (upd s i v) a q = kd s a q := by
  unfold kd
  exact up_ne (by omega)
theorem tn_upd {s : Nat → Int32} {i : Nat} {v : Int32} (h : i < 45) (a q : Nat) : tn (upd s i v) a q = tn s a q := by
  unfold tn
  exact up_ne (by omega)
theorem cn_upd {s : Nat → Int32} {i : Nat} {v y : Int32} (h : i < 45) (a q : Nat) : cn (upd s i v) a y q = cn s a y q := cn_congr q (fun j _ => kd_upd h a j)
theorem pw_lt {n e : Nat} (h : e < 2 ^ n) : e < 2 ^ (n + 1) := Nat.lt_trans h (Nat.pow_lt_pow_right (by decide) (by omega))
theorem wf_song {s : Nat → Int32} {n p k v : Nat} (F : WF s n p k) (P : WP s n p) (h8 : n < 8) (h1 : 1 ≤ v) (h20 : v ≤ 20) : WF (upd (upd s (1 + n) (nI v)) 0 (nI (n + 1))) (n + 1) p k := by
  obtain ⟨⟨a1, a2, a3⟩, ⟨b1, b2, b3⟩, ⟨e, e1, e2⟩, ft, fu, fk, fc⟩ := F
  refine ⟨⟨up_same, ?_, ?_⟩, ⟨by omega, b2, b3⟩, ⟨e, ?_, pw_lt e2⟩, fun j hj => ?_, fun j hj => ?_, fun a ha q hq => ?_, fun a ha c hc => ?_⟩
  · rw [up_ne (by omega), up_ne (by omega)]; exact a2
  · rw [up_ne (by omega), up_ne (by omega)]; exact a3
  · rw [up_ne (by omega), up_ne (by omega)]; exact e1
  · rw [up_ne (by omega)]
    by_cases q : j = n
    · rw [q, up_same]; exact ⟨v, rfl, h1, h20⟩
    · rw [up_ne (by omega)]; exact ft j (by omega)
  · rw [up_ne (by omega), up_ne (by omega)]; exact fu j hj
  · rw [kd_upd (by omega), kd_upd (by omega), tn_upd (by omega), tn_upd (by omega)]; exact fk a ha q hq
  · rw [cn_upd (by omega), cn_upd (by omega), up_ne (by omega), up_ne (by omega)]
    by_cases q : a = n
    · rw [cn_zero p (fun i hi => by rw [P a (by omega) i (by omega) (by omega)]; exact fun z => nI_ne_m1 (show c < 2147483648 by omega) z.symm)]
      obtain ⟨u, hu, hu6⟩ := fu c hc
      rw [hu]
      exact nI_le (Nat.zero_le _) (by omega)
    · exact fc a (by omega) c hc
theorem wp_upd {s : Nat → Int32} {n p n' p' i : Nat} {v : Int32} (h : i < 45) (hn : n ≤ n') (hp : p ≤ p') (P : WP s n p) : WP (upd s i v) n' p' := by
  intro a ha q hq hx
  rw [kd_upd h]
  exact P a ha q hq (by omega)
theorem wd_upd {s : Nat → Int32} {i : Nat} {v : Int32} (h : i < 10 ∨ 26 ≤ i) (D : WD s) : WD (upd s i v) := by
  refine ⟨fun a ha => ?_, fun j hj => ?_⟩
  · rw [up_ne (by omega)]; exact D.1 a ha
  · rw [up_ne (by omega)]; exact D.2 j hj
theorem wf_player {s : Nat → Int32} {n p k : Nat} {v : Int32} (F : WF s n p k) (P : WP s n p) (h5 : p < 5) : WF (upd (upd s (27 + p) v) 26 (nI (p + 1))) n (p + 1) k := by
  obtain ⟨⟨a1, a2, a3⟩, ⟨b1, b2, b3⟩, ⟨e, e1, e2⟩, ft, fu, fk, fc⟩ := F
  refine ⟨⟨?_, up_same, ?_⟩, ⟨b1, by omega, b3⟩, ⟨e, ?_, e2⟩, fun j hj => ?_, fun j hj => ?_, fun a ha q hq => ?_, fun a ha c hc => ?_⟩
  · rw [up_ne (by omega), up_ne (by omega)]; exact a1
  · rw [up_ne (by omega), up_ne (by omega)]; exact a3
  · rw [up_ne (by omega), up_ne (by omega)]; exact e1
  · rw [up_ne (by omega), up_ne (by omega)]; exact ft j hj
  · rw [up_ne (by omega), up_ne (by omega)]; exact fu j hj
  · rw [kd_upd (by omega), kd_upd (by omega), tn_upd (by omega), tn_upd (by omega)]; exact fk a ha q hq
  · rw [cn_upd (by omega), cn_upd (by omega), up_ne (by omega), up_ne (by omega)]
    show nI (cn s a (nI c) p + (if kd s a p = nI c then 1 else 0)) ≤ _
    rw [if_neg (by rw [P a (by omega) p (by omega) (by omega)]; exact fun z => nI_ne_m1 (show c < 2147483648 by omega) z.symm)]
    exact fc a ha c hc
theorem wf_kind {s : Nat → Int32} {n p k u : Nat} {v : Int32} (F : WF s n p k) (h6 : k < 6) (hu : u ≤ 6) : WF (upd (upd (upd s (33 + k) (nI u)) (39 + k) v) 32 (nI (k + 1))) n p (k + 1) := by
  obtain ⟨⟨a1, a2, a3⟩, ⟨b1, b2, b3⟩, ⟨e, e1, e2⟩, ft, fu, fk, fc⟩ := F
  refine ⟨⟨?_, ?_, up_same⟩, ⟨b1, b2, by omega⟩, ⟨e, ?_, e2⟩, fun j hj => ?_, fun j hj => ?_, fun a ha q hq => ?_, fun a ha c hc => ?_⟩
  · rw [up_ne (by omega), up_ne (by omega), up_ne (by omega)]; exact a1
  · rw [up_ne (by omega), up_ne (by omega), up_ne (by omega)]; exact a2
  · rw [up_ne (by omega), up_ne (by omega), up_ne (by omega)]; exact e1
  · rw [up_ne (by omega), up_ne (by omega), up_ne (by omega)]; exact ft j hj
  · rw [up_ne (by omega), up_ne (by omega)]
    by_cases q : j = k
    · rw [q, up_same]; exact ⟨u, rfl, hu⟩
    · rw [up_ne (by omega)]; exact fu j (by omega)
  · rw [kd_upd (by omega), kd_upd (by omega), kd_upd (by omega), tn_upd (by omega), tn_upd (by omega), tn_upd (by omega)]
    rcases fk a ha q hq with z | ⟨⟨c, c1, c2⟩, z⟩
    · exact Or.inl z
    · exact Or.inr ⟨⟨c, by omega, c2⟩, z⟩
  · rw [cn_upd (by omega), cn_upd (by omega), cn_upd (by omega), up_ne (by omega), up_ne (by omega)]
    by_cases q : c = k
    · subst q
      rw [up_same, cn_zero p (fun i hi => ?_)]
      · exact nI_le (Nat.zero_le _) (by omega)
      · rcases fk a (by omega) i (by omega) with z | ⟨⟨c', d1, d2⟩, -⟩
        · rw [z]; exact fun y => nI_ne_m1 (show c < 2147483648 by omega) y.symm
        · rw [d2]; exact fun y => absurd ((nI_eq (by omega) (by omega)).mp y) (by omega)
    · rw [up_ne (by omega)]; exact fc a ha c (by omega)
theorem wf_enc {s : Nat → Int32} {n p k e : Nat} (F : WF s n p k) (he : e < 2 ^ n) : WF (upd s 9 (nI e)) n p k := by
  obtain ⟨⟨a1, a2, a3⟩, ⟨b1, b2, b3⟩, -, ft, fu, fk, fc⟩ := F
  refine ⟨⟨?_, ?_, ?_⟩, ⟨b1, b2, b3⟩, ⟨e, up_same, he⟩, fun j hj => ?_, fun j hj => ?_, fun a ha q hq => ?_, fun a ha c hc => ?_⟩
  · rw [up_ne (by omega)]; exact a1
  · rw [up_ne (by omega)]; exact a2
  · rw [up_ne (by omega)]; exact a3
  · rw [up_ne (by omega)]; exact ft j hj
  · rw [up_ne (by omega)]; exact fu j hj
  · rw [kd_upd (by omega), tn_upd (by omega)]; exact fk a ha q hq
  · rw [cn_upd (by omega), up_ne (by omega)]; exact fc a ha c hc
theorem wf_unit {s : Nat → Int32} {n p k c u : Nat} (F : WF s n p k) (hc : c < k) (hu : u ≤ 6) (hx : ∀ a, a < n → cn s a (nI c) p ≤ u) : WF (upd s (33 + c) (nI u)) n p k := by
  obtain ⟨⟨a1, a2, a3⟩, ⟨b1, b2, b3⟩, ⟨e, e1, e2⟩, ft, fu, fk, fc⟩ := F
  refine ⟨⟨?_, ?_, ?_⟩, ⟨b1, b2, b3⟩, ⟨e, ?_, e2⟩, fun j hj => ?_, fun j hj => ?_, fun a ha q hq => ?_, fun a ha d hd => ?_⟩
  · rw [up_ne (by omega)]; exact a1
  · rw [up_ne (by omega)]; exact a2
  · rw [up_ne (by omega)]; exact a3
  · rw [up_ne (by omega)]; exact e1
  · rw [up_ne (by omega)]; exact ft j hj
  · by_cases q : j = c
    · rw [q, up_same]; exact ⟨u, rfl, hu⟩
    · rw [up_ne (by omega)]; exact fu j hj
  · rw [kd_upd (by omega), tn_upd (by omega)]; exact fk a ha q hq
  · rw [cn_upd (by omega)]
    by_cases q : d = c
    · rw [q, up_same]; exact nI_le (hx a ha) (by omega)
    · rw [up_ne (by omega)]; exact fc a ha d hd
theorem wf_low {s : Nat → Int32} {n p k i : Nat} {v : Int32} (F : WF s n p k) (hi : 10 ≤ i ∧ i < 26) : WF (upd s i v) n p k := by
  obtain ⟨⟨a1, a2, a3⟩, ⟨b1, b2, b3⟩, ⟨e, e1, e2⟩, ft, fu, fk, fc⟩ := F
  refine ⟨⟨?_, ?_, ?_⟩, ⟨b1, b2, b3⟩, ⟨e, ?_, e2⟩, fun j hj => ?_, fun j hj => ?_, fun a ha q hq => ?_, fun a ha d hd => ?_⟩
  · rw [up_ne (by omega)]; exact a1
  · rw [up_ne (by omega)]; exact a2
  · rw [up_ne (by omega)]; exact a3
  · rw [up_ne (by omega)]; exact e1
  · rw [up_ne (by omega)]; exact ft j hj
  · rw [up_ne (by omega)]; exact fu j hj
  · rw [kd_upd (by omega), tn_upd (by omega)]; exact fk a ha q hq
  · rw [cn_upd (by omega), up_ne (by omega)]; exact fc a ha d hd
theorem wf_ord {s o : Nat → Int32} {n p k : Nat} (F : WF s n p k) : WF (ord s o) n p k := by
  have q : ∀ i, ¬ (18 ≤ i ∧ i < 26) → ord s o i = s i := fun i hi => if_neg hi
  have qk : ∀ a b, kd (ord s o) a b = kd s a b := fun a b => q _ (by omega)
  have qt : ∀ a b, tn (ord s o) a b = tn s a b := fun a b => q _ (by omega)
  obtain ⟨⟨a1, a2, a3⟩, ⟨b1, b2, b3⟩, ⟨e, e1, e2⟩, ft, fu, fk, fc⟩ := F
  refine ⟨⟨by rw [q _ (by omega)]; exact a1, by rw [q _ (by omega)]; exact a2, by rw [q _ (by omega)]; exact a3⟩, ⟨b1, b2, b3⟩, ⟨e, by rw [q _ (by omega)]; exact e1, e2⟩, fun j hj => by rw [q _ (by omega)]; exact ft j hj, fun j hj => by rw [q _ (by omega)]; exact fu j hj, fun a ha b hb => by rw [qk, qt]; exact fk a ha b hb, fun a ha d hd => by rw [cn_congr p (fun i _ => qk a i), q _ (by omega)]; exact fc a ha d hd⟩
theorem kd_part {s : Nat → Int32} {i : Nat} {u v : Int32} (a q : Nat) : kd (upd (upd s (45 + 2 * i) u) (46 + 2 * i) v) a q = if a * 5 + q = i then u else kd s a q := by
  unfold kd
  rw [up_ne (by omega)]
  by_cases e : a * 5 + q = i
  · rw [if_pos e, e, up_same]
  · rw [if_neg e, up_ne (by omega)]
theorem tn_part {s : Nat → Int32} {i : Nat} {u v : Int32} (a q : Nat) : tn (upd (upd s (45 + 2 * i) u) (46 + 2 * i) v) a q = if a * 5 + q = i then v else tn s a q := by
  unfold tn
  by_cases e : a * 5 + q = i
  · rw [if_pos e, e, up_same]
  · rw [if_neg e, up_ne (by omega), up_ne (by omega)]
/-- the players but one who play a kind -/
def oth (s : Nat → Int32) (a : Nat) (y : Int32) (b : Nat) : Nat → Nat
  | 0 => 0
  | q + 1 => oth s a y b q + (if ¬ q = b ∧ kd s a q = y then 1 else 0)
theorem oth_le (s : Nat → Int32) (a : Nat) (y : Int32) (b : Nat) : ∀ q, oth s a y b q ≤ q := by
  intro q
  induction q with
  | zero => exact Nat.le_refl _
  | succ q ih =>
    show oth s a y b q + (if ¬ q = b ∧ kd s a q = y then 1 else 0) ≤ q + 1
    split <;> omega
theorem oth_cn (s : Nat → Int32) (a : Nat) (y : Int32) (b : Nat) : ∀ q, cn s a y q = oth s a y b q + (if b < q ∧ kd s a b = y then 1 else 0) := by
  intro q
  induction q with
  | zero => rfl
  | succ q ih =>
    show cn s a y q + (if kd s a q = y then 1 else 0) = oth s a y b q + (if ¬ q = b ∧ kd s a q = y then 1 else 0) + (if b < q + 1 ∧ kd s a b = y then 1 else 0)
    rw [ih]
    by_cases e : q = b
    · subst e
      rw [if_neg (by omega : ¬ (q < q ∧ kd s a q = y)), if_neg (show ¬ (¬ q = q ∧ kd s a q = y) from fun z => z.1 rfl)]
      by_cases f : kd s a q = y
      · rw [if_pos f, if_pos ⟨by omega, f⟩]
      · rw [if_neg f, if_neg (fun z => f z.2)]
    · have e2 : (b < q + 1 ∧ kd s a b = y) ↔ (b < q ∧ kd s a b = y) := ⟨fun z => ⟨by omega, z.2⟩, fun z => ⟨by omega, z.2⟩⟩
      have e3 : (¬ q = b ∧ kd s a q = y) ↔ kd s a q = y := ⟨And.right, fun z => ⟨e, z⟩⟩
      simp only [e2, e3]
      exact Nat.add_right_comm _ _ _
theorem oth_congr {s s' : Nat → Int32} {a b : Nat} {y : Int32} : ∀ q, (∀ i, i < q → ¬ i = b → kd s' a i = kd s a i) → oth s' a y b q = oth s a y b q := by
  intro q
  induction q with
  | zero => intro _; rfl
  | succ q ih =>
    intro h
    show oth s' a y b q + (if ¬ q = b ∧ kd s' a q = y then 1 else 0) = oth s a y b q + (if ¬ q = b ∧ kd s a q = y then 1 else 0)
    rw [ih (fun i hi => h i (by omega))]
    by_cases e : q = b
    · rw [if_neg (fun z => z.1 e), if_neg (fun z => z.1 e)]
    · rw [h q (by omega) e]
theorem wf_part {s : Nat → Int32} {n p k a b c t u : Nat} (F : WF s n p k) (ha : a < n) (hb : b < p) (hc : c < k) (ht : t ≤ 5) (hu : s (33 + c) = nI u) (hu6 : u ≤ 6) (hx : oth s a (nI c) b p < u) : WF (upd (upd s (45 + 2 * (a * 5 + b)) (nI c)) (46 + 2 * (a * 5 + b)) (nI t)) n p k := by
  obtain ⟨⟨a1, a2, a3⟩, ⟨b1, b2, b3⟩, ⟨e, e1, e2⟩, ft, fu, fk, fc⟩ := F
  refine ⟨⟨?_, ?_, ?_⟩, ⟨b1, b2, b3⟩, ⟨e, ?_, e2⟩, fun j hj => ?_, fun j hj => ?_, fun x hx2 q hq => ?_, fun x hx2 d hd => ?_⟩
  · rw [up_ne (by omega), up_ne (by omega)]; exact a1
  · rw [up_ne (by omega), up_ne (by omega)]; exact a2
  · rw [up_ne (by omega), up_ne (by omega)]; exact a3
  · rw [up_ne (by omega), up_ne (by omega)]; exact e1
  · rw [up_ne (by omega), up_ne (by omega)]; exact ft j hj
  · rw [up_ne (by omega), up_ne (by omega)]; exact fu j hj
  · rw [kd_part, tn_part]
    by_cases z : x * 5 + q = a * 5 + b
    · rw [if_pos z, if_pos z]; exact Or.inr ⟨⟨c, hc, rfl⟩, t, ht, rfl⟩
    · rw [if_neg z, if_neg z]; exact fk x hx2 q hq
  · rw [up_ne (by omega), up_ne (by omega)]
    by_cases z : x = a
    · subst z
      have o1 := oth_cn (upd (upd s (45 + 2 * (x * 5 + b)) (nI c)) (46 + 2 * (x * 5 + b)) (nI t)) x (nI d) b p
      rw [oth_congr (s := s) p (fun i _ hib => by rw [kd_part, if_neg (by omega)]), kd_part, if_pos rfl] at o1
      rw [o1]
      by_cases y : d = c
      · subst y
        rw [if_pos ⟨hb, rfl⟩, hu]
        exact nI_le (by omega) (by omega)
      · rw [if_neg (fun z => y ((nI_eq (by omega) (by omega)).mp z.2).symm)]
        have o2 := oth_cn s x (nI d) b p
        have o3 := fc x hx2 d hd
        obtain ⟨w, hw, hw6⟩ := fu d hd
        have o4 := cn_le s x (nI d) p
        rw [hw] at o3 ⊢
        have o5 := (nI_leI (by omega) (by omega)).mp o3
        exact nI_le (by omega) (by omega)
    · rw [cn_congr (s := s) p (fun i hi => by rw [kd_part, if_neg (by omega)])]
      exact fc x hx2 d hd
theorem wp_part {s : Nat → Int32} {n p a b : Nat} {u v : Int32} (P : WP s n p) (ha : a < n) (hb : b < p) (h5 : p ≤ 5) : WP (upd (upd s (45 + 2 * (a * 5 + b)) u) (46 + 2 * (a * 5 + b)) v) n p := by
  intro x hx q hq hz
  rw [kd_part, if_neg (by omega)]
  exact P x hx q hq hz
theorem kd_un {s : Nat → Int32} {i : Nat} {u : Int32} (a q : Nat) : kd (upd s (45 + 2 * i) u) a q = if a * 5 + q = i then u else kd s a q := by
  unfold kd
  by_cases e : a * 5 + q = i
  · rw [if_pos e, e, up_same]
  · rw [if_neg e, up_ne (by omega)]
theorem tn_un {s : Nat → Int32} {i : Nat} {u : Int32} (a q : Nat) : tn (upd s (45 + 2 * i) u) a q = tn s a q := by
  unfold tn
  exact up_ne (by omega)
theorem cn_un {s : Nat → Int32} {i a : Nat} {y : Int32} (hy : ¬ (-1 : Int32) = y) : ∀ q, cn (upd s (45 + 2 * i) (-1)) a y q ≤ cn s a y q := by
  intro q
  induction q with
  | zero => exact Nat.le_refl _
  | succ q ih =>
    show cn (upd s (45 + 2 * i) (-1)) a y q + (if kd (upd s (45 + 2 * i) (-1)) a q = y then 1 else 0) ≤ cn s a y q + (if kd s a q = y then 1 else 0)
    rw [kd_un]
    by_cases e : a * 5 + q = i
    · rw [if_pos e, if_neg hy]; omega
    · rw [if_neg e]; omega
theorem wf_unpart {s : Nat → Int32} {n p k i : Nat} (F : WF s n p k) : WF (upd s (45 + 2 * i) (-1)) n p k := by
  obtain ⟨⟨a1, a2, a3⟩, ⟨b1, b2, b3⟩, ⟨e, e1, e2⟩, ft, fu, fk, fc⟩ := F
  refine ⟨⟨?_, ?_, ?_⟩, ⟨b1, b2, b3⟩, ⟨e, ?_, e2⟩, fun j hj => ?_, fun j hj => ?_, fun x hx2 q hq => ?_, fun x hx2 d hd => ?_⟩
  · rw [up_ne (by omega)]; exact a1
  · rw [up_ne (by omega)]; exact a2
  · rw [up_ne (by omega)]; exact a3
  · rw [up_ne (by omega)]; exact e1
  · rw [up_ne (by omega)]; exact ft j hj
  · rw [up_ne (by omega)]; exact fu j hj
  · rw [kd_un, tn_un]
    by_cases z : x * 5 + q = i
    · rw [if_pos z]; exact Or.inl rfl
    · rw [if_neg z]; exact fk x hx2 q hq
  · rw [up_ne (by omega)]
    obtain ⟨w, hw, hw6⟩ := fu d hd
    have o3 := fc x hx2 d hd
    have o4 := cn_le s x (nI d) p
    have o6 := cn_un (s := s) (i := i) (a := x) (y := nI d) (fun z => nI_ne_m1 (show d < 2147483648 by omega) z.symm) p
    rw [hw] at o3 ⊢
    have o5 := (nI_leI (by omega) (by omega)).mp o3
    exact nI_le (by omega) (by omega)
end
section
def FR (g : Nat) (h h' : HP) : Prop := ∀ g' j', ¬ g' = g → h' g' j' = h g' j'
theorem FR.rf {g : Nat} {h : HP} : FR g h h := fun _ _ _ => rfl
theorem FR.tr {g : Nat} {h h1 h2 : HP} (a : FR g h h1) (b : FR g h1 h2) : FR g h h2 := fun g' j' e => (b g' j' e).trans (a g' j' e)
theorem FR.set {g j k : Nat} {h h1 : HP} {x : Int32} (a : FR g h h1) : FR g h (hset h1 g j k x) := fun g' j' e => (hs_ne (fun q => e q.1)).trans (a g' j' e)
theorem FR.row {g j : Nat} {h h1 : HP} {f : Nat → Int32} (a : FR g h h1) : FR g h (hrow h1 g j f) := fun g' j' e => (hr_ne (fun q => e q.1)).trans (a g' j' e)
/-- as makeEmpty goes on: b parts and c songs are done -/
def ME (h h' : HP) (g b c : Nat) : Prop := FR g h h' ∧ (h' g 0 0 = nI 0 ∧ h' g 0 1 = nI 0 ∧ h' g 0 2 = nI 0 ∧ h' g 0 3 = nI 0) ∧ (∀ x, x < b → h' g 5 x = -1) ∧ (∀ x, x < c → h' g 7 x = -1 ∧ h' g 8 x = nI x)
theorem ME_co {h h' : HP} {g : Nat} (I : ME h h' g 40 8) : CO h' g emp 0 0 0 := by
  obtain ⟨-, ⟨a1, a2, a3, a4⟩, b, c⟩ := I
  refine ⟨⟨a1, a2, a3, a4⟩, fun j hj => by omega, fun j hj => by omega, fun j hj => by omega, fun i hi => ?_, fun i hi hx => ?_, fun j hj => ⟨?_, ?_⟩⟩
  · rw [b i hi]
    unfold emp
    rw [if_neg (by omega), if_neg (by omega), if_pos (by omega)]
  · refine absurd ?_ hx
    unfold emp
    rw [if_neg (by omega), if_neg (by omega), if_pos (by omega)]
  · rw [(c j hj).1]; exact (emp_WD.1 j hj).symm
  · rw [(c j hj).2]; exact (emp_WD.2 j hj).symm
theorem t_C_makeEmpty {d g : Nat} {h : HP} : MT d mC_makeEmpty [vR g 0] h (fun r h' => r = none ∧ CO h' g emp 0 0 0 ∧ FR g h h') := by
  refine R_s 3 (5, [(0, vR g 0)], [], (hset h g 0 0 (nI 0))) rfl ?_
  refine R_hp (fun h1 eh1 => ?_)
  refine R_s 3 (10, [(0, vR g 0)], [], (hset h1 g 0 1 (nI 0))) rfl ?_
  refine R_hp (fun h2 eh2 => ?_)
  refine R_s 3 (15, [(0, vR g 0)], [], (hset h2 g 0 2 (nI 0))) rfl ?_
  refine R_hp (fun h3 eh3 => ?_)
  refine R_s 3 (20, [(0, vR g 0)], [], (hset h3 g 0 3 (nI 0))) rfl ?_
  refine R_hp (fun h4 eh4 => ?_)
  refine R_s 2 (22, [(1, vI (nI 0)), (0, vR g 0)], [], h4) rfl ?_
  have I0 : ME h h4 g 0 0 := by
    refine ⟨?_, ⟨?_, ?_, ?_, ?_⟩, fun x hx => by omega, fun x hx => by omega⟩
    · rw [eh4, eh3, eh2, eh1]; exact FR.rf.set.set.set.set
    · rw [eh4, eh3, eh2, eh1]; simp [hset, hrow, upd]
    · rw [eh4, eh3, eh2, eh1]; simp [hset, hrow, upd]
    · rw [eh4, eh3, eh2, eh1]; simp [hset, hrow, upd]
    · rw [eh4, eh3, eh2, eh1]; simp [hset, hrow, upd]
  suffices ∀ m i hh, i + m = 40 → ME h hh g i 0 → R d mC_makeEmpty (22, [(1, vI (nI i)), (0, vR g 0)], [], hh) (fun r h' => r = none ∧ CO h' g emp 0 0 0 ∧ FR g h h') from this 40 0 h4 (by omega) I0
  intro m
  induction m with
  | zero =>
    intro i hh hm I
    refine R_s 3 (cond (if2 .ge (nI i) (nI 40)) 48 28, [(1, vI (nI i)), (0, vR g 0)], [], hh) rfl ?_
    refine R_bp (40 ≤ i) (i2_ge (by omega) (by omega)) (fun c1 => ?_) (fun c1 => ?_)
    · have I : ME h hh g 40 0 := ⟨I.1, I.2.1, fun y hy => I.2.2.1 y (by omega), fun y hy => by omega⟩
      refine R_s 2 (50, [(1, vI (nI 0)), (0, vR g 0)], [], hh) rfl ?_
      clear hm
      suffices ∀ m i hh, i + m = 8 → ME h hh g 40 i → R d mC_makeEmpty (50, [(1, vI (nI i)), (0, vR g 0)], [], hh) (fun r h' => r = none ∧ CO h' g emp 0 0 0 ∧ FR g h h') from this 8 0 hh (by omega) I
      intro m2
      induction m2 with
      | zero =>
        intro i hh hm J
        refine R_s 3 (cond (if2 .ge (nI i) (nI 8)) 76 56, [(1, vI (nI i)), (0, vR g 0)], [], hh) rfl ?_
        refine R_bp (8 ≤ i) (i2_ge (by omega) (by omega)) (fun c2 => ?_) (fun c2 => ?_)
        · exact R_ret none hh rfl ⟨rfl, ME_co ⟨J.1, J.2.1, J.2.2.1, fun y hy => J.2.2.2 y (by omega)⟩, J.1⟩
        · exact absurd hm (by omega)
      | succ m2 ih2 =>
        intro i hh hm J
        refine R_s 3 (cond (if2 .ge (nI i) (nI 8)) 76 56, [(1, vI (nI i)), (0, vR g 0)], [], hh) rfl ?_
        refine R_bp (8 ≤ i) (i2_ge (by omega) (by omega)) (fun c2 => ?_) (fun c2 => ?_)
        · exact R_ret none hh rfl ⟨rfl, ME_co ⟨J.1, J.2.1, J.2.2.1, fun y hy => J.2.2.2 y (by omega)⟩, J.1⟩
        · refine R_s 4 (62, [(1, vI (nI i)), (0, vR g 0)], [vI (-1), vI (nI i), vR g 7], hh) rfl ?_
          refine R_st g 7 i 8 (-1) rfl rfl (by omega) (by decide) (fun h5 eh5 => ?_)
          refine R_s 4 (69, [(1, vI (nI i)), (0, vR g 0)], [vI (nI i), vI (nI i), vR g 8], h5) rfl ?_
          refine R_st g 8 i 8 (nI i) rfl rfl (by omega) (by decide) (fun h6 eh6 => ?_)
          refine R_s 1 (73, [(1, vI (nI i + Int32.ofInt 1)), (0, vR g 0)], [], h6) rfl ?_
          refine R_lv (lv' := [(1, vI (nI (i + 1))), (0, vR g 0)]) (by rw [show nI i + Int32.ofInt 1 = nI (i + 1) from nI_add _ _]) ?_
          refine R_s 1 (50, [(1, vI (nI (i + 1))), (0, vR g 0)], [], h6) rfl ?_
          exact ih2 (i + 1) _ (by omega) ⟨by rw [eh6, eh5]; exact J.1.set.set, by rw [eh6, eh5]; simpa [hset, hrow, upd] using J.2.1, fun y hy => by rw [eh6, eh5, hs_ne (by omega), hs_ne (by omega)]; exact J.2.2.1 y hy, fun y hy => by
            rw [eh6, eh5]
            by_cases q : y = i
            · subst q; simp [hset, hrow, upd]
            · have := J.2.2.2 y (by omega)
              simpa [hset, hrow, upd, q] using this⟩
    · exact absurd hm (by omega)
  | succ m ih =>
    intro i hh hm I
    refine R_s 3 (cond (if2 .ge (nI i) (nI 40)) 48 28, [(1, vI (nI i)), (0, vR g 0)], [], hh) rfl ?_
    refine R_bp (40 ≤ i) (i2_ge (by omega) (by omega)) (fun c1 => ?_) (fun c1 => ?_)
    · have I : ME h hh g 40 0 := ⟨I.1, I.2.1, fun y hy => I.2.2.1 y (by omega), fun y hy => by omega⟩
      refine R_s 2 (50, [(1, vI (nI 0)), (0, vR g 0)], [], hh) rfl ?_
      clear ih
      suffices ∀ m i hh, i + m = 8 → ME h hh g 40 i → R d mC_makeEmpty (50, [(1, vI (nI i)), (0, vR g 0)], [], hh) (fun r h' => r = none ∧ CO h' g emp 0 0 0 ∧ FR g h h') from this 8 0 hh (by omega) I
      intro m2
      induction m2 with
      | zero =>
        intro i hh hm J
        refine R_s 3 (cond (if2 .ge (nI i) (nI 8)) 76 56, [(1, vI (nI i)), (0, vR g 0)], [], hh) rfl ?_
        refine R_bp (8 ≤ i) (i2_ge (by omega) (by omega)) (fun c2 => ?_) (fun c2 => ?_)
        · exact R_ret none hh rfl ⟨rfl, ME_co ⟨J.1, J.2.1, J.2.2.1, fun y hy => J.2.2.2 y (by omega)⟩, J.1⟩
        · exact absurd hm (by omega)
      | succ m2 ih2 =>
        intro i hh hm J
        refine R_s 3 (cond (if2 .ge (nI i) (nI 8)) 76 56, [(1, vI (nI i)), (0, vR g 0)], [], hh) rfl ?_
        refine R_bp (8 ≤ i) (i2_ge (by omega) (by omega)) (fun c2 => ?_) (fun c2 => ?_)
        · exact R_ret none hh rfl ⟨rfl, ME_co ⟨J.1, J.2.1, J.2.2.1, fun y hy => J.2.2.2 y (by omega)⟩, J.1⟩
        · refine R_s 4 (62, [(1, vI (nI i)), (0, vR g 0)], [vI (-1), vI (nI i), vR g 7], hh) rfl ?_
          refine R_st g 7 i 8 (-1) rfl rfl (by omega) (by decide) (fun h7 eh7 => ?_)
          refine R_s 4 (69, [(1, vI (nI i)), (0, vR g 0)], [vI (nI i), vI (nI i), vR g 8], h7) rfl ?_
          refine R_st g 8 i 8 (nI i) rfl rfl (by omega) (by decide) (fun h8 eh8 => ?_)
          refine R_s 1 (73, [(1, vI (nI i + Int32.ofInt 1)), (0, vR g 0)], [], h8) rfl ?_
          refine R_lv (lv' := [(1, vI (nI (i + 1))), (0, vR g 0)]) (by rw [show nI i + Int32.ofInt 1 = nI (i + 1) from nI_add _ _]) ?_
          refine R_s 1 (50, [(1, vI (nI (i + 1))), (0, vR g 0)], [], h8) rfl ?_
          exact ih2 (i + 1) _ (by omega) ⟨by rw [eh8, eh7]; exact J.1.set.set, by rw [eh8, eh7]; simpa [hset, hrow, upd] using J.2.1, fun y hy => by rw [eh8, eh7, hs_ne (by omega), hs_ne (by omega)]; exact J.2.2.1 y hy, fun y hy => by
            rw [eh8, eh7]
            by_cases q : y = i
            · subst q; simp [hset, hrow, upd]
            · have := J.2.2.2 y (by omega)
              simpa [hset, hrow, upd, q] using this⟩
    · refine R_s 4 (34, [(1, vI (nI i)), (0, vR g 0)], [vI (-1), vI (nI i), vR g 5], hh) rfl ?_
      refine R_st g 5 i 40 (-1) rfl rfl (by omega) (by decide) (fun h9 eh9 => ?_)
      refine R_s 4 (41, [(1, vI (nI i)), (0, vR g 0)], [vI (nI 0), vI (nI i), vR g 6], h9) rfl ?_
      refine R_st g 6 i 40 (nI 0) rfl rfl (by omega) (by decide) (fun h10 eh10 => ?_)
      refine R_s 1 (45, [(1, vI (nI i + Int32.ofInt 1)), (0, vR g 0)], [], h10) rfl ?_
      refine R_lv (lv' := [(1, vI (nI (i + 1))), (0, vR g 0)]) (by rw [show nI i + Int32.ofInt 1 = nI (i + 1) from nI_add _ _]) ?_
      refine R_s 1 (22, [(1, vI (nI (i + 1))), (0, vR g 0)], [], h10) rfl ?_
      exact ih (i + 1) _ (by omega) ⟨by rw [eh10, eh9]; exact I.1.set.set, by rw [eh10, eh9]; simpa [hset, hrow, upd] using I.2.1, fun y hy => by
        rw [eh10, eh9, hs_ne (by omega)]
        by_cases q : y = i
        · subst q; rw [hs_same, up_same]
        · rw [hs_same, up_ne q]; exact I.2.2.1 y (by omega), fun y hy => by omega⟩
theorem t_C_copyFrom {d g g2 n p k : Nat} {h : HP} {s : Nat → Int32} (hne : ¬ g2 = g) (C : CO h g2 s n p k) (h8 : n ≤ 8) (h5 : p ≤ 5) (h6 : k ≤ 6) : MT (d + 1) mC_copyFrom [vR g 0, vR g2 0] h (fun r h' => r = none ∧ CO h' g s n p k ∧ FR g h h') := by
  refine R_s 4 (8, [(0, vR g 0), (1, vR g2 0)], [], (hset h g 0 0 (h g2 0 0))) rfl ?_
  refine R_hp (fun h1 eh1 => ?_)
  refine R_s 4 (16, [(0, vR g 0), (1, vR g2 0)], [], (hset h1 g 0 1 (h1 g2 0 1))) rfl ?_
  refine R_hp (fun h2 eh2 => ?_)
  refine R_s 4 (24, [(0, vR g 0), (1, vR g2 0)], [], (hset h2 g 0 2 (h2 g2 0 2))) rfl ?_
  refine R_hp (fun h3 eh3 => ?_)
  refine R_s 4 (32, [(0, vR g 0), (1, vR g2 0)], [], (hset h3 g 0 3 (h3 g2 0 3))) rfl ?_
  refine R_hp (fun h4 eh4 => ?_)
  refine R_s 8 (47, [(0, vR g 0), (1, vR g2 0)], [], (hrow h4 g 1 (va_cpy (h4 g2 1) (h4 g 1) 0 0 8))) rfl ?_
  refine R_hp (fun h5 eh5 => ?_)
  refine R_s 8 (61, [(0, vR g 0), (1, vR g2 0)], [], (hrow h5 g 2 (va_cpy (h5 g2 2) (h5 g 2) 0 0 5))) rfl ?_
  refine R_hp (fun h6 eh6 => ?_)
  refine R_s 8 (76, [(0, vR g 0), (1, vR g2 0)], [], (hrow h6 g 3 (va_cpy (h6 g2 3) (h6 g 3) 0 0 6))) rfl ?_
  refine R_hp (fun h7 eh7 => ?_)
  refine R_s 8 (91, [(0, vR g 0), (1, vR g2 0)], [], (hrow h7 g 4 (va_cpy (h7 g2 4) (h7 g 4) 0 0 6))) rfl ?_
  refine R_hp (fun h8 eh8 => ?_)
  refine R_s 8 (106, [(0, vR g 0), (1, vR g2 0)], [], (hrow h8 g 5 (va_cpy (h8 g2 5) (h8 g 5) 0 0 40))) rfl ?_
  refine R_hp (fun h9 eh9 => ?_)
  refine R_s 8 (121, [(0, vR g 0), (1, vR g2 0)], [], (hrow h9 g 6 (va_cpy (h9 g2 6) (h9 g 6) 0 0 40))) rfl ?_
  refine R_hp (fun h10 eh10 => ?_)
  refine R_s 8 (136, [(0, vR g 0), (1, vR g2 0)], [], (hrow h10 g 7 (va_cpy (h10 g2 7) (h10 g 7) 0 0 8))) rfl ?_
  refine R_hp (fun h11 eh11 => ?_)
  refine R_s 8 (151, [(0, vR g 0), (1, vR g2 0)], [], (hrow h11 g 8 (va_cpy (h11 g2 8) (h11 g 8) 0 0 8))) rfl ?_
  refine R_hp (fun h12 eh12 => ?_)
  have f1 : ∀ j', h1 g2 j' = h g2 j' := fun j' => by rw [eh1, hs_ne (fun q => hne q.1)]
  have f2 : ∀ j', h2 g2 j' = h g2 j' := fun j' => by rw [eh2, hs_ne (fun q => hne q.1)]; exact f1 j'
  have f3 : ∀ j', h3 g2 j' = h g2 j' := fun j' => by rw [eh3, hs_ne (fun q => hne q.1)]; exact f2 j'
  have f4 : ∀ j', h4 g2 j' = h g2 j' := fun j' => by rw [eh4, hs_ne (fun q => hne q.1)]; exact f3 j'
  have f5 : ∀ j', h5 g2 j' = h g2 j' := fun j' => by rw [eh5, hr_ne (fun q => hne q.1)]; exact f4 j'
  have f6 : ∀ j', h6 g2 j' = h g2 j' := fun j' => by rw [eh6, hr_ne (fun q => hne q.1)]; exact f5 j'
  have f7 : ∀ j', h7 g2 j' = h g2 j' := fun j' => by rw [eh7, hr_ne (fun q => hne q.1)]; exact f6 j'
  have f8 : ∀ j', h8 g2 j' = h g2 j' := fun j' => by rw [eh8, hr_ne (fun q => hne q.1)]; exact f7 j'
  have f9 : ∀ j', h9 g2 j' = h g2 j' := fun j' => by rw [eh9, hr_ne (fun q => hne q.1)]; exact f8 j'
  have f10 : ∀ j', h10 g2 j' = h g2 j' := fun j' => by rw [eh10, hr_ne (fun q => hne q.1)]; exact f9 j'
  have f11 : ∀ j', h11 g2 j' = h g2 j' := fun j' => by rw [eh11, hr_ne (fun q => hne q.1)]; exact f10 j'
  have f12 : ∀ j', h12 g2 j' = h g2 j' := fun j' => by rw [eh12, hr_ne (fun q => hne q.1)]; exact f11 j'
  have F : FR g h h12 := by rw [eh12, eh11, eh10, eh9, eh8, eh7, eh6, eh5, eh4, eh3, eh2, eh1]; exact FR.rf.set.set.set.set.row.row.row.row.row.row.row.row
  have k0 : h12 g 0 = h4 g 0 := by rw [eh12, eh11, eh10, eh9, eh8, eh7, eh6, eh5]; simp [hrow]
  have k1 : ∀ x, x < 8 → h12 g 1 x = h g2 1 x := fun x hx => by
    have e : h12 g 1 = h5 g 1 := by rw [eh12, eh11, eh10, eh9, eh8, eh7, eh6]; simp [hrow]
    rw [e, eh5, hrow_eq, pk_cpy_in (Nat.zero_le _) (by omega), Nat.sub_zero, Nat.zero_add, f4]
  have k2 : ∀ x, x < 5 → h12 g 2 x = h g2 2 x := fun x hx => by
    have e : h12 g 2 = h6 g 2 := by rw [eh12, eh11, eh10, eh9, eh8, eh7]; simp [hrow]
    rw [e, eh6, hrow_eq, pk_cpy_in (Nat.zero_le _) (by omega), Nat.sub_zero, Nat.zero_add, f5]
  have k3 : ∀ x, x < 6 → h12 g 3 x = h g2 3 x := fun x hx => by
    have e : h12 g 3 = h7 g 3 := by rw [eh12, eh11, eh10, eh9, eh8]; simp [hrow]
    rw [e, eh7, hrow_eq, pk_cpy_in (Nat.zero_le _) (by omega), Nat.sub_zero, Nat.zero_add, f6]
  have k4 : ∀ x, x < 6 → h12 g 4 x = h g2 4 x := fun x hx => by
    have e : h12 g 4 = h8 g 4 := by rw [eh12, eh11, eh10, eh9]; simp [hrow]
    rw [e, eh8, hrow_eq, pk_cpy_in (Nat.zero_le _) (by omega), Nat.sub_zero, Nat.zero_add, f7]
  have k5 : ∀ x, x < 40 → h12 g 5 x = h g2 5 x := fun x hx => by
    have e : h12 g 5 = h9 g 5 := by rw [eh12, eh11, eh10]; simp [hrow]
    rw [e, eh9, hrow_eq, pk_cpy_in (Nat.zero_le _) (by omega), Nat.sub_zero, Nat.zero_add, f8]
  have k6 : ∀ x, x < 40 → h12 g 6 x = h g2 6 x := fun x hx => by
    have e : h12 g 6 = h10 g 6 := by rw [eh12, eh11]; simp [hrow]
    rw [e, eh10, hrow_eq, pk_cpy_in (Nat.zero_le _) (by omega), Nat.sub_zero, Nat.zero_add, f9]
  have k7 : ∀ x, x < 8 → h12 g 7 x = h g2 7 x := fun x hx => by
    have e : h12 g 7 = h11 g 7 := by rw [eh12]; simp [hrow]
    rw [e, eh11, hrow_eq, pk_cpy_in (Nat.zero_le _) (by omega), Nat.sub_zero, Nat.zero_add, f10]
  have k8 : ∀ x, x < 8 → h12 g 8 x = h g2 8 x := fun x hx => by
    have e : h12 g 8 = h12 g 8 := by rfl
    rw [e, eh12, hrow_eq, pk_cpy_in (Nat.zero_le _) (by omega), Nat.sub_zero, Nat.zero_add, f11]
  have z0 : h4 g 0 0 = h g2 0 0 ∧ h4 g 0 1 = h g2 0 1 ∧ h4 g 0 2 = h g2 0 2 ∧ h4 g 0 3 = h g2 0 3 := by
    refine ⟨?_, ?_, ?_, ?_⟩
    · rw [eh4, eh3, eh2, eh1]; simp [hset, hrow, upd]
    · rw [eh4, eh3, eh2]; simp [hset, hrow, upd]; rw [f1]
    · rw [eh4, eh3]; simp [hset, hrow, upd]; rw [f2]
    · rw [eh4]; simp [hset, hrow, upd]; rw [f3]
  obtain ⟨⟨c1, c2, c3, c4⟩, c5, c6, c7, c8, c9, c10⟩ := C
  exact R_ret none h12 rfl ⟨rfl, ⟨⟨by rw [k0, z0.1]; exact c1, by rw [k0, z0.2.1]; exact c2, by rw [k0, z0.2.2.1]; exact c3, by rw [k0, z0.2.2.2]; exact c4⟩, fun j hj => by rw [k1 j (by omega)]; exact c5 j hj, fun j hj => by rw [k2 j (by omega)]; exact c6 j hj, fun j hj => ⟨by rw [k3 j (by omega)]; exact (c7 j hj).1, by rw [k4 j (by omega)]; exact (c7 j hj).2⟩, fun j hj => by rw [k5 j hj]; exact c8 j hj, fun j hj hx => by rw [k6 j hj]; exact c9 j hj hx, fun j hj => ⟨by rw [k7 j hj]; exact (c10 j hj).1, by rw [k8 j hj]; exact (c10 j hj).2⟩⟩, F⟩
theorem t_C_givePart {d g a q : Nat} {h : HP} {y t : Int32} (ha : a < 8) (hq : q < 5) : MT d mC_givePart [vR g 0, vI (nI a), vI (nI q), vI y, vI t] h (fun r h' => r = none ∧ h' = hset (hset h g 5 (a * 5 + q) y) g 6 (a * 5 + q) t) := by
  refine R_s 4 (6, [(0, vR g 0), (1, vI (nI a)), (2, vI (nI q)), (3, vI y), (4, vI t)], [vI (nI 5), vI (nI a), vR g 5], h) rfl ?_
  refine R_mul a 5 rfl ?_
  refine R_s 1 (8, [(0, vR g 0), (1, vI (nI a)), (2, vI (nI q)), (3, vI y), (4, vI t)], [vI (nI q), vI (nI (a * 5)), vR g 5], h) rfl ?_
  refine R_add (a * 5) q rfl ?_
  refine R_s 1 (10, [(0, vR g 0), (1, vI (nI a)), (2, vI (nI q)), (3, vI y), (4, vI t)], [vI y, vI (nI ((a * 5) + q)), vR g 5], h) rfl ?_
  refine R_st g 5 ((a * 5) + q) 40 y rfl rfl (by omega) (by decide) (fun h1 eh1 => ?_)
  refine R_s 4 (17, [(0, vR g 0), (1, vI (nI a)), (2, vI (nI q)), (3, vI y), (4, vI t)], [vI (nI 5), vI (nI a), vR g 6], h1) rfl ?_
  refine R_mul a 5 rfl ?_
  refine R_s 1 (19, [(0, vR g 0), (1, vI (nI a)), (2, vI (nI q)), (3, vI y), (4, vI t)], [vI (nI q), vI (nI (a * 5)), vR g 6], h1) rfl ?_
  refine R_add (a * 5) q rfl ?_
  refine R_s 1 (22, [(0, vR g 0), (1, vI (nI a)), (2, vI (nI q)), (3, vI y), (4, vI t)], [vI t, vI (nI ((a * 5) + q)), vR g 6], h1) rfl ?_
  refine R_st g 6 ((a * 5) + q) 40 t rfl rfl (by omega) (by decide) (fun h2 eh2 => ?_)
  exact R_ret none h2 rfl ⟨rfl, by rw [eh2, eh1]⟩
theorem t_C_addSong_t {d g n v : Nat} {h : HP} (hn : h g 0 0 = nI n) (h8 : n ≤ 8) (hv : v < 1000) (h1 : n < 8) (h2 : 1 ≤ v) (h3 : v ≤ 20) : MT d mC_addSong [vR g 0, vI (nI v)] h (fun r h' => r = some (vI (nI 1)) ∧ h' = hset (hset h g 1 n (nI v)) g 0 0 (nI (n + 1))) := by
  refine R_s 2 (4, [(0, vR g 0), (1, vI (nI v))], [vI (h g 0 0)], h) rfl ?_
  refine R_top (nI n) hn ?_
  refine R_s 2 (cond (if2 .eq (nI n) (nI 8)) 20 9, [(0, vR g 0), (1, vI (nI v))], [], h) rfl ?_
  refine R_bp (n = 8) (i2_eq (by omega) (by omega)) (fun c1 => ?_) (fun c1 => ?_)
  · exact absurd c1 (by omega)
  · refine R_s 3 (cond (if2 .lt (nI v) (nI 1)) 20 14, [(0, vR g 0), (1, vI (nI v))], [], h) rfl ?_
    refine R_bp (v < 1) (i2_lt (by omega) (by omega)) (fun c1 => ?_) (fun c1 => ?_)
    · exact absurd c1 (by omega)
    · refine R_s 3 (cond (if2 .le (nI v) (nI 20)) 22 20, [(0, vR g 0), (1, vI (nI v))], [], h) rfl ?_
      refine R_bp (v ≤ 20) (i2_le (by omega) (by omega)) (fun c1 => ?_) (fun c1 => ?_)
      · refine R_s 4 (30, [(0, vR g 0), (1, vI (nI v))], [vI (h g 0 0), vR g 1], h) rfl ?_
        refine R_top (nI n) hn ?_
        refine R_s 1 (31, [(0, vR g 0), (1, vI (nI v))], [vI (nI v), vI (nI n), vR g 1], h) rfl ?_
        refine R_st g 1 n 8 (nI v) rfl rfl (by omega) (by decide) (fun h1 eh1 => ?_)
        refine R_s 3 (37, [(0, vR g 0), (1, vI (nI v))], [vI (h1 g 0 0), vR g 0], h1) rfl ?_
        refine R_top (nI n) (by rw [eh1, hs_ne (by omega)]; exact hn) ?_
        refine R_s 1 (38, [(0, vR g 0), (1, vI (nI v))], [vI (nI 1), vI (nI n), vR g 0], h1) rfl ?_
        refine R_add n 1 rfl ?_
        refine R_s 1 (42, [(0, vR g 0), (1, vI (nI v))], [], (hset h1 g 0 0 (nI (n + 1)))) rfl ?_
        refine R_hp (fun h2 eh2 => ?_)
        refine R_s 1 (43, [(0, vR g 0), (1, vI (nI v))], [vI (nI 1)], h2) rfl ?_
        exact R_ret (some (vI (nI 1))) h2 rfl ⟨rfl, by rw [eh2, eh1]⟩
      · exact absurd c1 (by omega)
theorem t_C_addSong_f {d g n v : Nat} {h : HP} (hn : h g 0 0 = nI n) (h8 : n ≤ 8) (hv : v < 1000) (h1 : n = 8 ∨ v < 1 ∨ 20 < v) : MT d mC_addSong [vR g 0, vI (nI v)] h (fun r h' => r = some (vI (nI 0)) ∧ h' = h) := by
  refine R_s 2 (4, [(0, vR g 0), (1, vI (nI v))], [vI (h g 0 0)], h) rfl ?_
  refine R_top (nI n) hn ?_
  refine R_s 2 (cond (if2 .eq (nI n) (nI 8)) 20 9, [(0, vR g 0), (1, vI (nI v))], [], h) rfl ?_
  refine R_bp (n = 8) (i2_eq (by omega) (by omega)) (fun c1 => ?_) (fun c1 => ?_)
  · refine R_s 1 (21, [(0, vR g 0), (1, vI (nI v))], [vI (nI 0)], h) rfl ?_
    exact R_ret (some (vI (nI 0))) h rfl ⟨rfl, rfl⟩
  · refine R_s 3 (cond (if2 .lt (nI v) (nI 1)) 20 14, [(0, vR g 0), (1, vI (nI v))], [], h) rfl ?_
    refine R_bp (v < 1) (i2_lt (by omega) (by omega)) (fun c2 => ?_) (fun c2 => ?_)
    · refine R_s 1 (21, [(0, vR g 0), (1, vI (nI v))], [vI (nI 0)], h) rfl ?_
      exact R_ret (some (vI (nI 0))) h rfl ⟨rfl, rfl⟩
    · refine R_s 3 (cond (if2 .le (nI v) (nI 20)) 22 20, [(0, vR g 0), (1, vI (nI v))], [], h) rfl ?_
      refine R_bp (v ≤ 20) (i2_le (by omega) (by omega)) (fun c3 => ?_) (fun c3 => ?_)
      · exact absurd h1 (by omega)
      · refine R_s 1 (21, [(0, vR g 0), (1, vI (nI v))], [vI (nI 0)], h) rfl ?_
        exact R_ret (some (vI (nI 0))) h rfl ⟨rfl, rfl⟩
theorem zero1_n {v : Nat} (hv : v < 1000) : zero1 (nI v) = decide (v ≤ 1) := by
  have h : ∀ v, v < 1000 → zero1 (nI v) = decide (v ≤ 1) := by decide +kernel
  exact h v hv
theorem t_C_addPlayer_t {d g n v : Nat} {h : HP} (hn : h g 0 1 = nI n) (h8 : n ≤ 5) (hv : v < 1000) (h1 : n < 5) (h2 : v ≤ 1) : MT (d + 1) mC_addPlayer [vR g 0, vI (nI v)] h (fun r h' => r = some (vI (nI 1)) ∧ h' = hset (hset h g 2 n (nI v)) g 0 1 (nI (n + 1))) := by
  refine R_s 2 (4, [(0, vR g 0), (1, vI (nI v))], [vI (h g 0 1)], h) rfl ?_
  refine R_top (nI n) hn ?_
  refine R_s 2 (cond (if2 .eq (nI n) (nI 5)) 16 8, [(0, vR g 0), (1, vI (nI v))], [], h) rfl ?_
  refine R_bp (n = 5) (i2_eq (by omega) (by omega)) (fun c1 => ?_) (fun c1 => ?_)
  · exact absurd c1 (by omega)
  · refine R_s 2 (10, [(0, vR g 0), (1, vI (nI v))], [vI (nI v), vR g 0], h) rfl ?_
    refine R_calli mC_isSide [vR g 0, vI (nI v)] [] (bI (zero1 (nI v))) h rfl t_C_isSide ?_
    refine R_top (nI 1) (by rw [zero1_n hv, decide_eq_true h2]; rfl) ?_
    refine R_s 1 (cond (if0 .ne (nI 1)) 18 16, [(0, vR g 0), (1, vI (nI v))], [], h) rfl ?_
    refine R_bt rfl ?_
    refine R_s 4 (26, [(0, vR g 0), (1, vI (nI v))], [vI (h g 0 1), vR g 2], h) rfl ?_
    refine R_top (nI n) hn ?_
    refine R_s 1 (27, [(0, vR g 0), (1, vI (nI v))], [vI (nI v), vI (nI n), vR g 2], h) rfl ?_
    refine R_st g 2 n 5 (nI v) rfl rfl (by omega) (by decide) (fun h1 eh1 => ?_)
    refine R_s 3 (33, [(0, vR g 0), (1, vI (nI v))], [vI (h1 g 0 1), vR g 0], h1) rfl ?_
    refine R_top (nI n) (by rw [eh1, hs_ne (by omega)]; exact hn) ?_
    refine R_s 1 (34, [(0, vR g 0), (1, vI (nI v))], [vI (nI 1), vI (nI n), vR g 0], h1) rfl ?_
    refine R_add n 1 rfl ?_
    refine R_s 1 (38, [(0, vR g 0), (1, vI (nI v))], [], (hset h1 g 0 1 (nI (n + 1)))) rfl ?_
    refine R_hp (fun h2 eh2 => ?_)
    refine R_s 1 (39, [(0, vR g 0), (1, vI (nI v))], [vI (nI 1)], h2) rfl ?_
    exact R_ret (some (vI (nI 1))) h2 rfl ⟨rfl, by rw [eh2, eh1]⟩
theorem t_C_addPlayer_f {d g n v : Nat} {h : HP} (hn : h g 0 1 = nI n) (h8 : n ≤ 5) (hv : v < 1000) (h1 : n = 5 ∨ 1 < v) : MT (d + 1) mC_addPlayer [vR g 0, vI (nI v)] h (fun r h' => r = some (vI (nI 0)) ∧ h' = h) := by
  refine R_s 2 (4, [(0, vR g 0), (1, vI (nI v))], [vI (h g 0 1)], h) rfl ?_
  refine R_top (nI n) hn ?_
  refine R_s 2 (cond (if2 .eq (nI n) (nI 5)) 16 8, [(0, vR g 0), (1, vI (nI v))], [], h) rfl ?_
  refine R_bp (n = 5) (i2_eq (by omega) (by omega)) (fun c1 => ?_) (fun c1 => ?_)
  · refine R_s 1 (17, [(0, vR g 0), (1, vI (nI v))], [vI (nI 0)], h) rfl ?_
    exact R_ret (some (vI (nI 0))) h rfl ⟨rfl, rfl⟩
  · refine R_s 2 (10, [(0, vR g 0), (1, vI (nI v))], [vI (nI v), vR g 0], h) rfl ?_
    refine R_calli mC_isSide [vR g 0, vI (nI v)] [] (bI (zero1 (nI v))) h rfl t_C_isSide ?_
    refine R_top (nI 0) (by rw [zero1_n hv, decide_eq_false (by omega)]; rfl) ?_
    refine R_s 1 (cond (if0 .ne (nI 0)) 18 16, [(0, vR g 0), (1, vI (nI v))], [], h) rfl ?_
    refine R_bf rfl ?_
    refine R_s 1 (17, [(0, vR g 0), (1, vI (nI v))], [vI (nI 0)], h) rfl ?_
    exact R_ret (some (vI (nI 0))) h rfl ⟨rfl, rfl⟩
theorem t_C_addKind_t {d g n u v : Nat} {h : HP} (hn : h g 0 2 = nI n) (h8 : n ≤ 6) (hu : u < 1000) (hv : v < 1000) (h1 : n < 6) (h2 : 1 ≤ u) (h3 : u ≤ 5) (h4 : v ≤ 1) : MT (d + 1) mC_addKind [vR g 0, vI (nI u), vI (nI v)] h (fun r h' => r = some (vI (nI 1)) ∧ h' = hset (hset (hset h g 3 n (nI u)) g 4 n (nI v)) g 0 2 (nI (n + 1))) := by
  refine R_s 2 (4, [(0, vR g 0), (1, vI (nI u)), (2, vI (nI v))], [vI (h g 0 2)], h) rfl ?_
  refine R_top (nI n) hn ?_
  refine R_s 2 (cond (if2 .eq (nI n) (nI 6)) 27 9, [(0, vR g 0), (1, vI (nI u)), (2, vI (nI v))], [], h) rfl ?_
  refine R_bp (n = 6) (i2_eq (by omega) (by omega)) (fun c1 => ?_) (fun c1 => ?_)
  · exact absurd c1 (by omega)
  · refine R_s 3 (cond (if2 .lt (nI u) (nI 1)) 27 14, [(0, vR g 0), (1, vI (nI u)), (2, vI (nI v))], [], h) rfl ?_
    refine R_bp (u < 1) (i2_lt (by omega) (by omega)) (fun c1 => ?_) (fun c1 => ?_)
    · exact absurd c1 (by omega)
    · refine R_s 3 (cond (if2 .gt (nI u) (nI 5)) 27 19, [(0, vR g 0), (1, vI (nI u)), (2, vI (nI v))], [], h) rfl ?_
      refine R_bp (5 < u) (i2_gt (by omega) (by omega)) (fun c1 => ?_) (fun c1 => ?_)
      · exact absurd c1 (by omega)
      · refine R_s 2 (21, [(0, vR g 0), (1, vI (nI u)), (2, vI (nI v))], [vI (nI v), vR g 0], h) rfl ?_
        refine R_calli mC_isSide [vR g 0, vI (nI v)] [] (bI (zero1 (nI v))) h rfl t_C_isSide ?_
        refine R_top (nI 1) (by rw [zero1_n hv, decide_eq_true h4]; rfl) ?_
        refine R_s 1 (cond (if0 .ne (nI 1)) 29 27, [(0, vR g 0), (1, vI (nI u)), (2, vI (nI v))], [], h) rfl ?_
        refine R_bt rfl ?_
        refine R_s 4 (37, [(0, vR g 0), (1, vI (nI u)), (2, vI (nI v))], [vI (h g 0 2), vR g 3], h) rfl ?_
        refine R_top (nI n) hn ?_
        refine R_s 1 (38, [(0, vR g 0), (1, vI (nI u)), (2, vI (nI v))], [vI (nI u), vI (nI n), vR g 3], h) rfl ?_
        refine R_st g 3 n 6 (nI u) rfl rfl (by omega) (by decide) (fun h1 eh1 => ?_)
        refine R_s 4 (47, [(0, vR g 0), (1, vI (nI u)), (2, vI (nI v))], [vI (h1 g 0 2), vR g 4], h1) rfl ?_
        refine R_top (nI n) (by rw [eh1, hs_ne (by omega)]; exact hn) ?_
        refine R_s 1 (48, [(0, vR g 0), (1, vI (nI u)), (2, vI (nI v))], [vI (nI v), vI (nI n), vR g 4], h1) rfl ?_
        refine R_st g 4 n 6 (nI v) rfl rfl (by omega) (by decide) (fun h2 eh2 => ?_)
        refine R_s 3 (54, [(0, vR g 0), (1, vI (nI u)), (2, vI (nI v))], [vI (h2 g 0 2), vR g 0], h2) rfl ?_
        refine R_top (nI n) (by rw [eh2, hs_ne (by omega), eh1, hs_ne (by omega)]; exact hn) ?_
        refine R_s 1 (55, [(0, vR g 0), (1, vI (nI u)), (2, vI (nI v))], [vI (nI 1), vI (nI n), vR g 0], h2) rfl ?_
        refine R_add n 1 rfl ?_
        refine R_s 1 (59, [(0, vR g 0), (1, vI (nI u)), (2, vI (nI v))], [], (hset h2 g 0 2 (nI (n + 1)))) rfl ?_
        refine R_hp (fun h3 eh3 => ?_)
        refine R_s 1 (60, [(0, vR g 0), (1, vI (nI u)), (2, vI (nI v))], [vI (nI 1)], h3) rfl ?_
        exact R_ret (some (vI (nI 1))) h3 rfl ⟨rfl, by rw [eh3, eh2, eh1]⟩
theorem t_C_addKind_f {d g n u v : Nat} {h : HP} (hn : h g 0 2 = nI n) (h8 : n ≤ 6) (hu : u < 1000) (hv : v < 1000) (h1 : n = 6 ∨ u < 1 ∨ 5 < u ∨ 1 < v) : MT (d + 1) mC_addKind [vR g 0, vI (nI u), vI (nI v)] h (fun r h' => r = some (vI (nI 0)) ∧ h' = h) := by
  refine R_s 2 (4, [(0, vR g 0), (1, vI (nI u)), (2, vI (nI v))], [vI (h g 0 2)], h) rfl ?_
  refine R_top (nI n) hn ?_
  refine R_s 2 (cond (if2 .eq (nI n) (nI 6)) 27 9, [(0, vR g 0), (1, vI (nI u)), (2, vI (nI v))], [], h) rfl ?_
  refine R_bp (n = 6) (i2_eq (by omega) (by omega)) (fun c1 => ?_) (fun c1 => ?_)
  · refine R_s 1 (28, [(0, vR g 0), (1, vI (nI u)), (2, vI (nI v))], [vI (nI 0)], h) rfl ?_
    exact R_ret (some (vI (nI 0))) h rfl ⟨rfl, rfl⟩
  · refine R_s 3 (cond (if2 .lt (nI u) (nI 1)) 27 14, [(0, vR g 0), (1, vI (nI u)), (2, vI (nI v))], [], h) rfl ?_
    refine R_bp (u < 1) (i2_lt (by omega) (by omega)) (fun c2 => ?_) (fun c2 => ?_)
    · refine R_s 1 (28, [(0, vR g 0), (1, vI (nI u)), (2, vI (nI v))], [vI (nI 0)], h) rfl ?_
      exact R_ret (some (vI (nI 0))) h rfl ⟨rfl, rfl⟩
    · refine R_s 3 (cond (if2 .gt (nI u) (nI 5)) 27 19, [(0, vR g 0), (1, vI (nI u)), (2, vI (nI v))], [], h) rfl ?_
      refine R_bp (5 < u) (i2_gt (by omega) (by omega)) (fun c3 => ?_) (fun c3 => ?_)
      · refine R_s 1 (28, [(0, vR g 0), (1, vI (nI u)), (2, vI (nI v))], [vI (nI 0)], h) rfl ?_
        exact R_ret (some (vI (nI 0))) h rfl ⟨rfl, rfl⟩
      · refine R_s 2 (21, [(0, vR g 0), (1, vI (nI u)), (2, vI (nI v))], [vI (nI v), vR g 0], h) rfl ?_
        refine R_calli mC_isSide [vR g 0, vI (nI v)] [] (bI (zero1 (nI v))) h rfl t_C_isSide ?_
        refine R_top (nI 0) (by rw [zero1_n hv, decide_eq_false (by omega)]; rfl) ?_
        refine R_s 1 (cond (if0 .ne (nI 0)) 29 27, [(0, vR g 0), (1, vI (nI u)), (2, vI (nI v))], [], h) rfl ?_
        refine R_bf rfl ?_
        refine R_s 1 (28, [(0, vR g 0), (1, vI (nI u)), (2, vI (nI v))], [vI (nI 0)], h) rfl ?_
        exact R_ret (some (vI (nI 0))) h rfl ⟨rfl, rfl⟩
theorem t_C_addEncore_t {d g n e v : Nat} {h : HP} (hn : h g 0 0 = nI n) (h8 : n ≤ 8) (he : h g 0 3 = nI e) (he8 : e < 256) (hv : v < 1000) (h1 : v < n) : MT (d + 1) mC_addEncore [vR g 0, vI (nI v)] h (fun r h' => r = some (vI (nI 1)) ∧ h' = hset h g 0 3 (nI (e ||| 2 ^ v))) := by
  refine R_s 2 (2, [(0, vR g 0), (1, vI (nI v))], [vI (nI v), vR g 0], h) rfl ?_
  refine R_calli mC_isSong [vR g 0, vI (nI v)] [] (bI (inb (nI v) n)) h rfl (t_C_isSong hn h8) ?_
  refine R_top (nI 1) (by rw [inb_n h1 (by omega)]; rfl) ?_
  refine R_s 1 (cond (if0 .ne (nI 1)) 10 8, [(0, vR g 0), (1, vI (nI v))], [], h) rfl ?_
  refine R_bt rfl ?_
  refine R_s 3 (15, [(0, vR g 0), (1, vI (nI v))], [vI (h g 0 3), vR g 0], h) rfl ?_
  refine R_top (nI e) he ?_
  refine R_s 4 (19, [(0, vR g 0), (1, vI (nI v))], [vI ((nI e) ||| ((nI 1) <<< ((nI v) &&& 31))), vR g 0], h) rfl ?_
  refine R_top (nI (e ||| 2 ^ v)) (bit_or e he8 v (by omega)) ?_
  refine R_s 1 (22, [(0, vR g 0), (1, vI (nI v))], [], (hset h g 0 3 (nI (e ||| 2 ^ v)))) rfl ?_
  refine R_hp (fun h1 eh1 => ?_)
  refine R_s 1 (23, [(0, vR g 0), (1, vI (nI v))], [vI (nI 1)], h1) rfl ?_
  exact R_ret (some (vI (nI 1))) h1 rfl ⟨rfl, by rw [eh1]⟩
theorem inb_no {x n : Nat} (h : n ≤ x) (hx : x < 2147483648) : inb (nI x) n = false := by
  unfold inb
  have h2 : n ≤ (nI x).toNatClampNeg := by rw [nI_cl hx]; exact h
  simp [h2]
theorem t_C_addEncore_f {d g n e v : Nat} {h : HP} (hn : h g 0 0 = nI n) (h8 : n ≤ 8) (he : h g 0 3 = nI e) (he8 : e < 256) (hv : v < 1000) (h1 : n ≤ v) : MT (d + 1) mC_addEncore [vR g 0, vI (nI v)] h (fun r h' => r = some (vI (nI 0)) ∧ h' = h) := by
  refine R_s 2 (2, [(0, vR g 0), (1, vI (nI v))], [vI (nI v), vR g 0], h) rfl ?_
  refine R_calli mC_isSong [vR g 0, vI (nI v)] [] (bI (inb (nI v) n)) h rfl (t_C_isSong hn h8) ?_
  refine R_top (nI 0) (by rw [inb_no h1 (by omega)]; rfl) ?_
  refine R_s 1 (cond (if0 .ne (nI 0)) 10 8, [(0, vR g 0), (1, vI (nI v))], [], h) rfl ?_
  refine R_bf rfl ?_
  refine R_s 1 (9, [(0, vR g 0), (1, vI (nI v))], [vI (nI 0)], h) rfl ?_
  exact R_ret (some (vI (nI 0))) h rfl ⟨rfl, rfl⟩
theorem t_C_addPart_t {d g n p k a q c t : Nat} {h : HP} {s : Nat → Int32} (C : CO h g s n p k) (F : WF s n p k) (ha : a < 1000) (hq : q < 1000) (hc : c < 1000) (ht : t < 1000) (h1 : a < n) (h2 : q < p) (h3 : c < k) (h4 : t ≤ 5) {u : Nat} (hu : s (33 + c) = nI u) (hu6 : u ≤ 6) (hx : kd s a q = nI c ∨ cn s a (nI c) p < u) : MT (d + 2) mC_addPart [vR g 0, vI (nI a), vI (nI q), vI (nI c), vI (nI t)] h (fun r h' => r = some (vI (nI 1)) ∧ h' = hset (hset h g 5 (a * 5 + q) (nI c)) g 6 (a * 5 + q) (nI t)) := by
  have h8 := F.2.1.1
  have h5 := F.2.1.2.1
  have h6 := F.2.1.2.2
  refine R_s 5 (6, [(0, vR g 0), (1, vI (nI a)), (2, vI (nI q)), (3, vI (nI c)), (4, vI (nI t))], [vI (nI t), vI (nI c), vI (nI q), vI (nI a), vR g 0], h) rfl ?_
  refine R_calli mC_isPart [vR g 0, vI (nI a), vI (nI q), vI (nI c), vI (nI t)] [] (bI (inb (nI a) n && inb (nI q) p && inb (nI c) k && inb (nI t) 6)) h rfl (t_C_isPart C.1.1 C.1.2.1 C.1.2.2.1 h8 h5 h6) ?_
  refine R_top (nI 1) (by rw [inb_n h1 (by omega), inb_n h2 (by omega), inb_n h3 (by omega), inb_n (show t < 6 by omega) (by omega)]; rfl) ?_
  refine R_s 1 (cond (if0 .eq (nI 1)) 22 12, [(0, vR g 0), (1, vI (nI a)), (2, vI (nI q)), (3, vI (nI c)), (4, vI (nI t))], [], h) rfl ?_
  refine R_bf rfl ?_
  refine R_s 4 (16, [(0, vR g 0), (1, vI (nI a)), (2, vI (nI q)), (3, vI (nI c)), (4, vI (nI t))], [vI (nI c), vI (nI q), vI (nI a), vR g 0], h) rfl ?_
  refine R_calli mC_hasUnitFor [vR g 0, vI (nI a), vI (nI q), vI (nI c)] [] (bI (decide (kd s a q = nI c) || decide (cn s a (nI c) p < u))) h rfl (t_C_hasUnitFor C h5 h6 (by omega) (by omega) h3 hu hu6) ?_
  refine R_top (nI 1) (by rcases hx with z | z <;> rw [decide_eq_true z] <;> first | rfl | (rw [Bool.or_true]; rfl)) ?_
  refine R_s 1 (cond (if0 .ne (nI 1)) 24 22, [(0, vR g 0), (1, vI (nI a)), (2, vI (nI q)), (3, vI (nI c)), (4, vI (nI t))], [], h) rfl ?_
  refine R_bt rfl ?_
  refine R_s 5 (30, [(0, vR g 0), (1, vI (nI a)), (2, vI (nI q)), (3, vI (nI c)), (4, vI (nI t))], [vI (nI t), vI (nI c), vI (nI q), vI (nI a), vR g 0], h) rfl ?_
  refine R_callv mC_givePart [vR g 0, vI (nI a), vI (nI q), vI (nI c), vI (nI t)] [] (hset (hset h g 5 (a * 5 + q) (nI c)) g 6 (a * 5 + q) (nI t)) rfl (t_C_givePart (by omega) (by omega)) ?_
  refine R_hp (fun h1 eh1 => ?_)
  refine R_s 1 (34, [(0, vR g 0), (1, vI (nI a)), (2, vI (nI q)), (3, vI (nI c)), (4, vI (nI t))], [vI (nI 1)], h1) rfl ?_
  exact R_ret (some (vI (nI 1))) h1 rfl ⟨rfl, by rw [eh1]⟩
theorem t_C_addPart_f {d g n p k a q c t : Nat} {h : HP} {s : Nat → Int32} (C : CO h g s n p k) (F : WF s n p k) (ha : a < 1000) (hq : q < 1000) (hc : c < 1000) (ht : t < 1000) (h1 : ¬ (a < n ∧ q < p ∧ c < k ∧ t ≤ 5)) : MT (d + 2) mC_addPart [vR g 0, vI (nI a), vI (nI q), vI (nI c), vI (nI t)] h (fun r h' => r = some (vI (nI 0)) ∧ h' = h) := by
  have h8 := F.2.1.1
  have h5 := F.2.1.2.1
  have h6 := F.2.1.2.2
  refine R_s 5 (6, [(0, vR g 0), (1, vI (nI a)), (2, vI (nI q)), (3, vI (nI c)), (4, vI (nI t))], [vI (nI t), vI (nI c), vI (nI q), vI (nI a), vR g 0], h) rfl ?_
  refine R_calli mC_isPart [vR g 0, vI (nI a), vI (nI q), vI (nI c), vI (nI t)] [] (bI (inb (nI a) n && inb (nI q) p && inb (nI c) k && inb (nI t) 6)) h rfl (t_C_isPart C.1.1 C.1.2.1 C.1.2.2.1 h8 h5 h6) ?_
  refine R_top (nI 0) (by
    rcases (show n ≤ a ∨ p ≤ q ∨ k ≤ c ∨ 6 ≤ t by omega) with z | z | z | z
    · rw [inb_no z (by omega)]; rfl
    · rw [inb_no z (by omega), Bool.and_false]; rfl
    · rw [inb_no z (by omega), Bool.and_false]; rfl
    · rw [inb_no z (by omega), Bool.and_false]; rfl) ?_
  refine R_s 1 (cond (if0 .eq (nI 0)) 22 12, [(0, vR g 0), (1, vI (nI a)), (2, vI (nI q)), (3, vI (nI c)), (4, vI (nI t))], [], h) rfl ?_
  refine R_bt rfl ?_
  refine R_s 1 (23, [(0, vR g 0), (1, vI (nI a)), (2, vI (nI q)), (3, vI (nI c)), (4, vI (nI t))], [vI (nI 0)], h) rfl ?_
  exact R_ret (some (vI (nI 0))) h rfl ⟨rfl, rfl⟩
theorem t_C_addPart_u {d g n p k a q c t : Nat} {h : HP} {s : Nat → Int32} (C : CO h g s n p k) (F : WF s n p k) (ha : a < 1000) (hq : q < 1000) (hc : c < 1000) (ht : t < 1000) (h1 : a < n) (h2 : q < p) (h3 : c < k) (h4 : t ≤ 5) {u : Nat} (hu : s (33 + c) = nI u) (hu6 : u ≤ 6) (hx : ¬ (kd s a q = nI c ∨ cn s a (nI c) p < u)) : MT (d + 2) mC_addPart [vR g 0, vI (nI a), vI (nI q), vI (nI c), vI (nI t)] h (fun r h' => r = some (vI (nI 0)) ∧ h' = h) := by
  have h8 := F.2.1.1
  have h5 := F.2.1.2.1
  have h6 := F.2.1.2.2
  refine R_s 5 (6, [(0, vR g 0), (1, vI (nI a)), (2, vI (nI q)), (3, vI (nI c)), (4, vI (nI t))], [vI (nI t), vI (nI c), vI (nI q), vI (nI a), vR g 0], h) rfl ?_
  refine R_calli mC_isPart [vR g 0, vI (nI a), vI (nI q), vI (nI c), vI (nI t)] [] (bI (inb (nI a) n && inb (nI q) p && inb (nI c) k && inb (nI t) 6)) h rfl (t_C_isPart C.1.1 C.1.2.1 C.1.2.2.1 h8 h5 h6) ?_
  refine R_top (nI 1) (by rw [inb_n h1 (by omega), inb_n h2 (by omega), inb_n h3 (by omega), inb_n (show t < 6 by omega) (by omega)]; rfl) ?_
  refine R_s 1 (cond (if0 .eq (nI 1)) 22 12, [(0, vR g 0), (1, vI (nI a)), (2, vI (nI q)), (3, vI (nI c)), (4, vI (nI t))], [], h) rfl ?_
  refine R_bf rfl ?_
  refine R_s 4 (16, [(0, vR g 0), (1, vI (nI a)), (2, vI (nI q)), (3, vI (nI c)), (4, vI (nI t))], [vI (nI c), vI (nI q), vI (nI a), vR g 0], h) rfl ?_
  refine R_calli mC_hasUnitFor [vR g 0, vI (nI a), vI (nI q), vI (nI c)] [] (bI (decide (kd s a q = nI c) || decide (cn s a (nI c) p < u))) h rfl (t_C_hasUnitFor C h5 h6 (by omega) (by omega) h3 hu hu6) ?_
  refine R_top (nI 0) (by rw [decide_eq_false (fun z => hx (Or.inl z)), decide_eq_false (fun z => hx (Or.inr z))]; rfl) ?_
  refine R_s 1 (cond (if0 .ne (nI 0)) 24 22, [(0, vR g 0), (1, vI (nI a)), (2, vI (nI q)), (3, vI (nI c)), (4, vI (nI t))], [], h) rfl ?_
  refine R_bf rfl ?_
  refine R_s 1 (23, [(0, vR g 0), (1, vI (nI a)), (2, vI (nI q)), (3, vI (nI c)), (4, vI (nI t))], [vI (nI 0)], h) rfl ?_
  exact R_ret (some (vI (nI 0))) h rfl ⟨rfl, rfl⟩
theorem ite_sp {α : Type} : True := trivial
/-- an order with the song at f moved to t -/
def mvo (o : Nat → Int32) (f t : Nat) : Nat → Int32 := fun j => if j = t then o f else if f ≤ j ∧ j < t then o (j + 1) else if t < j ∧ j ≤ f then o (j - 1) else o j
def mv1 (o : Nat → Int32) (f i : Nat) : Nat → Int32 := fun j => if f ≤ j ∧ j < i then o (j + 1) else o j
def mv2 (o : Nat → Int32) (f t i : Nat) : Nat → Int32 := fun j => if i < j ∧ j ≤ f then o (j - 1) else mv1 o f t j
def OO (h h' : HP) (g c : Nat) (o : Nat → Int32) (B : Nat) : Prop := (∀ j, j < 8 → h' g c (B + j) = o j) ∧ (∀ g' j', ¬ (g' = g ∧ j' = c) → h' g' j' = h g' j') ∧ (∀ x, (x < B ∨ B + 8 ≤ x) → h' g c x = h g c x)
theorem OO.st {h h' : HP} {g c B i : Nat} {o o' : Nat → Int32} {v : Int32} (I : OO h h' g c o B) (hi : i < 8) (hv : v = o' i) (ho : ∀ j, j < 8 → ¬ j = i → o' j = o j) : OO h (hset h' g c (B + i) v) g c o' B := by
  refine ⟨fun j hj => ?_, fun g' j' e => ?_, fun x hx => ?_⟩
  · rw [hs_same]
    by_cases q : j = i
    · rw [q, up_same, hv]
    · rw [up_ne (by omega), ho j hj q]; exact I.1 j hj
  · rw [hs_ne e]; exact I.2.1 g' j' e
  · rw [hs_same, up_ne (by omega)]; exact I.2.2 x hx
theorem mv_12 {o : Nat → Int32} {f t i j : Nat} (h1 : f ≤ i) (h2 : i ≤ t ∨ i = f) (h3 : t ≤ i) : mv1 o f i j = mv2 o f t f j := by
  unfold mv2 mv1
  repeat' split
  all_goals first | rfl | (exfalso; omega)
theorem mv_1a {o : Nat → Int32} {f i : Nat} (h1 : f ≤ i) : mv1 o f (i + 1) i = o (i + 1) := by
  unfold mv1
  rw [if_pos (by omega)]
theorem mv_1b {o : Nat → Int32} {f i j : Nat} (h : ¬ j = i) : mv1 o f (i + 1) j = mv1 o f i j := by
  unfold mv1
  repeat' split
  all_goals first | rfl | (exfalso; omega)
theorem mv_2a {o : Nat → Int32} {f t i : Nat} (h : i + 1 ≤ f) : mv2 o f t i (i + 1) = o i := by
  unfold mv2
  rw [if_pos (by omega), Nat.add_sub_cancel]
theorem mv_2b {o : Nat → Int32} {f t i j : Nat} (h : ¬ j = i + 1) : mv2 o f t i j = mv2 o f t (i + 1) j := by
  unfold mv2
  repeat' split
  all_goals first | rfl | (exfalso; omega)
theorem mv_ob {o : Nat → Int32} {f t i j : Nat} (h : ¬ j = t) (h1 : i ≤ t) (h2 : t ≤ i ∨ i = f) (h3 : i ≤ f) : mvo o f t j = mv2 o f t i j := by
  unfold mvo mv2 mv1
  repeat' split
  all_goals first | rfl | (exfalso; omega)
theorem mv_oa {o : Nat → Int32} {f t : Nat} : mvo o f t t = o f := by
  unfold mvo
  rw [if_pos rfl]
theorem t_C_shiftOrder {d g f t : Nat} {h : HP} (hf : f < 8) (ht : t < 8) : MT d mC_shiftOrder [vR g 0, vI (nI f), vI (nI t)] h (fun r h' => r = none ∧ OO h h' g 8 (mvo (h g 8) f t) 0) := by
  refine R_s 3 (5, [(0, vR g 0), (1, vI (nI f)), (2, vI (nI t))], [vI (nI f), vR g 8], h) rfl ?_
  refine R_ld g 8 f 8 rfl rfl (by omega) (by decide) ?_
  refine R_s 3 (10, [(4, vI (nI f)), (3, vI (h g 8 f)), (0, vR g 0), (1, vI (nI f)), (2, vI (nI t))], [], h) rfl ?_
  have z0 : ∀ (hh : HP) (j : Nat), hh g 8 (0 + j) = hh g 8 j := fun hh j => by rw [Nat.zero_add]
  suffices ∀ m i hh, f ≤ i → (i ≤ t ∨ i = f) → t ≤ i + m → OO h hh g 8 (mv1 (h g 8) f i) 0 → R d mC_shiftOrder (10, [(4, vI (nI i)), (3, vI (h g 8 f)), (0, vR g 0), (1, vI (nI f)), (2, vI (nI t))], [], hh) (fun r h' => r = none ∧ OO h h' g 8 (mvo (h g 8) f t) 0) from this t f h (by omega) (by omega) (by omega) ⟨fun j hj => by rw [Nat.zero_add]; unfold mv1; rw [if_neg (by omega)], fun _ _ _ => rfl, fun _ _ => rfl⟩
  intro m
  induction m with
  | zero =>
    intro i hh hfi hit hm I
    refine R_s 3 (cond (if2 .ge (nI i) (nI t)) 38 16, [(4, vI (nI i)), (3, vI (h g 8 f)), (0, vR g 0), (1, vI (nI f)), (2, vI (nI t))], [], hh) rfl ?_
    refine R_bp (t ≤ i) (i2_ge (by omega) (by omega)) (fun c1 => ?_) (fun c1 => ?_)
    · have I2 : OO h hh g 8 (mv2 (h g 8) f t f) 0 := ⟨fun j hj => (I.1 j hj).trans (mv_12 hfi hit c1), I.2.1, I.2.2⟩
      refine R_s 2 (41, [(4, vI (nI f)), (3, vI (h g 8 f)), (0, vR g 0), (1, vI (nI f)), (2, vI (nI t))], [], hh) rfl ?_
      clear I hm
      suffices ∀ m i hh, i ≤ f → i ≤ t + m → (t ≤ i ∨ i = f) → OO h hh g 8 (mv2 (h g 8) f t i) 0 → R d mC_shiftOrder (41, [(4, vI (nI i)), (3, vI (h g 8 f)), (0, vR g 0), (1, vI (nI f)), (2, vI (nI t))], [], hh) (fun r h' => r = none ∧ OO h h' g 8 (mvo (h g 8) f t) 0) from this f f hh (by omega) (by omega) (Or.inr rfl) I2
      intro m2
      induction m2 with
      | zero =>
        intro i hh hi hm ho J
        refine R_s 3 (cond (if2 .le (nI i) (nI t)) 69 47, [(4, vI (nI i)), (3, vI (h g 8 f)), (0, vR g 0), (1, vI (nI f)), (2, vI (nI t))], [], hh) rfl ?_
        refine R_bp (i ≤ t) (i2_le (by omega) (by omega)) (fun c2 => ?_) (fun c2 => ?_)
        · refine R_s 4 (75, [(4, vI (nI i)), (3, vI (h g 8 f)), (0, vR g 0), (1, vI (nI f)), (2, vI (nI t))], [vI (h g 8 f), vI (nI t), vR g 8], hh) rfl ?_
          refine R_st g 8 t 8 (h g 8 f) rfl rfl (by omega) (by decide) (fun h1 eh1 => ?_)
          exact R_ret none h1 rfl ⟨rfl, by rw [eh1, show hset hh g 8 t (h g 8 f) = hset hh g 8 (0 + t) (h g 8 f) by rw [Nat.zero_add]]; exact J.st ht mv_oa.symm (fun j hj hne => mv_ob hne c2 ho hi)⟩
        · exact absurd c2 (by omega)
      | succ m2 ih2 =>
        intro i hh hi hm ho J
        refine R_s 3 (cond (if2 .le (nI i) (nI t)) 69 47, [(4, vI (nI i)), (3, vI (h g 8 f)), (0, vR g 0), (1, vI (nI f)), (2, vI (nI t))], [], hh) rfl ?_
        refine R_bp (i ≤ t) (i2_le (by omega) (by omega)) (fun c2 => ?_) (fun c2 => ?_)
        · refine R_s 4 (75, [(4, vI (nI i)), (3, vI (h g 8 f)), (0, vR g 0), (1, vI (nI f)), (2, vI (nI t))], [vI (h g 8 f), vI (nI t), vR g 8], hh) rfl ?_
          refine R_st g 8 t 8 (h g 8 f) rfl rfl (by omega) (by decide) (fun h2 eh2 => ?_)
          exact R_ret none h2 rfl ⟨rfl, by rw [eh2, show hset hh g 8 t (h g 8 f) = hset hh g 8 (0 + t) (h g 8 f) by rw [Nat.zero_add]]; exact J.st ht mv_oa.symm (fun j hj hne => mv_ob hne c2 ho hi)⟩
        · obtain ⟨i, rfl⟩ : ∃ y, i = y + 1 := ⟨i - 1, by omega⟩
          refine R_s 7 (60, [(4, vI (nI (i + 1))), (3, vI (h g 8 f)), (0, vR g 0), (1, vI (nI f)), (2, vI (nI t))], [vI (nI 1), vI (nI (i + 1)), vR g 8, vI (nI (i + 1)), vR g 8], hh) rfl ?_
          refine R_sub (i + 1) 1 rfl (by omega) ?_
          refine R_ld g 8 ((i + 1) - 1) 8 rfl rfl (by omega) (by decide) ?_
          refine R_top (h g 8 i) (by rw [Nat.add_sub_cancel, ← z0 hh i, J.1 i (by omega)]; unfold mv2 mv1; rw [if_neg (by omega), if_neg (by omega)]) ?_
          refine R_st g 8 (i + 1) 8 (h g 8 i) rfl rfl (by omega) (by decide) (fun h3 eh3 => ?_)
          refine R_s 1 (66, [(4, vI (nI (i + 1) + Int32.ofInt (-1))), (3, vI (h g 8 f)), (0, vR g 0), (1, vI (nI f)), (2, vI (nI t))], [], h3) rfl ?_
          refine R_lv (lv' := [(4, vI (nI i)), (3, vI (h g 8 f)), (0, vR g 0), (1, vI (nI f)), (2, vI (nI t))]) (by rw [show nI (i + 1) + Int32.ofInt (-1) = nI i from pk_m1 _]) ?_
          refine R_s 1 (41, [(4, vI (nI i)), (3, vI (h g 8 f)), (0, vR g 0), (1, vI (nI f)), (2, vI (nI t))], [], h3) rfl ?_
          exact ih2 i _ (by omega) (by omega) (by omega) (by rw [eh3, show hset hh g 8 (i + 1) (h g 8 i) = hset hh g 8 (0 + (i + 1)) (h g 8 i) by rw [Nat.zero_add]]; exact J.st (by omega) (mv_2a hi).symm (fun j hj hne => mv_2b hne))
    · exact absurd c1 (by omega)
  | succ m ih =>
    intro i hh hfi hit hm I
    refine R_s 3 (cond (if2 .ge (nI i) (nI t)) 38 16, [(4, vI (nI i)), (3, vI (h g 8 f)), (0, vR g 0), (1, vI (nI f)), (2, vI (nI t))], [], hh) rfl ?_
    refine R_bp (t ≤ i) (i2_ge (by omega) (by omega)) (fun c1 => ?_) (fun c1 => ?_)
    · have I2 : OO h hh g 8 (mv2 (h g 8) f t f) 0 := ⟨fun j hj => (I.1 j hj).trans (mv_12 hfi hit c1), I.2.1, I.2.2⟩
      refine R_s 2 (41, [(4, vI (nI f)), (3, vI (h g 8 f)), (0, vR g 0), (1, vI (nI f)), (2, vI (nI t))], [], hh) rfl ?_
      clear I hm ih
      suffices ∀ m i hh, i ≤ f → i ≤ t + m → (t ≤ i ∨ i = f) → OO h hh g 8 (mv2 (h g 8) f t i) 0 → R d mC_shiftOrder (41, [(4, vI (nI i)), (3, vI (h g 8 f)), (0, vR g 0), (1, vI (nI f)), (2, vI (nI t))], [], hh) (fun r h' => r = none ∧ OO h h' g 8 (mvo (h g 8) f t) 0) from this f f hh (by omega) (by omega) (Or.inr rfl) I2
      intro m2
      induction m2 with
      | zero =>
        intro i hh hi hm ho J
        refine R_s 3 (cond (if2 .le (nI i) (nI t)) 69 47, [(4, vI (nI i)), (3, vI (h g 8 f)), (0, vR g 0), (1, vI (nI f)), (2, vI (nI t))], [], hh) rfl ?_
        refine R_bp (i ≤ t) (i2_le (by omega) (by omega)) (fun c2 => ?_) (fun c2 => ?_)
        · refine R_s 4 (75, [(4, vI (nI i)), (3, vI (h g 8 f)), (0, vR g 0), (1, vI (nI f)), (2, vI (nI t))], [vI (h g 8 f), vI (nI t), vR g 8], hh) rfl ?_
          refine R_st g 8 t 8 (h g 8 f) rfl rfl (by omega) (by decide) (fun h4 eh4 => ?_)
          exact R_ret none h4 rfl ⟨rfl, by rw [eh4, show hset hh g 8 t (h g 8 f) = hset hh g 8 (0 + t) (h g 8 f) by rw [Nat.zero_add]]; exact J.st ht mv_oa.symm (fun j hj hne => mv_ob hne c2 ho hi)⟩
        · exact absurd c2 (by omega)
      | succ m2 ih2 =>
        intro i hh hi hm ho J
        refine R_s 3 (cond (if2 .le (nI i) (nI t)) 69 47, [(4, vI (nI i)), (3, vI (h g 8 f)), (0, vR g 0), (1, vI (nI f)), (2, vI (nI t))], [], hh) rfl ?_
        refine R_bp (i ≤ t) (i2_le (by omega) (by omega)) (fun c2 => ?_) (fun c2 => ?_)
        · refine R_s 4 (75, [(4, vI (nI i)), (3, vI (h g 8 f)), (0, vR g 0), (1, vI (nI f)), (2, vI (nI t))], [vI (h g 8 f), vI (nI t), vR g 8], hh) rfl ?_
          refine R_st g 8 t 8 (h g 8 f) rfl rfl (by omega) (by decide) (fun h5 eh5 => ?_)
          exact R_ret none h5 rfl ⟨rfl, by rw [eh5, show hset hh g 8 t (h g 8 f) = hset hh g 8 (0 + t) (h g 8 f) by rw [Nat.zero_add]]; exact J.st ht mv_oa.symm (fun j hj hne => mv_ob hne c2 ho hi)⟩
        · obtain ⟨i, rfl⟩ : ∃ y, i = y + 1 := ⟨i - 1, by omega⟩
          refine R_s 7 (60, [(4, vI (nI (i + 1))), (3, vI (h g 8 f)), (0, vR g 0), (1, vI (nI f)), (2, vI (nI t))], [vI (nI 1), vI (nI (i + 1)), vR g 8, vI (nI (i + 1)), vR g 8], hh) rfl ?_
          refine R_sub (i + 1) 1 rfl (by omega) ?_
          refine R_ld g 8 ((i + 1) - 1) 8 rfl rfl (by omega) (by decide) ?_
          refine R_top (h g 8 i) (by rw [Nat.add_sub_cancel, ← z0 hh i, J.1 i (by omega)]; unfold mv2 mv1; rw [if_neg (by omega), if_neg (by omega)]) ?_
          refine R_st g 8 (i + 1) 8 (h g 8 i) rfl rfl (by omega) (by decide) (fun h6 eh6 => ?_)
          refine R_s 1 (66, [(4, vI (nI (i + 1) + Int32.ofInt (-1))), (3, vI (h g 8 f)), (0, vR g 0), (1, vI (nI f)), (2, vI (nI t))], [], h6) rfl ?_
          refine R_lv (lv' := [(4, vI (nI i)), (3, vI (h g 8 f)), (0, vR g 0), (1, vI (nI f)), (2, vI (nI t))]) (by rw [show nI (i + 1) + Int32.ofInt (-1) = nI i from pk_m1 _]) ?_
          refine R_s 1 (41, [(4, vI (nI i)), (3, vI (h g 8 f)), (0, vR g 0), (1, vI (nI f)), (2, vI (nI t))], [], h6) rfl ?_
          exact ih2 i _ (by omega) (by omega) (by omega) (by rw [eh6, show hset hh g 8 (i + 1) (h g 8 i) = hset hh g 8 (0 + (i + 1)) (h g 8 i) by rw [Nat.zero_add]]; exact J.st (by omega) (mv_2a hi).symm (fun j hj hne => mv_2b hne))
    · refine R_s 7 (29, [(4, vI (nI i)), (3, vI (h g 8 f)), (0, vR g 0), (1, vI (nI f)), (2, vI (nI t))], [vI (nI 1), vI (nI i), vR g 8, vI (nI i), vR g 8], hh) rfl ?_
      refine R_add i 1 rfl ?_
      refine R_ld g 8 (i + 1) 8 rfl rfl (by omega) (by decide) ?_
      refine R_top (h g 8 (i + 1)) (by rw [← z0 hh (i + 1), I.1 (i + 1) (by omega)]; unfold mv1; rw [if_neg (by omega)]) ?_
      refine R_st g 8 i 8 (h g 8 (i + 1)) rfl rfl (by omega) (by decide) (fun h7 eh7 => ?_)
      refine R_s 1 (35, [(4, vI (nI i + Int32.ofInt 1)), (3, vI (h g 8 f)), (0, vR g 0), (1, vI (nI f)), (2, vI (nI t))], [], h7) rfl ?_
      refine R_lv (lv' := [(4, vI (nI (i + 1))), (3, vI (h g 8 f)), (0, vR g 0), (1, vI (nI f)), (2, vI (nI t))]) (by rw [show nI i + Int32.ofInt 1 = nI (i + 1) from nI_add _ _]) ?_
      refine R_s 1 (10, [(4, vI (nI (i + 1))), (3, vI (h g 8 f)), (0, vR g 0), (1, vI (nI f)), (2, vI (nI t))], [], h7) rfl ?_
      exact ih (i + 1) _ (by omega) (by omega) (by omega) (by rw [eh7, show hset hh g 8 i (h g 8 (i + 1)) = hset hh g 8 (0 + i) (h g 8 (i + 1)) by rw [Nat.zero_add]]; exact I.st (by omega) (mv_1a hfi).symm (fun j hj hne => mv_1b hne))
end
section
/-! THE TABLE OF THE ORDERS, as mathematics -/
def comb (a b : Option Nat × Nat) : Option Nat × Nat := match b.1, a.1 with
  | none, _ => a
  | some c, none => (some c, b.2)
  | some c, some l => if c < l then (some c, b.2) else if c = l then (some l, a.2 + b.2) else a
def fd (f : Nat → Option Nat × Nat) : Nat → Option Nat × Nat
  | 0 => (none, 0)
  | i + 1 => comb (fd f i) (f i)
/-- what a next song gives: its cost and the ways, over the table g -/
def cand (W : Nat → Nat → Nat) (may : Nat → Nat → Bool) (g : Nat → Nat → Option Nat × Nat) (S l x : Nat) : Option Nat × Nat :=
  if may S x = true then ((g (S ||| 2 ^ x) x).1.map (fun c => (if S = 0 then 0 else W l x) + c), (g (S ||| 2 ^ x) x).2) else (none, 0)
def G (n : Nat) (W : Nat → Nat → Nat) (may : Nat → Nat → Bool) : Nat → Nat → Nat → Option Nat × Nat
  | 0, _, _ => (some 0, 1)
  | m + 1, S, l => fd (cand W may (G n W may m) S l) n
def GT (n : Nat) (W : Nat → Nat → Nat) (may : Nat → Nat → Bool) (S l : Nat) : Option Nat × Nat := G n W may (n - pop S) S l
theorem fd_congr {f g : Nat → Option Nat × Nat} : ∀ n, (∀ i, i < n → f i = g i) → fd f n = fd g n := by
  intro n
  induction n with
  | zero => intro _; rfl
  | succ n ih =>
    intro h
    show comb (fd f n) (f n) = comb (fd g n) (g n)
    rw [ih (fun i hi => h i (by omega)), h n (by omega)]
theorem or_lt {n S x : Nat} (hS : S < 2 ^ n) (hx : x < n) : S ||| 2 ^ x < 2 ^ n := Nat.or_lt_two_pow hS (Nat.pow_lt_pow_right (by decide) hx)
theorem or_gt {S x : Nat} (h : S.testBit x = false) : S < S ||| 2 ^ x := by
  refine Nat.lt_of_le_of_ne Nat.left_le_or (fun e => ?_)
  have h2 : (S ||| 2 ^ x).testBit x = true := by simp [Nat.testBit_or, Nat.testBit_two_pow_self]
  rw [← e, h] at h2
  cases h2
theorem or_self {S x : Nat} : (S ||| 2 ^ x).testBit x = true := by simp [Nat.testBit_or, Nat.testBit_two_pow_self]
theorem or_pop {n S x : Nat} (hn : n ≤ 8) (hS : S < 2 ^ n) (hx : x < n) (h : S.testBit x = false) : pop (S ||| 2 ^ x) = pop S + 1 := bit_pop S (Nat.lt_of_lt_of_le hS (pw_le hn)) x (by omega) h
theorem GT_step {n : Nat} {W : Nat → Nat → Nat} {may : Nat → Nat → Bool} {S l : Nat} (hn : n ≤ 8) (hm : ∀ S x, may S x = true → S.testBit x = false) (hS : S < 2 ^ n) (hp : pop S < n) : GT n W may S l = fd (cand W may (GT n W may) S l) n := by
  obtain ⟨m, e⟩ : ∃ m, n - pop S = m + 1 := ⟨n - pop S - 1, by omega⟩
  unfold GT
  rw [e]
  show fd (cand W may (G n W may m) S l) n = _
  refine fd_congr n (fun x hx => ?_)
  unfold cand
  by_cases h : may S x = true
  · rw [if_pos h, if_pos h]
    have e2 : n - pop (S ||| 2 ^ x) = m := by rw [or_pop hn hS hx (hm S x h)]; omega
    show _ = (((G n W may (n - pop (S ||| 2 ^ x)) (S ||| 2 ^ x) x).1.map _), (G n W may (n - pop (S ||| 2 ^ x)) (S ||| 2 ^ x) x).2)
    rw [e2]
  · rw [if_neg h, if_neg h]
theorem GT_full {n : Nat} {W : Nat → Nat → Nat} {may : Nat → Nat → Bool} {S l : Nat} (hp : n ≤ pop S) : GT n W may S l = (some 0, 1) := by
  unfold GT
  rw [show n - pop S = 0 by omega]
  rfl
theorem comb_le {a b : Option Nat × Nat} {B : Nat} (ha : ∀ c, a.1 = some c → c ≤ B) (hb : ∀ c, b.1 = some c → c ≤ B) : ∀ c, (comb a b).1 = some c → c ≤ B := by
  intro c
  unfold comb
  cases h1 : b.1 with
  | none => exact ha c
  | some x =>
    cases h2 : a.1 with
    | none => intro e; cases e; exact hb _ h1
    | some y =>
      dsimp only
      split
      · intro e; cases e; exact hb _ h1
      · split
        · intro e; cases e; exact ha _ h2
        · exact ha c
theorem fd_le {f : Nat → Option Nat × Nat} {B : Nat} : ∀ n, (∀ i, i < n → ∀ c, (f i).1 = some c → c ≤ B) → ∀ c, (fd f n).1 = some c → c ≤ B := by
  intro n
  induction n with
  | zero => intro _ c h; cases h
  | succ n ih =>
    intro h
    exact comb_le (ih (fun i hi => h i (by omega))) (h n (by omega))
theorem G_le {n : Nat} {W : Nat → Nat → Nat} {may : Nat → Nat → Bool} (hW : ∀ a b, W a b ≤ 35) : ∀ m S l c, (G n W may m S l).1 = some c → c ≤ 35 * m := by
  intro m
  induction m with
  | zero => intro S l c h; cases h; omega
  | succ m ih =>
    intro S l c h
    refine fd_le n (fun i _ c2 h2 => ?_) c h
    unfold cand at h2
    by_cases hm : may S i = true
    · rw [if_pos hm] at h2
      cases hg : (G n W may m (S ||| 2 ^ i) i).1 with
      | none => rw [hg] at h2; cases h2
      | some z =>
        rw [hg] at h2
        cases h2
        have := ih _ _ _ hg
        have := hW l i
        show (if S = 0 then 0 else W l i) + z ≤ 35 * (m + 1)
        split <;> omega
    · rw [if_neg hm] at h2
      cases h2
theorem GT_le {n : Nat} {W : Nat → Nat → Nat} {may : Nat → Nat → Bool} (hn : n ≤ 8) (hW : ∀ a b, W a b ≤ 35) {S l c : Nat} (h : (GT n W may S l).1 = some c) : c ≤ 280 := by
  have := G_le hW _ _ _ _ h
  omega
/-- the class's numbers: -1 for none -/
def enc : Option Nat → Int32
  | none => -1
  | some c => nI c
def mCl (B : Nat → Nat → Bool) (S x : Nat) : Bool := !(S.testBit x) && B x (pop S)
theorem mCl_bit {B : Nat → Nat → Bool} : ∀ S x, mCl B S x = true → S.testBit x = false := by
  intro S x h
  unfold mCl at h
  cases hb : S.testBit x with
  | false => rfl
  | true => rw [hb] at h; cases h
def ctv (W : Nat → Nat → Nat) (B : Nat → Nat → Bool) (S l x : Nat) (v : Option Nat) : Option Nat := if mCl B S x = true then v.map (fun c => (if S = 0 then 0 else W l x) + c) else none
theorem cand_ctv {W : Nat → Nat → Nat} {B : Nat → Nat → Bool} {g : Nat → Nat → Option Nat × Nat} {S l x : Nat} : (cand W (mCl B) g S l x).1 = ctv W B S l x (g (S ||| 2 ^ x) x).1 := by
  unfold cand ctv
  split <;> rfl
/-- the class's table is loaded -/
def TL (h : HP) (n : Nat) (W : Nat → Nat → Nat) (B : Nat → Nat → Bool) : Prop := h 7 15 0 = nI n ∧ (∀ a b, a < n → b < n → h 7 16 (a * 8 + b) = nI (W a b)) ∧ (∀ a j, a < n → j < n → h 7 17 (a * 8 + j) = bI (B a j))
/-- an entry of the class's table is right -/
def TE (h : HP) (n : Nat) (W : Nat → Nat → Nat) (B : Nat → Nat → Bool) (S l : Nat) : Prop := h 7 18 (S * 8 + l) = enc (GT n W (mCl B) S l).1 ∧ h 7 19 (S * 8 + l) = nI (GT n W (mCl B) S l).2
def FO (h h' : HP) : Prop := ∀ g' j', ¬ (g' = 7 ∧ 15 ≤ j' ∧ j' ≤ 19) → h' g' j' = h g' j'
/-- the first song from x on, of the m next ones, whose value is v -/
def fs (f : Nat → Option Nat) (v : Option Nat) : Nat → Nat → Option Nat
  | 0, _ => none
  | m + 1, x => if (f x).isSome = true ∧ f x = v then some x else fs f v m (x + 1)
def nxt (n : Nat) (W : Nat → Nat → Nat) (may : Nat → Nat → Bool) (S l : Nat) : Option Nat := fs (fun x => (cand W may (GT n W may) S l x).1) (GT n W may S l).1 n 0
/-- the best order, i songs of it: the set and the last song -/
def bch (n : Nat) (W : Nat → Nat → Nat) (may : Nat → Nat → Bool) : Nat → Option (Nat × Nat)
  | 0 => some (0, 0)
  | i + 1 => match bch n W may i with
    | none => none
    | some q => match nxt n W may q.1 q.2 with
      | none => none
      | some x => some (q.1 ||| 2 ^ x, x)
def bsg (n : Nat) (W : Nat → Nat → Nat) (may : Nat → Nat → Bool) (j : Nat) : Option Nat := (bch n W may (j + 1)).map Prod.snd
theorem fs_lt {f : Nat → Option Nat} {v : Option Nat} : ∀ m x y, fs f v m x = some y → x ≤ y ∧ y < x + m ∧ (f y).isSome = true ∧ f y = v := by
  intro m
  induction m with
  | zero => intro x y h; cases h
  | succ m ih =>
    intro x y h
    unfold fs at h
    split at h
    · rename_i q
      cases h
      exact ⟨Nat.le_refl _, by omega, q.1, q.2⟩
    · have := ih _ _ h
      exact ⟨by omega, by omega, this.2.2⟩
theorem nxt_ok {n : Nat} {W : Nat → Nat → Nat} {may : Nat → Nat → Bool} {S l x : Nat} (h : nxt n W may S l = some x) : x < n ∧ may S x = true := by
  have h1 := fs_lt _ _ _ h
  refine ⟨by omega, ?_⟩
  have h2 := h1.2.2.1
  unfold cand at h2
  cases hb : may S x with
  | true => rfl
  | false => rw [hb] at h2; cases h2
theorem bch_ok {n : Nat} {W : Nat → Nat → Nat} {may : Nat → Nat → Bool} (hn : n ≤ 8) (hm : ∀ S x, may S x = true → S.testBit x = false) : ∀ i, i ≤ n → ∀ q, bch n W may i = some q → q.1 < 2 ^ n ∧ pop q.1 = i ∧ (q.1 = 0 ∧ q.2 = 0 ∨ (q.2 < n ∧ q.1.testBit q.2 = true)) := by
  intro i
  induction i with
  | zero =>
    intro _ q h
    cases h
    exact ⟨Nat.pow_pos (by decide), by decide, Or.inl ⟨rfl, rfl⟩⟩
  | succ i ih =>
    intro hi q h
    unfold bch at h
    cases hb : bch n W may i with
    | none => rw [hb] at h; cases h
    | some q0 =>
      rw [hb] at h
      dsimp only at h
      cases hx : nxt n W may q0.1 q0.2 with
      | none => rw [hx] at h; cases h
      | some x =>
        rw [hx] at h
        cases h
        obtain ⟨a1, a2, -⟩ := ih (by omega) q0 hb
        obtain ⟨b1, b2⟩ := nxt_ok hx
        exact ⟨or_lt a1 b1, by rw [or_pop hn a1 b1 (hm _ _ b2), a2], Or.inr ⟨b1, or_self⟩⟩
theorem pop_lt : ∀ n, n < 9 → ∀ S, S < 2 ^ n → S + 1 < 2 ^ n → pop S < n := by decide +kernel
theorem pop_full : ∀ n, n < 9 → pop (2 ^ n - 1) = n := by decide +kernel
theorem full_bit : ∀ n, n < 9 → ∀ x, x < n → (2 ^ n - 1).testBit x = true := by decide +kernel
theorem bit_lt' : ∀ n, n < 9 → ∀ S, S < 2 ^ n → ∀ x, x < 8 → S.testBit x = true → x < n := by decide +kernel
theorem popn {n S x : Nat} (hn : n ≤ 8) (hS : S < 2 ^ n) (hx : x < n) (h : S.testBit x = false) : pop S < n := by
  apply pop_lt n (by omega) S hS
  have h1 : S < S ||| 2 ^ x := or_gt h
  have h2 : S ||| 2 ^ x < 2 ^ n := or_lt hS hx
  omega
end
section
theorem e2_m1 {c : Nat} (h : c < 2147483648) : if2 .eq (nI c) (-1) = false := by
  unfold if2
  exact decide_eq_false (nI_ne_m1 h)
theorem i0_ne {S : Nat} (h : S < 2147483648) : if0 .ne (nI S) = true ↔ ¬ S = 0 := by
  rw [x0_ne, ← nI_0, nI_eq h (by decide)]
theorem i0_eq {S : Nat} (h : S < 2147483648) : if0 .eq (nI S) = true ↔ S = 0 := by
  rw [x0_eq, ← nI_0, nI_eq h (by decide)]
theorem t_O_cellOf {d S l : Nat} {h : HP} : MT d mO_cellOf [vR 7 15, vI (nI S), vI (nI l)] h (fun r h' => r = some (vI (nI (S * 8 + l))) ∧ h' = h) := by
  refine R_s 2 (3, [(0, vR 7 15), (1, vI (nI S)), (2, vI (nI l))], [vI (nI 8), vI (nI S)], h) rfl ?_
  refine R_mul S 8 rfl ?_
  refine R_s 1 (5, [(0, vR 7 15), (1, vI (nI S)), (2, vI (nI l))], [vI (nI l), vI (nI (S * 8))], h) rfl ?_
  refine R_add (S * 8) l rfl ?_
  exact R_ret (some (vI (nI ((S * 8) + l)))) h rfl ⟨rfl, rfl⟩
theorem t_O_costThrough {d n S l x : Nat} {h : HP} {W : Nat → Nat → Nat} {B : Nat → Nat → Bool} (T : TL h n W B) (hn : n ≤ 8) (hS : S < 2 ^ n) (hl : l < n) (hx : x < n) {v : Option Nat} (hv : S.testBit x = false → h 7 18 ((S ||| 2 ^ x) * 8 + x) = enc v) (hc : ∀ c, v = some c → c ≤ 280) : MT (d + 1) mO_costThrough [vR 7 15, vI (nI S), vI (nI l), vI (nI x)] h (fun r h' => r = some (vI (enc (ctv W B S l x v))) ∧ h' = h) := by
  have hS8 : S < 256 := Nat.lt_of_lt_of_le hS (pw_le hn)
  have hb := bit_lt S hS8 x (by omega)
  refine R_s 1 (1, [(0, vR 7 15), (1, vI (nI S)), (2, vI (nI l)), (3, vI (nI x))], [vI (nI S)], h) rfl ?_
  refine R_calli mI_bitCount [vI (nI S)] [] (nI (pop S)) h rfl (t_I_bitCount hS8) ?_
  refine R_s 6 (11, [(4, vI (nI (pop S))), (0, vR 7 15), (1, vI (nI S)), (2, vI (nI l)), (3, vI (nI x))], [vI (((nI S) >>> ((nI x) &&& 31)) &&& (nI 1))], h) rfl ?_
  refine R_top (nI (if S.testBit x then 1 else 0)) (bit_sh S hS8 x (by omega)) ?_
  refine R_s 2 (cond (if2 .eq (nI (if S.testBit x then 1 else 0)) (nI 1)) 30 15, [(4, vI (nI (pop S))), (0, vR 7 15), (1, vI (nI S)), (2, vI (nI l)), (3, vI (nI x))], [], h) rfl ?_
  refine R_bp (S.testBit x = true) i2_eb (fun c1 => ?_) (fun c1 => ?_)
  · refine R_s 1 (31, [(4, vI (nI (pop S))), (0, vR 7 15), (1, vI (nI S)), (2, vI (nI l)), (3, vI (nI x))], [vI (-1)], h) rfl ?_
    exact R_ret (some (vI (-1))) h rfl ⟨by unfold ctv mCl; rw [c1]; rfl, rfl⟩
  · have ht : S.testBit x = false := by cases q : S.testBit x with
      | false => rfl
      | true => exact absurd q c1
    have hp := popn hn hS hx ht
    refine R_s 4 (22, [(4, vI (nI (pop S))), (0, vR 7 15), (1, vI (nI S)), (2, vI (nI l)), (3, vI (nI x))], [vI (nI 8), vI (nI x), vR 7 17], h) rfl ?_
    refine R_mul x 8 rfl ?_
    refine R_s 1 (25, [(4, vI (nI (pop S))), (0, vR 7 15), (1, vI (nI S)), (2, vI (nI l)), (3, vI (nI x))], [vI (nI (pop S)), vI (nI (x * 8)), vR 7 17], h) rfl ?_
    refine R_add (x * 8) (pop S) rfl ?_
    refine R_ldb 7 17 ((x * 8) + (pop S)) 64 rfl rfl (by omega) (by decide) ?_
    refine R_top (bI (B x (pop S))) (T.2.2 x (pop S) hx hp) ?_
    refine R_s 1 (cond (if0 .ne (bI (B x (pop S)))) 32 30, [(4, vI (nI (pop S))), (0, vR 7 15), (1, vI (nI S)), (2, vI (nI l)), (3, vI (nI x))], [], h) rfl ?_
    refine R_bp (B x (pop S) = true) (x0_ne.trans bI_ne) (fun c2 => ?_) (fun c2 => ?_)
    · have hmc : mCl B S x = true := by unfold mCl; rw [ht, c2]; rfl
      refine R_s 8 (42, [(4, vI (nI (pop S))), (0, vR 7 15), (1, vI (nI S)), (2, vI (nI l)), (3, vI (nI x))], [vI ((nI S) ||| ((nI 1) <<< ((nI x) &&& 31))), vR 7 15, vR 7 18], h) rfl ?_
      refine R_top (nI (S ||| 2 ^ x)) (bit_or S hS8 x (by omega)) ?_
      refine R_s 1 (43, [(4, vI (nI (pop S))), (0, vR 7 15), (1, vI (nI S)), (2, vI (nI l)), (3, vI (nI x))], [vI (nI x), vI (nI (S ||| 2 ^ x)), vR 7 15, vR 7 18], h) rfl ?_
      refine R_calli mO_cellOf [vR 7 15, vI (nI (S ||| 2 ^ x)), vI (nI x)] [vR 7 18] (nI ((S ||| 2 ^ x) * 8 + x)) h rfl t_O_cellOf ?_
      refine R_ld 7 18 ((S ||| 2 ^ x) * 8 + x) 2048 rfl rfl (by omega) (by decide) ?_
      refine R_top (enc v) (hv ht) ?_
      rcases v with _ | c
      · refine R_s 4 (cond (if2 .eq (enc none) (-1)) 59 55, [(5, vI (enc none)), (4, vI (nI (pop S))), (0, vR 7 15), (1, vI (nI S)), (2, vI (nI l)), (3, vI (nI x))], [], h) rfl ?_
        refine R_bt (by decide) ?_
        refine R_s 1 (61, [(5, vI (enc none)), (4, vI (nI (pop S))), (0, vR 7 15), (1, vI (nI S)), (2, vI (nI l)), (3, vI (nI x))], [vI (enc none)], h) rfl ?_
        exact R_ret (some (vI (enc none))) h rfl ⟨by unfold ctv; rw [if_pos hmc]; rfl, rfl⟩
      · have hc280 := hc c rfl
        refine R_top (nI c) rfl ?_
        refine R_s 4 (cond (if2 .eq (nI c) (-1)) 59 55, [(5, vI (nI c)), (4, vI (nI (pop S))), (0, vR 7 15), (1, vI (nI S)), (2, vI (nI l)), (3, vI (nI x))], [], h) rfl ?_
        refine R_bf (e2_m1 (by omega)) ?_
        refine R_s 2 (cond (if0 .ne (nI S)) 62 59, [(5, vI (nI c)), (4, vI (nI (pop S))), (0, vR 7 15), (1, vI (nI S)), (2, vI (nI l)), (3, vI (nI x))], [], h) rfl ?_
        refine R_bp (¬ S = 0) (i0_ne (by omega)) (fun c3 => ?_) (fun c3 => ?_)
        · refine R_s 4 (69, [(5, vI (nI c)), (4, vI (nI (pop S))), (0, vR 7 15), (1, vI (nI S)), (2, vI (nI l)), (3, vI (nI x))], [vI (nI 8), vI (nI l), vR 7 16], h) rfl ?_
          refine R_mul l 8 rfl ?_
          refine R_s 1 (71, [(5, vI (nI c)), (4, vI (nI (pop S))), (0, vR 7 15), (1, vI (nI S)), (2, vI (nI l)), (3, vI (nI x))], [vI (nI x), vI (nI (l * 8)), vR 7 16], h) rfl ?_
          refine R_add (l * 8) x rfl ?_
          refine R_ld 7 16 ((l * 8) + x) 64 rfl rfl (by omega) (by decide) ?_
          refine R_top (nI (W l x)) (T.2.1 l x hl hx) ?_
          refine R_s 1 (75, [(5, vI (nI c)), (4, vI (nI (pop S))), (0, vR 7 15), (1, vI (nI S)), (2, vI (nI l)), (3, vI (nI x))], [vI (nI c), vI (nI (W l x))], h) rfl ?_
          refine R_add (W l x) c rfl ?_
          exact R_ret (some (vI (nI ((W l x) + c)))) h rfl ⟨by unfold ctv; rw [if_pos hmc, if_neg c3]; rfl, rfl⟩
        · refine R_s 1 (61, [(5, vI (nI c)), (4, vI (nI (pop S))), (0, vR 7 15), (1, vI (nI S)), (2, vI (nI l)), (3, vI (nI x))], [vI (nI c)], h) rfl ?_
          exact R_ret (some (vI (nI c))) h rfl ⟨by unfold ctv; rw [if_pos hmc, if_pos (Classical.not_not.mp c3)]; show _ = some (vI (nI (0 + c))); rw [Nat.zero_add], rfl⟩
    · refine R_s 1 (31, [(4, vI (nI (pop S))), (0, vR 7 15), (1, vI (nI S)), (2, vI (nI l)), (3, vI (nI x))], [vI (-1)], h) rfl ?_
      exact R_ret (some (vI (-1))) h rfl ⟨by unfold ctv mCl; rw [ht]; rw [if_neg (by simpa using c2)]; rfl, rfl⟩
/-- the tables right for all larger sets -/
def TU (h : HP) (n : Nat) (W : Nat → Nat → Nat) (B : Nat → Nat → Bool) (S : Nat) : Prop := ∀ x, x < n → S.testBit x = false → TE h n W B (S ||| 2 ^ x) x
theorem cmb_n {a b : Option Nat × Nat} (h : b.1 = none) : comb a b = a := by unfold comb; rw [h]
theorem cmb_0 {a b : Option Nat × Nat} {c : Nat} (h : b.1 = some c) (h2 : a.1 = none) : comb a b = (some c, b.2) := by unfold comb; rw [h, h2]
theorem cmb_l {a b : Option Nat × Nat} {c l : Nat} (h : b.1 = some c) (h2 : a.1 = some l) (q : c < l) : comb a b = (some c, b.2) := by unfold comb; rw [h, h2]; dsimp only; rw [if_pos q]
theorem cmb_e {a b : Option Nat × Nat} {c l : Nat} (h : b.1 = some c) (h2 : a.1 = some l) (q : c = l) : comb a b = (some c, a.2 + b.2) := by unfold comb; rw [h, h2]; dsimp only; rw [if_neg (by omega), if_pos q, q]
theorem cmb_g {a b : Option Nat × Nat} {c l : Nat} (h : b.1 = some c) (h2 : a.1 = some l) (q : l < c) : comb a b = a := by unfold comb; rw [h, h2]; dsimp only; rw [if_neg (by omega), if_neg (by omega)]
theorem t_O_settle {d n S l : Nat} {h : HP} {W : Nat → Nat → Nat} {B : Nat → Nat → Bool} (T : TL h n W B) (hW : ∀ a b, W a b ≤ 35) (hn : n ≤ 8) (hS : S < 2 ^ n) (hl : l < n) (hp : pop S < n) (U : TU h n W B S) : MT (d + 2) mO_settle [vR 7 15, vI (nI S), vI (nI l)] h (fun r h' => r = none ∧ h' = hset (hset h 7 18 (S * 8 + l) (enc (GT n W (mCl B) S l).1)) 7 19 (S * 8 + l) (nI (GT n W (mCl B) S l).2)) := by
  have hS8 : S < 256 := Nat.lt_of_lt_of_le hS (pw_le hn)
  rw [GT_step hn mCl_bit hS hp]
  generalize hcd : cand W (mCl B) (GT n W (mCl B)) S l = cd
  have hcle : ∀ x, x < n → ∀ c, (cd x).1 = some c → c ≤ 315 := by
    intro x _ c hc
    rw [← hcd, cand_ctv] at hc
    unfold ctv at hc
    split at hc
    · cases hg : (GT n W (mCl B) (S ||| 2 ^ x) x).1 with
      | none => rw [hg] at hc; cases hc
      | some z =>
        rw [hg] at hc
        cases hc
        have := GT_le hn hW hg
        have := hW l x
        show (if S = 0 then 0 else W l x) + z ≤ 315
        split <;> omega
    · cases hc
  refine R_s 6 (8, [(5, vI (nI 0)), (4, vI (nI 0)), (3, vI (-1)), (0, vR 7 15), (1, vI (nI S)), (2, vI (nI l))], [], h) rfl ?_
  suffices ∀ m x A o, x + m = n → fd cd x = (A, o) → R (d + 2) mO_settle (8, [(5, vI (nI x)), (4, vI (nI o)), (3, vI (enc A)), (0, vR 7 15), (1, vI (nI S)), (2, vI (nI l))], [], h) (fun r h' => r = none ∧ h' = hset (hset h 7 18 (S * 8 + l) (enc (fd cd n).1)) 7 19 (S * 8 + l) (nI (fd cd n).2)) from this n 0 none 0 (by omega) rfl
  intro m
  induction m with
  | zero =>
    intro x A o hm hA
    refine R_s 3 (14, [(5, vI (nI x)), (4, vI (nI o)), (3, vI (enc A)), (0, vR 7 15), (1, vI (nI S)), (2, vI (nI l))], [vI (h 7 15 0), vI (nI x)], h) rfl ?_
    refine R_top (nI n) T.1 ?_
    refine R_s 1 (cond (if2 .ge (nI x) (nI n)) 90 17, [(5, vI (nI x)), (4, vI (nI o)), (3, vI (enc A)), (0, vR 7 15), (1, vI (nI S)), (2, vI (nI l))], [], h) rfl ?_
    refine R_bp (n ≤ x) (i2_ge (by omega) (by omega)) (fun c1 => ?_) (fun c1 => ?_)
    · refine R_s 5 (97, [(5, vI (nI x)), (4, vI (nI o)), (3, vI (enc A)), (0, vR 7 15), (1, vI (nI S)), (2, vI (nI l))], [vI (nI l), vI (nI S), vR 7 15, vR 7 18], h) rfl ?_
      refine R_calli mO_cellOf [vR 7 15, vI (nI S), vI (nI l)] [vR 7 18] (nI (S * 8 + l)) h rfl t_O_cellOf ?_
      refine R_s 1 (101, [(5, vI (nI x)), (4, vI (nI o)), (3, vI (enc A)), (0, vR 7 15), (1, vI (nI S)), (2, vI (nI l))], [vI (enc A), vI (nI (S * 8 + l)), vR 7 18], h) rfl ?_
      refine R_st 7 18 (S * 8 + l) 2048 (enc A) rfl rfl (by omega) (by decide) (fun h1 eh1 => ?_)
      refine R_s 5 (109, [(5, vI (nI x)), (4, vI (nI o)), (3, vI (enc A)), (0, vR 7 15), (1, vI (nI S)), (2, vI (nI l))], [vI (nI l), vI (nI S), vR 7 15, vR 7 19], h1) rfl ?_
      refine R_calli mO_cellOf [vR 7 15, vI (nI S), vI (nI l)] [vR 7 19] (nI (S * 8 + l)) h1 rfl t_O_cellOf ?_
      refine R_s 1 (114, [(5, vI (nI x)), (4, vI (nI o)), (3, vI (enc A)), (0, vR 7 15), (1, vI (nI S)), (2, vI (nI l))], [vI (nI o), vI (nI (S * 8 + l)), vR 7 19], h1) rfl ?_
      refine R_st 7 19 (S * 8 + l) 2048 (nI o) rfl rfl (by omega) (by decide) (fun h2 eh2 => ?_)
      exact R_ret none h2 rfl ⟨rfl, by rw [eh2, eh1, ← show x = n by omega, hA]⟩
    · exact absurd hm (by omega)
  | succ m ih =>
    intro x A o hm hA
    refine R_s 3 (14, [(5, vI (nI x)), (4, vI (nI o)), (3, vI (enc A)), (0, vR 7 15), (1, vI (nI S)), (2, vI (nI l))], [vI (h 7 15 0), vI (nI x)], h) rfl ?_
    refine R_top (nI n) T.1 ?_
    refine R_s 1 (cond (if2 .ge (nI x) (nI n)) 90 17, [(5, vI (nI x)), (4, vI (nI o)), (3, vI (enc A)), (0, vR 7 15), (1, vI (nI S)), (2, vI (nI l))], [], h) rfl ?_
    refine R_bp (n ≤ x) (i2_ge (by omega) (by omega)) (fun c1 => ?_) (fun c1 => ?_)
    · refine R_s 5 (97, [(5, vI (nI x)), (4, vI (nI o)), (3, vI (enc A)), (0, vR 7 15), (1, vI (nI S)), (2, vI (nI l))], [vI (nI l), vI (nI S), vR 7 15, vR 7 18], h) rfl ?_
      refine R_calli mO_cellOf [vR 7 15, vI (nI S), vI (nI l)] [vR 7 18] (nI (S * 8 + l)) h rfl t_O_cellOf ?_
      refine R_s 1 (101, [(5, vI (nI x)), (4, vI (nI o)), (3, vI (enc A)), (0, vR 7 15), (1, vI (nI S)), (2, vI (nI l))], [vI (enc A), vI (nI (S * 8 + l)), vR 7 18], h) rfl ?_
      refine R_st 7 18 (S * 8 + l) 2048 (enc A) rfl rfl (by omega) (by decide) (fun h3 eh3 => ?_)
      refine R_s 5 (109, [(5, vI (nI x)), (4, vI (nI o)), (3, vI (enc A)), (0, vR 7 15), (1, vI (nI S)), (2, vI (nI l))], [vI (nI l), vI (nI S), vR 7 15, vR 7 19], h3) rfl ?_
      refine R_calli mO_cellOf [vR 7 15, vI (nI S), vI (nI l)] [vR 7 19] (nI (S * 8 + l)) h3 rfl t_O_cellOf ?_
      refine R_s 1 (114, [(5, vI (nI x)), (4, vI (nI o)), (3, vI (enc A)), (0, vR 7 15), (1, vI (nI S)), (2, vI (nI l))], [vI (nI o), vI (nI (S * 8 + l)), vR 7 19], h3) rfl ?_
      refine R_st 7 19 (S * 8 + l) 2048 (nI o) rfl rfl (by omega) (by decide) (fun h4 eh4 => ?_)
      exact R_ret none h4 rfl ⟨rfl, by rw [eh4, eh3, ← show x = n by omega, hA]⟩
    · have hb := bit_lt S hS8 x (by omega)
      have hU := U x (by omega)
      refine R_s 4 (22, [(5, vI (nI x)), (4, vI (nI o)), (3, vI (enc A)), (0, vR 7 15), (1, vI (nI S)), (2, vI (nI l))], [vI (nI x), vI (nI l), vI (nI S), vR 7 15], h) rfl ?_
      refine R_calli mO_costThrough [vR 7 15, vI (nI S), vI (nI l), vI (nI x)] [] (enc (cd x).1) h rfl (by rw [← hcd, cand_ctv]; exact t_O_costThrough T hn hS hl (by omega) (v := (GT n W (mCl B) (S ||| 2 ^ x) x).1) (fun z => (hU z).1) (fun c z => GT_le hn hW z)) ?_
      cases hcx : (cd x).1 with
      | none =>
        refine R_s 4 (cond (if2 .eq (enc none) (-1)) 50 33, [(6, vI (enc none)), (5, vI (nI x)), (4, vI (nI o)), (3, vI (enc A)), (0, vR 7 15), (1, vI (nI S)), (2, vI (nI l))], [], h) rfl ?_
        refine R_bt (by decide) ?_
        refine R_s 3 (cond (if2 .eq (enc none) (-1)) 84 56, [(6, vI (enc none)), (5, vI (nI x)), (4, vI (nI o)), (3, vI (enc A)), (0, vR 7 15), (1, vI (nI S)), (2, vI (nI l))], [], h) rfl ?_
        refine R_bt (by decide) ?_
        refine R_s 1 (87, [(5, vI (nI x + Int32.ofInt 1)), (6, vI (enc none)), (4, vI (nI o)), (3, vI (enc A)), (0, vR 7 15), (1, vI (nI S)), (2, vI (nI l))], [], h) rfl ?_
        refine R_lv (lv' := [(5, vI (nI (x + 1))), (6, vI (enc none)), (4, vI (nI o)), (3, vI (enc A)), (0, vR 7 15), (1, vI (nI S)), (2, vI (nI l))]) (by rw [show nI x + Int32.ofInt 1 = nI (x + 1) from nI_add _ _]) ?_
        refine R_s 1 (8, [(5, vI (nI (x + 1))), (6, vI (enc none)), (4, vI (nI o)), (3, vI (enc A)), (0, vR 7 15), (1, vI (nI S)), (2, vI (nI l))], [], h) rfl ?_
        refine R_fg (lv' := [(5, vI (nI (x + 1))), (4, vI (nI o)), (3, vI (enc A)), (0, vR 7 15), (1, vI (nI S)), (2, vI (nI l))]) [0, 2, 3, 4, 5, 6] rfl [5, 6, 4, 3, 0, 1, 2] rfl (by decide) ?_
        exact ih (x + 1) A o (by omega) (by show comb (fd cd x) (cd x) = _; rw [cmb_n hcx, hA])
      | some c =>
        have hc315 := hcle x (by omega) c hcx
        refine R_top (nI c) rfl ?_
        have hmay : mCl B S x = true := by
          cases hb9 : mCl B S x with
          | true => rfl
          | false => rw [← hcd] at hcx; unfold cand at hcx; rw [hb9] at hcx; cases hcx
        have hw : h 7 19 ((S ||| 2 ^ x) * 8 + x) = nI (cd x).2 := by
          rw [(hU (mCl_bit S x hmay)).2, ← hcd]; unfold cand; rw [if_pos hmay]
        refine R_s 4 (cond (if2 .eq (nI c) (-1)) 50 33, [(6, vI (nI c)), (5, vI (nI x)), (4, vI (nI o)), (3, vI (enc A)), (0, vR 7 15), (1, vI (nI S)), (2, vI (nI l))], [], h) rfl ?_
        refine R_bf (e2_m1 (by omega)) ?_
        cases A with
        | none =>
          refine R_s 3 (cond (if2 .eq (enc none) (-1)) 44 38, [(6, vI (nI c)), (5, vI (nI x)), (4, vI (nI o)), (3, vI (enc none)), (0, vR 7 15), (1, vI (nI S)), (2, vI (nI l))], [], h) rfl ?_
          refine R_bt (by decide) ?_
          refine R_s 7 (cond (if2 .eq (nI c) (-1)) 84 56, [(4, vI (nI 0)), (3, vI (nI c)), (6, vI (nI c)), (5, vI (nI x)), (0, vR 7 15), (1, vI (nI S)), (2, vI (nI l))], [], h) rfl ?_
          refine R_bf (e2_m1 (by omega)) ?_
          refine R_s 3 (cond (if2 .ne (nI c) (nI c)) 84 62, [(4, vI (nI 0)), (3, vI (nI c)), (6, vI (nI c)), (5, vI (nI x)), (0, vR 7 15), (1, vI (nI S)), (2, vI (nI l))], [], h) rfl ?_
          refine R_bf (by unfold if2; exact decide_eq_false (fun q => q rfl)) ?_
          refine R_s 9 (75, [(4, vI (nI 0)), (3, vI (nI c)), (6, vI (nI c)), (5, vI (nI x)), (0, vR 7 15), (1, vI (nI S)), (2, vI (nI l))], [vI ((nI S) ||| ((nI 1) <<< ((nI x) &&& 31))), vR 7 15, vR 7 19, vI (nI 0)], h) rfl ?_
          refine R_top (nI (S ||| 2 ^ x)) (bit_or S hS8 x (by omega)) ?_
          refine R_s 1 (77, [(4, vI (nI 0)), (3, vI (nI c)), (6, vI (nI c)), (5, vI (nI x)), (0, vR 7 15), (1, vI (nI S)), (2, vI (nI l))], [vI (nI x), vI (nI (S ||| 2 ^ x)), vR 7 15, vR 7 19, vI (nI 0)], h) rfl ?_
          refine R_calli mO_cellOf [vR 7 15, vI (nI (S ||| 2 ^ x)), vI (nI x)] [vR 7 19, vI (nI 0)] (nI ((S ||| 2 ^ x) * 8 + x)) h rfl t_O_cellOf ?_
          refine R_ld 7 19 ((S ||| 2 ^ x) * 8 + x) 2048 rfl rfl (by omega) (by decide) ?_
          refine R_top (nI ((cd x).2)) hw ?_
          refine R_add 0 ((cd x).2) rfl ?_
          refine R_s 2 (87, [(5, vI (nI x + Int32.ofInt 1)), (4, vI (nI (0 + ((cd x).2)))), (3, vI (nI c)), (6, vI (nI c)), (0, vR 7 15), (1, vI (nI S)), (2, vI (nI l))], [], h) rfl ?_
          refine R_lv (lv' := [(5, vI (nI (x + 1))), (4, vI (nI (0 + ((cd x).2)))), (3, vI (nI c)), (6, vI (nI c)), (0, vR 7 15), (1, vI (nI S)), (2, vI (nI l))]) (by rw [show nI x + Int32.ofInt 1 = nI (x + 1) from nI_add _ _]) ?_
          refine R_s 1 (8, [(5, vI (nI (x + 1))), (4, vI (nI (0 + ((cd x).2)))), (3, vI (nI c)), (6, vI (nI c)), (0, vR 7 15), (1, vI (nI S)), (2, vI (nI l))], [], h) rfl ?_
          refine R_lv (lv' := [(5, vI (nI (x + 1))), (4, vI (nI (0 + ((cd x).2)))), (3, vI (enc (some c))), (6, vI (nI c)), (0, vR 7 15), (1, vI (nI S)), (2, vI (nI l))]) rfl ?_
          refine R_fg (lv' := [(5, vI (nI (x + 1))), (4, vI (nI (0 + ((cd x).2)))), (3, vI (enc (some c))), (0, vR 7 15), (1, vI (nI S)), (2, vI (nI l))]) [0, 1, 2, 4, 5, 6] rfl [5, 4, 3, 6, 0, 1, 2] rfl (by decide) ?_
          exact ih (x + 1) (some c) (0 + (cd x).2) (by omega) (by show comb (fd cd x) (cd x) = _; rw [cmb_0 hcx (by rw [hA]), Nat.zero_add])
        | some a =>
          have ha315 : a ≤ 315 := fd_le x (fun i hi => hcle i (by omega)) a (by rw [hA])
          refine R_lv (lv' := [(6, vI (nI c)), (5, vI (nI x)), (4, vI (nI o)), (3, vI (nI a)), (0, vR 7 15), (1, vI (nI S)), (2, vI (nI l))]) rfl ?_
          refine R_s 3 (cond (if2 .eq (nI a) (-1)) 44 38, [(6, vI (nI c)), (5, vI (nI x)), (4, vI (nI o)), (3, vI (nI a)), (0, vR 7 15), (1, vI (nI S)), (2, vI (nI l))], [], h) rfl ?_
          refine R_bf (e2_m1 (by omega)) ?_
          refine R_s 3 (cond (if2 .ge (nI c) (nI a)) 50 44, [(6, vI (nI c)), (5, vI (nI x)), (4, vI (nI o)), (3, vI (nI a)), (0, vR 7 15), (1, vI (nI S)), (2, vI (nI l))], [], h) rfl ?_
          refine R_bp (a ≤ c) (i2_ge (by omega) (by omega)) (fun c2 => ?_) (fun c2 => ?_)
          · refine R_s 3 (cond (if2 .eq (nI c) (-1)) 84 56, [(6, vI (nI c)), (5, vI (nI x)), (4, vI (nI o)), (3, vI (nI a)), (0, vR 7 15), (1, vI (nI S)), (2, vI (nI l))], [], h) rfl ?_
            refine R_bf (e2_m1 (by omega)) ?_
            refine R_s 3 (cond (if2 .ne (nI c) (nI a)) 84 62, [(6, vI (nI c)), (5, vI (nI x)), (4, vI (nI o)), (3, vI (nI a)), (0, vR 7 15), (1, vI (nI S)), (2, vI (nI l))], [], h) rfl ?_
            refine R_bp (¬ c = a) (i2_ne (by omega) (by omega)) (fun c3 => ?_) (fun c3 => ?_)
            · refine R_s 1 (87, [(5, vI (nI x + Int32.ofInt 1)), (6, vI (nI c)), (4, vI (nI o)), (3, vI (nI a)), (0, vR 7 15), (1, vI (nI S)), (2, vI (nI l))], [], h) rfl ?_
              refine R_lv (lv' := [(5, vI (nI (x + 1))), (6, vI (nI c)), (4, vI (nI o)), (3, vI (nI a)), (0, vR 7 15), (1, vI (nI S)), (2, vI (nI l))]) (by rw [show nI x + Int32.ofInt 1 = nI (x + 1) from nI_add _ _]) ?_
              refine R_s 1 (8, [(5, vI (nI (x + 1))), (6, vI (nI c)), (4, vI (nI o)), (3, vI (nI a)), (0, vR 7 15), (1, vI (nI S)), (2, vI (nI l))], [], h) rfl ?_
              refine R_lv (lv' := [(5, vI (nI (x + 1))), (6, vI (nI c)), (4, vI (nI o)), (3, vI (enc (some a))), (0, vR 7 15), (1, vI (nI S)), (2, vI (nI l))]) rfl ?_
              refine R_fg (lv' := [(5, vI (nI (x + 1))), (4, vI (nI o)), (3, vI (enc (some a))), (0, vR 7 15), (1, vI (nI S)), (2, vI (nI l))]) [0, 2, 3, 4, 5, 6] rfl [5, 6, 4, 3, 0, 1, 2] rfl (by decide) ?_
              exact ih (x + 1) (some a) o (by omega) (by show comb (fd cd x) (cd x) = _; rw [cmb_g hcx (by rw [hA]) (show a < c by omega), hA])
            · refine R_s 9 (75, [(6, vI (nI c)), (5, vI (nI x)), (4, vI (nI o)), (3, vI (nI a)), (0, vR 7 15), (1, vI (nI S)), (2, vI (nI l))], [vI ((nI S) ||| ((nI 1) <<< ((nI x) &&& 31))), vR 7 15, vR 7 19, vI (nI o)], h) rfl ?_
              refine R_top (nI (S ||| 2 ^ x)) (bit_or S hS8 x (by omega)) ?_
              refine R_s 1 (77, [(6, vI (nI c)), (5, vI (nI x)), (4, vI (nI o)), (3, vI (nI a)), (0, vR 7 15), (1, vI (nI S)), (2, vI (nI l))], [vI (nI x), vI (nI (S ||| 2 ^ x)), vR 7 15, vR 7 19, vI (nI o)], h) rfl ?_
              refine R_calli mO_cellOf [vR 7 15, vI (nI (S ||| 2 ^ x)), vI (nI x)] [vR 7 19, vI (nI o)] (nI ((S ||| 2 ^ x) * 8 + x)) h rfl t_O_cellOf ?_
              refine R_ld 7 19 ((S ||| 2 ^ x) * 8 + x) 2048 rfl rfl (by omega) (by decide) ?_
              refine R_top (nI ((cd x).2)) hw ?_
              refine R_add o ((cd x).2) rfl ?_
              refine R_s 2 (87, [(5, vI (nI x + Int32.ofInt 1)), (4, vI (nI (o + ((cd x).2)))), (6, vI (nI c)), (3, vI (nI a)), (0, vR 7 15), (1, vI (nI S)), (2, vI (nI l))], [], h) rfl ?_
              refine R_lv (lv' := [(5, vI (nI (x + 1))), (4, vI (nI (o + ((cd x).2)))), (6, vI (nI c)), (3, vI (nI a)), (0, vR 7 15), (1, vI (nI S)), (2, vI (nI l))]) (by rw [show nI x + Int32.ofInt 1 = nI (x + 1) from nI_add _ _]) ?_
              refine R_s 1 (8, [(5, vI (nI (x + 1))), (4, vI (nI (o + ((cd x).2)))), (6, vI (nI c)), (3, vI (nI a)), (0, vR 7 15), (1, vI (nI S)), (2, vI (nI l))], [], h) rfl ?_
              refine R_lv (lv' := [(5, vI (nI (x + 1))), (4, vI (nI (o + ((cd x).2)))), (6, vI (nI c)), (3, vI (enc (some a))), (0, vR 7 15), (1, vI (nI S)), (2, vI (nI l))]) rfl ?_
              refine R_fg (lv' := [(5, vI (nI (x + 1))), (4, vI (nI (o + ((cd x).2)))), (3, vI (enc (some a))), (0, vR 7 15), (1, vI (nI S)), (2, vI (nI l))]) [0, 1, 3, 4, 5, 6] rfl [5, 4, 6, 3, 0, 1, 2] rfl (by decide) ?_
              exact ih (x + 1) (some a) (o + (cd x).2) (by omega) (by show comb (fd cd x) (cd x) = _; rw [cmb_e hcx (by rw [hA]) (Classical.not_not.mp c3), hA, Classical.not_not.mp c3])
          · refine R_s 7 (cond (if2 .eq (nI c) (-1)) 84 56, [(4, vI (nI 0)), (3, vI (nI c)), (6, vI (nI c)), (5, vI (nI x)), (0, vR 7 15), (1, vI (nI S)), (2, vI (nI l))], [], h) rfl ?_
            refine R_bf (e2_m1 (by omega)) ?_
            refine R_s 3 (cond (if2 .ne (nI c) (nI c)) 84 62, [(4, vI (nI 0)), (3, vI (nI c)), (6, vI (nI c)), (5, vI (nI x)), (0, vR 7 15), (1, vI (nI S)), (2, vI (nI l))], [], h) rfl ?_
            refine R_bf (by unfold if2; exact decide_eq_false (fun q => q rfl)) ?_
            refine R_s 9 (75, [(4, vI (nI 0)), (3, vI (nI c)), (6, vI (nI c)), (5, vI (nI x)), (0, vR 7 15), (1, vI (nI S)), (2, vI (nI l))], [vI ((nI S) ||| ((nI 1) <<< ((nI x) &&& 31))), vR 7 15, vR 7 19, vI (nI 0)], h) rfl ?_
            refine R_top (nI (S ||| 2 ^ x)) (bit_or S hS8 x (by omega)) ?_
            refine R_s 1 (77, [(4, vI (nI 0)), (3, vI (nI c)), (6, vI (nI c)), (5, vI (nI x)), (0, vR 7 15), (1, vI (nI S)), (2, vI (nI l))], [vI (nI x), vI (nI (S ||| 2 ^ x)), vR 7 15, vR 7 19, vI (nI 0)], h) rfl ?_
            refine R_calli mO_cellOf [vR 7 15, vI (nI (S ||| 2 ^ x)), vI (nI x)] [vR 7 19, vI (nI 0)] (nI ((S ||| 2 ^ x) * 8 + x)) h rfl t_O_cellOf ?_
            refine R_ld 7 19 ((S ||| 2 ^ x) * 8 + x) 2048 rfl rfl (by omega) (by decide) ?_
            refine R_top (nI ((cd x).2)) hw ?_
            refine R_add 0 ((cd x).2) rfl ?_
            refine R_s 2 (87, [(5, vI (nI x + Int32.ofInt 1)), (4, vI (nI (0 + ((cd x).2)))), (3, vI (nI c)), (6, vI (nI c)), (0, vR 7 15), (1, vI (nI S)), (2, vI (nI l))], [], h) rfl ?_
            refine R_lv (lv' := [(5, vI (nI (x + 1))), (4, vI (nI (0 + ((cd x).2)))), (3, vI (nI c)), (6, vI (nI c)), (0, vR 7 15), (1, vI (nI S)), (2, vI (nI l))]) (by rw [show nI x + Int32.ofInt 1 = nI (x + 1) from nI_add _ _]) ?_
            refine R_s 1 (8, [(5, vI (nI (x + 1))), (4, vI (nI (0 + ((cd x).2)))), (3, vI (nI c)), (6, vI (nI c)), (0, vR 7 15), (1, vI (nI S)), (2, vI (nI l))], [], h) rfl ?_
            refine R_lv (lv' := [(5, vI (nI (x + 1))), (4, vI (nI (0 + ((cd x).2)))), (3, vI (enc (some c))), (6, vI (nI c)), (0, vR 7 15), (1, vI (nI S)), (2, vI (nI l))]) rfl ?_
            refine R_fg (lv' := [(5, vI (nI (x + 1))), (4, vI (nI (0 + ((cd x).2)))), (3, vI (enc (some c))), (0, vR 7 15), (1, vI (nI S)), (2, vI (nI l))]) [0, 1, 2, 4, 5, 6] rfl [5, 4, 3, 6, 0, 1, 2] rfl (by decide) ?_
            exact ih (x + 1) (some c) (0 + (cd x).2) (by omega) (by show comb (fd cd x) (cd x) = _; rw [cmb_l hcx (by rw [hA]) (show c < a by omega), Nat.zero_add])
end
section
def FO2 (h h' : HP) : Prop := ∀ g' j', ¬ (g' = 7 ∧ (j' = 18 ∨ j' = 19)) → h' g' j' = h g' j'
theorem FO2.rf {h : HP} : FO2 h h := fun _ _ _ => rfl
theorem FO2.tr {h h1 h2 : HP} (a : FO2 h h1) (b : FO2 h1 h2) : FO2 h h2 := fun g' j' e => (b g' j' e).trans (a g' j' e)
theorem FO2.ent {h h1 : HP} {i : Nat} {u v : Int32} (a : FO2 h h1) : FO2 h (hset (hset h1 7 18 i u) 7 19 i v) := fun g' j' e => by
  rw [hs_ne (fun q => e ⟨q.1, Or.inr q.2⟩), hs_ne (fun q => e ⟨q.1, Or.inl q.2⟩)]
  exact a g' j' e
theorem TL.mv {h h' : HP} {n : Nat} {W : Nat → Nat → Nat} {B : Nat → Nat → Bool} (T : TL h n W B) (a : FO2 h h') : TL h' n W B := by
  refine ⟨by rw [a 7 15 (by omega)]; exact T.1, fun x y hx hy => by rw [a 7 16 (by omega)]; exact T.2.1 x y hx hy, fun x y hx hy => by rw [a 7 17 (by omega)]; exact T.2.2 x y hx hy⟩
theorem TE.new {h : HP} {n S l : Nat} {W : Nat → Nat → Nat} {B : Nat → Nat → Bool} : TE (hset (hset h 7 18 (S * 8 + l) (enc (GT n W (mCl B) S l).1)) 7 19 (S * 8 + l) (nI (GT n W (mCl B) S l).2)) n W B S l := by
  refine ⟨?_, ?_⟩
  · rw [hs_ne (by omega), hs_same, up_same]
  · rw [hs_same, up_same]
theorem TE.old {h : HP} {n S l S' l' : Nat} {u v : Int32} {W : Nat → Nat → Nat} {B : Nat → Nat → Bool} (T : TE h n W B S' l') (hl : l < 8) (hl' : l' < 8) (hne : ¬ (S' = S ∧ l' = l)) : TE (hset (hset h 7 18 (S * 8 + l) u) 7 19 (S * 8 + l) v) n W B S' l' := by
  refine ⟨?_, ?_⟩
  · rw [hs_ne (by omega), hs_same, up_ne (by omega)]; exact T.1
  · rw [hs_same, up_ne (by omega), hs_ne (by omega)]; exact T.2
/-- the table is whole -/
def TF (h : HP) (n : Nat) (W : Nat → Nat → Nat) (B : Nat → Nat → Bool) : Prop := TL h n W B ∧ TE h n W B 0 0 ∧ ∀ S, S < 2 ^ n → ∀ l, l < n → S.testBit l = true → TE h n W B S l
/-- all sets above S are done, and S itself for the first l songs -/
def TI (h : HP) (n : Nat) (W : Nat → Nat → Nat) (B : Nat → Nat → Bool) (S l : Nat) : Prop := (∀ S', S < S' → S' < 2 ^ n → ∀ x, x < n → S'.testBit x = true → TE h n W B S' x) ∧ (∀ x, x < l → S.testBit x = true → TE h n W B S x)
theorem TI.up {h : HP} {n S : Nat} {W : Nat → Nat → Nat} {B : Nat → Nat → Bool} (I : TI h n W B S n) : ∀ S', S ≤ S' → S' < 2 ^ n → ∀ x, x < n → S'.testBit x = true → TE h n W B S' x := by
  intro S' h1 h2 x hx hb
  by_cases e : S' = S
  · subst e; exact I.2 x hx hb
  · exact I.1 S' (by omega) h2 x hx hb
theorem TI.tu {h : HP} {n S l : Nat} {W : Nat → Nat → Nat} {B : Nat → Nat → Bool} (hS : S < 2 ^ n) (I : TI h n W B S l) : TU h n W B S := fun x hx hb => I.1 _ (or_gt hb) (or_lt hS hx) x hx or_self
theorem zero_bit (x : Nat) : (0 : Nat).testBit x = false := Nat.zero_testBit x
theorem t_O_solve {d n : Nat} {h : HP} {W : Nat → Nat → Nat} {B : Nat → Nat → Bool} (T : TL h n W B) (hW : ∀ a b, W a b ≤ 35) (h1 : 1 ≤ n) (hn : n ≤ 8) : MT (d + 3) mO_solve [vR 7 15] h (fun r h' => r = none ∧ TF h' n W B ∧ FO2 h h') := by
  have hp256 := pw_le hn
  have hp1 : 1 ≤ 2 ^ n := Nat.pow_pos (by decide)
  have hp2 : 2 ≤ 2 ^ n := by
    have := Nat.pow_le_pow_right (n := 2) (by decide) h1
    omega
  refine R_s 3 (5, [(0, vR 7 15)], [vI (h 7 15 0), vI (nI 1)], h) rfl ?_
  refine R_top (nI n) T.1 ?_
  refine R_s 1 (6, [(0, vR 7 15)], [vI ((nI 1) <<< ((nI n) &&& 31))], h) rfl ?_
  refine R_top (nI (2 ^ n)) (bit_all n (by omega)) ?_
  refine R_s 1 (7, [(0, vR 7 15)], [vI (nI 1), vI (nI (2 ^ n))], h) rfl ?_
  refine R_sub (2 ^ n) 1 rfl hp1 ?_
  refine R_s 3 (11, [(2, vI (nI 0)), (1, vI (nI ((2 ^ n) - 1))), (0, vR 7 15)], [], h) rfl ?_
  refine R_lv (lv' := [(2, vI (nI 0)), (1, vI (nI (2 ^ n - 1))), (0, vR 7 15)]) rfl ?_
  suffices ∀ m l hh, l + m = n → FO2 h hh → (∀ x, x < l → TE hh n W B (2 ^ n - 1) x) → R (d + 3) mO_solve (11, [(2, vI (nI l)), (1, vI (nI (2 ^ n - 1))), (0, vR 7 15)], [], hh) (fun r h' => r = none ∧ TF h' n W B ∧ FO2 h h') from this n 0 h (by omega) FO2.rf (fun x hx => by omega)
  intro m
  induction m with
  | zero =>
    intro l hh hm F I
    refine R_s 3 (16, [(2, vI (nI l)), (1, vI (nI (2 ^ n - 1))), (0, vR 7 15)], [vI (hh 7 15 0), vI (nI l)], hh) rfl ?_
    refine R_top (nI n) (T.mv F).1 ?_
    refine R_s 1 (cond (if2 .ge (nI l) (nI n)) 49 19, [(2, vI (nI l)), (1, vI (nI (2 ^ n - 1))), (0, vR 7 15)], [], hh) rfl ?_
    refine R_bp (n ≤ l) (i2_ge (by omega) (by omega)) (fun c1 => ?_) (fun c1 => ?_)
    · refine R_s 2 (51, [(2, vI (nI l)), (1, vI (nI (2 ^ n - 1))), (0, vR 7 15)], [vI (nI 1), vI (nI (2 ^ n - 1))], hh) rfl ?_
      refine R_sub (2 ^ n - 1) 1 rfl (by omega) ?_
      refine R_s 1 (53, [(2, vI (nI ((2 ^ n - 1) - 1))), (1, vI (nI (2 ^ n - 1))), (0, vR 7 15)], [], hh) rfl ?_
      clear hm
      have I0 : ∀ S', 2 ^ n - 1 - 1 < S' → S' < 2 ^ n → ∀ x, x < n → S'.testBit x = true → TE hh n W B S' x := by
        intro S' h9 h10 x hx _
        rw [show S' = 2 ^ n - 1 by omega]
        exact I x (by omega)
      clear I
      suffices ∀ m2 S hk, S ≤ m2 → S + 1 < 2 ^ n → FO2 h hk → (∀ S', S < S' → S' < 2 ^ n → ∀ x, x < n → S'.testBit x = true → TE hk n W B S' x) → R (d + 3) mO_solve (53, [(2, vI (nI S)), (1, vI (nI (2 ^ n - 1))), (0, vR 7 15)], [], hk) (fun r h' => r = none ∧ TF h' n W B ∧ FO2 h h') from this (2 ^ n) (2 ^ n - 1 - 1) hh (by omega) (by omega) F I0
      intro m2
      induction m2 with
      | zero =>
        intro S hk hm hS F I
        refine R_s 2 (cond (if0 .le (nI S)) 94 57, [(2, vI (nI S)), (1, vI (nI (2 ^ n - 1))), (0, vR 7 15)], [], hk) rfl ?_
        refine R_bp (S = 0) (i0_le (by omega)) (fun c2 => ?_) (fun c2 => ?_)
        · subst c2
          have J : ∀ S', S' < 2 ^ n → ∀ l, l < n → S'.testBit l = true → TE hk n W B S' l := by
            intro S' h9 l hl hb
            refine I S' (Nat.pos_of_ne_zero (fun e => ?_)) h9 l hl hb
            rw [e, zero_bit] at hb
            cases hb
          refine R_s 3 (97, [(2, vI (nI 0)), (1, vI (nI (2 ^ n - 1))), (0, vR 7 15)], [vI (nI 0), vI (nI 0), vR 7 15], hk) rfl ?_
          refine R_callv mO_settle [vR 7 15, vI (nI 0), vI (nI 0)] [] (hset (hset hk 7 18 (0 * 8 + 0) (enc (GT n W (mCl B) 0 0).1)) 7 19 (0 * 8 + 0) (nI (GT n W (mCl B) 0 0).2)) rfl (t_O_settle (T.mv F) hW hn (by omega) (by omega) (show pop 0 < n from h1) (fun x hx hb => J _ (or_lt (by omega) hx) x hx or_self)) ?_
          refine R_hp (fun h1 eh1 => ?_)
          exact R_ret none h1 rfl ⟨rfl, by rw [eh1]; exact ⟨(T.mv F).mv FO2.rf.ent, TE.new, fun S' h9 l hl hb => (J S' h9 l hl hb).old (by omega) (by omega) (fun q => by rw [q.1, zero_bit] at hb; cases hb)⟩, by rw [eh1]; exact F.ent⟩
        · exact absurd c2 (by omega)
      | succ m2 ih2 =>
        intro S hk hm hS F I
        refine R_s 2 (cond (if0 .le (nI S)) 94 57, [(2, vI (nI S)), (1, vI (nI (2 ^ n - 1))), (0, vR 7 15)], [], hk) rfl ?_
        refine R_bp (S = 0) (i0_le (by omega)) (fun c2 => ?_) (fun c2 => ?_)
        · subst c2
          have J : ∀ S', S' < 2 ^ n → ∀ l, l < n → S'.testBit l = true → TE hk n W B S' l := by
            intro S' h9 l hl hb
            refine I S' (Nat.pos_of_ne_zero (fun e => ?_)) h9 l hl hb
            rw [e, zero_bit] at hb
            cases hb
          refine R_s 3 (97, [(2, vI (nI 0)), (1, vI (nI (2 ^ n - 1))), (0, vR 7 15)], [vI (nI 0), vI (nI 0), vR 7 15], hk) rfl ?_
          refine R_callv mO_settle [vR 7 15, vI (nI 0), vI (nI 0)] [] (hset (hset hk 7 18 (0 * 8 + 0) (enc (GT n W (mCl B) 0 0).1)) 7 19 (0 * 8 + 0) (nI (GT n W (mCl B) 0 0).2)) rfl (t_O_settle (T.mv F) hW hn (by omega) (by omega) (show pop 0 < n from h1) (fun x hx hb => J _ (or_lt (by omega) hx) x hx or_self)) ?_
          refine R_hp (fun h2 eh2 => ?_)
          exact R_ret none h2 rfl ⟨rfl, by rw [eh2]; exact ⟨(T.mv F).mv FO2.rf.ent, TE.new, fun S' h9 l hl hb => (J S' h9 l hl hb).old (by omega) (by omega) (fun q => by rw [q.1, zero_bit] at hb; cases hb)⟩, by rw [eh2]; exact F.ent⟩
        · obtain ⟨S, rfl⟩ : ∃ y, S = y + 1 := ⟨S - 1, by omega⟩
          refine R_s 2 (59, [(3, vI (nI 0)), (2, vI (nI (S + 1))), (1, vI (nI (2 ^ n - 1))), (0, vR 7 15)], [], hk) rfl ?_
          suffices ∀ m3 l hl, l + m3 = n → FO2 h hl → TI hl n W B (S + 1) l → R (d + 3) mO_solve (59, [(3, vI (nI l)), (2, vI (nI (S + 1))), (1, vI (nI (2 ^ n - 1))), (0, vR 7 15)], [], hl) (fun r h' => r = none ∧ TF h' n W B ∧ FO2 h h') from this n 0 hk (by omega) F ⟨fun S' h9 h10 x hx hb => I S' (by omega) h10 x hx hb, fun x hx => by omega⟩
          intro m3
          induction m3 with
          | zero =>
            intro l hl hm F I3
            refine R_s 3 (64, [(3, vI (nI l)), (2, vI (nI (S + 1))), (1, vI (nI (2 ^ n - 1))), (0, vR 7 15)], [vI (hl 7 15 0), vI (nI l)], hl) rfl ?_
            refine R_top (nI n) (T.mv F).1 ?_
            refine R_s 1 (cond (if2 .ge (nI l) (nI n)) 88 67, [(3, vI (nI l)), (2, vI (nI (S + 1))), (1, vI (nI (2 ^ n - 1))), (0, vR 7 15)], [], hl) rfl ?_
            refine R_bp (n ≤ l) (i2_ge (by omega) (by omega)) (fun c4 => ?_) (fun c4 => ?_)
            · refine R_s 1 (91, [(2, vI (nI (S + 1) + Int32.ofInt (-1))), (3, vI (nI l)), (1, vI (nI (2 ^ n - 1))), (0, vR 7 15)], [], hl) rfl ?_
              refine R_lv (lv' := [(2, vI (nI S)), (3, vI (nI l)), (1, vI (nI (2 ^ n - 1))), (0, vR 7 15)]) (by rw [show nI (S + 1) + Int32.ofInt (-1) = nI S from pk_m1 _]) ?_
              refine R_s 1 (53, [(2, vI (nI S)), (3, vI (nI l)), (1, vI (nI (2 ^ n - 1))), (0, vR 7 15)], [], hl) rfl ?_
              refine R_fg (lv' := [(2, vI (nI S)), (1, vI (nI (2 ^ n - 1))), (0, vR 7 15)]) [0, 2, 3] rfl [2, 3, 1, 0] rfl (by decide) ?_
              rw [show l = n by omega] at I3
              exact ih2 S hl (by omega) (by omega) F (fun S' h9 h10 x hx hb => I3.up S' (by omega) h10 x hx hb)
            · exact absurd hm (by omega)
          | succ m3 ih3 =>
            intro l hl hm F I3
            refine R_s 3 (64, [(3, vI (nI l)), (2, vI (nI (S + 1))), (1, vI (nI (2 ^ n - 1))), (0, vR 7 15)], [vI (hl 7 15 0), vI (nI l)], hl) rfl ?_
            refine R_top (nI n) (T.mv F).1 ?_
            refine R_s 1 (cond (if2 .ge (nI l) (nI n)) 88 67, [(3, vI (nI l)), (2, vI (nI (S + 1))), (1, vI (nI (2 ^ n - 1))), (0, vR 7 15)], [], hl) rfl ?_
            refine R_bp (n ≤ l) (i2_ge (by omega) (by omega)) (fun c4 => ?_) (fun c4 => ?_)
            · refine R_s 1 (91, [(2, vI (nI (S + 1) + Int32.ofInt (-1))), (3, vI (nI l)), (1, vI (nI (2 ^ n - 1))), (0, vR 7 15)], [], hl) rfl ?_
              refine R_lv (lv' := [(2, vI (nI S)), (3, vI (nI l)), (1, vI (nI (2 ^ n - 1))), (0, vR 7 15)]) (by rw [show nI (S + 1) + Int32.ofInt (-1) = nI S from pk_m1 _]) ?_
              refine R_s 1 (53, [(2, vI (nI S)), (3, vI (nI l)), (1, vI (nI (2 ^ n - 1))), (0, vR 7 15)], [], hl) rfl ?_
              refine R_fg (lv' := [(2, vI (nI S)), (1, vI (nI (2 ^ n - 1))), (0, vR 7 15)]) [0, 2, 3] rfl [2, 3, 1, 0] rfl (by decide) ?_
              rw [show l = n by omega] at I3
              exact ih2 S hl (by omega) (by omega) F (fun S' h9 h10 x hx hb => I3.up S' (by omega) h10 x hx hb)
            · refine R_s 5 (72, [(3, vI (nI l)), (2, vI (nI (S + 1))), (1, vI (nI (2 ^ n - 1))), (0, vR 7 15)], [vI (((nI (S + 1)) >>> ((nI l) &&& 31)) &&& (nI 1))], hl) rfl ?_
              refine R_top (nI (if (S + 1).testBit l then 1 else 0)) (bit_sh (S + 1) (by omega) l (by omega)) ?_
              refine R_s 2 (cond (if2 .ne (nI (if (S + 1).testBit l then 1 else 0)) (nI 1)) 82 76, [(3, vI (nI l)), (2, vI (nI (S + 1))), (1, vI (nI (2 ^ n - 1))), (0, vR 7 15)], [], hl) rfl ?_
              refine R_bp ((S + 1).testBit l = false) i2_nb (fun c5 => ?_) (fun c5 => ?_)
              · refine R_s 1 (85, [(3, vI (nI l + Int32.ofInt 1)), (2, vI (nI (S + 1))), (1, vI (nI (2 ^ n - 1))), (0, vR 7 15)], [], hl) rfl ?_
                refine R_lv (lv' := [(3, vI (nI (l + 1))), (2, vI (nI (S + 1))), (1, vI (nI (2 ^ n - 1))), (0, vR 7 15)]) (by rw [show nI l + Int32.ofInt 1 = nI (l + 1) from nI_add _ _]) ?_
                refine R_s 1 (59, [(3, vI (nI (l + 1))), (2, vI (nI (S + 1))), (1, vI (nI (2 ^ n - 1))), (0, vR 7 15)], [], hl) rfl ?_
                exact ih3 (l + 1) hl (by omega) F ⟨I3.1, fun x hx hb => by
                by_cases e : x = l
                · rw [e, c5] at hb; cases hb
                · exact I3.2 x (by omega) hb⟩
              · refine R_s 3 (79, [(3, vI (nI l)), (2, vI (nI (S + 1))), (1, vI (nI (2 ^ n - 1))), (0, vR 7 15)], [vI (nI l), vI (nI (S + 1)), vR 7 15], hl) rfl ?_
                refine R_callv mO_settle [vR 7 15, vI (nI (S + 1)), vI (nI l)] [] (hset (hset hl 7 18 ((S + 1) * 8 + l) (enc (GT n W (mCl B) (S + 1) l).1)) 7 19 ((S + 1) * 8 + l) (nI (GT n W (mCl B) (S + 1) l).2)) rfl (t_O_settle (T.mv F) hW hn (by omega) (by omega) (pop_lt n (by omega) (S + 1) (by omega) (by omega)) (I3.tu (by omega))) ?_
                refine R_hp (fun h3 eh3 => ?_)
                refine R_s 1 (85, [(3, vI (nI l + Int32.ofInt 1)), (2, vI (nI (S + 1))), (1, vI (nI (2 ^ n - 1))), (0, vR 7 15)], [], h3) rfl ?_
                refine R_lv (lv' := [(3, vI (nI (l + 1))), (2, vI (nI (S + 1))), (1, vI (nI (2 ^ n - 1))), (0, vR 7 15)]) (by rw [show nI l + Int32.ofInt 1 = nI (l + 1) from nI_add _ _]) ?_
                refine R_s 1 (59, [(3, vI (nI (l + 1))), (2, vI (nI (S + 1))), (1, vI (nI (2 ^ n - 1))), (0, vR 7 15)], [], h3) rfl ?_
                exact ih3 (l + 1) _ (by omega) (by rw [eh3]; exact F.ent) (by
                rw [eh3]
                refine ⟨fun S' h9 h10 x hx hb => (I3.1 S' h9 h10 x hx hb).old (by omega) (by omega) (by omega), fun x hx hb => ?_⟩
                by_cases e : x = l
                · rw [e]; exact TE.new
                · exact (I3.2 x (by omega) hb).old (by omega) (by omega) (by omega))
    · exact absurd hm (by omega)
  | succ m ih =>
    intro l hh hm F I
    refine R_s 3 (16, [(2, vI (nI l)), (1, vI (nI (2 ^ n - 1))), (0, vR 7 15)], [vI (hh 7 15 0), vI (nI l)], hh) rfl ?_
    refine R_top (nI n) (T.mv F).1 ?_
    refine R_s 1 (cond (if2 .ge (nI l) (nI n)) 49 19, [(2, vI (nI l)), (1, vI (nI (2 ^ n - 1))), (0, vR 7 15)], [], hh) rfl ?_
    refine R_bp (n ≤ l) (i2_ge (by omega) (by omega)) (fun c1 => ?_) (fun c1 => ?_)
    · refine R_s 2 (51, [(2, vI (nI l)), (1, vI (nI (2 ^ n - 1))), (0, vR 7 15)], [vI (nI 1), vI (nI (2 ^ n - 1))], hh) rfl ?_
      refine R_sub (2 ^ n - 1) 1 rfl (by omega) ?_
      refine R_s 1 (53, [(2, vI (nI ((2 ^ n - 1) - 1))), (1, vI (nI (2 ^ n - 1))), (0, vR 7 15)], [], hh) rfl ?_
      clear hm ih
      have I0 : ∀ S', 2 ^ n - 1 - 1 < S' → S' < 2 ^ n → ∀ x, x < n → S'.testBit x = true → TE hh n W B S' x := by
        intro S' h9 h10 x hx _
        rw [show S' = 2 ^ n - 1 by omega]
        exact I x (by omega)
      clear I
      suffices ∀ m2 S hk, S ≤ m2 → S + 1 < 2 ^ n → FO2 h hk → (∀ S', S < S' → S' < 2 ^ n → ∀ x, x < n → S'.testBit x = true → TE hk n W B S' x) → R (d + 3) mO_solve (53, [(2, vI (nI S)), (1, vI (nI (2 ^ n - 1))), (0, vR 7 15)], [], hk) (fun r h' => r = none ∧ TF h' n W B ∧ FO2 h h') from this (2 ^ n) (2 ^ n - 1 - 1) hh (by omega) (by omega) F I0
      intro m2
      induction m2 with
      | zero =>
        intro S hk hm hS F I
        refine R_s 2 (cond (if0 .le (nI S)) 94 57, [(2, vI (nI S)), (1, vI (nI (2 ^ n - 1))), (0, vR 7 15)], [], hk) rfl ?_
        refine R_bp (S = 0) (i0_le (by omega)) (fun c2 => ?_) (fun c2 => ?_)
        · subst c2
          have J : ∀ S', S' < 2 ^ n → ∀ l, l < n → S'.testBit l = true → TE hk n W B S' l := by
            intro S' h9 l hl hb
            refine I S' (Nat.pos_of_ne_zero (fun e => ?_)) h9 l hl hb
            rw [e, zero_bit] at hb
            cases hb
          refine R_s 3 (97, [(2, vI (nI 0)), (1, vI (nI (2 ^ n - 1))), (0, vR 7 15)], [vI (nI 0), vI (nI 0), vR 7 15], hk) rfl ?_
          refine R_callv mO_settle [vR 7 15, vI (nI 0), vI (nI 0)] [] (hset (hset hk 7 18 (0 * 8 + 0) (enc (GT n W (mCl B) 0 0).1)) 7 19 (0 * 8 + 0) (nI (GT n W (mCl B) 0 0).2)) rfl (t_O_settle (T.mv F) hW hn (by omega) (by omega) (show pop 0 < n from h1) (fun x hx hb => J _ (or_lt (by omega) hx) x hx or_self)) ?_
          refine R_hp (fun h4 eh4 => ?_)
          exact R_ret none h4 rfl ⟨rfl, by rw [eh4]; exact ⟨(T.mv F).mv FO2.rf.ent, TE.new, fun S' h9 l hl hb => (J S' h9 l hl hb).old (by omega) (by omega) (fun q => by rw [q.1, zero_bit] at hb; cases hb)⟩, by rw [eh4]; exact F.ent⟩
        · exact absurd c2 (by omega)
      | succ m2 ih2 =>
        intro S hk hm hS F I
        refine R_s 2 (cond (if0 .le (nI S)) 94 57, [(2, vI (nI S)), (1, vI (nI (2 ^ n - 1))), (0, vR 7 15)], [], hk) rfl ?_
        refine R_bp (S = 0) (i0_le (by omega)) (fun c2 => ?_) (fun c2 => ?_)
        · subst c2
          have J : ∀ S', S' < 2 ^ n → ∀ l, l < n → S'.testBit l = true → TE hk n W B S' l := by
            intro S' h9 l hl hb
            refine I S' (Nat.pos_of_ne_zero (fun e => ?_)) h9 l hl hb
            rw [e, zero_bit] at hb
            cases hb
          refine R_s 3 (97, [(2, vI (nI 0)), (1, vI (nI (2 ^ n - 1))), (0, vR 7 15)], [vI (nI 0), vI (nI 0), vR 7 15], hk) rfl ?_
          refine R_callv mO_settle [vR 7 15, vI (nI 0), vI (nI 0)] [] (hset (hset hk 7 18 (0 * 8 + 0) (enc (GT n W (mCl B) 0 0).1)) 7 19 (0 * 8 + 0) (nI (GT n W (mCl B) 0 0).2)) rfl (t_O_settle (T.mv F) hW hn (by omega) (by omega) (show pop 0 < n from h1) (fun x hx hb => J _ (or_lt (by omega) hx) x hx or_self)) ?_
          refine R_hp (fun h5 eh5 => ?_)
          exact R_ret none h5 rfl ⟨rfl, by rw [eh5]; exact ⟨(T.mv F).mv FO2.rf.ent, TE.new, fun S' h9 l hl hb => (J S' h9 l hl hb).old (by omega) (by omega) (fun q => by rw [q.1, zero_bit] at hb; cases hb)⟩, by rw [eh5]; exact F.ent⟩
        · obtain ⟨S, rfl⟩ : ∃ y, S = y + 1 := ⟨S - 1, by omega⟩
          refine R_s 2 (59, [(3, vI (nI 0)), (2, vI (nI (S + 1))), (1, vI (nI (2 ^ n - 1))), (0, vR 7 15)], [], hk) rfl ?_
          suffices ∀ m3 l hl, l + m3 = n → FO2 h hl → TI hl n W B (S + 1) l → R (d + 3) mO_solve (59, [(3, vI (nI l)), (2, vI (nI (S + 1))), (1, vI (nI (2 ^ n - 1))), (0, vR 7 15)], [], hl) (fun r h' => r = none ∧ TF h' n W B ∧ FO2 h h') from this n 0 hk (by omega) F ⟨fun S' h9 h10 x hx hb => I S' (by omega) h10 x hx hb, fun x hx => by omega⟩
          intro m3
          induction m3 with
          | zero =>
            intro l hl hm F I3
            refine R_s 3 (64, [(3, vI (nI l)), (2, vI (nI (S + 1))), (1, vI (nI (2 ^ n - 1))), (0, vR 7 15)], [vI (hl 7 15 0), vI (nI l)], hl) rfl ?_
            refine R_top (nI n) (T.mv F).1 ?_
            refine R_s 1 (cond (if2 .ge (nI l) (nI n)) 88 67, [(3, vI (nI l)), (2, vI (nI (S + 1))), (1, vI (nI (2 ^ n - 1))), (0, vR 7 15)], [], hl) rfl ?_
            refine R_bp (n ≤ l) (i2_ge (by omega) (by omega)) (fun c4 => ?_) (fun c4 => ?_)
            · refine R_s 1 (91, [(2, vI (nI (S + 1) + Int32.ofInt (-1))), (3, vI (nI l)), (1, vI (nI (2 ^ n - 1))), (0, vR 7 15)], [], hl) rfl ?_
              refine R_lv (lv' := [(2, vI (nI S)), (3, vI (nI l)), (1, vI (nI (2 ^ n - 1))), (0, vR 7 15)]) (by rw [show nI (S + 1) + Int32.ofInt (-1) = nI S from pk_m1 _]) ?_
              refine R_s 1 (53, [(2, vI (nI S)), (3, vI (nI l)), (1, vI (nI (2 ^ n - 1))), (0, vR 7 15)], [], hl) rfl ?_
              refine R_fg (lv' := [(2, vI (nI S)), (1, vI (nI (2 ^ n - 1))), (0, vR 7 15)]) [0, 2, 3] rfl [2, 3, 1, 0] rfl (by decide) ?_
              rw [show l = n by omega] at I3
              exact ih2 S hl (by omega) (by omega) F (fun S' h9 h10 x hx hb => I3.up S' (by omega) h10 x hx hb)
            · exact absurd hm (by omega)
          | succ m3 ih3 =>
            intro l hl hm F I3
            refine R_s 3 (64, [(3, vI (nI l)), (2, vI (nI (S + 1))), (1, vI (nI (2 ^ n - 1))), (0, vR 7 15)], [vI (hl 7 15 0), vI (nI l)], hl) rfl ?_
            refine R_top (nI n) (T.mv F).1 ?_
            refine R_s 1 (cond (if2 .ge (nI l) (nI n)) 88 67, [(3, vI (nI l)), (2, vI (nI (S + 1))), (1, vI (nI (2 ^ n - 1))), (0, vR 7 15)], [], hl) rfl ?_
            refine R_bp (n ≤ l) (i2_ge (by omega) (by omega)) (fun c4 => ?_) (fun c4 => ?_)
            · refine R_s 1 (91, [(2, vI (nI (S + 1) + Int32.ofInt (-1))), (3, vI (nI l)), (1, vI (nI (2 ^ n - 1))), (0, vR 7 15)], [], hl) rfl ?_
              refine R_lv (lv' := [(2, vI (nI S)), (3, vI (nI l)), (1, vI (nI (2 ^ n - 1))), (0, vR 7 15)]) (by rw [show nI (S + 1) + Int32.ofInt (-1) = nI S from pk_m1 _]) ?_
              refine R_s 1 (53, [(2, vI (nI S)), (3, vI (nI l)), (1, vI (nI (2 ^ n - 1))), (0, vR 7 15)], [], hl) rfl ?_
              refine R_fg (lv' := [(2, vI (nI S)), (1, vI (nI (2 ^ n - 1))), (0, vR 7 15)]) [0, 2, 3] rfl [2, 3, 1, 0] rfl (by decide) ?_
              rw [show l = n by omega] at I3
              exact ih2 S hl (by omega) (by omega) F (fun S' h9 h10 x hx hb => I3.up S' (by omega) h10 x hx hb)
            · refine R_s 5 (72, [(3, vI (nI l)), (2, vI (nI (S + 1))), (1, vI (nI (2 ^ n - 1))), (0, vR 7 15)], [vI (((nI (S + 1)) >>> ((nI l) &&& 31)) &&& (nI 1))], hl) rfl ?_
              refine R_top (nI (if (S + 1).testBit l then 1 else 0)) (bit_sh (S + 1) (by omega) l (by omega)) ?_
              refine R_s 2 (cond (if2 .ne (nI (if (S + 1).testBit l then 1 else 0)) (nI 1)) 82 76, [(3, vI (nI l)), (2, vI (nI (S + 1))), (1, vI (nI (2 ^ n - 1))), (0, vR 7 15)], [], hl) rfl ?_
              refine R_bp ((S + 1).testBit l = false) i2_nb (fun c5 => ?_) (fun c5 => ?_)
              · refine R_s 1 (85, [(3, vI (nI l + Int32.ofInt 1)), (2, vI (nI (S + 1))), (1, vI (nI (2 ^ n - 1))), (0, vR 7 15)], [], hl) rfl ?_
                refine R_lv (lv' := [(3, vI (nI (l + 1))), (2, vI (nI (S + 1))), (1, vI (nI (2 ^ n - 1))), (0, vR 7 15)]) (by rw [show nI l + Int32.ofInt 1 = nI (l + 1) from nI_add _ _]) ?_
                refine R_s 1 (59, [(3, vI (nI (l + 1))), (2, vI (nI (S + 1))), (1, vI (nI (2 ^ n - 1))), (0, vR 7 15)], [], hl) rfl ?_
                exact ih3 (l + 1) hl (by omega) F ⟨I3.1, fun x hx hb => by
                by_cases e : x = l
                · rw [e, c5] at hb; cases hb
                · exact I3.2 x (by omega) hb⟩
              · refine R_s 3 (79, [(3, vI (nI l)), (2, vI (nI (S + 1))), (1, vI (nI (2 ^ n - 1))), (0, vR 7 15)], [vI (nI l), vI (nI (S + 1)), vR 7 15], hl) rfl ?_
                refine R_callv mO_settle [vR 7 15, vI (nI (S + 1)), vI (nI l)] [] (hset (hset hl 7 18 ((S + 1) * 8 + l) (enc (GT n W (mCl B) (S + 1) l).1)) 7 19 ((S + 1) * 8 + l) (nI (GT n W (mCl B) (S + 1) l).2)) rfl (t_O_settle (T.mv F) hW hn (by omega) (by omega) (pop_lt n (by omega) (S + 1) (by omega) (by omega)) (I3.tu (by omega))) ?_
                refine R_hp (fun h6 eh6 => ?_)
                refine R_s 1 (85, [(3, vI (nI l + Int32.ofInt 1)), (2, vI (nI (S + 1))), (1, vI (nI (2 ^ n - 1))), (0, vR 7 15)], [], h6) rfl ?_
                refine R_lv (lv' := [(3, vI (nI (l + 1))), (2, vI (nI (S + 1))), (1, vI (nI (2 ^ n - 1))), (0, vR 7 15)]) (by rw [show nI l + Int32.ofInt 1 = nI (l + 1) from nI_add _ _]) ?_
                refine R_s 1 (59, [(3, vI (nI (l + 1))), (2, vI (nI (S + 1))), (1, vI (nI (2 ^ n - 1))), (0, vR 7 15)], [], h6) rfl ?_
                exact ih3 (l + 1) _ (by omega) (by rw [eh6]; exact F.ent) (by
                rw [eh6]
                refine ⟨fun S' h9 h10 x hx hb => (I3.1 S' h9 h10 x hx hb).old (by omega) (by omega) (by omega), fun x hx hb => ?_⟩
                by_cases e : x = l
                · rw [e]; exact TE.new
                · exact (I3.2 x (by omega) hb).old (by omega) (by omega) (by omega))
    · refine R_s 5 (26, [(2, vI (nI l)), (1, vI (nI (2 ^ n - 1))), (0, vR 7 15)], [vI (nI l), vI (nI (2 ^ n - 1)), vR 7 15, vR 7 18], hh) rfl ?_
      refine R_calli mO_cellOf [vR 7 15, vI (nI (2 ^ n - 1)), vI (nI l)] [vR 7 18] (nI ((2 ^ n - 1) * 8 + l)) hh rfl t_O_cellOf ?_
      refine R_s 1 (30, [(2, vI (nI l)), (1, vI (nI (2 ^ n - 1))), (0, vR 7 15)], [vI (nI 0), vI (nI ((2 ^ n - 1) * 8 + l)), vR 7 18], hh) rfl ?_
      refine R_st 7 18 ((2 ^ n - 1) * 8 + l) 2048 (nI 0) rfl rfl (by omega) (by decide) (fun h7 eh7 => ?_)
      refine R_s 5 (38, [(2, vI (nI l)), (1, vI (nI (2 ^ n - 1))), (0, vR 7 15)], [vI (nI l), vI (nI (2 ^ n - 1)), vR 7 15, vR 7 19], h7) rfl ?_
      refine R_calli mO_cellOf [vR 7 15, vI (nI (2 ^ n - 1)), vI (nI l)] [vR 7 19] (nI ((2 ^ n - 1) * 8 + l)) h7 rfl t_O_cellOf ?_
      refine R_s 1 (42, [(2, vI (nI l)), (1, vI (nI (2 ^ n - 1))), (0, vR 7 15)], [vI (nI 1), vI (nI ((2 ^ n - 1) * 8 + l)), vR 7 19], h7) rfl ?_
      refine R_st 7 19 ((2 ^ n - 1) * 8 + l) 2048 (nI 1) rfl rfl (by omega) (by decide) (fun h8 eh8 => ?_)
      refine R_s 1 (46, [(2, vI (nI l + Int32.ofInt 1)), (1, vI (nI (2 ^ n - 1))), (0, vR 7 15)], [], h8) rfl ?_
      refine R_lv (lv' := [(2, vI (nI (l + 1))), (1, vI (nI (2 ^ n - 1))), (0, vR 7 15)]) (by rw [show nI l + Int32.ofInt 1 = nI (l + 1) from nI_add _ _]) ?_
      refine R_s 1 (11, [(2, vI (nI (l + 1))), (1, vI (nI (2 ^ n - 1))), (0, vR 7 15)], [], h8) rfl ?_
      exact ih (l + 1) _ (by omega) (by rw [eh8, eh7]; exact F.ent) (fun x hx => by
        rw [eh8, eh7]
        by_cases e : x = l
        · have g := GT_full (W := W) (may := mCl B) (S := 2 ^ n - 1) (l := l) (show n ≤ pop (2 ^ n - 1) by rw [pop_full n (by omega)]; exact Nat.le_refl n)
          have q : TE (hset (hset hh 7 18 ((2 ^ n - 1) * 8 + l) (enc (GT n W (mCl B) (2 ^ n - 1) l).1)) 7 19 ((2 ^ n - 1) * 8 + l) (nI (GT n W (mCl B) (2 ^ n - 1) l).2)) n W B (2 ^ n - 1) l := TE.new
          rw [g] at q
          rw [e]
          exact q
        · exact (I x (by omega)).old (by omega) (by omega) (by omega))
end
section
def FO3 (h h' : HP) : Prop := ∀ g' j', ¬ (g' = 7 ∧ (j' = 15 ∨ j' = 16 ∨ j' = 17)) → h' g' j' = h g' j'
theorem vpz (b : Bool) : vp_nar .boolean (bI b) = bI b := by cases b <;> decide
/-- the costs and the places of a concert -/
def Wc (s : Nat → Int32) (m : Int32) (p a b : Nat) : Nat := if a < 8 ∧ b < 8 ∧ ¬ a = b then btw s m p a b p else 0
theorem cof_le {s : Nat → Int32} {m : Int32} {n p k a b q : Nat} (F : WF s n p k) (ha : a < 8) (hb : b < 8) (hq : q < 5) : cof s m p a b q ≤ 7 := by
  have key := chg_kd s m p a b q
  unfold cof
  split
  · have := far_le s q (kd s b q); omega
  · have := far_le s q (kd s a q); omega
  · have := far_le s q (kd s b q); have := far_le s q (kd s a q); omega
  · have := far_le s q (kd s b q); omega
  · rename_i e
    rw [e] at key
    obtain ⟨t, ht, et⟩ := ((F.2.2.2.2.2.1 a ha q hq).resolve_left key.1).2
    obtain ⟨u, hu, eu⟩ := ((F.2.2.2.2.2.1 b hb q hq).resolve_left key.2).2
    rw [et, eu]
    have h : ∀ t, t < 6 → ∀ u, u < 6 → 2 + dst (nI t) (nI u) ≤ 7 := by decide +kernel
    exact h t (by omega) u (by omega)
  · omega
theorem btw_le {s : Nat → Int32} {m : Int32} {n p k a b : Nat} (F : WF s n p k) (ha : a < 8) (hb : b < 8) : ∀ q, q ≤ 5 → btw s m p a b q ≤ 7 * q := by
  intro q
  induction q with
  | zero => intro _; exact Nat.le_refl _
  | succ q ih =>
    intro hq
    show btw s m p a b q + cof s m p a b q ≤ 7 * (q + 1)
    have := ih (by omega)
    have := cof_le (m := m) F ha hb (show q < 5 by omega)
    omega
theorem Wc_le {s : Nat → Int32} {m : Int32} {n p k : Nat} (F : WF s n p k) : ∀ a b, Wc s m p a b ≤ 35 := by
  intro a b
  unfold Wc
  split
  · rename_i q
    have := btw_le (m := m) F q.1 q.2.1 p F.2.1.2.1
    have := F.2.1.2.1
    omega
  · omega
/-- loading goes on: the rows before a, and b cells of row a -/
def LI (h h' : HP) (n : Nat) (W : Nat → Nat → Nat) (B : Nat → Nat → Bool) (a b : Nat) : Prop := FO3 h h' ∧ h' 7 15 0 = nI n ∧ ∀ x y, x < n → y < n → (x < a ∨ (x = a ∧ y < b)) → h' 7 16 (x * 8 + y) = nI (W x y) ∧ h' 7 17 (x * 8 + y) = bI (B x y)
theorem t_O_load {d g n p k e : Nat} {h : HP} {s : Nat → Int32} (hg : ¬ g = 7) (C : CO h g s n p k) (F : WF s n p k) (he : s 9 = nI e) (hen : e < 2 ^ n) : MT (d + 4) mO_load [vR 7 15, vR g 0] h (fun r h' => r = none ∧ TL h' n (Wc s (-1) p) (msb s e n) ∧ FO3 h h') := by
  have h8 := F.2.1.1
  have cof9 : ∀ {h2 : HP}, FO3 h h2 → CO h2 g s n p k := fun A => co_frame C (fun j => A g j (fun q => hg q.1))
  refine R_s 3 (5, [(0, vR 7 15), (1, vR g 0)], [vI (h g 0 0), vR 7 15], h) rfl ?_
  refine R_top (nI n) C.1.1 ?_
  refine R_s 1 (8, [(0, vR 7 15), (1, vR g 0)], [], (hset h 7 15 0 (nI n))) rfl ?_
  refine R_hp (fun h1 eh1 => ?_)
  refine R_s 2 (10, [(2, vI (nI 0)), (0, vR 7 15), (1, vR g 0)], [], h1) rfl ?_
  have I0 : LI h h1 n (Wc s (-1) p) (msb s e n) 0 0 := ⟨fun g' j' q => by rw [eh1, hs_ne (fun z => q ⟨z.1, Or.inl z.2⟩)], by rw [eh1, hs_same, up_same], fun x y hx hy z => by omega⟩
  suffices ∀ m a hh, a + m = n → LI h hh n (Wc s (-1) p) (msb s e n) a 0 → R (d + 4) mO_load (10, [(2, vI (nI a)), (0, vR 7 15), (1, vR g 0)], [], hh) (fun r h' => r = none ∧ TL h' n (Wc s (-1) p) (msb s e n) ∧ FO3 h h') from this n 0 h1 (by omega) I0
  intro m
  induction m with
  | zero =>
    intro a hh hm I
    refine R_s 3 (15, [(2, vI (nI a)), (0, vR 7 15), (1, vR g 0)], [vI (hh 7 15 0), vI (nI a)], hh) rfl ?_
    refine R_top (nI n) I.2.1 ?_
    refine R_s 1 (cond (if2 .ge (nI a) (nI n)) 83 18, [(2, vI (nI a)), (0, vR 7 15), (1, vR g 0)], [], hh) rfl ?_
    refine R_bp (n ≤ a) (i2_ge (by omega) (by omega)) (fun c1 => ?_) (fun c1 => ?_)
    · exact R_ret none hh rfl ⟨rfl, ⟨I.2.1, fun x y hx hy => (I.2.2 x y hx hy (Or.inl (by omega))).1, fun x y hx hy => (I.2.2 x y hx hy (Or.inl (by omega))).2⟩, I.1⟩
    · exact absurd hm (by omega)
  | succ m ih =>
    intro a hh hm I
    refine R_s 3 (15, [(2, vI (nI a)), (0, vR 7 15), (1, vR g 0)], [vI (hh 7 15 0), vI (nI a)], hh) rfl ?_
    refine R_top (nI n) I.2.1 ?_
    refine R_s 1 (cond (if2 .ge (nI a) (nI n)) 83 18, [(2, vI (nI a)), (0, vR 7 15), (1, vR g 0)], [], hh) rfl ?_
    refine R_bp (n ≤ a) (i2_ge (by omega) (by omega)) (fun c1 => ?_) (fun c1 => ?_)
    · exact R_ret none hh rfl ⟨rfl, ⟨I.2.1, fun x y hx hy => (I.2.2 x y hx hy (Or.inl (by omega))).1, fun x y hx hy => (I.2.2 x y hx hy (Or.inl (by omega))).2⟩, I.1⟩
    · refine R_s 2 (20, [(3, vI (nI 0)), (2, vI (nI a)), (0, vR 7 15), (1, vR g 0)], [], hh) rfl ?_
      suffices ∀ m2 b hk, b + m2 = n → LI h hk n (Wc s (-1) p) (msb s e n) a b → R (d + 4) mO_load (20, [(3, vI (nI b)), (2, vI (nI a)), (0, vR 7 15), (1, vR g 0)], [], hk) (fun r h' => r = none ∧ TL h' n (Wc s (-1) p) (msb s e n) ∧ FO3 h h') from this n 0 hh (by omega) I
      intro m2
      induction m2 with
      | zero =>
        intro b hk hm2 J
        refine R_s 3 (25, [(3, vI (nI b)), (2, vI (nI a)), (0, vR 7 15), (1, vR g 0)], [vI (hk 7 15 0), vI (nI b)], hk) rfl ?_
        refine R_top (nI n) J.2.1 ?_
        refine R_s 1 (cond (if2 .ge (nI b) (nI n)) 77 28, [(3, vI (nI b)), (2, vI (nI a)), (0, vR 7 15), (1, vR g 0)], [], hk) rfl ?_
        refine R_bp (n ≤ b) (i2_ge (by omega) (by omega)) (fun c2 => ?_) (fun c2 => ?_)
        · refine R_s 1 (80, [(2, vI (nI a + Int32.ofInt 1)), (3, vI (nI b)), (0, vR 7 15), (1, vR g 0)], [], hk) rfl ?_
          refine R_lv (lv' := [(2, vI (nI (a + 1))), (3, vI (nI b)), (0, vR 7 15), (1, vR g 0)]) (by rw [show nI a + Int32.ofInt 1 = nI (a + 1) from nI_add _ _]) ?_
          refine R_s 1 (10, [(2, vI (nI (a + 1))), (3, vI (nI b)), (0, vR 7 15), (1, vR g 0)], [], hk) rfl ?_
          refine R_fg (lv' := [(2, vI (nI (a + 1))), (0, vR 7 15), (1, vR g 0)]) [0, 2, 3] rfl [2, 3, 0, 1] rfl (by decide) ?_
          exact ih (a + 1) hk (by omega) ⟨J.1, J.2.1, fun x y hx hy z => J.2.2 x y hx hy (by omega)⟩
        · exact absurd hm2 (by omega)
      | succ m2 ih2 =>
        intro b hk hm2 J
        refine R_s 3 (25, [(3, vI (nI b)), (2, vI (nI a)), (0, vR 7 15), (1, vR g 0)], [vI (hk 7 15 0), vI (nI b)], hk) rfl ?_
        refine R_top (nI n) J.2.1 ?_
        refine R_s 1 (cond (if2 .ge (nI b) (nI n)) 77 28, [(3, vI (nI b)), (2, vI (nI a)), (0, vR 7 15), (1, vR g 0)], [], hk) rfl ?_
        refine R_bp (n ≤ b) (i2_ge (by omega) (by omega)) (fun c2 => ?_) (fun c2 => ?_)
        · refine R_s 1 (80, [(2, vI (nI a + Int32.ofInt 1)), (3, vI (nI b)), (0, vR 7 15), (1, vR g 0)], [], hk) rfl ?_
          refine R_lv (lv' := [(2, vI (nI (a + 1))), (3, vI (nI b)), (0, vR 7 15), (1, vR g 0)]) (by rw [show nI a + Int32.ofInt 1 = nI (a + 1) from nI_add _ _]) ?_
          refine R_s 1 (10, [(2, vI (nI (a + 1))), (3, vI (nI b)), (0, vR 7 15), (1, vR g 0)], [], hk) rfl ?_
          refine R_fg (lv' := [(2, vI (nI (a + 1))), (0, vR 7 15), (1, vR g 0)]) [0, 2, 3] rfl [2, 3, 0, 1] rfl (by decide) ?_
          exact ih (a + 1) hk (by omega) ⟨J.1, J.2.1, fun x y hx hy z => J.2.2 x y hx hy (by omega)⟩
        · refine R_s 2 (31, [(3, vI (nI b)), (2, vI (nI a)), (0, vR 7 15), (1, vR g 0)], [vI (nI 8), vI (nI a)], hk) rfl ?_
          refine R_mul a 8 rfl ?_
          refine R_s 1 (33, [(3, vI (nI b)), (2, vI (nI a)), (0, vR 7 15), (1, vR g 0)], [vI (nI b), vI (nI (a * 8))], hk) rfl ?_
          refine R_add (a * 8) b rfl ?_
          refine R_s 7 (cond (if2 .ne (nI a) (nI b)) 51 47, [(4, vI (nI ((a * 8) + b))), (3, vI (nI b)), (2, vI (nI a)), (0, vR 7 15), (1, vR g 0)], [vI (nI ((a * 8) + b)), vR 7 16], hk) rfl ?_
          refine R_bp (¬ a = b) (i2_ne (by omega) (by omega)) (fun c3 => ?_) (fun c3 => ?_)
          · refine R_s 3 (54, [(4, vI (nI ((a * 8) + b))), (3, vI (nI b)), (2, vI (nI a)), (0, vR 7 15), (1, vR g 0)], [vI (nI b), vI (nI a), vR g 0, vI (nI ((a * 8) + b)), vR 7 16], hk) rfl ?_
            refine R_calli mC_costOfChangeover [vR g 0, vI (nI a), vI (nI b)] [vI (nI ((a * 8) + b)), vR 7 16] (nI (btw s (-1) p a b p)) hk rfl (t_C_costOfChangeover (cof9 J.1) F (by omega) (by omega)) ?_
            refine R_st 7 16 ((a * 8) + b) 64 (nI (btw s (-1) p a b p)) rfl rfl (by omega) (by decide) (fun h2 eh2 => ?_)
            refine R_s 6 (67, [(4, vI (nI ((a * 8) + b))), (3, vI (nI b)), (2, vI (nI a)), (0, vR 7 15), (1, vR g 0)], [vI (nI b), vI (nI a), vR g 0, vI (nI ((a * 8) + b)), vR 7 17], h2) rfl ?_
            refine R_calli mC_mayStandAt [vR g 0, vI (nI a), vI (nI b)] [vI (nI ((a * 8) + b)), vR 7 17] (bI (msb s e n a b)) h2 rfl (t_C_mayStandAt (cof9 (fun g' j' q => by rw [eh2, hs_ne (fun z => q ⟨z.1, Or.inr (Or.inl z.2)⟩)]; exact J.1 g' j' q)) h8 he hen (by omega) (by omega)) ?_
            refine R_stb 7 17 ((a * 8) + b) 64 (bI (msb s e n a b)) rfl rfl (by omega) (by decide) (fun h3 eh3 => ?_)
            refine R_s 1 (74, [(3, vI (nI b + Int32.ofInt 1)), (4, vI (nI ((a * 8) + b))), (2, vI (nI a)), (0, vR 7 15), (1, vR g 0)], [], h3) rfl ?_
            refine R_lv (lv' := [(3, vI (nI (b + 1))), (4, vI (nI ((a * 8) + b))), (2, vI (nI a)), (0, vR 7 15), (1, vR g 0)]) (by rw [show nI b + Int32.ofInt 1 = nI (b + 1) from nI_add _ _]) ?_
            refine R_s 1 (20, [(3, vI (nI (b + 1))), (4, vI (nI ((a * 8) + b))), (2, vI (nI a)), (0, vR 7 15), (1, vR g 0)], [], h3) rfl ?_
            refine R_fg (lv' := [(3, vI (nI (b + 1))), (2, vI (nI a)), (0, vR 7 15), (1, vR g 0)]) [0, 2, 3, 4] rfl [3, 4, 2, 0, 1] rfl (by decide) ?_
            exact ih2 (b + 1) _ (by omega) (by
            rw [eh3, eh2, vpz]
            refine ⟨fun g' j' q => ?_, ?_, fun x y hx hy z => ?_⟩
            · rw [hs_ne (fun z => q ⟨z.1, Or.inr (Or.inr z.2)⟩), hs_ne (fun z => q ⟨z.1, Or.inr (Or.inl z.2)⟩)]; exact J.1 g' j' q
            · rw [hs_ne (by omega), hs_ne (by omega)]; exact J.2.1
            · by_cases q : x = a ∧ y = b
              · obtain ⟨rfl, rfl⟩ := q
                refine ⟨?_, ?_⟩
                · rw [hs_ne (by omega), hs_same, up_same]; unfold Wc; rw [if_pos ⟨by omega, by omega, c3⟩]
                · rw [hs_same, up_same]
              · refine ⟨?_, ?_⟩
                · rw [hs_ne (by omega), hs_same, up_ne (by omega)]; exact (J.2.2 x y hx hy (by omega)).1
                · rw [hs_same, up_ne (by omega), hs_ne (by omega)]; exact (J.2.2 x y hx hy (by omega)).2)
          · refine R_s 2 (57, [(4, vI (nI ((a * 8) + b))), (3, vI (nI b)), (2, vI (nI a)), (0, vR 7 15), (1, vR g 0)], [vI (nI 0), vI (nI ((a * 8) + b)), vR 7 16], hk) rfl ?_
            refine R_st 7 16 ((a * 8) + b) 64 (nI 0) rfl rfl (by omega) (by decide) (fun h4 eh4 => ?_)
            refine R_s 6 (67, [(4, vI (nI ((a * 8) + b))), (3, vI (nI b)), (2, vI (nI a)), (0, vR 7 15), (1, vR g 0)], [vI (nI b), vI (nI a), vR g 0, vI (nI ((a * 8) + b)), vR 7 17], h4) rfl ?_
            refine R_calli mC_mayStandAt [vR g 0, vI (nI a), vI (nI b)] [vI (nI ((a * 8) + b)), vR 7 17] (bI (msb s e n a b)) h4 rfl (t_C_mayStandAt (cof9 (fun g' j' q => by rw [eh4, hs_ne (fun z => q ⟨z.1, Or.inr (Or.inl z.2)⟩)]; exact J.1 g' j' q)) h8 he hen (by omega) (by omega)) ?_
            refine R_stb 7 17 ((a * 8) + b) 64 (bI (msb s e n a b)) rfl rfl (by omega) (by decide) (fun h5 eh5 => ?_)
            refine R_s 1 (74, [(3, vI (nI b + Int32.ofInt 1)), (4, vI (nI ((a * 8) + b))), (2, vI (nI a)), (0, vR 7 15), (1, vR g 0)], [], h5) rfl ?_
            refine R_lv (lv' := [(3, vI (nI (b + 1))), (4, vI (nI ((a * 8) + b))), (2, vI (nI a)), (0, vR 7 15), (1, vR g 0)]) (by rw [show nI b + Int32.ofInt 1 = nI (b + 1) from nI_add _ _]) ?_
            refine R_s 1 (20, [(3, vI (nI (b + 1))), (4, vI (nI ((a * 8) + b))), (2, vI (nI a)), (0, vR 7 15), (1, vR g 0)], [], h5) rfl ?_
            refine R_fg (lv' := [(3, vI (nI (b + 1))), (2, vI (nI a)), (0, vR 7 15), (1, vR g 0)]) [0, 2, 3, 4] rfl [3, 4, 2, 0, 1] rfl (by decide) ?_
            exact ih2 (b + 1) _ (by omega) (by
            rw [eh5, eh4, vpz]
            refine ⟨fun g' j' q => ?_, ?_, fun x y hx hy z => ?_⟩
            · rw [hs_ne (fun z => q ⟨z.1, Or.inr (Or.inr z.2)⟩), hs_ne (fun z => q ⟨z.1, Or.inr (Or.inl z.2)⟩)]; exact J.1 g' j' q
            · rw [hs_ne (by omega), hs_ne (by omega)]; exact J.2.1
            · by_cases q : x = a ∧ y = b
              · obtain ⟨rfl, rfl⟩ := q
                refine ⟨?_, ?_⟩
                · rw [hs_ne (by omega), hs_same, up_same]; unfold Wc; rw [if_neg (fun q => q.2.2 (Classical.not_not.mp c3))]
                · rw [hs_same, up_same]
              · refine ⟨?_, ?_⟩
                · rw [hs_ne (by omega), hs_same, up_ne (by omega)]; exact (J.2.2 x y hx hy (by omega)).1
                · rw [hs_same, up_ne (by omega), hs_ne (by omega)]; exact (J.2.2 x y hx hy (by omega)).2)
theorem t_O_leastCost {d n : Nat} {h : HP} {W : Nat → Nat → Nat} {B : Nat → Nat → Bool} (T : TF h n W B) : MT d mO_leastCost [vR 7 15] h (fun r h' => r = some (vI (enc (GT n W (mCl B) 0 0).1)) ∧ h' = h) := by
  refine R_s 3 (5, [(0, vR 7 15)], [vI (nI 0), vR 7 18], h) rfl ?_
  refine R_ld 7 18 0 2048 rfl rfl (by omega) (by decide) ?_
  refine R_top (enc (GT n W (mCl B) 0 0).1) T.2.1.1 ?_
  exact R_ret (some (vI (enc (GT n W (mCl B) 0 0).1))) h rfl ⟨rfl, rfl⟩
theorem t_O_leastCostOrders {d n : Nat} {h : HP} {W : Nat → Nat → Nat} {B : Nat → Nat → Bool} (T : TF h n W B) : MT d mO_leastCostOrders [vR 7 15] h (fun r h' => r = some (vI (nI (GT n W (mCl B) 0 0).2)) ∧ h' = h) := by
  refine R_s 3 (5, [(0, vR 7 15)], [vI (nI 0), vR 7 19], h) rfl ?_
  refine R_ld 7 19 0 2048 rfl rfl (by omega) (by decide) ?_
  refine R_top (nI ((GT n W (mCl B) 0 0).2)) T.2.1.2 ?_
  exact R_ret (some (vI (nI ((GT n W (mCl B) 0 0).2)))) h rfl ⟨rfl, rfl⟩
/-- what costThrough gives over a whole table -/
theorem t_O_ct {d n S l x : Nat} {h : HP} {W : Nat → Nat → Nat} {B : Nat → Nat → Bool} (T : TF h n W B) (hW : ∀ a b, W a b ≤ 35) (hn : n ≤ 8) (hS : S < 2 ^ n) (hl : l < n) (hx : x < n) : MT (d + 1) mO_costThrough [vR 7 15, vI (nI S), vI (nI l), vI (nI x)] h (fun r h' => r = some (vI (enc (cand W (mCl B) (GT n W (mCl B)) S l x).1)) ∧ h' = h) := by
  rw [cand_ctv]
  exact t_O_costThrough T.1 hn hS hl hx (fun z => (T.2.2 _ (or_lt hS hx) x hx or_self).1) (fun c z => GT_le hn hW z)
theorem t_O_leastCostFrom {d n x : Nat} {h : HP} {W : Nat → Nat → Nat} {B : Nat → Nat → Bool} (T : TF h n W B) (hW : ∀ a b, W a b ≤ 35) (hn : n ≤ 8) (hx : x < n) : MT (d + 2) mO_leastCostFrom [vR 7 15, vI (nI x)] h (fun r h' => r = some (vI (enc (cand W (mCl B) (GT n W (mCl B)) 0 0 x).1)) ∧ h' = h) := by
  refine R_s 4 (4, [(0, vR 7 15), (1, vI (nI x))], [vI (nI x), vI (nI 0), vI (nI 0), vR 7 15], h) rfl ?_
  refine R_calli mO_costThrough [vR 7 15, vI (nI 0), vI (nI 0), vI (nI x)] [] (enc (cand W (mCl B) (GT n W (mCl B)) 0 0 x).1) h rfl (t_O_ct T hW hn (Nat.pow_pos (by decide)) (by omega) hx) ?_
  exact R_ret (some (vI (enc (cand W (mCl B) (GT n W (mCl B)) 0 0 x).1))) h rfl ⟨rfl, rfl⟩
theorem cand_le {n S l x : Nat} {W : Nat → Nat → Nat} {may : Nat → Nat → Bool} (hW : ∀ a b, W a b ≤ 35) (hn : n ≤ 8) {c : Nat} (h : (cand W may (GT n W may) S l x).1 = some c) : c ≤ 315 := by
  unfold cand at h
  split at h
  · cases hg : (GT n W may (S ||| 2 ^ x) x).1 with
    | none => rw [hg] at h; cases h
    | some z =>
      rw [hg] at h
      cases h
      have := GT_le hn hW hg
      have := hW l x
      show (if S = 0 then 0 else W l x) + z ≤ 315
      split <;> omega
  · cases h
theorem t_O_bestNext {d n S l : Nat} {h : HP} {W : Nat → Nat → Nat} {B : Nat → Nat → Bool} (T : TF h n W B) (hW : ∀ a b, W a b ≤ 35) (hn : n ≤ 8) (hS : S < 2 ^ n) (hl : l < n) (hE : TE h n W B S l) : MT (d + 2) mO_bestNext [vR 7 15, vI (nI S), vI (nI l)] h (fun r h' => r = some (vI (enc (nxt n W (mCl B) S l))) ∧ h' = h) := by
  have hS8 : S < 256 := Nat.lt_of_lt_of_le hS (pw_le hn)
  unfold nxt
  have hvle : ∀ c, (GT n W (mCl B) S l).1 = some c → c ≤ 280 := fun c z => GT_le hn hW z
  have hcle : ∀ x c, (cand W (mCl B) (GT n W (mCl B)) S l x).1 = some c → c ≤ 315 := fun x c z => cand_le hW hn z
  have hct : ∀ {d : Nat} x, x < n → MT (d + 1) mO_costThrough [vR 7 15, vI (nI S), vI (nI l), vI (nI x)] h (fun r h' => r = some (vI (enc (cand W (mCl B) (GT n W (mCl B)) S l x).1)) ∧ h' = h) := fun x hx => t_O_ct T hW hn hS hl hx
  refine R_s 5 (7, [(0, vR 7 15), (1, vI (nI S)), (2, vI (nI l))], [vI (nI l), vI (nI S), vR 7 15, vR 7 18], h) rfl ?_
  refine R_calli mO_cellOf [vR 7 15, vI (nI S), vI (nI l)] [vR 7 18] (nI (S * 8 + l)) h rfl t_O_cellOf ?_
  refine R_ld 7 18 (S * 8 + l) 2048 rfl rfl (by omega) (by decide) ?_
  refine R_top (enc (GT n W (mCl B) S l).1) hE.1 ?_
  refine R_s 3 (15, [(4, vI (nI 0)), (3, vI (enc (GT n W (mCl B) S l).1)), (0, vR 7 15), (1, vI (nI S)), (2, vI (nI l))], [], h) rfl ?_
  generalize (GT n W (mCl B) S l).1 = v at hvle ⊢
  generalize hf : (fun x => (cand W (mCl B) (GT n W (mCl B)) S l x).1) = f
  have hct : ∀ {d : Nat} x, x < n → MT (d + 1) mO_costThrough [vR 7 15, vI (nI S), vI (nI l), vI (nI x)] h (fun r h' => r = some (vI (enc (f x))) ∧ h' = h) := by intro d x hx; rw [← hf]; exact hct x hx
  have hcle : ∀ x c, f x = some c → c ≤ 315 := by intro x c; rw [← hf]; exact hcle x c
  suffices ∀ m x, x + m = n → fs f v n 0 = fs f v m x → R (d + 2) mO_bestNext (15, [(4, vI (nI x)), (3, vI (enc v)), (0, vR 7 15), (1, vI (nI S)), (2, vI (nI l))], [], h) (fun r h' => r = some (vI (enc (fs f v n 0))) ∧ h' = h) from this n 0 (by omega) rfl
  intro m
  induction m with
  | zero =>
    intro x hm hI
    refine R_s 3 (21, [(4, vI (nI x)), (3, vI (enc v)), (0, vR 7 15), (1, vI (nI S)), (2, vI (nI l))], [vI (h 7 15 0), vI (nI x)], h) rfl ?_
    refine R_top (nI n) T.1.1 ?_
    refine R_s 1 (cond (if2 .ge (nI x) (nI n)) 55 24, [(4, vI (nI x)), (3, vI (enc v)), (0, vR 7 15), (1, vI (nI S)), (2, vI (nI l))], [], h) rfl ?_
    refine R_bp (n ≤ x) (i2_ge (by omega) (by omega)) (fun c1 => ?_) (fun c1 => ?_)
    · refine R_s 1 (56, [(4, vI (nI x)), (3, vI (enc v)), (0, vR 7 15), (1, vI (nI S)), (2, vI (nI l))], [vI (-1)], h) rfl ?_
      exact R_ret (some (vI (-1))) h rfl ⟨by rw [hI, show 0 = 0 by omega]; rfl, rfl⟩
    · exact absurd hm (by omega)
  | succ m ih =>
    intro x hm hI
    refine R_s 3 (21, [(4, vI (nI x)), (3, vI (enc v)), (0, vR 7 15), (1, vI (nI S)), (2, vI (nI l))], [vI (h 7 15 0), vI (nI x)], h) rfl ?_
    refine R_top (nI n) T.1.1 ?_
    refine R_s 1 (cond (if2 .ge (nI x) (nI n)) 55 24, [(4, vI (nI x)), (3, vI (enc v)), (0, vR 7 15), (1, vI (nI S)), (2, vI (nI l))], [], h) rfl ?_
    refine R_bp (n ≤ x) (i2_ge (by omega) (by omega)) (fun c1 => ?_) (fun c1 => ?_)
    · refine R_s 1 (56, [(4, vI (nI x)), (3, vI (enc v)), (0, vR 7 15), (1, vI (nI S)), (2, vI (nI l))], [vI (-1)], h) rfl ?_
      exact R_ret (some (vI (-1))) h rfl ⟨by rw [hI, show m + 1 = 0 by omega]; rfl, rfl⟩
    · refine R_s 4 (29, [(4, vI (nI x)), (3, vI (enc v)), (0, vR 7 15), (1, vI (nI S)), (2, vI (nI l))], [vI (nI x), vI (nI l), vI (nI S), vR 7 15], h) rfl ?_
      refine R_calli mO_costThrough [vR 7 15, vI (nI S), vI (nI l), vI (nI x)] [] (enc (f x)) h rfl (hct x (by omega)) ?_
      cases hfx : f x with
      | none =>
        refine R_s 4 (cond (if2 .eq (enc none) (-1)) 49 40, [(5, vI (enc none)), (4, vI (nI x)), (3, vI (enc v)), (0, vR 7 15), (1, vI (nI S)), (2, vI (nI l))], [], h) rfl ?_
        refine R_bt (by decide) ?_
        refine R_s 1 (52, [(4, vI (nI x + Int32.ofInt 1)), (5, vI (enc none)), (3, vI (enc v)), (0, vR 7 15), (1, vI (nI S)), (2, vI (nI l))], [], h) rfl ?_
        refine R_lv (lv' := [(4, vI (nI (x + 1))), (5, vI (enc none)), (3, vI (enc v)), (0, vR 7 15), (1, vI (nI S)), (2, vI (nI l))]) (by rw [show nI x + Int32.ofInt 1 = nI (x + 1) from nI_add _ _]) ?_
        refine R_s 1 (15, [(4, vI (nI (x + 1))), (5, vI (enc none)), (3, vI (enc v)), (0, vR 7 15), (1, vI (nI S)), (2, vI (nI l))], [], h) rfl ?_
        refine R_fg (lv' := [(4, vI (nI (x + 1))), (3, vI (enc v)), (0, vR 7 15), (1, vI (nI S)), (2, vI (nI l))]) [0, 2, 3, 4, 5] rfl [4, 5, 3, 0, 1, 2] rfl (by decide) ?_
        exact ih (x + 1) (by omega) (by rw [hI]; show (if _ then _ else _) = _; rw [if_neg (by rw [hfx]; simp)])
      | some c =>
        have hc315 := hcle x c hfx
        refine R_top (nI c) rfl ?_
        refine R_s 4 (cond (if2 .eq (nI c) (-1)) 49 40, [(5, vI (nI c)), (4, vI (nI x)), (3, vI (enc v)), (0, vR 7 15), (1, vI (nI S)), (2, vI (nI l))], [], h) rfl ?_
        refine R_bf (e2_m1 (by omega)) ?_
        cases v with
        | none =>
          refine R_s 3 (cond (if2 .ne (nI c) (enc none)) 49 46, [(5, vI (nI c)), (4, vI (nI x)), (3, vI (enc none)), (0, vR 7 15), (1, vI (nI S)), (2, vI (nI l))], [], h) rfl ?_
          refine R_bt (by unfold if2; exact decide_eq_true (nI_ne_m1 (by omega))) ?_
          refine R_s 1 (52, [(4, vI (nI x + Int32.ofInt 1)), (5, vI (nI c)), (3, vI (enc none)), (0, vR 7 15), (1, vI (nI S)), (2, vI (nI l))], [], h) rfl ?_
          refine R_lv (lv' := [(4, vI (nI (x + 1))), (5, vI (nI c)), (3, vI (enc none)), (0, vR 7 15), (1, vI (nI S)), (2, vI (nI l))]) (by rw [show nI x + Int32.ofInt 1 = nI (x + 1) from nI_add _ _]) ?_
          refine R_s 1 (15, [(4, vI (nI (x + 1))), (5, vI (nI c)), (3, vI (enc none)), (0, vR 7 15), (1, vI (nI S)), (2, vI (nI l))], [], h) rfl ?_
          refine R_fg (lv' := [(4, vI (nI (x + 1))), (3, vI (enc none)), (0, vR 7 15), (1, vI (nI S)), (2, vI (nI l))]) [0, 2, 3, 4, 5] rfl [4, 5, 3, 0, 1, 2] rfl (by decide) ?_
          exact ih (x + 1) (by omega) (by rw [hI]; show (if _ then _ else _) = _; rw [if_neg (by rw [hfx]; simp)])
        | some a =>
          have ha280 := hvle a rfl
          refine R_lv (lv' := [(5, vI (nI c)), (4, vI (nI x)), (3, vI (nI a)), (0, vR 7 15), (1, vI (nI S)), (2, vI (nI l))]) rfl ?_
          refine R_s 3 (cond (if2 .ne (nI c) (nI a)) 49 46, [(5, vI (nI c)), (4, vI (nI x)), (3, vI (nI a)), (0, vR 7 15), (1, vI (nI S)), (2, vI (nI l))], [], h) rfl ?_
          refine R_bp (¬ c = a) (i2_ne (by omega) (by omega)) (fun c2 => ?_) (fun c2 => ?_)
          · refine R_s 1 (52, [(4, vI (nI x + Int32.ofInt 1)), (5, vI (nI c)), (3, vI (nI a)), (0, vR 7 15), (1, vI (nI S)), (2, vI (nI l))], [], h) rfl ?_
            refine R_lv (lv' := [(4, vI (nI (x + 1))), (5, vI (nI c)), (3, vI (nI a)), (0, vR 7 15), (1, vI (nI S)), (2, vI (nI l))]) (by rw [show nI x + Int32.ofInt 1 = nI (x + 1) from nI_add _ _]) ?_
            refine R_s 1 (15, [(4, vI (nI (x + 1))), (5, vI (nI c)), (3, vI (nI a)), (0, vR 7 15), (1, vI (nI S)), (2, vI (nI l))], [], h) rfl ?_
            refine R_lv (lv' := [(4, vI (nI (x + 1))), (5, vI (nI c)), (3, vI (enc (some a))), (0, vR 7 15), (1, vI (nI S)), (2, vI (nI l))]) rfl ?_
            refine R_fg (lv' := [(4, vI (nI (x + 1))), (3, vI (enc (some a))), (0, vR 7 15), (1, vI (nI S)), (2, vI (nI l))]) [0, 2, 3, 4, 5] rfl [4, 5, 3, 0, 1, 2] rfl (by decide) ?_
            exact ih (x + 1) (by omega) (by rw [hI]; show (if _ then _ else _) = _; rw [if_neg (by rw [hfx]; intro q; exact c2 (Option.some.inj q.2))])
          · refine R_s 1 (48, [(5, vI (nI c)), (4, vI (nI x)), (3, vI (nI a)), (0, vR 7 15), (1, vI (nI S)), (2, vI (nI l))], [vI (nI x)], h) rfl ?_
            exact R_ret (some (vI (nI x))) h rfl ⟨by rw [hI]; show _ = some (vI (enc (if _ then _ else _))); rw [if_pos ⟨by rw [hfx]; rfl, by rw [hfx, Classical.not_not.mp c2]⟩]; rfl, rfl⟩
theorem bch_none {n : Nat} {W : Nat → Nat → Nat} {may : Nat → Nat → Bool} {i : Nat} (h : bch n W may i = none) : ∀ k, bch n W may (i + k) = none := by
  intro k
  induction k with
  | zero => exact h
  | succ k ih =>
    show bch n W may (i + k + 1) = none
    unfold bch
    rw [ih]
theorem bch_s {n : Nat} {W : Nat → Nat → Nat} {may : Nat → Nat → Bool} {i S l : Nat} (h : bch n W may i = some (S, l)) : bch n W may (i + 1) = (nxt n W may S l).map (fun x => (S ||| 2 ^ x, x)) := by
  rw [bch, h]
  dsimp only
  cases nxt n W may S l <;> rfl
theorem t_O_bestSong {d n j : Nat} {h : HP} {W : Nat → Nat → Nat} {B : Nat → Nat → Bool} (T : TF h n W B) (hW : ∀ a b, W a b ≤ 35) (hn : n ≤ 8) (hj : j < n) : MT (d + 3) mO_bestSong [vR 7 15, vI (nI j)] h (fun r h' => r = some (vI (enc (bsg n W (mCl B) j))) ∧ h' = h) := by
  refine R_s 6 (7, [(4, vI (nI 0)), (3, vI (nI 0)), (2, vI (nI 0)), (0, vR 7 15), (1, vI (nI j))], [], h) rfl ?_
  suffices ∀ m i S l, i + m = j + 1 → i ≤ j + 1 → bch n W (mCl B) i = some (S, l) → R (d + 3) mO_bestSong (7, [(4, vI (nI i)), (3, vI (nI l)), (2, vI (nI S)), (0, vR 7 15), (1, vI (nI j))], [], h) (fun r h' => r = some (vI (enc (bsg n W (mCl B) j))) ∧ h' = h) from this (j + 1) 0 0 0 (by omega) (by omega) rfl
  intro m
  induction m with
  | zero =>
    intro i S l hm hi hI
    refine R_s 3 (cond (if2 .gt (nI i) (nI j)) 39 13, [(4, vI (nI i)), (3, vI (nI l)), (2, vI (nI S)), (0, vR 7 15), (1, vI (nI j))], [], h) rfl ?_
    refine R_bp (j < i) (i2_gt (by omega) (by omega)) (fun c1 => ?_) (fun c1 => ?_)
    · refine R_s 1 (40, [(4, vI (nI i)), (3, vI (nI l)), (2, vI (nI S)), (0, vR 7 15), (1, vI (nI j))], [vI (nI l)], h) rfl ?_
      exact R_ret (some (vI (nI l))) h rfl ⟨by unfold bsg; rw [show j + 1 = i by omega, hI]; rfl, rfl⟩
    · exact absurd hm (by omega)
  | succ m ih =>
    intro i S l hm hi hI
    refine R_s 3 (cond (if2 .gt (nI i) (nI j)) 39 13, [(4, vI (nI i)), (3, vI (nI l)), (2, vI (nI S)), (0, vR 7 15), (1, vI (nI j))], [], h) rfl ?_
    refine R_bp (j < i) (i2_gt (by omega) (by omega)) (fun c1 => ?_) (fun c1 => ?_)
    · refine R_s 1 (40, [(4, vI (nI i)), (3, vI (nI l)), (2, vI (nI S)), (0, vR 7 15), (1, vI (nI j))], [vI (nI l)], h) rfl ?_
      exact R_ret (some (vI (nI l))) h rfl ⟨by unfold bsg; rw [show j + 1 = i by omega, hI]; rfl, rfl⟩
    · obtain ⟨b1, b2, b3⟩ := bch_ok hn mCl_bit i (by omega) (S, l) hI
      have hS8 : S < 256 := Nat.lt_of_lt_of_le b1 (pw_le hn)
      have hE : TE h n W B S l := by
          rcases b3 with ⟨q1, q2⟩ | ⟨q1, q2⟩
          · have q1 : S = 0 := q1
            have q2 : l = 0 := q2
            rw [q1, q2]; exact T.2.1
          · exact T.2.2 S b1 l q1 q2
      have hln : l < n := by
          rcases b3 with ⟨q1, q2⟩ | ⟨q1, q2⟩
          · have q2 : l = 0 := q2
            omega
          · exact q1
      refine R_s 3 (16, [(4, vI (nI i)), (3, vI (nI l)), (2, vI (nI S)), (0, vR 7 15), (1, vI (nI j))], [vI (nI l), vI (nI S), vR 7 15], h) rfl ?_
      refine R_calli mO_bestNext [vR 7 15, vI (nI S), vI (nI l)] [] (enc (nxt n W (mCl B) S l)) h rfl (t_O_bestNext T hW hn b1 hln hE) ?_
      have hs := bch_s hI
      cases hx : nxt n W (mCl B) S l with
      | none =>
        refine R_s 4 (cond (if2 .ne (enc none) (-1)) 27 25, [(3, vI (enc none)), (4, vI (nI i)), (2, vI (nI S)), (0, vR 7 15), (1, vI (nI j))], [], h) rfl ?_
        refine R_bf (by decide) ?_
        refine R_s 1 (26, [(3, vI (enc none)), (4, vI (nI i)), (2, vI (nI S)), (0, vR 7 15), (1, vI (nI j))], [vI (-1)], h) rfl ?_
        exact R_ret (some (vI (-1))) h rfl ⟨by
            rw [hx] at hs
            have := bch_none hs (j - i)
            unfold bsg
            rw [show j + 1 = i + 1 + (j - i) by omega, this]
            rfl, rfl⟩
      | some x =>
        have hxn := (nxt_ok hx).1
        refine R_top (nI x) rfl ?_
        refine R_s 4 (cond (if2 .ne (nI x) (-1)) 27 25, [(3, vI (nI x)), (4, vI (nI i)), (2, vI (nI S)), (0, vR 7 15), (1, vI (nI j))], [], h) rfl ?_
        refine R_bt (by unfold if2; exact decide_eq_true (nI_ne_m1 (by omega))) ?_
        refine R_s 5 (32, [(3, vI (nI x)), (4, vI (nI i)), (2, vI (nI S)), (0, vR 7 15), (1, vI (nI j))], [vI ((nI S) ||| ((nI 1) <<< ((nI x) &&& 31)))], h) rfl ?_
        refine R_top (nI (S ||| 2 ^ x)) (bit_or S hS8 x (by omega)) ?_
        refine R_s 2 (36, [(4, vI (nI i + Int32.ofInt 1)), (2, vI (nI (S ||| 2 ^ x))), (3, vI (nI x)), (0, vR 7 15), (1, vI (nI j))], [], h) rfl ?_
        refine R_lv (lv' := [(4, vI (nI (i + 1))), (2, vI (nI (S ||| 2 ^ x))), (3, vI (nI x)), (0, vR 7 15), (1, vI (nI j))]) (by rw [show nI i + Int32.ofInt 1 = nI (i + 1) from nI_add _ _]) ?_
        refine R_s 1 (7, [(4, vI (nI (i + 1))), (2, vI (nI (S ||| 2 ^ x))), (3, vI (nI x)), (0, vR 7 15), (1, vI (nI j))], [], h) rfl ?_
        refine R_fg (lv' := [(4, vI (nI (i + 1))), (3, vI (nI x)), (2, vI (nI (S ||| 2 ^ x))), (0, vR 7 15), (1, vI (nI j))]) [0, 2, 1, 3, 4] rfl [4, 2, 3, 0, 1] rfl (by decide) ?_
        exact ih (i + 1) (S ||| 2 ^ x) x (by omega) (by omega) (by rw [hs, hx]; rfl)
theorem if_min {n : Nat} (h : n ≤ 8) : (if nI 8 < nI n then nI 8 else nI n) = nI n := by rw [if_neg (nI_nlt h (by decide))]
theorem TF.mv {h h' : HP} {n : Nat} {W : Nat → Nat → Nat} {B : Nat → Nat → Bool} (T : TF h n W B) (e : ∀ j, 15 ≤ j → j ≤ 19 → h' 7 j = h 7 j) : TF h' n W B := by
  refine ⟨⟨by rw [e 15 (by omega) (by omega)]; exact T.1.1, fun a b ha hb => by rw [e 16 (by omega) (by omega)]; exact T.1.2.1 a b ha hb, fun a b ha hb => by rw [e 17 (by omega) (by omega)]; exact T.1.2.2 a b ha hb⟩, ⟨by rw [e 18 (by omega) (by omega)]; exact T.2.1.1, by rw [e 19 (by omega) (by omega)]; exact T.2.1.2⟩, fun S hS l hl hb => ⟨by rw [e 18 (by omega) (by omega)]; exact (T.2.2 S hS l hl hb).1, by rw [e 19 (by omega) (by omega)]; exact (T.2.2 S hS l hl hb).2⟩⟩
def CB (h h' : HP) (n : Nat) (W : Nat → Nat → Nat) (B : Nat → Nat → Bool) (i : Nat) : Prop := (∀ j, j < i → h' 0 8 j = enc (bsg n W (mCl B) j)) ∧ (∀ x, i ≤ x → h' 0 8 x = h 0 8 x) ∧ ∀ g' j', ¬ (g' = 0 ∧ j' = 8) → h' g' j' = h g' j'
theorem t_O_copyBestOrder {d n : Nat} {h : HP} {W : Nat → Nat → Nat} {B : Nat → Nat → Bool} (T : TF h n W B) (hW : ∀ a b, W a b ≤ 35) (hn : n ≤ 8) : MT (d + 4) mO_copyBestOrder [vR 7 15, vR 0 8] h (fun r h' => r = none ∧ CB h h' n W B n) := by
  refine R_s 2 (4, [(0, vR 7 15), (1, vR 0 8)], [vI (h 7 15 0)], h) rfl ?_
  refine R_top (nI n) T.1.1 ?_
  refine R_s 3 (9, [(0, vR 7 15), (1, vR 0 8)], [vI (if (nI 8) < (nI n) then (nI 8) else (nI n))], h) rfl ?_
  refine R_top (nI n) (if_min hn) ?_
  refine R_s 3 (12, [(3, vI (nI 0)), (2, vI (nI n)), (0, vR 7 15), (1, vR 0 8)], [], h) rfl ?_
  suffices ∀ m i hh, i + m = n → CB h hh n W B i → R (d + 4) mO_copyBestOrder (12, [(3, vI (nI i)), (2, vI (nI n)), (0, vR 7 15), (1, vR 0 8)], [], hh) (fun r h' => r = none ∧ CB h h' n W B n) from this n 0 h (by omega) ⟨fun j hj => by omega, fun x hx => rfl, fun _ _ _ => rfl⟩
  intro m
  induction m with
  | zero =>
    intro i hh hm I
    refine R_s 3 (cond (if2 .ge (nI i) (nI n)) 31 17, [(3, vI (nI i)), (2, vI (nI n)), (0, vR 7 15), (1, vR 0 8)], [], hh) rfl ?_
    refine R_bp (n ≤ i) (i2_ge (by omega) (by omega)) (fun c1 => ?_) (fun c1 => ?_)
    · exact R_ret none hh rfl ⟨rfl, by rw [show i = n by omega] at I; exact I⟩
    · exact absurd hm (by omega)
  | succ m ih =>
    intro i hh hm I
    refine R_s 3 (cond (if2 .ge (nI i) (nI n)) 31 17, [(3, vI (nI i)), (2, vI (nI n)), (0, vR 7 15), (1, vR 0 8)], [], hh) rfl ?_
    refine R_bp (n ≤ i) (i2_ge (by omega) (by omega)) (fun c1 => ?_) (fun c1 => ?_)
    · exact R_ret none hh rfl ⟨rfl, by rw [show i = n by omega] at I; exact I⟩
    · refine R_s 4 (21, [(3, vI (nI i)), (2, vI (nI n)), (0, vR 7 15), (1, vR 0 8)], [vI (nI i), vR 7 15, vI (nI i), vR 0 8], hh) rfl ?_
      refine R_calli mO_bestSong [vR 7 15, vI (nI i)] [vI (nI i), vR 0 8] (enc (bsg n W (mCl B) i)) hh rfl (t_O_bestSong (T.mv (fun j q1 q2 => I.2.2 7 j (by omega))) hW hn (by omega)) ?_
      refine R_st 0 8 i 8 (enc (bsg n W (mCl B) i)) rfl rfl (by omega) (by decide) (fun h1 eh1 => ?_)
      refine R_s 1 (28, [(3, vI (nI i + Int32.ofInt 1)), (2, vI (nI n)), (0, vR 7 15), (1, vR 0 8)], [], h1) rfl ?_
      refine R_lv (lv' := [(3, vI (nI (i + 1))), (2, vI (nI n)), (0, vR 7 15), (1, vR 0 8)]) (by rw [show nI i + Int32.ofInt 1 = nI (i + 1) from nI_add _ _]) ?_
      refine R_s 1 (12, [(3, vI (nI (i + 1))), (2, vI (nI n)), (0, vR 7 15), (1, vR 0 8)], [], h1) rfl ?_
      exact ih (i + 1) _ (by omega) (by
        rw [eh1]
        refine ⟨fun j hj => ?_, fun x hx => ?_, fun g' j' q => ?_⟩
        · rw [hs_same]
          by_cases e : j = i
          · rw [e, up_same]
          · rw [up_ne e]; exact I.1 j (by omega)
        · rw [hs_same, up_ne (by omega)]; exact I.2.1 x (by omega)
        · rw [hs_ne q]; exact I.2.2 g' j' q)
end
section
/-! THE READING OF A TEXT: characters ch 0 .. ch (len - 1) as numbers -/
abbrev ST : Type := (Nat → Int32) × Nat × Nat × Nat
def DW (z : ST) : Prop := WF z.1 z.2.1 z.2.2.1 z.2.2.2 ∧ WD z.1 ∧ WP z.1 z.2.1 z.2.2.1
/-- numbers by a walk over m characters from i on: the value and the digits so far, the numbers so far -/
def rn (ch : Nat → Nat) : Nat → Nat → Nat → Nat → List Nat → Option (List Nat)
  | 0, _, _, _, ns => some ns
  | m + 1, i, v, dg, ns => if 48 ≤ ch i ∧ ch i ≤ 57 then rn ch m (i + 1) (v * 10 + (ch i - 48)) (dg + 1) ns
      else if (ch i = 44 ∨ ch i = 59) ∧ (1 ≤ dg ∧ dg ≤ 2) ∧ ns.length < 4 then rn ch m (i + 1) 0 0 (ns ++ [v]) else none
/-- what a statement does: its letter, its numbers -/
def apl (c : Nat) (ns : List Nat) (z : ST) : Option ST := match ns with
  | [v] => if c = 115 then (if z.2.1 < 8 ∧ 1 ≤ v ∧ v ≤ 20 then some (upd (upd z.1 (1 + z.2.1) (nI v)) 0 (nI (z.2.1 + 1)), z.2.1 + 1, z.2.2.1, z.2.2.2) else none)
      else if c = 112 then (if z.2.2.1 < 5 ∧ v ≤ 1 then some (upd (upd z.1 (27 + z.2.2.1) (nI v)) 26 (nI (z.2.2.1 + 1)), z.2.1, z.2.2.1 + 1, z.2.2.2) else none)
      else if c = 101 then (if v < z.2.1 then some (upd z.1 9 (nI ((z.1 9).toNatClampNeg ||| 2 ^ v)), z.2) else none) else none
  | [u, v] => if c = 107 ∧ z.2.2.2 < 6 ∧ 1 ≤ u ∧ u ≤ 5 ∧ v ≤ 1 then some (upd (upd (upd z.1 (33 + z.2.2.2) (nI u)) (39 + z.2.2.2) (nI v)) 32 (nI (z.2.2.2 + 1)), z.2.1, z.2.2.1, z.2.2.2 + 1) else none
  | [a, b, e, t] => if c = 117 ∧ a < z.2.1 ∧ b < z.2.2.1 ∧ e < z.2.2.2 ∧ t ≤ 5 ∧ oth z.1 a (nI e) b z.2.2.1 < (z.1 (33 + e)).toNatClampNeg then some (upd (upd z.1 (45 + 2 * (a * 5 + b)) (nI e)) (46 + 2 * (a * 5 + b)) (nI t), z.2) else none
  | _ => none
def stC (ch : Nat → Nat) (a i : Nat) (z : ST) : Option ST := match rn ch (i - a) (a + 1) 0 0 [] with
  | none => none
  | some ns => apl (ch a) ns z
def pC (ch : Nat → Nat) (len : Nat) : Nat → Nat → Nat → ST → Option Nat × ST
  | 0, _, a, z => (if a < len then some a else none, z)
  | m + 1, i, a, z => if ch i = 59 then (match stC ch a i z with
      | none => (some a, z)
      | some z' => pC ch len m (i + 1) (i + 1) z') else pC ch len m (i + 1) a z
/-- a part that may be stated: seen from the class, from the reference -/
theorem may_part {s : Nat → Int32} {n p k a b c u : Nat} (F : WF s n p k) (ha : a < n) (hb : b < p) (hc : c < k) (hu : s (33 + c) = nI u) (hu6 : u ≤ 6) : (kd s a b = nI c ∨ cn s a (nI c) p < u) ↔ oth s a (nI c) b p < u := by
  have h1 := oth_cn s a (nI c) b p
  have h2 := F.2.2.2.2.2.2 a ha c hc
  have h3 := cn_le s a (nI c) p
  have h5 := F.2.1.2.1
  rw [hu] at h2
  have h4 := (nI_leI (by omega) (by omega)).mp h2
  by_cases e : kd s a b = nI c
  · rw [if_pos ⟨hb, e⟩] at h1
    exact ⟨fun _ => by omega, fun _ => Or.inl e⟩
  · rw [if_neg (fun q => e q.2)] at h1
    exact ⟨fun q => q.elim (fun z => absurd z e) (fun z => by omega), fun q => Or.inr (by omega)⟩
theorem wd_hi {s : Nat → Int32} {i : Nat} {v : Int32} (h : 26 ≤ i) (D : WD s) : WD (upd s i v) := wd_upd (Or.inr h) D
theorem apl_DW {c : Nat} {ns : List Nat} {z z' : ST} (D : DW z) (h : apl c ns z = some z') : DW z' := by
  obtain ⟨s, n, p, k⟩ := z
  obtain ⟨F, D1, P⟩ := D
  dsimp only at F D1 P
  have b8 := F.2.1.1
  have b5 := F.2.1.2.1
  have b6 := F.2.1.2.2
  unfold apl at h
  split at h
  · rename_i v
    dsimp only at h
    split at h
    · split at h
      · rename_i q
        cases h
        exact ⟨wf_song F P q.1 q.2.1 q.2.2, wd_upd (by omega) (wd_upd (by omega) D1), wp_upd (by omega) (Nat.le_refl _) (Nat.le_refl _) (wp_upd (by omega) (Nat.le_succ _) (Nat.le_refl _) P)⟩
      · cases h
    · split at h
      · split at h
        · rename_i q
          cases h
          exact ⟨wf_player F P q.1, wd_upd (by omega) (wd_upd (by omega) D1), wp_upd (by omega) (Nat.le_refl _) (Nat.le_refl _) (wp_upd (by omega) (Nat.le_refl _) (Nat.le_succ _) P)⟩
        · cases h
      · split at h
        · split at h
          · rename_i q
            cases h
            obtain ⟨e, e1, e2⟩ := F.2.2.1
            have he : (s 9).toNatClampNeg = e := by rw [e1, nI_cl (Nat.lt_of_lt_of_le e2 (Nat.le_trans (pw_le b8) (by decide)))]
            refine ⟨wf_enc F ?_, wd_upd (by omega) D1, wp_upd (by omega) (Nat.le_refl _) (Nat.le_refl _) P⟩
            rw [he]
            exact or_lt e2 q
          · cases h
        · cases h
  · rename_i u v
    dsimp only at h
    split at h
    · rename_i q
      cases h
      exact ⟨wf_kind F q.2.1 (by omega), wd_upd (by omega) (wd_upd (by omega) (wd_upd (by omega) D1)), wp_upd (by omega) (Nat.le_refl _) (Nat.le_refl _) (wp_upd (by omega) (Nat.le_refl _) (Nat.le_refl _) (wp_upd (by omega) (Nat.le_refl _) (Nat.le_refl _) P))⟩
    · cases h
  · rename_i a b e t
    dsimp only at h
    split at h
    · rename_i q
      cases h
      obtain ⟨q1, q2, q3, q4, q5, q6⟩ := q
      obtain ⟨u, hu, hu6⟩ := F.2.2.2.2.1 e q4
      rw [hu, nI_cl (by omega)] at q6
      exact ⟨wf_part F q2 q3 q4 q5 hu hu6 q6, wd_hi (by omega) (wd_hi (by omega) D1), wp_part P q2 q3 b5⟩
    · cases h
  · cases h
theorem rn_lt {ch : Nat → Nat} : ∀ m i v dg ns L, (∀ x ∈ ns, x < 100) → (dg = 0 → v = 0) → (dg = 1 → v < 10) → (dg = 2 → v < 100) → rn ch m i v dg ns = some L → ∀ x ∈ L, x < 100 := by
  intro m
  induction m with
  | zero => intro i v dg ns L h _ _ _ e; cases e; exact h
  | succ m ih =>
    intro i v dg ns L h h0 h1 h2 e
    unfold rn at e
    split at e
    · rename_i q
      exact ih _ _ _ _ _ h (by omega) (fun z => by have := h0 (by omega); omega) (fun z => by have := h1 (by omega); omega) e
    · split at e
      · rename_i q
        refine ih _ _ _ _ _ ?_ (fun _ => rfl) (fun z => by omega) (fun z => by omega) e
        intro x hx
        rcases List.mem_append.mp hx with h9 | h9
        · exact h x h9
        · rw [List.mem_singleton.mp h9]
          rcases (show dg = 1 ∨ dg = 2 by omega) with z | z
          · have := h1 z; omega
          · exact h2 z
      · cases e
theorem rn_len {ch : Nat → Nat} : ∀ m i v dg ns L, ns.length ≤ 4 → rn ch m i v dg ns = some L → L.length ≤ 4 := by
  intro m
  induction m with
  | zero => intro i v dg ns L h e; cases e; exact h
  | succ m ih =>
    intro i v dg ns L h e
    unfold rn at e
    split at e
    · exact ih _ _ _ _ _ h e
    · split at e
      · rename_i q
        refine ih _ _ _ _ _ ?_ e
        rw [List.length_append, List.length_singleton]
        omega
      · cases e
end
section
set_option maxRecDepth 100000 in
theorem t_T_add_t {d n : Nat} {h : HP} {x : Int32} (hn : h 7 10 1 = nI n) (h3 : n < 300) : MT d mT_add [vR 7 10, vI x] h (fun r h' => r = some (vI (nI 1)) ∧ h' = hset (hset h 7 11 n (vp_nar .char x)) 7 10 1 (nI (n + 1))) := by
  refine R_s 2 (4, [(0, vR 7 10), (1, vI x)], [vI (h 7 10 1)], h) rfl ?_
  refine R_top (nI n) hn ?_
  refine R_s 2 (cond (if2 .lt (nI n) (nI 300)) 12 10, [(0, vR 7 10), (1, vI x)], [], h) rfl ?_
  refine R_bp (n < 300) (i2_lt (by omega) (by omega)) (fun c1 => ?_) (fun c1 => ?_)
  · refine R_s 4 (20, [(0, vR 7 10), (1, vI x)], [vI (h 7 10 1), vR 7 11], h) rfl ?_
    refine R_top (nI n) hn ?_
    refine R_s 1 (21, [(0, vR 7 10), (1, vI x)], [vI x, vI (nI n), vR 7 11], h) rfl ?_
    refine R_stc 7 11 n 300 x rfl rfl (by omega) (by decide) (fun h1 eh1 => ?_)
    refine R_s 3 (27, [(0, vR 7 10), (1, vI x)], [vI (h1 7 10 1), vR 7 10], h1) rfl ?_
    refine R_top (nI n) (by rw [eh1, hs_ne (by omega)]; exact hn) ?_
    refine R_s 1 (28, [(0, vR 7 10), (1, vI x)], [vI (nI 1), vI (nI n), vR 7 10], h1) rfl ?_
    refine R_add n 1 rfl ?_
    refine R_s 1 (32, [(0, vR 7 10), (1, vI x)], [], (hset h1 7 10 1 (nI (n + 1)))) rfl ?_
    refine R_hp (fun h2 eh2 => ?_)
    refine R_s 1 (33, [(0, vR 7 10), (1, vI x)], [vI (nI 1)], h2) rfl ?_
    exact R_ret (some (vI (nI 1))) h2 rfl ⟨rfl, by rw [eh2, eh1]⟩
  · exact absurd h3 c1
set_option maxRecDepth 100000 in
theorem t_T_add_f {d : Nat} {h : HP} {x : Int32} (hn : h 7 10 1 = nI 300) : MT d mT_add [vR 7 10, vI x] h (fun r h' => r = some (vI (nI 0)) ∧ h' = h) := by
  refine R_s 2 (4, [(0, vR 7 10), (1, vI x)], [vI (h 7 10 1)], h) rfl ?_
  refine R_top (nI 300) hn ?_
  refine R_s 2 (cond (if2 .lt (nI 300) (nI 300)) 12 10, [(0, vR 7 10), (1, vI x)], [], h) rfl ?_
  refine R_bf (by decide) ?_
  refine R_s 1 (11, [(0, vR 7 10), (1, vI x)], [vI (nI 0)], h) rfl ?_
  exact R_ret (some (vI (nI 0))) h rfl ⟨rfl, rfl⟩
theorem rn_dig {ch : Nat → Nat} {m i v dg : Nat} {ns : List Nat} (h : 48 ≤ ch i ∧ ch i ≤ 57) : rn ch (m + 1) i v dg ns = rn ch m (i + 1) (v * 10 + (ch i - 48)) (dg + 1) ns := by
  rw [rn, if_pos h]
theorem rn_sep {ch : Nat → Nat} {m i v dg : Nat} {ns : List Nat} (h0 : ¬ (48 ≤ ch i ∧ ch i ≤ 57)) (h : (ch i = 44 ∨ ch i = 59) ∧ (1 ≤ dg ∧ dg ≤ 2) ∧ ns.length < 4) : rn ch (m + 1) i v dg ns = rn ch m (i + 1) 0 0 (ns ++ [v]) := by
  rw [rn, if_neg h0, if_pos h]
theorem rn_bad {ch : Nat → Nat} {m i v dg : Nat} {ns : List Nat} (h0 : ¬ (48 ≤ ch i ∧ ch i ≤ 57)) (h : ¬ ((ch i = 44 ∨ ch i = 59) ∧ (1 ≤ dg ∧ dg ≤ 2) ∧ ns.length < 4)) : rn ch (m + 1) i v dg ns = none := by
  rw [rn, if_neg h0, if_neg h]
theorem apl_s {v : Nat} {z : ST} : apl 115 [v] z = (if z.2.1 < 8 ∧ 1 ≤ v ∧ v ≤ 20 then some (upd (upd z.1 (1 + z.2.1) (nI v)) 0 (nI (z.2.1 + 1)), z.2.1 + 1, z.2.2.1, z.2.2.2) else none) := rfl
theorem apl_p {v : Nat} {z : ST} : apl 112 [v] z = (if z.2.2.1 < 5 ∧ v ≤ 1 then some (upd (upd z.1 (27 + z.2.2.1) (nI v)) 26 (nI (z.2.2.1 + 1)), z.2.1, z.2.2.1 + 1, z.2.2.2) else none) := rfl
theorem apl_e {v : Nat} {z : ST} : apl 101 [v] z = (if v < z.2.1 then some (upd z.1 9 (nI ((z.1 9).toNatClampNeg ||| 2 ^ v)), z.2) else none) := rfl
theorem apl_k {u v : Nat} {z : ST} : apl 107 [u, v] z = (if 107 = 107 ∧ z.2.2.2 < 6 ∧ 1 ≤ u ∧ u ≤ 5 ∧ v ≤ 1 then some (upd (upd (upd z.1 (33 + z.2.2.2) (nI u)) (39 + z.2.2.2) (nI v)) 32 (nI (z.2.2.2 + 1)), z.2.1, z.2.2.1, z.2.2.2 + 1) else none) := rfl
theorem apl_u {a b e t : Nat} {z : ST} : apl 117 [a, b, e, t] z = (if 117 = 117 ∧ a < z.2.1 ∧ b < z.2.2.1 ∧ e < z.2.2.2 ∧ t ≤ 5 ∧ oth z.1 a (nI e) b z.2.2.1 < (z.1 (33 + e)).toNatClampNeg then some (upd (upd z.1 (45 + 2 * (a * 5 + b)) (nI e)) (46 + 2 * (a * 5 + b)) (nI t), z.2) else none) := rfl
def FN (h h' : HP) : Prop := (∀ g' j', ¬ (g' = 7 ∧ (j' = 10 ∨ j' = 12)) → h' g' j' = h g' j') ∧ (∀ x, ¬ x = 3 → h' 7 10 x = h 7 10 x)
theorem FN.rf {h : HP} : FN h h := ⟨fun _ _ _ => rfl, fun _ _ => rfl⟩
theorem FN.tr {h h1 h2 : HP} (a : FN h h1) (b : FN h1 h2) : FN h h2 := ⟨fun g' j' e => (b.1 g' j' e).trans (a.1 g' j' e), fun x e => (b.2 x e).trans (a.2 x e)⟩
def NB (h : HP) (ns : List Nat) : Prop := h 7 10 3 = nI ns.length ∧ ∀ j, j < ns.length → h 7 12 j = nI (ns.getD j 0)
theorem NB.push {hh : HP} {ns : List Nat} {v : Nat} (B : NB hh ns) : NB (hset (hset hh 7 12 ns.length (nI v)) 7 10 3 (nI (ns.length + 1))) (ns ++ [v]) := by
  refine ⟨?_, fun j hj => ?_⟩
  · rw [hs_same, up_same, List.length_append, List.length_singleton]
  · rw [List.length_append, List.length_singleton] at hj
    rw [hs_ne (by omega), hs_same]
    by_cases q : j = ns.length
    · rw [q, up_same, List.getD_eq_getElem?_getD, List.getElem?_append_right (Nat.le_refl _), Nat.sub_self]; rfl
    · rw [up_ne q, List.getD_eq_getElem?_getD, List.getElem?_append_left (by omega), ← List.getD_eq_getElem?_getD]; exact B.2 j (by omega)
theorem FN.push {h hh : HP} {i : Nat} {u v : Int32} (F : FN h hh) : FN h (hset (hset hh 7 12 i u) 7 10 3 v) := by
  refine ⟨fun g' j' q => ?_, fun x q => ?_⟩
  · rw [hs_ne (by omega), hs_ne (by omega)]; exact F.1 g' j' q
  · rw [hs_same, up_ne q, hs_ne (by omega)]; exact F.2 x q
def TXT (h : HP) (ch : Nat → Nat) (len : Nat) : Prop := h 7 10 1 = nI len ∧ len ≤ 300 ∧ ∀ j, j < len → h 7 11 j = nI (ch j) ∧ 32 ≤ ch j ∧ ch j ≤ 126
theorem TXT.mv {h h' : HP} {ch : Nat → Nat} {len : Nat} (T : TXT h ch len) (F : FN h h') : TXT h' ch len := ⟨by rw [F.2 1 (by omega)]; exact T.1, T.2.1, fun j hj => by rw [F.1 7 11 (by omega)]; exact T.2.2 j hj⟩
set_option maxRecDepth 100000 in
theorem t_T_readNumbers {d f e len : Nat} {h : HP} {ch : Nat → Nat} (T : TXT h ch len) (hf : f ≤ e + 1) (he : e < len) : MT d mT_readNumbers [vR 7 10, vI (nI f), vI (nI e)] h (fun r h' => ∃ ns, NB h' ns ∧ FN h h' ∧ match rn ch (e + 1 - f) f 0 0 [] with
  | none => r = some (vI (nI 0))
  | some L => r = some (vI (nI 1)) ∧ ns = L) := by
  have hlen := T.2.1
  refine R_s 3 (5, [(0, vR 7 10), (1, vI (nI f)), (2, vI (nI e))], [], (hset h 7 10 3 (nI 0))) rfl ?_
  refine R_hp (fun h1 eh1 => ?_)
  refine R_s 6 (13, [(5, vI (nI f)), (4, vI (nI 0)), (3, vI (nI 0)), (0, vR 7 10), (1, vI (nI f)), (2, vI (nI e))], [], h1) rfl ?_
  have B0 : NB h1 [] := ⟨by rw [eh1, hs_same, up_same]; rfl, fun j hj => absurd hj (by simp)⟩
  have F0 : FN h h1 := by rw [eh1]; exact ⟨fun g' j' q => hs_ne (by omega), fun x q => by rw [hs_same, up_ne q]⟩
  suffices ∀ m i v dg ns hh, i + m = e + 1 → rn ch (e + 1 - f) f 0 0 [] = rn ch m i v dg ns → ns.length ≤ 4 → dg ≤ i → NB hh ns → FN h hh → R d mT_readNumbers (13, [(5, vI (nI i)), (4, vI (nI dg)), (3, vI (nI v)), (0, vR 7 10), (1, vI (nI f)), (2, vI (nI e))], [], hh) (fun r h' => ∃ ns, NB h' ns ∧ FN h h' ∧ match rn ch (e + 1 - f) f 0 0 [] with
  | none => r = some (vI (nI 0))
  | some L => r = some (vI (nI 1)) ∧ ns = L) from this (e + 1 - f) f 0 0 [] h1 (by omega) rfl (by decide) (Nat.zero_le _) B0 F0
  intro m
  induction m with
  | zero =>
    intro i v dg ns hh hm hI hns hdg B F
    refine R_s 3 (cond (if2 .gt (nI i) (nI e)) 138 19, [(5, vI (nI i)), (4, vI (nI dg)), (3, vI (nI v)), (0, vR 7 10), (1, vI (nI f)), (2, vI (nI e))], [], hh) rfl ?_
    refine R_bp (e < i) (i2_gt (by omega) (by omega)) (fun c1 => ?_) (fun c1 => ?_)
    · refine R_s 1 (139, [(5, vI (nI i)), (4, vI (nI dg)), (3, vI (nI v)), (0, vR 7 10), (1, vI (nI f)), (2, vI (nI e))], [vI (nI 1)], hh) rfl ?_
      exact R_ret (some (vI (nI 1))) hh rfl ⟨ns, B, F, by rw [hI, show 0 = 0 by omega]; exact ⟨rfl, rfl⟩⟩
    · exact absurd hm (by omega)
  | succ m ih =>
    intro i v dg ns hh hm hI hns hdg B F
    refine R_s 3 (cond (if2 .gt (nI i) (nI e)) 138 19, [(5, vI (nI i)), (4, vI (nI dg)), (3, vI (nI v)), (0, vR 7 10), (1, vI (nI f)), (2, vI (nI e))], [], hh) rfl ?_
    refine R_bp (e < i) (i2_gt (by omega) (by omega)) (fun c1 => ?_) (fun c1 => ?_)
    · refine R_s 1 (139, [(5, vI (nI i)), (4, vI (nI dg)), (3, vI (nI v)), (0, vR 7 10), (1, vI (nI f)), (2, vI (nI e))], [vI (nI 1)], hh) rfl ?_
      exact R_ret (some (vI (nI 1))) hh rfl ⟨ns, B, F, by rw [hI, show m + 1 = 0 by omega]; exact ⟨rfl, rfl⟩⟩
    · have hci := (T.2.2 i (by omega)).2
      refine R_s 3 (25, [(5, vI (nI i)), (4, vI (nI dg)), (3, vI (nI v)), (0, vR 7 10), (1, vI (nI f)), (2, vI (nI e))], [vI (nI i), vR 7 11], hh) rfl ?_
      refine R_ldc 7 11 i 300 rfl rfl (by omega) (by decide) ?_
      refine R_top (nI (ch i)) ((T.mv F).2.2 i (by omega)).1 ?_
      refine R_s 4 (cond (if2 .lt (nI (ch i)) (nI 48)) 59 35, [(6, vI (nI (ch i))), (5, vI (nI i)), (4, vI (nI dg)), (3, vI (nI v)), (0, vR 7 10), (1, vI (nI f)), (2, vI (nI e))], [], hh) rfl ?_
      refine R_bp ((ch i) < 48) (i2_lt (by omega) (by omega)) (fun c2 => ?_) (fun c2 => ?_)
      · refine R_s 3 (cond (if2 .eq (nI (ch i)) (nI 44)) 73 66, [(6, vI (nI (ch i))), (5, vI (nI i)), (4, vI (nI dg)), (3, vI (nI v)), (0, vR 7 10), (1, vI (nI f)), (2, vI (nI e))], [], hh) rfl ?_
        refine R_bp ((ch i) = 44) (i2_eq (by omega) (by omega)) (fun c5 => ?_) (fun c5 => ?_)
        · refine R_s 5 (cond (if0 .eq (nI 1)) 105 85, [(7, vI (nI 1)), (6, vI (nI (ch i))), (5, vI (nI i)), (4, vI (nI dg)), (3, vI (nI v)), (0, vR 7 10), (1, vI (nI f)), (2, vI (nI e))], [], hh) rfl ?_
          refine R_bf (by decide) ?_
          refine R_s 3 (cond (if2 .lt (nI dg) (nI 1)) 105 91, [(7, vI (nI 1)), (6, vI (nI (ch i))), (5, vI (nI i)), (4, vI (nI dg)), (3, vI (nI v)), (0, vR 7 10), (1, vI (nI f)), (2, vI (nI e))], [], hh) rfl ?_
          refine R_bp (dg < 1) (i2_lt (by omega) (by omega)) (fun c7 => ?_) (fun c7 => ?_)
          · refine R_s 1 (106, [(7, vI (nI 1)), (6, vI (nI (ch i))), (5, vI (nI i)), (4, vI (nI dg)), (3, vI (nI v)), (0, vR 7 10), (1, vI (nI f)), (2, vI (nI e))], [vI (nI 0)], hh) rfl ?_
            exact R_ret (some (vI (nI 0))) hh rfl ⟨ns, B, F, by rw [hI, rn_bad (by omega) (by omega)]⟩
          · refine R_s 3 (cond (if2 .gt (nI dg) (nI 2)) 105 97, [(7, vI (nI 1)), (6, vI (nI (ch i))), (5, vI (nI i)), (4, vI (nI dg)), (3, vI (nI v)), (0, vR 7 10), (1, vI (nI f)), (2, vI (nI e))], [], hh) rfl ?_
            refine R_bp (2 < dg) (i2_gt (by omega) (by omega)) (fun c8 => ?_) (fun c8 => ?_)
            · refine R_s 1 (106, [(7, vI (nI 1)), (6, vI (nI (ch i))), (5, vI (nI i)), (4, vI (nI dg)), (3, vI (nI v)), (0, vR 7 10), (1, vI (nI f)), (2, vI (nI e))], [vI (nI 0)], hh) rfl ?_
              exact R_ret (some (vI (nI 0))) hh rfl ⟨ns, B, F, by rw [hI, rn_bad (by omega) (by omega)]⟩
            · refine R_s 2 (101, [(7, vI (nI 1)), (6, vI (nI (ch i))), (5, vI (nI i)), (4, vI (nI dg)), (3, vI (nI v)), (0, vR 7 10), (1, vI (nI f)), (2, vI (nI e))], [vI (hh 7 10 3)], hh) rfl ?_
              refine R_top (nI (ns.length)) B.1 ?_
              refine R_s 2 (cond (if2 .lt (nI (ns.length)) (nI 4)) 107 105, [(7, vI (nI 1)), (6, vI (nI (ch i))), (5, vI (nI i)), (4, vI (nI dg)), (3, vI (nI v)), (0, vR 7 10), (1, vI (nI f)), (2, vI (nI e))], [], hh) rfl ?_
              refine R_bp ((ns.length) < 4) (i2_lt (by omega) (by omega)) (fun c9 => ?_) (fun c9 => ?_)
              · refine R_s 4 (115, [(7, vI (nI 1)), (6, vI (nI (ch i))), (5, vI (nI i)), (4, vI (nI dg)), (3, vI (nI v)), (0, vR 7 10), (1, vI (nI f)), (2, vI (nI e))], [vI (hh 7 10 3), vR 7 12], hh) rfl ?_
                refine R_top (nI (ns.length)) B.1 ?_
                refine R_s 1 (116, [(7, vI (nI 1)), (6, vI (nI (ch i))), (5, vI (nI i)), (4, vI (nI dg)), (3, vI (nI v)), (0, vR 7 10), (1, vI (nI f)), (2, vI (nI e))], [vI (nI v), vI (nI (ns.length)), vR 7 12], hh) rfl ?_
                refine R_st 7 12 (ns.length) 4 (nI v) rfl rfl c9 (by decide) (fun h2 eh2 => ?_)
                refine R_s 3 (122, [(7, vI (nI 1)), (6, vI (nI (ch i))), (5, vI (nI i)), (4, vI (nI dg)), (3, vI (nI v)), (0, vR 7 10), (1, vI (nI f)), (2, vI (nI e))], [vI (h2 7 10 3), vR 7 10], h2) rfl ?_
                refine R_top (nI (ns.length)) (by rw [eh2, hs_ne (by omega)]; exact B.1) ?_
                refine R_s 1 (123, [(7, vI (nI 1)), (6, vI (nI (ch i))), (5, vI (nI i)), (4, vI (nI dg)), (3, vI (nI v)), (0, vR 7 10), (1, vI (nI f)), (2, vI (nI e))], [vI (nI 1), vI (nI (ns.length)), vR 7 10], h2) rfl ?_
                refine R_add (ns.length) 1 rfl ?_
                refine R_s 1 (127, [(7, vI (nI 1)), (6, vI (nI (ch i))), (5, vI (nI i)), (4, vI (nI dg)), (3, vI (nI v)), (0, vR 7 10), (1, vI (nI f)), (2, vI (nI e))], [], (hset h2 7 10 3 (nI ((ns.length) + 1)))) rfl ?_
                refine R_hp (fun h3 eh3 => ?_)
                refine R_s 5 (135, [(5, vI (nI i + Int32.ofInt 1)), (4, vI (nI 0)), (3, vI (nI 0)), (7, vI (nI 1)), (6, vI (nI (ch i))), (0, vR 7 10), (1, vI (nI f)), (2, vI (nI e))], [], h3) rfl ?_
                refine R_lv (lv' := [(5, vI (nI (i + 1))), (4, vI (nI 0)), (3, vI (nI 0)), (7, vI (nI 1)), (6, vI (nI (ch i))), (0, vR 7 10), (1, vI (nI f)), (2, vI (nI e))]) (by rw [show nI i + Int32.ofInt 1 = nI (i + 1) from nI_add _ _]) ?_
                refine R_s 1 (13, [(5, vI (nI (i + 1))), (4, vI (nI 0)), (3, vI (nI 0)), (7, vI (nI 1)), (6, vI (nI (ch i))), (0, vR 7 10), (1, vI (nI f)), (2, vI (nI e))], [], h3) rfl ?_
                refine R_fg (lv' := [(5, vI (nI (i + 1))), (4, vI (nI 0)), (3, vI (nI 0)), (0, vR 7 10), (1, vI (nI f)), (2, vI (nI e))]) [0, 1, 2, 5, 6, 7] rfl [5, 4, 3, 7, 6, 0, 1, 2] rfl (by decide) ?_
                exact ih (i + 1) 0 0 (ns ++ [v]) _ (by omega) (by rw [hI, rn_sep (by omega) (by omega)]) (by rw [List.length_append, List.length_singleton]; omega) (by omega) (by rw [eh3, eh2]; exact B.push) (by rw [eh3, eh2]; exact F.push)
              · refine R_s 1 (106, [(7, vI (nI 1)), (6, vI (nI (ch i))), (5, vI (nI i)), (4, vI (nI dg)), (3, vI (nI v)), (0, vR 7 10), (1, vI (nI f)), (2, vI (nI e))], [vI (nI 0)], hh) rfl ?_
                exact R_ret (some (vI (nI 0))) hh rfl ⟨ns, B, F, by rw [hI, rn_bad (by omega) (by omega)]⟩
        · refine R_s 3 (cond (if2 .ne (nI (ch i)) (nI 59)) 77 73, [(6, vI (nI (ch i))), (5, vI (nI i)), (4, vI (nI dg)), (3, vI (nI v)), (0, vR 7 10), (1, vI (nI f)), (2, vI (nI e))], [], hh) rfl ?_
          refine R_bp (¬ (ch i) = 59) (i2_ne (by omega) (by omega)) (fun c6 => ?_) (fun c6 => ?_)
          · refine R_s 4 (cond (if0 .eq (nI 0)) 105 85, [(7, vI (nI 0)), (6, vI (nI (ch i))), (5, vI (nI i)), (4, vI (nI dg)), (3, vI (nI v)), (0, vR 7 10), (1, vI (nI f)), (2, vI (nI e))], [], hh) rfl ?_
            refine R_bt (by decide) ?_
            refine R_s 1 (106, [(7, vI (nI 0)), (6, vI (nI (ch i))), (5, vI (nI i)), (4, vI (nI dg)), (3, vI (nI v)), (0, vR 7 10), (1, vI (nI f)), (2, vI (nI e))], [vI (nI 0)], hh) rfl ?_
            exact R_ret (some (vI (nI 0))) hh rfl ⟨ns, B, F, by rw [hI, rn_bad (by omega) (by omega)]⟩
          · refine R_s 5 (cond (if0 .eq (nI 1)) 105 85, [(7, vI (nI 1)), (6, vI (nI (ch i))), (5, vI (nI i)), (4, vI (nI dg)), (3, vI (nI v)), (0, vR 7 10), (1, vI (nI f)), (2, vI (nI e))], [], hh) rfl ?_
            refine R_bf (by decide) ?_
            refine R_s 3 (cond (if2 .lt (nI dg) (nI 1)) 105 91, [(7, vI (nI 1)), (6, vI (nI (ch i))), (5, vI (nI i)), (4, vI (nI dg)), (3, vI (nI v)), (0, vR 7 10), (1, vI (nI f)), (2, vI (nI e))], [], hh) rfl ?_
            refine R_bp (dg < 1) (i2_lt (by omega) (by omega)) (fun c7 => ?_) (fun c7 => ?_)
            · refine R_s 1 (106, [(7, vI (nI 1)), (6, vI (nI (ch i))), (5, vI (nI i)), (4, vI (nI dg)), (3, vI (nI v)), (0, vR 7 10), (1, vI (nI f)), (2, vI (nI e))], [vI (nI 0)], hh) rfl ?_
              exact R_ret (some (vI (nI 0))) hh rfl ⟨ns, B, F, by rw [hI, rn_bad (by omega) (by omega)]⟩
            · refine R_s 3 (cond (if2 .gt (nI dg) (nI 2)) 105 97, [(7, vI (nI 1)), (6, vI (nI (ch i))), (5, vI (nI i)), (4, vI (nI dg)), (3, vI (nI v)), (0, vR 7 10), (1, vI (nI f)), (2, vI (nI e))], [], hh) rfl ?_
              refine R_bp (2 < dg) (i2_gt (by omega) (by omega)) (fun c8 => ?_) (fun c8 => ?_)
              · refine R_s 1 (106, [(7, vI (nI 1)), (6, vI (nI (ch i))), (5, vI (nI i)), (4, vI (nI dg)), (3, vI (nI v)), (0, vR 7 10), (1, vI (nI f)), (2, vI (nI e))], [vI (nI 0)], hh) rfl ?_
                exact R_ret (some (vI (nI 0))) hh rfl ⟨ns, B, F, by rw [hI, rn_bad (by omega) (by omega)]⟩
              · refine R_s 2 (101, [(7, vI (nI 1)), (6, vI (nI (ch i))), (5, vI (nI i)), (4, vI (nI dg)), (3, vI (nI v)), (0, vR 7 10), (1, vI (nI f)), (2, vI (nI e))], [vI (hh 7 10 3)], hh) rfl ?_
                refine R_top (nI (ns.length)) B.1 ?_
                refine R_s 2 (cond (if2 .lt (nI (ns.length)) (nI 4)) 107 105, [(7, vI (nI 1)), (6, vI (nI (ch i))), (5, vI (nI i)), (4, vI (nI dg)), (3, vI (nI v)), (0, vR 7 10), (1, vI (nI f)), (2, vI (nI e))], [], hh) rfl ?_
                refine R_bp ((ns.length) < 4) (i2_lt (by omega) (by omega)) (fun c9 => ?_) (fun c9 => ?_)
                · refine R_s 4 (115, [(7, vI (nI 1)), (6, vI (nI (ch i))), (5, vI (nI i)), (4, vI (nI dg)), (3, vI (nI v)), (0, vR 7 10), (1, vI (nI f)), (2, vI (nI e))], [vI (hh 7 10 3), vR 7 12], hh) rfl ?_
                  refine R_top (nI (ns.length)) B.1 ?_
                  refine R_s 1 (116, [(7, vI (nI 1)), (6, vI (nI (ch i))), (5, vI (nI i)), (4, vI (nI dg)), (3, vI (nI v)), (0, vR 7 10), (1, vI (nI f)), (2, vI (nI e))], [vI (nI v), vI (nI (ns.length)), vR 7 12], hh) rfl ?_
                  refine R_st 7 12 (ns.length) 4 (nI v) rfl rfl c9 (by decide) (fun h4 eh4 => ?_)
                  refine R_s 3 (122, [(7, vI (nI 1)), (6, vI (nI (ch i))), (5, vI (nI i)), (4, vI (nI dg)), (3, vI (nI v)), (0, vR 7 10), (1, vI (nI f)), (2, vI (nI e))], [vI (h4 7 10 3), vR 7 10], h4) rfl ?_
                  refine R_top (nI (ns.length)) (by rw [eh4, hs_ne (by omega)]; exact B.1) ?_
                  refine R_s 1 (123, [(7, vI (nI 1)), (6, vI (nI (ch i))), (5, vI (nI i)), (4, vI (nI dg)), (3, vI (nI v)), (0, vR 7 10), (1, vI (nI f)), (2, vI (nI e))], [vI (nI 1), vI (nI (ns.length)), vR 7 10], h4) rfl ?_
                  refine R_add (ns.length) 1 rfl ?_
                  refine R_s 1 (127, [(7, vI (nI 1)), (6, vI (nI (ch i))), (5, vI (nI i)), (4, vI (nI dg)), (3, vI (nI v)), (0, vR 7 10), (1, vI (nI f)), (2, vI (nI e))], [], (hset h4 7 10 3 (nI ((ns.length) + 1)))) rfl ?_
                  refine R_hp (fun h5 eh5 => ?_)
                  refine R_s 5 (135, [(5, vI (nI i + Int32.ofInt 1)), (4, vI (nI 0)), (3, vI (nI 0)), (7, vI (nI 1)), (6, vI (nI (ch i))), (0, vR 7 10), (1, vI (nI f)), (2, vI (nI e))], [], h5) rfl ?_
                  refine R_lv (lv' := [(5, vI (nI (i + 1))), (4, vI (nI 0)), (3, vI (nI 0)), (7, vI (nI 1)), (6, vI (nI (ch i))), (0, vR 7 10), (1, vI (nI f)), (2, vI (nI e))]) (by rw [show nI i + Int32.ofInt 1 = nI (i + 1) from nI_add _ _]) ?_
                  refine R_s 1 (13, [(5, vI (nI (i + 1))), (4, vI (nI 0)), (3, vI (nI 0)), (7, vI (nI 1)), (6, vI (nI (ch i))), (0, vR 7 10), (1, vI (nI f)), (2, vI (nI e))], [], h5) rfl ?_
                  refine R_fg (lv' := [(5, vI (nI (i + 1))), (4, vI (nI 0)), (3, vI (nI 0)), (0, vR 7 10), (1, vI (nI f)), (2, vI (nI e))]) [0, 1, 2, 5, 6, 7] rfl [5, 4, 3, 7, 6, 0, 1, 2] rfl (by decide) ?_
                  exact ih (i + 1) 0 0 (ns ++ [v]) _ (by omega) (by rw [hI, rn_sep (by omega) (by omega)]) (by rw [List.length_append, List.length_singleton]; omega) (by omega) (by rw [eh5, eh4]; exact B.push) (by rw [eh5, eh4]; exact F.push)
                · refine R_s 1 (106, [(7, vI (nI 1)), (6, vI (nI (ch i))), (5, vI (nI i)), (4, vI (nI dg)), (3, vI (nI v)), (0, vR 7 10), (1, vI (nI f)), (2, vI (nI e))], [vI (nI 0)], hh) rfl ?_
                  exact R_ret (some (vI (nI 0))) hh rfl ⟨ns, B, F, by rw [hI, rn_bad (by omega) (by omega)]⟩
      · refine R_s 3 (cond (if2 .gt (nI (ch i)) (nI 57)) 59 42, [(6, vI (nI (ch i))), (5, vI (nI i)), (4, vI (nI dg)), (3, vI (nI v)), (0, vR 7 10), (1, vI (nI f)), (2, vI (nI e))], [], hh) rfl ?_
        refine R_bp (57 < (ch i)) (i2_gt (by omega) (by omega)) (fun c3 => ?_) (fun c3 => ?_)
        · refine R_s 3 (cond (if2 .eq (nI (ch i)) (nI 44)) 73 66, [(6, vI (nI (ch i))), (5, vI (nI i)), (4, vI (nI dg)), (3, vI (nI v)), (0, vR 7 10), (1, vI (nI f)), (2, vI (nI e))], [], hh) rfl ?_
          refine R_bp ((ch i) = 44) (i2_eq (by omega) (by omega)) (fun c5 => ?_) (fun c5 => ?_)
          · refine R_s 5 (cond (if0 .eq (nI 1)) 105 85, [(7, vI (nI 1)), (6, vI (nI (ch i))), (5, vI (nI i)), (4, vI (nI dg)), (3, vI (nI v)), (0, vR 7 10), (1, vI (nI f)), (2, vI (nI e))], [], hh) rfl ?_
            refine R_bf (by decide) ?_
            refine R_s 3 (cond (if2 .lt (nI dg) (nI 1)) 105 91, [(7, vI (nI 1)), (6, vI (nI (ch i))), (5, vI (nI i)), (4, vI (nI dg)), (3, vI (nI v)), (0, vR 7 10), (1, vI (nI f)), (2, vI (nI e))], [], hh) rfl ?_
            refine R_bp (dg < 1) (i2_lt (by omega) (by omega)) (fun c7 => ?_) (fun c7 => ?_)
            · refine R_s 1 (106, [(7, vI (nI 1)), (6, vI (nI (ch i))), (5, vI (nI i)), (4, vI (nI dg)), (3, vI (nI v)), (0, vR 7 10), (1, vI (nI f)), (2, vI (nI e))], [vI (nI 0)], hh) rfl ?_
              exact R_ret (some (vI (nI 0))) hh rfl ⟨ns, B, F, by rw [hI, rn_bad (by omega) (by omega)]⟩
            · refine R_s 3 (cond (if2 .gt (nI dg) (nI 2)) 105 97, [(7, vI (nI 1)), (6, vI (nI (ch i))), (5, vI (nI i)), (4, vI (nI dg)), (3, vI (nI v)), (0, vR 7 10), (1, vI (nI f)), (2, vI (nI e))], [], hh) rfl ?_
              refine R_bp (2 < dg) (i2_gt (by omega) (by omega)) (fun c8 => ?_) (fun c8 => ?_)
              · refine R_s 1 (106, [(7, vI (nI 1)), (6, vI (nI (ch i))), (5, vI (nI i)), (4, vI (nI dg)), (3, vI (nI v)), (0, vR 7 10), (1, vI (nI f)), (2, vI (nI e))], [vI (nI 0)], hh) rfl ?_
                exact R_ret (some (vI (nI 0))) hh rfl ⟨ns, B, F, by rw [hI, rn_bad (by omega) (by omega)]⟩
              · refine R_s 2 (101, [(7, vI (nI 1)), (6, vI (nI (ch i))), (5, vI (nI i)), (4, vI (nI dg)), (3, vI (nI v)), (0, vR 7 10), (1, vI (nI f)), (2, vI (nI e))], [vI (hh 7 10 3)], hh) rfl ?_
                refine R_top (nI (ns.length)) B.1 ?_
                refine R_s 2 (cond (if2 .lt (nI (ns.length)) (nI 4)) 107 105, [(7, vI (nI 1)), (6, vI (nI (ch i))), (5, vI (nI i)), (4, vI (nI dg)), (3, vI (nI v)), (0, vR 7 10), (1, vI (nI f)), (2, vI (nI e))], [], hh) rfl ?_
                refine R_bp ((ns.length) < 4) (i2_lt (by omega) (by omega)) (fun c9 => ?_) (fun c9 => ?_)
                · refine R_s 4 (115, [(7, vI (nI 1)), (6, vI (nI (ch i))), (5, vI (nI i)), (4, vI (nI dg)), (3, vI (nI v)), (0, vR 7 10), (1, vI (nI f)), (2, vI (nI e))], [vI (hh 7 10 3), vR 7 12], hh) rfl ?_
                  refine R_top (nI (ns.length)) B.1 ?_
                  refine R_s 1 (116, [(7, vI (nI 1)), (6, vI (nI (ch i))), (5, vI (nI i)), (4, vI (nI dg)), (3, vI (nI v)), (0, vR 7 10), (1, vI (nI f)), (2, vI (nI e))], [vI (nI v), vI (nI (ns.length)), vR 7 12], hh) rfl ?_
                  refine R_st 7 12 (ns.length) 4 (nI v) rfl rfl c9 (by decide) (fun h6 eh6 => ?_)
                  refine R_s 3 (122, [(7, vI (nI 1)), (6, vI (nI (ch i))), (5, vI (nI i)), (4, vI (nI dg)), (3, vI (nI v)), (0, vR 7 10), (1, vI (nI f)), (2, vI (nI e))], [vI (h6 7 10 3), vR 7 10], h6) rfl ?_
                  refine R_top (nI (ns.length)) (by rw [eh6, hs_ne (by omega)]; exact B.1) ?_
                  refine R_s 1 (123, [(7, vI (nI 1)), (6, vI (nI (ch i))), (5, vI (nI i)), (4, vI (nI dg)), (3, vI (nI v)), (0, vR 7 10), (1, vI (nI f)), (2, vI (nI e))], [vI (nI 1), vI (nI (ns.length)), vR 7 10], h6) rfl ?_
                  refine R_add (ns.length) 1 rfl ?_
                  refine R_s 1 (127, [(7, vI (nI 1)), (6, vI (nI (ch i))), (5, vI (nI i)), (4, vI (nI dg)), (3, vI (nI v)), (0, vR 7 10), (1, vI (nI f)), (2, vI (nI e))], [], (hset h6 7 10 3 (nI ((ns.length) + 1)))) rfl ?_
                  refine R_hp (fun h7 eh7 => ?_)
                  refine R_s 5 (135, [(5, vI (nI i + Int32.ofInt 1)), (4, vI (nI 0)), (3, vI (nI 0)), (7, vI (nI 1)), (6, vI (nI (ch i))), (0, vR 7 10), (1, vI (nI f)), (2, vI (nI e))], [], h7) rfl ?_
                  refine R_lv (lv' := [(5, vI (nI (i + 1))), (4, vI (nI 0)), (3, vI (nI 0)), (7, vI (nI 1)), (6, vI (nI (ch i))), (0, vR 7 10), (1, vI (nI f)), (2, vI (nI e))]) (by rw [show nI i + Int32.ofInt 1 = nI (i + 1) from nI_add _ _]) ?_
                  refine R_s 1 (13, [(5, vI (nI (i + 1))), (4, vI (nI 0)), (3, vI (nI 0)), (7, vI (nI 1)), (6, vI (nI (ch i))), (0, vR 7 10), (1, vI (nI f)), (2, vI (nI e))], [], h7) rfl ?_
                  refine R_fg (lv' := [(5, vI (nI (i + 1))), (4, vI (nI 0)), (3, vI (nI 0)), (0, vR 7 10), (1, vI (nI f)), (2, vI (nI e))]) [0, 1, 2, 5, 6, 7] rfl [5, 4, 3, 7, 6, 0, 1, 2] rfl (by decide) ?_
                  exact ih (i + 1) 0 0 (ns ++ [v]) _ (by omega) (by rw [hI, rn_sep (by omega) (by omega)]) (by rw [List.length_append, List.length_singleton]; omega) (by omega) (by rw [eh7, eh6]; exact B.push) (by rw [eh7, eh6]; exact F.push)
                · refine R_s 1 (106, [(7, vI (nI 1)), (6, vI (nI (ch i))), (5, vI (nI i)), (4, vI (nI dg)), (3, vI (nI v)), (0, vR 7 10), (1, vI (nI f)), (2, vI (nI e))], [vI (nI 0)], hh) rfl ?_
                  exact R_ret (some (vI (nI 0))) hh rfl ⟨ns, B, F, by rw [hI, rn_bad (by omega) (by omega)]⟩
          · refine R_s 3 (cond (if2 .ne (nI (ch i)) (nI 59)) 77 73, [(6, vI (nI (ch i))), (5, vI (nI i)), (4, vI (nI dg)), (3, vI (nI v)), (0, vR 7 10), (1, vI (nI f)), (2, vI (nI e))], [], hh) rfl ?_
            refine R_bp (¬ (ch i) = 59) (i2_ne (by omega) (by omega)) (fun c6 => ?_) (fun c6 => ?_)
            · refine R_s 4 (cond (if0 .eq (nI 0)) 105 85, [(7, vI (nI 0)), (6, vI (nI (ch i))), (5, vI (nI i)), (4, vI (nI dg)), (3, vI (nI v)), (0, vR 7 10), (1, vI (nI f)), (2, vI (nI e))], [], hh) rfl ?_
              refine R_bt (by decide) ?_
              refine R_s 1 (106, [(7, vI (nI 0)), (6, vI (nI (ch i))), (5, vI (nI i)), (4, vI (nI dg)), (3, vI (nI v)), (0, vR 7 10), (1, vI (nI f)), (2, vI (nI e))], [vI (nI 0)], hh) rfl ?_
              exact R_ret (some (vI (nI 0))) hh rfl ⟨ns, B, F, by rw [hI, rn_bad (by omega) (by omega)]⟩
            · refine R_s 5 (cond (if0 .eq (nI 1)) 105 85, [(7, vI (nI 1)), (6, vI (nI (ch i))), (5, vI (nI i)), (4, vI (nI dg)), (3, vI (nI v)), (0, vR 7 10), (1, vI (nI f)), (2, vI (nI e))], [], hh) rfl ?_
              refine R_bf (by decide) ?_
              refine R_s 3 (cond (if2 .lt (nI dg) (nI 1)) 105 91, [(7, vI (nI 1)), (6, vI (nI (ch i))), (5, vI (nI i)), (4, vI (nI dg)), (3, vI (nI v)), (0, vR 7 10), (1, vI (nI f)), (2, vI (nI e))], [], hh) rfl ?_
              refine R_bp (dg < 1) (i2_lt (by omega) (by omega)) (fun c7 => ?_) (fun c7 => ?_)
              · refine R_s 1 (106, [(7, vI (nI 1)), (6, vI (nI (ch i))), (5, vI (nI i)), (4, vI (nI dg)), (3, vI (nI v)), (0, vR 7 10), (1, vI (nI f)), (2, vI (nI e))], [vI (nI 0)], hh) rfl ?_
                exact R_ret (some (vI (nI 0))) hh rfl ⟨ns, B, F, by rw [hI, rn_bad (by omega) (by omega)]⟩
              · refine R_s 3 (cond (if2 .gt (nI dg) (nI 2)) 105 97, [(7, vI (nI 1)), (6, vI (nI (ch i))), (5, vI (nI i)), (4, vI (nI dg)), (3, vI (nI v)), (0, vR 7 10), (1, vI (nI f)), (2, vI (nI e))], [], hh) rfl ?_
                refine R_bp (2 < dg) (i2_gt (by omega) (by omega)) (fun c8 => ?_) (fun c8 => ?_)
                · refine R_s 1 (106, [(7, vI (nI 1)), (6, vI (nI (ch i))), (5, vI (nI i)), (4, vI (nI dg)), (3, vI (nI v)), (0, vR 7 10), (1, vI (nI f)), (2, vI (nI e))], [vI (nI 0)], hh) rfl ?_
                  exact R_ret (some (vI (nI 0))) hh rfl ⟨ns, B, F, by rw [hI, rn_bad (by omega) (by omega)]⟩
                · refine R_s 2 (101, [(7, vI (nI 1)), (6, vI (nI (ch i))), (5, vI (nI i)), (4, vI (nI dg)), (3, vI (nI v)), (0, vR 7 10), (1, vI (nI f)), (2, vI (nI e))], [vI (hh 7 10 3)], hh) rfl ?_
                  refine R_top (nI (ns.length)) B.1 ?_
                  refine R_s 2 (cond (if2 .lt (nI (ns.length)) (nI 4)) 107 105, [(7, vI (nI 1)), (6, vI (nI (ch i))), (5, vI (nI i)), (4, vI (nI dg)), (3, vI (nI v)), (0, vR 7 10), (1, vI (nI f)), (2, vI (nI e))], [], hh) rfl ?_
                  refine R_bp ((ns.length) < 4) (i2_lt (by omega) (by omega)) (fun c9 => ?_) (fun c9 => ?_)
                  · refine R_s 4 (115, [(7, vI (nI 1)), (6, vI (nI (ch i))), (5, vI (nI i)), (4, vI (nI dg)), (3, vI (nI v)), (0, vR 7 10), (1, vI (nI f)), (2, vI (nI e))], [vI (hh 7 10 3), vR 7 12], hh) rfl ?_
                    refine R_top (nI (ns.length)) B.1 ?_
                    refine R_s 1 (116, [(7, vI (nI 1)), (6, vI (nI (ch i))), (5, vI (nI i)), (4, vI (nI dg)), (3, vI (nI v)), (0, vR 7 10), (1, vI (nI f)), (2, vI (nI e))], [vI (nI v), vI (nI (ns.length)), vR 7 12], hh) rfl ?_
                    refine R_st 7 12 (ns.length) 4 (nI v) rfl rfl c9 (by decide) (fun h8 eh8 => ?_)
                    refine R_s 3 (122, [(7, vI (nI 1)), (6, vI (nI (ch i))), (5, vI (nI i)), (4, vI (nI dg)), (3, vI (nI v)), (0, vR 7 10), (1, vI (nI f)), (2, vI (nI e))], [vI (h8 7 10 3), vR 7 10], h8) rfl ?_
                    refine R_top (nI (ns.length)) (by rw [eh8, hs_ne (by omega)]; exact B.1) ?_
                    refine R_s 1 (123, [(7, vI (nI 1)), (6, vI (nI (ch i))), (5, vI (nI i)), (4, vI (nI dg)), (3, vI (nI v)), (0, vR 7 10), (1, vI (nI f)), (2, vI (nI e))], [vI (nI 1), vI (nI (ns.length)), vR 7 10], h8) rfl ?_
                    refine R_add (ns.length) 1 rfl ?_
                    refine R_s 1 (127, [(7, vI (nI 1)), (6, vI (nI (ch i))), (5, vI (nI i)), (4, vI (nI dg)), (3, vI (nI v)), (0, vR 7 10), (1, vI (nI f)), (2, vI (nI e))], [], (hset h8 7 10 3 (nI ((ns.length) + 1)))) rfl ?_
                    refine R_hp (fun h9 eh9 => ?_)
                    refine R_s 5 (135, [(5, vI (nI i + Int32.ofInt 1)), (4, vI (nI 0)), (3, vI (nI 0)), (7, vI (nI 1)), (6, vI (nI (ch i))), (0, vR 7 10), (1, vI (nI f)), (2, vI (nI e))], [], h9) rfl ?_
                    refine R_lv (lv' := [(5, vI (nI (i + 1))), (4, vI (nI 0)), (3, vI (nI 0)), (7, vI (nI 1)), (6, vI (nI (ch i))), (0, vR 7 10), (1, vI (nI f)), (2, vI (nI e))]) (by rw [show nI i + Int32.ofInt 1 = nI (i + 1) from nI_add _ _]) ?_
                    refine R_s 1 (13, [(5, vI (nI (i + 1))), (4, vI (nI 0)), (3, vI (nI 0)), (7, vI (nI 1)), (6, vI (nI (ch i))), (0, vR 7 10), (1, vI (nI f)), (2, vI (nI e))], [], h9) rfl ?_
                    refine R_fg (lv' := [(5, vI (nI (i + 1))), (4, vI (nI 0)), (3, vI (nI 0)), (0, vR 7 10), (1, vI (nI f)), (2, vI (nI e))]) [0, 1, 2, 5, 6, 7] rfl [5, 4, 3, 7, 6, 0, 1, 2] rfl (by decide) ?_
                    exact ih (i + 1) 0 0 (ns ++ [v]) _ (by omega) (by rw [hI, rn_sep (by omega) (by omega)]) (by rw [List.length_append, List.length_singleton]; omega) (by omega) (by rw [eh9, eh8]; exact B.push) (by rw [eh9, eh8]; exact F.push)
                  · refine R_s 1 (106, [(7, vI (nI 1)), (6, vI (nI (ch i))), (5, vI (nI i)), (4, vI (nI dg)), (3, vI (nI v)), (0, vR 7 10), (1, vI (nI f)), (2, vI (nI e))], [vI (nI 0)], hh) rfl ?_
                    exact R_ret (some (vI (nI 0))) hh rfl ⟨ns, B, F, by rw [hI, rn_bad (by omega) (by omega)]⟩
        · refine R_s 2 (45, [(6, vI (nI (ch i))), (5, vI (nI i)), (4, vI (nI dg)), (3, vI (nI v)), (0, vR 7 10), (1, vI (nI f)), (2, vI (nI e))], [vI (nI 10), vI (nI v)], hh) rfl ?_
          refine R_mul v 10 rfl ?_
          refine R_s 2 (50, [(6, vI (nI (ch i))), (5, vI (nI i)), (4, vI (nI dg)), (3, vI (nI v)), (0, vR 7 10), (1, vI (nI f)), (2, vI (nI e))], [vI (nI 48), vI (nI (ch i)), vI (nI (v * 10))], hh) rfl ?_
          refine R_sub (ch i) 48 rfl (by omega) ?_
          refine R_add (v * 10) ((ch i) - 48) rfl ?_
          refine R_s 2 (56, [(4, vI (nI dg + Int32.ofInt 1)), (3, vI (nI ((v * 10) + ((ch i) - 48)))), (6, vI (nI (ch i))), (5, vI (nI i)), (0, vR 7 10), (1, vI (nI f)), (2, vI (nI e))], [], hh) rfl ?_
          refine R_lv (lv' := [(4, vI (nI (dg + 1))), (3, vI (nI ((v * 10) + ((ch i) - 48)))), (6, vI (nI (ch i))), (5, vI (nI i)), (0, vR 7 10), (1, vI (nI f)), (2, vI (nI e))]) (by rw [show nI dg + Int32.ofInt 1 = nI (dg + 1) from nI_add _ _]) ?_
          refine R_s 2 (135, [(5, vI (nI i + Int32.ofInt 1)), (4, vI (nI (dg + 1))), (3, vI (nI ((v * 10) + ((ch i) - 48)))), (6, vI (nI (ch i))), (0, vR 7 10), (1, vI (nI f)), (2, vI (nI e))], [], hh) rfl ?_
          refine R_lv (lv' := [(5, vI (nI (i + 1))), (4, vI (nI (dg + 1))), (3, vI (nI ((v * 10) + ((ch i) - 48)))), (6, vI (nI (ch i))), (0, vR 7 10), (1, vI (nI f)), (2, vI (nI e))]) (by rw [show nI i + Int32.ofInt 1 = nI (i + 1) from nI_add _ _]) ?_
          refine R_s 1 (13, [(5, vI (nI (i + 1))), (4, vI (nI (dg + 1))), (3, vI (nI ((v * 10) + ((ch i) - 48)))), (6, vI (nI (ch i))), (0, vR 7 10), (1, vI (nI f)), (2, vI (nI e))], [], hh) rfl ?_
          refine R_fg (lv' := [(5, vI (nI (i + 1))), (4, vI (nI (dg + 1))), (3, vI (nI ((v * 10) + ((ch i) - 48)))), (0, vR 7 10), (1, vI (nI f)), (2, vI (nI e))]) [0, 1, 2, 4, 5, 6] rfl [5, 4, 3, 6, 0, 1, 2] rfl (by decide) ?_
          exact ih (i + 1) (v * 10 + (ch i - 48)) (dg + 1) ns hh (by omega) (by rw [hI, rn_dig (by omega)]) hns (by omega) B F
theorem R_lk {d : Nat} {M : MR} {pc : Nat} {lv : List (Nat × AV)} {st : List AV} {h : HP} {Q : Option AV → HP → Prop} {x : Int32} {dflt : Int} {ps : Array (Int × Int)} {len : Nat} (off : Int) (t : Nat) (hs : lk (mI M) pc = some (.lookupswitch dflt ps, len)) (hp : (ps.toList.zip (ps.toList.drop 1)).all (fun (a, next) => a.1 < next.1) = true) (ho : Op.lookupswitch.offset ps.toList dflt x.toInt = off) (ht : tgo pc off = some t) (k : R d M (t, lv, st, h) Q) : R d M (pc, lv, vI x :: st, h) Q := by
  refine R_next (c' := (t, lv, st, h)) ?_ k
  unfold stp opt
  rw [hs]
  simp only [sti, hp, ho, ht]
  rfl
theorem nI_ne {a b : Nat} (ha : a < 2147483648) (hb : b < 2147483648) (h : ¬ a = b) : ¬ nI a = nI b := fun q => h ((nI_eq ha hb).mp q)
theorem lst1 {ns : List Nat} (h : ns.length = 1) : ∃ v, ns = [v] := by
  match ns, h with
  | [v], _ => exact ⟨v, rfl⟩
theorem lst2 {ns : List Nat} (h : ns.length = 2) : ∃ u v, ns = [u, v] := by
  match ns, h with
  | [u, v], _ => exact ⟨u, v, rfl⟩
theorem lst4 {ns : List Nat} (h : ns.length = 4) : ∃ a b e t, ns = [a, b, e, t] := by
  match ns, h with
  | [a, b, e, t], _ => exact ⟨a, b, e, t, rfl⟩
theorem apl_len1 {c : Nat} {ns : List Nat} {z : ST} (hc : c = 115 ∨ c = 112 ∨ c = 101) (h : ¬ ns.length = 1) : apl c ns z = none := by
  unfold apl
  split
  · exact absurd rfl h
  · rw [if_neg (by omega)]
  · rw [if_neg (by omega)]
  · rfl
theorem apl_len107 {ns : List Nat} {z : ST} (h : ¬ ns.length = 2) : apl 107 ns z = none := by
  unfold apl
  split
  · rw [if_neg (by decide), if_neg (by decide), if_neg (by decide)]
  · exact absurd rfl h
  · rw [if_neg (by omega)]
  · rfl
theorem apl_len117 {ns : List Nat} {z : ST} (h : ¬ ns.length = 4) : apl 117 ns z = none := by
  unfold apl
  split
  · rw [if_neg (by decide), if_neg (by decide), if_neg (by decide)]
  · rw [if_neg (by omega)]
  · exact absurd rfl h
  · rfl
theorem apl_no {c : Nat} {ns : List Nat} {z : ST} (h1 : ¬ c = 101) (h2 : ¬ c = 107) (h3 : ¬ c = 112) (h4 : ¬ c = 115) (h5 : ¬ c = 117) : apl c ns z = none := by
  unfold apl
  split
  · rw [if_neg h4, if_neg h3, if_neg h1]
  · rw [if_neg (by omega)]
  · rw [if_neg (by omega)]
  · rfl
set_option maxRecDepth 100000 in
theorem t_T_state {d c n p k : Nat} {h : HP} {s : Nat → Int32} {ns : List Nat} (hc : c ≤ 126) (B : NB h ns) (hns : ∀ x ∈ ns, x < 100) (hl4 : ns.length ≤ 4) (C : CO h 1 s n p k) (D : DW (s, n, p, k)) : MT (d + 3) mT_state [vR 7 10, vI (nI c), vR 1 0] h (fun r h' => match apl c ns (s, n, p, k) with
  | none => r = some (vI (nI 0)) ∧ h' = h
  | some z => r = some (vI (nI 1)) ∧ CO h' 1 z.1 z.2.1 z.2.2.1 z.2.2.2 ∧ FR 1 h h') := by
  obtain ⟨F, D1, P⟩ := D
  dsimp only at F D1 P
  have b8 := F.2.1.1
  have b5 := F.2.1.2.1
  have b6 := F.2.1.2.2
  have bg : ∀ j, j < ns.length → ns.getD j 0 < 100 := fun j hj => hns _ (by rw [List.getD_eq_getElem?_getD, List.getElem?_eq_getElem hj]; exact List.getElem_mem hj)
  refine R_s 1 (1, [(0, vR 7 10), (1, vI (nI c)), (2, vR 1 0)], [vI (nI c)], h) rfl ?_
  by_cases hc101 : c = 101
  · subst hc101
    refine R_s 1 (184, [(0, vR 7 10), (1, vI (nI 101)), (2, vR 1 0)], [], h) rfl ?_
    refine R_s 2 (188, [(0, vR 7 10), (1, vI (nI 101)), (2, vR 1 0)], [vI (h 7 10 3)], h) rfl ?_
    refine R_top (nI (ns.length)) B.1 ?_
    refine R_s 2 (cond (if2 .ne (nI (ns.length)) (nI 1)) 209 192, [(0, vR 7 10), (1, vI (nI 101)), (2, vR 1 0)], [], h) rfl ?_
    refine R_bp (¬ (ns.length) = 1) (i2_ne (by omega) (by omega)) (fun c1 => ?_) (fun c1 => ?_)
    · refine R_s 1 (210, [(0, vR 7 10), (1, vI (nI 101)), (2, vR 1 0)], [vI (nI 0)], h) rfl ?_
      exact R_ret (some (vI (nI 0))) h rfl (show match apl 101 ns (s, n, p, k) with
      | none => _
      | some z => _ from by
        rw [show apl 101 ns (s, n, p, k) = none from apl_len1 (by decide) (fun q => c1 q)]
        exact ⟨rfl, rfl⟩)
    · obtain ⟨v, rfl⟩ : ∃ v, ns = [v] := lst1 (Classical.not_not.mp c1)
      have g0 : v < 100 := hns v (by simp)
      obtain ⟨e, e1, e2⟩ := F.2.2.1
      have he8 : e < 256 := Nat.lt_of_lt_of_le e2 (pw_le b8)
      have he : (s 9).toNatClampNeg = e := by rw [e1, nI_cl (by omega)]
      refine R_s 4 (198, [(0, vR 7 10), (1, vI (nI 101)), (2, vR 1 0)], [vI (nI 0), vR 7 12, vR 1 0], h) rfl ?_
      refine R_ld 7 12 0 4 rfl rfl (by omega) (by decide) ?_
      refine R_top (nI v) (B.2 0 (by simp)) ?_
      by_cases q : v < n
      · refine R_calli mC_addEncore [vR 1 0, vI (nI v)] [] (nI 1) (hset h 1 0 3 (nI (e ||| 2 ^ v))) rfl (t_C_addEncore_t C.1.1 b8 (C.1.2.2.2.trans e1) he8 (by omega) q) ?_
        refine R_hp (fun h1 eh1 => ?_)
        refine R_s 1 (cond (if0 .eq (nI 1)) 209 205, [(0, vR 7 10), (1, vI (nI 101)), (2, vR 1 0)], [], h1) rfl ?_
        refine R_bf rfl ?_
        refine R_s 2 (210, [(0, vR 7 10), (1, vI (nI 101)), (2, vR 1 0)], [vI (nI 1)], h1) rfl ?_
        exact R_ret (some (vI (nI 1))) h1 rfl (by
      rw [show apl 101 [v] (s, n, p, k) = some (upd s 9 (nI (e ||| 2 ^ v)), n, p, k) by rw [apl_e, if_pos q, he]]
      refine ⟨rfl, ?_, ?_⟩
      · rw [eh1]; exact co_enc b8 b5 b6 C
      · rw [eh1]; exact FR.rf.set)
      · refine R_calli mC_addEncore [vR 1 0, vI (nI v)] [] (nI 0) h rfl (t_C_addEncore_f C.1.1 b8 (C.1.2.2.2.trans e1) he8 (by omega) (by omega)) ?_
        refine R_s 1 (cond (if0 .eq (nI 0)) 209 205, [(0, vR 7 10), (1, vI (nI 101)), (2, vR 1 0)], [], h) rfl ?_
        refine R_bt rfl ?_
        refine R_s 1 (210, [(0, vR 7 10), (1, vI (nI 101)), (2, vR 1 0)], [vI (nI 0)], h) rfl ?_
        exact R_ret (some (vI (nI 0))) h rfl (by
      rw [show apl 101 [v] (s, n, p, k) = none by rw [apl_e, if_neg q]]
      exact ⟨rfl, rfl⟩)
  by_cases hc107 : c = 107
  · subst hc107
    refine R_s 1 (106, [(0, vR 7 10), (1, vI (nI 107)), (2, vR 1 0)], [], h) rfl ?_
    refine R_s 2 (110, [(0, vR 7 10), (1, vI (nI 107)), (2, vR 1 0)], [vI (h 7 10 3)], h) rfl ?_
    refine R_top (nI (ns.length)) B.1 ?_
    refine R_s 2 (cond (if2 .ne (nI (ns.length)) (nI 2)) 137 114, [(0, vR 7 10), (1, vI (nI 107)), (2, vR 1 0)], [], h) rfl ?_
    refine R_bp (¬ (ns.length) = 2) (i2_ne (by omega) (by omega)) (fun c1 => ?_) (fun c1 => ?_)
    · refine R_s 1 (138, [(0, vR 7 10), (1, vI (nI 107)), (2, vR 1 0)], [vI (nI 0)], h) rfl ?_
      exact R_ret (some (vI (nI 0))) h rfl (show match apl 107 ns (s, n, p, k) with
      | none => _
      | some z => _ from by
        rw [show apl 107 ns (s, n, p, k) = none from apl_len107 (fun q => c1 q)]
        exact ⟨rfl, rfl⟩)
    · obtain ⟨u, v, rfl⟩ : ∃ u v, ns = [u, v] := lst2 (Classical.not_not.mp c1)
      have g0 : u < 100 := hns u (by simp)
      have g1 : v < 100 := hns v (by simp)
      refine R_s 4 (120, [(0, vR 7 10), (1, vI (nI 107)), (2, vR 1 0)], [vI (nI 0), vR 7 12, vR 1 0], h) rfl ?_
      refine R_ld 7 12 0 4 rfl rfl (by omega) (by decide) ?_
      refine R_top (nI u) (B.2 0 (by simp)) ?_
      refine R_s 3 (126, [(0, vR 7 10), (1, vI (nI 107)), (2, vR 1 0)], [vI (nI 1), vR 7 12, vI (nI u), vR 1 0], h) rfl ?_
      refine R_ld 7 12 1 4 rfl rfl (by omega) (by decide) ?_
      refine R_top (nI v) (B.2 1 (by simp)) ?_
      by_cases q : k < 6 ∧ 1 ≤ u ∧ u ≤ 5 ∧ v ≤ 1
      · refine R_calli mC_addKind [vR 1 0, vI (nI u), vI (nI v)] [] (nI 1) (hset (hset (hset h 1 3 k (nI u)) 1 4 k (nI v)) 1 0 2 (nI (k + 1))) rfl (t_C_addKind_t C.1.2.2.1 b6 (by omega) (by omega) q.1 q.2.1 q.2.2.1 q.2.2.2) ?_
        refine R_hp (fun h2 eh2 => ?_)
        refine R_s 1 (cond (if0 .eq (nI 1)) 137 133, [(0, vR 7 10), (1, vI (nI 107)), (2, vR 1 0)], [], h2) rfl ?_
        refine R_bf rfl ?_
        refine R_s 2 (138, [(0, vR 7 10), (1, vI (nI 107)), (2, vR 1 0)], [vI (nI 1)], h2) rfl ?_
        exact R_ret (some (vI (nI 1))) h2 rfl (by
      rw [show apl 107 [u, v] (s, n, p, k) = some (upd (upd (upd s (33 + k) (nI u)) (39 + k) (nI v)) 32 (nI (k + 1)), n, p, k + 1) by rw [apl_k, if_pos ⟨rfl, q⟩]]
      refine ⟨rfl, ?_, ?_⟩
      · rw [eh2]; exact co_kind b8 b5 b6 q.1 C
      · rw [eh2]; exact FR.rf.set.set.set)
      · refine R_calli mC_addKind [vR 1 0, vI (nI u), vI (nI v)] [] (nI 0) h rfl (t_C_addKind_f C.1.2.2.1 b6 (by omega) (by omega) (by omega)) ?_
        refine R_s 1 (cond (if0 .eq (nI 0)) 137 133, [(0, vR 7 10), (1, vI (nI 107)), (2, vR 1 0)], [], h) rfl ?_
        refine R_bt rfl ?_
        refine R_s 1 (138, [(0, vR 7 10), (1, vI (nI 107)), (2, vR 1 0)], [vI (nI 0)], h) rfl ?_
        exact R_ret (some (vI (nI 0))) h rfl (by
      rw [show apl 107 [u, v] (s, n, p, k) = none by rw [apl_k, if_neg (fun z => q z.2)]]
      exact ⟨rfl, rfl⟩)
  by_cases hc112 : c = 112
  · subst hc112
    refine R_s 1 (79, [(0, vR 7 10), (1, vI (nI 112)), (2, vR 1 0)], [], h) rfl ?_
    refine R_s 2 (83, [(0, vR 7 10), (1, vI (nI 112)), (2, vR 1 0)], [vI (h 7 10 3)], h) rfl ?_
    refine R_top (nI (ns.length)) B.1 ?_
    refine R_s 2 (cond (if2 .ne (nI (ns.length)) (nI 1)) 104 87, [(0, vR 7 10), (1, vI (nI 112)), (2, vR 1 0)], [], h) rfl ?_
    refine R_bp (¬ (ns.length) = 1) (i2_ne (by omega) (by omega)) (fun c1 => ?_) (fun c1 => ?_)
    · refine R_s 1 (105, [(0, vR 7 10), (1, vI (nI 112)), (2, vR 1 0)], [vI (nI 0)], h) rfl ?_
      exact R_ret (some (vI (nI 0))) h rfl (show match apl 112 ns (s, n, p, k) with
      | none => _
      | some z => _ from by
        rw [show apl 112 ns (s, n, p, k) = none from apl_len1 (by decide) (fun q => c1 q)]
        exact ⟨rfl, rfl⟩)
    · obtain ⟨v, rfl⟩ : ∃ v, ns = [v] := lst1 (Classical.not_not.mp c1)
      have g0 : v < 100 := hns v (by simp)
      refine R_s 4 (93, [(0, vR 7 10), (1, vI (nI 112)), (2, vR 1 0)], [vI (nI 0), vR 7 12, vR 1 0], h) rfl ?_
      refine R_ld 7 12 0 4 rfl rfl (by omega) (by decide) ?_
      refine R_top (nI v) (B.2 0 (by simp)) ?_
      by_cases q : p < 5 ∧ v ≤ 1
      · refine R_calli mC_addPlayer [vR 1 0, vI (nI v)] [] (nI 1) (hset (hset h 1 2 p (nI v)) 1 0 1 (nI (p + 1))) rfl (t_C_addPlayer_t C.1.2.1 b5 (by omega) q.1 q.2) ?_
        refine R_hp (fun h3 eh3 => ?_)
        refine R_s 1 (cond (if0 .eq (nI 1)) 104 100, [(0, vR 7 10), (1, vI (nI 112)), (2, vR 1 0)], [], h3) rfl ?_
        refine R_bf rfl ?_
        refine R_s 2 (105, [(0, vR 7 10), (1, vI (nI 112)), (2, vR 1 0)], [vI (nI 1)], h3) rfl ?_
        exact R_ret (some (vI (nI 1))) h3 rfl (by
      rw [show apl 112 [v] (s, n, p, k) = some (upd (upd s (27 + p) (nI v)) 26 (nI (p + 1)), n, p + 1, k) by rw [apl_p, if_pos q]]
      refine ⟨rfl, ?_, ?_⟩
      · rw [eh3]; exact co_player b8 b5 b6 q.1 C
      · rw [eh3]; exact FR.rf.set.set)
      · refine R_calli mC_addPlayer [vR 1 0, vI (nI v)] [] (nI 0) h rfl (t_C_addPlayer_f C.1.2.1 b5 (by omega) (by omega)) ?_
        refine R_s 1 (cond (if0 .eq (nI 0)) 104 100, [(0, vR 7 10), (1, vI (nI 112)), (2, vR 1 0)], [], h) rfl ?_
        refine R_bt rfl ?_
        refine R_s 1 (105, [(0, vR 7 10), (1, vI (nI 112)), (2, vR 1 0)], [vI (nI 0)], h) rfl ?_
        exact R_ret (some (vI (nI 0))) h rfl (by
      rw [show apl 112 [v] (s, n, p, k) = none by rw [apl_p, if_neg q]]
      exact ⟨rfl, rfl⟩)
  by_cases hc115 : c = 115
  · subst hc115
    refine R_s 1 (52, [(0, vR 7 10), (1, vI (nI 115)), (2, vR 1 0)], [], h) rfl ?_
    refine R_s 2 (56, [(0, vR 7 10), (1, vI (nI 115)), (2, vR 1 0)], [vI (h 7 10 3)], h) rfl ?_
    refine R_top (nI (ns.length)) B.1 ?_
    refine R_s 2 (cond (if2 .ne (nI (ns.length)) (nI 1)) 77 60, [(0, vR 7 10), (1, vI (nI 115)), (2, vR 1 0)], [], h) rfl ?_
    refine R_bp (¬ (ns.length) = 1) (i2_ne (by omega) (by omega)) (fun c1 => ?_) (fun c1 => ?_)
    · refine R_s 1 (78, [(0, vR 7 10), (1, vI (nI 115)), (2, vR 1 0)], [vI (nI 0)], h) rfl ?_
      exact R_ret (some (vI (nI 0))) h rfl (show match apl 115 ns (s, n, p, k) with
      | none => _
      | some z => _ from by
        rw [show apl 115 ns (s, n, p, k) = none from apl_len1 (by decide) (fun q => c1 q)]
        exact ⟨rfl, rfl⟩)
    · obtain ⟨v, rfl⟩ : ∃ v, ns = [v] := lst1 (Classical.not_not.mp c1)
      have g0 : v < 100 := hns v (by simp)
      refine R_s 4 (66, [(0, vR 7 10), (1, vI (nI 115)), (2, vR 1 0)], [vI (nI 0), vR 7 12, vR 1 0], h) rfl ?_
      refine R_ld 7 12 0 4 rfl rfl (by omega) (by decide) ?_
      refine R_top (nI v) (B.2 0 (by simp)) ?_
      by_cases q : n < 8 ∧ 1 ≤ v ∧ v ≤ 20
      · refine R_calli mC_addSong [vR 1 0, vI (nI v)] [] (nI 1) (hset (hset h 1 1 n (nI v)) 1 0 0 (nI (n + 1))) rfl (t_C_addSong_t C.1.1 b8 (by omega) q.1 q.2.1 q.2.2) ?_
        refine R_hp (fun h4 eh4 => ?_)
        refine R_s 1 (cond (if0 .eq (nI 1)) 77 73, [(0, vR 7 10), (1, vI (nI 115)), (2, vR 1 0)], [], h4) rfl ?_
        refine R_bf rfl ?_
        refine R_s 2 (78, [(0, vR 7 10), (1, vI (nI 115)), (2, vR 1 0)], [vI (nI 1)], h4) rfl ?_
        exact R_ret (some (vI (nI 1))) h4 rfl (by
      rw [show apl 115 [v] (s, n, p, k) = some (upd (upd s (1 + n) (nI v)) 0 (nI (n + 1)), n + 1, p, k) by rw [apl_s, if_pos q]]
      refine ⟨rfl, ?_, ?_⟩
      · rw [eh4]; exact co_song b8 b5 b6 q.1 C
      · rw [eh4]; exact FR.rf.set.set)
      · refine R_calli mC_addSong [vR 1 0, vI (nI v)] [] (nI 0) h rfl (t_C_addSong_f C.1.1 b8 (by omega) (by omega)) ?_
        refine R_s 1 (cond (if0 .eq (nI 0)) 77 73, [(0, vR 7 10), (1, vI (nI 115)), (2, vR 1 0)], [], h) rfl ?_
        refine R_bt rfl ?_
        refine R_s 1 (78, [(0, vR 7 10), (1, vI (nI 115)), (2, vR 1 0)], [vI (nI 0)], h) rfl ?_
        exact R_ret (some (vI (nI 0))) h rfl (by
      rw [show apl 115 [v] (s, n, p, k) = none by rw [apl_s, if_neg q]]
      exact ⟨rfl, rfl⟩)
  by_cases hc117 : c = 117
  · subst hc117
    refine R_s 1 (139, [(0, vR 7 10), (1, vI (nI 117)), (2, vR 1 0)], [], h) rfl ?_
    refine R_s 2 (143, [(0, vR 7 10), (1, vI (nI 117)), (2, vR 1 0)], [vI (h 7 10 3)], h) rfl ?_
    refine R_top (nI (ns.length)) B.1 ?_
    refine R_s 2 (cond (if2 .ne (nI (ns.length)) (nI 4)) 182 147, [(0, vR 7 10), (1, vI (nI 117)), (2, vR 1 0)], [], h) rfl ?_
    refine R_bp (¬ (ns.length) = 4) (i2_ne (by omega) (by omega)) (fun c1 => ?_) (fun c1 => ?_)
    · refine R_s 1 (183, [(0, vR 7 10), (1, vI (nI 117)), (2, vR 1 0)], [vI (nI 0)], h) rfl ?_
      exact R_ret (some (vI (nI 0))) h rfl (show match apl 117 ns (s, n, p, k) with
      | none => _
      | some z => _ from by
        rw [show apl 117 ns (s, n, p, k) = none from apl_len117 (fun q => c1 q)]
        exact ⟨rfl, rfl⟩)
    · obtain ⟨a, b, e, t, rfl⟩ : ∃ a b e t, ns = [a, b, e, t] := lst4 (Classical.not_not.mp c1)
      have g0 : a < 100 := hns a (by simp)
      have g1 : b < 100 := hns b (by simp)
      have g2 : e < 100 := hns e (by simp)
      have g3 : t < 100 := hns t (by simp)
      refine R_s 4 (153, [(0, vR 7 10), (1, vI (nI 117)), (2, vR 1 0)], [vI (nI 0), vR 7 12, vR 1 0], h) rfl ?_
      refine R_ld 7 12 0 4 rfl rfl (by omega) (by decide) ?_
      refine R_top (nI a) (B.2 0 (by simp)) ?_
      refine R_s 3 (159, [(0, vR 7 10), (1, vI (nI 117)), (2, vR 1 0)], [vI (nI 1), vR 7 12, vI (nI a), vR 1 0], h) rfl ?_
      refine R_ld 7 12 1 4 rfl rfl (by omega) (by decide) ?_
      refine R_top (nI b) (B.2 1 (by simp)) ?_
      refine R_s 3 (165, [(0, vR 7 10), (1, vI (nI 117)), (2, vR 1 0)], [vI (nI 2), vR 7 12, vI (nI b), vI (nI a), vR 1 0], h) rfl ?_
      refine R_ld 7 12 2 4 rfl rfl (by omega) (by decide) ?_
      refine R_top (nI e) (B.2 2 (by simp)) ?_
      refine R_s 3 (171, [(0, vR 7 10), (1, vI (nI 117)), (2, vR 1 0)], [vI (nI 3), vR 7 12, vI (nI e), vI (nI b), vI (nI a), vR 1 0], h) rfl ?_
      refine R_ld 7 12 3 4 rfl rfl (by omega) (by decide) ?_
      refine R_top (nI t) (B.2 3 (by simp)) ?_
      by_cases q : a < n ∧ b < p ∧ e < k ∧ t ≤ 5
      · obtain ⟨q1, q2, q3, q4⟩ := q
        obtain ⟨u, hu, hu6⟩ := F.2.2.2.2.1 e q3
        have hmp := may_part F q1 q2 q3 hu hu6
        have hun : (s (33 + e)).toNatClampNeg = u := by rw [hu, nI_cl (by omega)]
        by_cases q5 : oth s a (nI e) b p < u
        · refine R_calli mC_addPart [vR 1 0, vI (nI a), vI (nI b), vI (nI e), vI (nI t)] [] (nI 1) (hset (hset h 1 5 (a * 5 + b) (nI e)) 1 6 (a * 5 + b) (nI t)) rfl (t_C_addPart_t C F (by omega) (by omega) (by omega) (by omega) q1 q2 q3 q4 hu hu6 (hmp.mpr q5)) ?_
          refine R_hp (fun h5 eh5 => ?_)
          refine R_s 1 (cond (if0 .eq (nI 1)) 182 178, [(0, vR 7 10), (1, vI (nI 117)), (2, vR 1 0)], [], h5) rfl ?_
          refine R_bf rfl ?_
          refine R_s 2 (183, [(0, vR 7 10), (1, vI (nI 117)), (2, vR 1 0)], [vI (nI 1)], h5) rfl ?_
          exact R_ret (some (vI (nI 1))) h5 rfl (by
        rw [show apl 117 [a, b, e, t] (s, n, p, k) = some (upd (upd s (45 + 2 * (a * 5 + b)) (nI e)) (46 + 2 * (a * 5 + b)) (nI t), n, p, k) by rw [apl_u, if_pos ⟨rfl, q1, q2, q3, q4, by rw [hun]; exact q5⟩]]
        refine ⟨rfl, ?_, ?_⟩
        · rw [eh5]; exact co_part b8 b5 b6 (by omega) C
        · rw [eh5]; exact FR.rf.set.set)
        · refine R_calli mC_addPart [vR 1 0, vI (nI a), vI (nI b), vI (nI e), vI (nI t)] [] (nI 0) h rfl (t_C_addPart_u C F (by omega) (by omega) (by omega) (by omega) q1 q2 q3 q4 hu hu6 (fun z => q5 (hmp.mp z))) ?_
          refine R_s 1 (cond (if0 .eq (nI 0)) 182 178, [(0, vR 7 10), (1, vI (nI 117)), (2, vR 1 0)], [], h) rfl ?_
          refine R_bt rfl ?_
          refine R_s 1 (183, [(0, vR 7 10), (1, vI (nI 117)), (2, vR 1 0)], [vI (nI 0)], h) rfl ?_
          exact R_ret (some (vI (nI 0))) h rfl (by
        rw [show apl 117 [a, b, e, t] (s, n, p, k) = none by rw [apl_u, if_neg (fun z => q5 (by have := z.2.2.2.2.2; rw [hun] at this; exact this))]]
        exact ⟨rfl, rfl⟩)
      · refine R_calli mC_addPart [vR 1 0, vI (nI a), vI (nI b), vI (nI e), vI (nI t)] [] (nI 0) h rfl (t_C_addPart_f C F (by omega) (by omega) (by omega) (by omega) q) ?_
        refine R_s 1 (cond (if0 .eq (nI 0)) 182 178, [(0, vR 7 10), (1, vI (nI 117)), (2, vR 1 0)], [], h) rfl ?_
        refine R_bt rfl ?_
        refine R_s 1 (183, [(0, vR 7 10), (1, vI (nI 117)), (2, vR 1 0)], [vI (nI 0)], h) rfl ?_
        exact R_ret (some (vI (nI 0))) h rfl (by
      rw [show apl 117 [a, b, e, t] (s, n, p, k) = none by rw [apl_u, if_neg (fun z => q ⟨z.2.1, z.2.2.1, z.2.2.2.1, z.2.2.2.2.1⟩)]]
      exact ⟨rfl, rfl⟩)
  refine R_lk 210 211 (len := 51) rfl (by decide) (by
    rw [show (#[(101, 183), (107, 105), (112, 78), (115, 51), (117, 138)] : Array (Int × Int)).toList = [(101, 183), (107, 105), (112, 78), (115, 51), (117, 138)] from rfl, lv_osw (k := nI 101) (nI_ne (by omega) (by decide) hc101) (by decide), lv_osw (k := nI 107) (nI_ne (by omega) (by decide) hc107) (by decide), lv_osw (k := nI 112) (nI_ne (by omega) (by decide) hc112) (by decide), lv_osw (k := nI 115) (nI_ne (by omega) (by decide) hc115) (by decide), lv_osw (k := nI 117) (nI_ne (by omega) (by decide) hc117) (by decide)]; rfl) rfl ?_
  refine R_s 1 (212, [(0, vR 7 10), (1, vI (nI c)), (2, vR 1 0)], [vI (nI 0)], h) rfl ?_
  exact R_ret (some (vI (nI 0))) h rfl (by rw [apl_no hc101 hc107 hc112 hc115 hc117]; exact ⟨rfl, rfl⟩)
end
section
def FT (h h' : HP) : Prop := (∀ g' j', ¬ g' = 1 → ¬ (g' = 7 ∧ (j' = 10 ∨ j' = 12)) → h' g' j' = h g' j') ∧ (∀ x, ¬ x = 3 → h' 7 10 x = h 7 10 x)
theorem FT.rf {h : HP} : FT h h := ⟨fun _ _ _ _ => rfl, fun _ _ => rfl⟩
theorem FT.fr {h h1 h2 : HP} (a : FT h h1) (b : FR 1 h1 h2) : FT h h2 := ⟨fun g' j' e f => (b g' j' e).trans (a.1 g' j' e f), fun x e => by rw [b 7 10 (by omega)]; exact a.2 x e⟩
theorem FT.fn {h h1 h2 : HP} (a : FT h h1) (b : FN h1 h2) : FT h h2 := ⟨fun g' j' e f => (b.1 g' j' f).trans (a.1 g' j' e f), fun x e => (b.2 x e).trans (a.2 x e)⟩
theorem TXT.ft {h h' : HP} {ch : Nat → Nat} {len : Nat} (T : TXT h ch len) (F : FT h h') : TXT h' ch len := ⟨by rw [F.2 1 (by omega)]; exact T.1, T.2.1, fun j hj => by rw [F.1 7 11 (by omega) (by omega)]; exact T.2.2 j hj⟩
theorem CO.fn {h h' : HP} {s : Nat → Int32} {n p k : Nat} (C : CO h 1 s n p k) (F : FN h h') : CO h' 1 s n p k := co_frame C (fun j => F.1 1 j (by omega))
def z0 : ST := (emp, 0, 0, 0)
theorem z0_DW : DW z0 := ⟨emp_WF, emp_WD, emp_WP⟩
theorem pC_0 {ch : Nat → Nat} {len i a : Nat} {z : ST} : pC ch len 0 i a z = (if a < len then some a else none, z) := rfl
theorem pC_n {ch : Nat → Nat} {len m i a : Nat} {z : ST} (h : ¬ ch i = 59) : pC ch len (m + 1) i a z = pC ch len m (i + 1) a z := by rw [pC, if_neg h]
theorem pC_b {ch : Nat → Nat} {len m i a : Nat} {z : ST} (h : ch i = 59) (hs : stC ch a i z = none) : pC ch len (m + 1) i a z = (some a, z) := by rw [pC, if_pos h, hs]
theorem pC_g {ch : Nat → Nat} {len m i a : Nat} {z z' : ST} (h : ch i = 59) (hs : stC ch a i z = some z') : pC ch len (m + 1) i a z = pC ch len m (i + 1) (i + 1) z' := by rw [pC, if_pos h, hs]
theorem stC_n {ch : Nat → Nat} {a i : Nat} {z : ST} (h : rn ch (i + 1 - (a + 1)) (a + 1) 0 0 [] = none) : stC ch a i z = none := by unfold stC; rw [← Nat.add_sub_add_right i 1 a, h]
theorem stC_s {ch : Nat → Nat} {a i : Nat} {z : ST} {L : List Nat} (h : rn ch (i + 1 - (a + 1)) (a + 1) 0 0 [] = some L) : stC ch a i z = apl (ch a) L z := by unfold stC; rw [← Nat.add_sub_add_right i 1 a, h]
/-- the reading of a whole text -/
def rd (ch : Nat → Nat) (len : Nat) : Option Nat × ST := pC ch len len 0 0 z0
set_option maxRecDepth 100000 in
theorem t_T_readInto {d len : Nat} {h : HP} {ch : Nat → Nat} (T : TXT h ch len) : MT (d + 4) mT_readInto [vR 7 10, vR 1 0] h (fun r h' => r = some (vI (enc (rd ch len).1)) ∧ FT h h' ∧ ((rd ch len).1 = none → CO h' 1 (rd ch len).2.1 (rd ch len).2.2.1 (rd ch len).2.2.2.1 (rd ch len).2.2.2.2 ∧ DW (rd ch len).2)) := by
  have hlen := T.2.1
  refine R_s 1 (1, [(0, vR 7 10), (1, vR 1 0)], [vR 1 0], h) rfl ?_
  refine R_call mC_makeEmpty [vR 1 0] [] rfl t_C_makeEmpty (fun r h1 e1 => ?_)
  obtain ⟨rfl, C1, F1⟩ := e1
  show R (d + 4) mT_readInto (4, [(0, vR 7 10), (1, vR 1 0)], [], h1) _
  refine R_s 4 (8, [(3, vI (nI 0)), (2, vI (nI 0)), (0, vR 7 10), (1, vR 1 0)], [], h1) rfl ?_
  suffices ∀ m i a z hh, i + m = len → a ≤ i → rd ch len = pC ch len m i a z → CO hh 1 z.1 z.2.1 z.2.2.1 z.2.2.2 → DW z → FT h hh → R (d + 4) mT_readInto (8, [(3, vI (nI i)), (2, vI (nI a)), (0, vR 7 10), (1, vR 1 0)], [], hh) (fun r h' => r = some (vI (enc (rd ch len).1)) ∧ FT h h' ∧ ((rd ch len).1 = none → CO h' 1 (rd ch len).2.1 (rd ch len).2.2.1 (rd ch len).2.2.2.1 (rd ch len).2.2.2.2 ∧ DW (rd ch len).2)) from this len 0 0 z0 h1 (by omega) (by omega) rfl C1 z0_DW (FT.rf.fr F1)
  intro m
  induction m with
  | zero =>
    intro i a z hh hm hai hI C D F
    refine R_s 3 (13, [(3, vI (nI i)), (2, vI (nI a)), (0, vR 7 10), (1, vR 1 0)], [vI (hh 7 10 1), vI (nI i)], hh) rfl ?_
    refine R_top (nI len) (T.ft F).1 ?_
    refine R_s 1 (cond (if2 .ge (nI i) (nI len)) 64 16, [(3, vI (nI i)), (2, vI (nI a)), (0, vR 7 10), (1, vR 1 0)], [], hh) rfl ?_
    refine R_bp (len ≤ i) (i2_ge (by omega) (by omega)) (fun c1 => ?_) (fun c1 => ?_)
    · rw [show 0 = 0 by omega, pC_0] at hI
      refine R_s 3 (69, [(3, vI (nI i)), (2, vI (nI a)), (0, vR 7 10), (1, vR 1 0)], [vI (hh 7 10 1), vI (nI a)], hh) rfl ?_
      refine R_top (nI len) (T.ft F).1 ?_
      refine R_s 1 (cond (if2 .ge (nI a) (nI len)) 76 72, [(3, vI (nI i)), (2, vI (nI a)), (0, vR 7 10), (1, vR 1 0)], [], hh) rfl ?_
      refine R_bp (len ≤ a) (i2_ge (by omega) (by omega)) (fun c2 => ?_) (fun c2 => ?_)
      · refine R_s 1 (77, [(3, vI (nI i)), (2, vI (nI a)), (0, vR 7 10), (1, vR 1 0)], [vI (-1)], hh) rfl ?_
        exact R_ret (some (vI (-1))) hh rfl ⟨by rw [hI, if_neg (by omega)]; rfl, F, fun _ => by rw [hI]; exact ⟨C, D⟩⟩
      · refine R_s 2 (77, [(3, vI (nI i)), (2, vI (nI a)), (0, vR 7 10), (1, vR 1 0)], [vI (nI a)], hh) rfl ?_
        exact R_ret (some (vI (nI a))) hh rfl ⟨by rw [hI, if_pos (by omega)]; rfl, F, fun q => by rw [hI, if_pos (by omega)] at q; cases q⟩
    · exact absurd hm (by omega)
  | succ m ih =>
    intro i a z hh hm hai hI C D F
    refine R_s 3 (13, [(3, vI (nI i)), (2, vI (nI a)), (0, vR 7 10), (1, vR 1 0)], [vI (hh 7 10 1), vI (nI i)], hh) rfl ?_
    refine R_top (nI len) (T.ft F).1 ?_
    refine R_s 1 (cond (if2 .ge (nI i) (nI len)) 64 16, [(3, vI (nI i)), (2, vI (nI a)), (0, vR 7 10), (1, vR 1 0)], [], hh) rfl ?_
    refine R_bp (len ≤ i) (i2_ge (by omega) (by omega)) (fun c1 => ?_) (fun c1 => ?_)
    · rw [show m + 1 = 0 by omega, pC_0] at hI
      refine R_s 3 (69, [(3, vI (nI i)), (2, vI (nI a)), (0, vR 7 10), (1, vR 1 0)], [vI (hh 7 10 1), vI (nI a)], hh) rfl ?_
      refine R_top (nI len) (T.ft F).1 ?_
      refine R_s 1 (cond (if2 .ge (nI a) (nI len)) 76 72, [(3, vI (nI i)), (2, vI (nI a)), (0, vR 7 10), (1, vR 1 0)], [], hh) rfl ?_
      refine R_bp (len ≤ a) (i2_ge (by omega) (by omega)) (fun c2 => ?_) (fun c2 => ?_)
      · refine R_s 1 (77, [(3, vI (nI i)), (2, vI (nI a)), (0, vR 7 10), (1, vR 1 0)], [vI (-1)], hh) rfl ?_
        exact R_ret (some (vI (-1))) hh rfl ⟨by rw [hI, if_neg (by omega)]; rfl, F, fun _ => by rw [hI]; exact ⟨C, D⟩⟩
      · refine R_s 2 (77, [(3, vI (nI i)), (2, vI (nI a)), (0, vR 7 10), (1, vR 1 0)], [vI (nI a)], hh) rfl ?_
        exact R_ret (some (vI (nI a))) hh rfl ⟨by rw [hI, if_pos (by omega)]; rfl, F, fun q => by rw [hI, if_pos (by omega)] at q; cases q⟩
    · have hci := (T.2.2 i (by omega)).2
      refine R_s 3 (21, [(3, vI (nI i)), (2, vI (nI a)), (0, vR 7 10), (1, vR 1 0)], [vI (nI i), vR 7 11], hh) rfl ?_
      refine R_ldc 7 11 i 300 rfl rfl (by omega) (by decide) ?_
      refine R_top (nI (ch i)) ((T.ft F).2.2 i (by omega)).1 ?_
      refine R_s 2 (cond (if2 .ne (nI (ch i)) (nI 59)) 58 27, [(3, vI (nI i)), (2, vI (nI a)), (0, vR 7 10), (1, vR 1 0)], [], hh) rfl ?_
      refine R_bp (¬ (ch i) = 59) (i2_ne (by omega) (by omega)) (fun c2 => ?_) (fun c2 => ?_)
      · refine R_s 1 (61, [(3, vI (nI i + Int32.ofInt 1)), (2, vI (nI a)), (0, vR 7 10), (1, vR 1 0)], [], hh) rfl ?_
        refine R_lv (lv' := [(3, vI (nI (i + 1))), (2, vI (nI a)), (0, vR 7 10), (1, vR 1 0)]) (by rw [show nI i + Int32.ofInt 1 = nI (i + 1) from nI_add _ _]) ?_
        refine R_s 1 (8, [(3, vI (nI (i + 1))), (2, vI (nI a)), (0, vR 7 10), (1, vR 1 0)], [], hh) rfl ?_
        exact ih (i + 1) a z hh (by omega) (by omega) (by rw [hI, pC_n c2]) C D F
      · have c2 := Classical.not_not.mp c2
        refine R_s 3 (30, [(3, vI (nI i)), (2, vI (nI a)), (0, vR 7 10), (1, vR 1 0)], [vI (nI 1), vI (nI a), vR 7 10], hh) rfl ?_
        refine R_add a 1 rfl ?_
        refine R_s 1 (32, [(3, vI (nI i)), (2, vI (nI a)), (0, vR 7 10), (1, vR 1 0)], [vI (nI i), vI (nI (a + 1)), vR 7 10], hh) rfl ?_
        refine R_call mT_readNumbers [vR 7 10, vI (nI (a + 1)), vI (nI i)] [] rfl (t_T_readNumbers (T.ft F) (by omega) (by omega)) (fun r h2 e2 => ?_)
        obtain ⟨ns, B, F2, hr⟩ := e2
        cases hrn : rn ch (i + 1 - (a + 1)) (a + 1) 0 0 [] with
        | none =>
          rw [hrn] at hr
          have hr : r = some (vI (nI 0)) := hr
          subst hr
          show R (d + 4) mT_readInto (35, [(3, vI (nI i)), (2, vI (nI a)), (0, vR 7 10), (1, vR 1 0)], [vI (nI 0)], h2) _
          refine R_s 1 (cond (if0 .eq (nI 0)) 52 38, [(3, vI (nI i)), (2, vI (nI a)), (0, vR 7 10), (1, vR 1 0)], [], h2) rfl ?_
          refine R_bt rfl ?_
          refine R_s 1 (53, [(3, vI (nI i)), (2, vI (nI a)), (0, vR 7 10), (1, vR 1 0)], [vI (nI a)], h2) rfl ?_
          exact R_ret (some (vI (nI a))) h2 rfl ⟨by rw [hI, pC_b c2 (stC_n hrn)]; rfl, F.fn F2, fun q => by rw [hI, pC_b c2 (stC_n hrn)] at q; cases q⟩
        | some L =>
          rw [hrn] at hr
          obtain ⟨rfl, rfl⟩ := hr
          show R (d + 4) mT_readInto (35, [(3, vI (nI i)), (2, vI (nI a)), (0, vR 7 10), (1, vR 1 0)], [vI (nI 1)], h2) _
          refine R_s 1 (cond (if0 .eq (nI 1)) 52 38, [(3, vI (nI i)), (2, vI (nI a)), (0, vR 7 10), (1, vR 1 0)], [], h2) rfl ?_
          refine R_bf rfl ?_
          refine R_s 4 (44, [(3, vI (nI i)), (2, vI (nI a)), (0, vR 7 10), (1, vR 1 0)], [vI (nI a), vR 7 11, vR 7 10], h2) rfl ?_
          refine R_ldc 7 11 a 300 rfl rfl (by omega) (by decide) ?_
          refine R_top (nI (ch a)) (((T.ft F).mv F2).2.2 a (by omega)).1 ?_
          refine R_s 1 (46, [(3, vI (nI i)), (2, vI (nI a)), (0, vR 7 10), (1, vR 1 0)], [vR 1 0, vI (nI (ch a)), vR 7 10], h2) rfl ?_
          have hca := (T.2.2 a (by omega)).2
          have hn1 : ∀ x ∈ ns, x < 100 := rn_lt _ _ _ _ _ _ (by simp) (fun _ => rfl) (by omega) (by omega) hrn
          have hn4 : ns.length ≤ 4 := rn_len _ _ _ _ _ _ (by simp) hrn
          have hsc := stC_s (z := z) hrn
          obtain ⟨s, n, p, k⟩ := z
          refine R_call mT_state [vR 7 10, vI (nI (ch a)), vR 1 0] [] rfl (t_T_state (c := ch a) hca.2 B hn1 hn4 (C.fn F2) D) (fun r h3 e3 => ?_)
          cases hap : apl (ch a) ns (s, n, p, k) with
          | none =>
            rw [hap] at e3 hsc
            obtain ⟨rfl, rfl⟩ := e3
            show R (d + 4) mT_readInto (49, [(3, vI (nI i)), (2, vI (nI a)), (0, vR 7 10), (1, vR 1 0)], [vI (nI 0)], h3) _
            refine R_s 1 (cond (if0 .ne (nI 0)) 54 52, [(3, vI (nI i)), (2, vI (nI a)), (0, vR 7 10), (1, vR 1 0)], [], h3) rfl ?_
            refine R_bf rfl ?_
            refine R_s 1 (53, [(3, vI (nI i)), (2, vI (nI a)), (0, vR 7 10), (1, vR 1 0)], [vI (nI a)], h3) rfl ?_
            exact R_ret (some (vI (nI a))) h3 rfl ⟨by rw [hI, pC_b c2 hsc]; rfl, F.fn F2, fun q => by rw [hI, pC_b c2 hsc] at q; cases q⟩
          | some z =>
            rw [hap] at e3 hsc
            obtain ⟨rfl, C3, F3⟩ := e3
            show R (d + 4) mT_readInto (49, [(3, vI (nI i)), (2, vI (nI a)), (0, vR 7 10), (1, vR 1 0)], [vI (nI 1)], h3) _
            refine R_s 1 (cond (if0 .ne (nI 1)) 54 52, [(3, vI (nI i)), (2, vI (nI a)), (0, vR 7 10), (1, vR 1 0)], [], h3) rfl ?_
            refine R_bt rfl ?_
            refine R_s 2 (56, [(3, vI (nI i)), (2, vI (nI a)), (0, vR 7 10), (1, vR 1 0)], [vI (nI 1), vI (nI i)], h3) rfl ?_
            refine R_add i 1 rfl ?_
            refine R_s 2 (61, [(3, vI (nI i + Int32.ofInt 1)), (2, vI (nI (i + 1))), (0, vR 7 10), (1, vR 1 0)], [], h3) rfl ?_
            refine R_lv (lv' := [(3, vI (nI (i + 1))), (2, vI (nI (i + 1))), (0, vR 7 10), (1, vR 1 0)]) (by rw [show nI i + Int32.ofInt 1 = nI (i + 1) from nI_add _ _]) ?_
            refine R_s 1 (8, [(3, vI (nI (i + 1))), (2, vI (nI (i + 1))), (0, vR 7 10), (1, vR 1 0)], [], h3) rfl ?_
            exact ih (i + 1) (i + 1) z h3 (by omega) (by omega) (by rw [hI, pC_g c2 hsc]) C3 (apl_DW D hap) ((F.fn F2).fr F3)
theorem rem5 : ∀ a, a < 20 → nI a - nI a / nI 5 * nI 5 = nI (a % 5) := by decide +kernel
theorem min5 : ∀ a, a < 6 → (if nI 5 < nI (a + 1) then nI 5 else nI (a + 1)) = nI (min (a + 1) 5) := by decide +kernel
set_option maxRecDepth 100000 in
theorem t_H_forget {d : Nat} {h : HP} : MT d mH_forget [vR 7 13] h (fun r h' => r = none ∧ h' = hset h 7 13 2 (nI 0)) := by
  refine R_s 3 (5, [(0, vR 7 13)], [], (hset h 7 13 2 (nI 0))) rfl ?_
  refine R_hp (fun h1 eh1 => ?_)
  exact R_ret none h1 rfl ⟨rfl, by rw [eh1]⟩
/-- only the history's numbers and one of its concerts change -/
def FH (h h' : HP) (b : Nat) : Prop := ∀ g' j', ¬ g' = b → ¬ (g' = 7 ∧ j' = 13) → h' g' j' = h g' j'
set_option maxRecDepth 100000 in
theorem t_H_keep {d i c n p k : Nat} {h : HP} {s : Nat → Int32} (hi : h 7 13 1 = nI i) (hi5 : i < 5) (hc : h 7 13 2 = nI c) (hc5 : c ≤ 5) (C : CO h 0 s n p k) (h8 : n ≤ 8) (h5 : p ≤ 5) (h6 : k ≤ 6) : MT (d + 2) mH_keep [vR 7 13, vR 0 0] h (fun r h' => r = none ∧ CO h' (i + 2) s n p k ∧ FH h h' (i + 2) ∧ h' 7 13 1 = nI ((i + 1) % 5) ∧ h' 7 13 2 = nI (min (c + 1) 5)) := by
  refine R_s 4 (8, [(0, vR 7 13), (1, vR 0 0)], [vI (h 7 13 1), vR 7 14], h) rfl ?_
  refine R_top (nI i) hi ?_
  refine R_ldq 7 i rfl (by omega) ?_
  refine R_s 1 (10, [(0, vR 7 13), (1, vR 0 0)], [vR 0 0, vR (i + 2) 0], h) rfl ?_
  refine R_call mC_copyFrom [vR (i + 2) 0, vR 0 0] [] rfl (t_C_copyFrom (show ¬ 0 = i + 2 by omega) C h8 h5 h6) (fun r h1 e1 => ?_)
  obtain ⟨rfl, C1, F1⟩ := e1
  show R (d + 2) mH_keep (13, [(0, vR 7 13), (1, vR 0 0)], [], h1) _
  refine R_s 3 (18, [(0, vR 7 13), (1, vR 0 0)], [vI (h1 7 13 1), vR 7 13], h1) rfl ?_
  refine R_top (nI i) (by rw [F1 7 13 (by omega)]; exact hi) ?_
  refine R_s 1 (19, [(0, vR 7 13), (1, vR 0 0)], [vI (nI 1), vI (nI i), vR 7 13], h1) rfl ?_
  refine R_add i 1 rfl ?_
  refine R_s 2 (22, [(0, vR 7 13), (1, vR 0 0)], [vI ((nI (i + 1)) - (nI (i + 1)) / (nI 5) * (nI 5)), vR 7 13], h1) rfl ?_
  refine R_top (nI ((i + 1) % 5)) (rem5 (i + 1) (by omega)) ?_
  refine R_s 1 (25, [(0, vR 7 13), (1, vR 0 0)], [], (hset h1 7 13 1 (nI ((i + 1) % 5)))) rfl ?_
  refine R_hp (fun h2 eh2 => ?_)
  refine R_s 3 (30, [(0, vR 7 13), (1, vR 0 0)], [vI (h2 7 13 2), vR 7 13], h2) rfl ?_
  refine R_top (nI c) (by rw [eh2, hs_same, up_ne (by omega), F1 7 13 (by omega)]; exact hc) ?_
  refine R_s 1 (31, [(0, vR 7 13), (1, vR 0 0)], [vI (nI 1), vI (nI c), vR 7 13], h2) rfl ?_
  refine R_add c 1 rfl ?_
  refine R_s 2 (36, [(0, vR 7 13), (1, vR 0 0)], [vI (if (nI 5) < (nI (c + 1)) then (nI 5) else (nI (c + 1))), vR 7 13], h2) rfl ?_
  refine R_top (nI (min (c + 1) 5)) (min5 c (by omega)) ?_
  refine R_s 1 (39, [(0, vR 7 13), (1, vR 0 0)], [], (hset h2 7 13 2 (nI (min (c + 1) 5)))) rfl ?_
  refine R_hp (fun h3 eh3 => ?_)
  exact R_ret none h3 rfl ⟨rfl, co_frame C1 (fun j => by rw [eh3, hs_ne (by omega), eh2, hs_ne (by omega)]), fun g' j' q1 q2 => by rw [eh3, hs_ne q2, eh2, hs_ne q2]; exact F1 g' j' q1, by rw [eh3, hs_same, up_ne (by omega), eh2, hs_same, up_same], by rw [eh3, hs_same, up_same]⟩
theorem pre5 : ∀ i, i < 5 → (i + 5 - 1) % 5 = (i + 4) % 5 := by decide
set_option maxRecDepth 100000 in
theorem t_H_takeBack {d i c n p k : Nat} {h : HP} {s : Nat → Int32} (hi : h 7 13 1 = nI i) (hi5 : i < 5) (hc : h 7 13 2 = nI c) (hc1 : 1 ≤ c) (hc5 : c ≤ 5) (C : CO h ((i + 4) % 5 + 2) s n p k) (h8 : n ≤ 8) (h5 : p ≤ 5) (h6 : k ≤ 6) : MT (d + 2) mH_takeBack [vR 7 13, vR 0 0] h (fun r h' => r = none ∧ CO h' 0 s n p k ∧ FH h h' 0 ∧ h' 7 13 1 = nI ((i + 4) % 5) ∧ h' 7 13 2 = nI (c - 1)) := by
  refine R_s 2 (4, [(0, vR 7 13), (1, vR 0 0)], [vI (h 7 13 2)], h) rfl ?_
  refine R_top (nI c) hc ?_
  refine R_s 1 (cond (if0 .le (nI c)) 44 7, [(0, vR 7 13), (1, vR 0 0)], [], h) rfl ?_
  refine R_bp (c = 0) (i0_le (by omega)) (fun c1 => ?_) (fun c1 => ?_)
  · exact absurd c1 (by omega)
  · refine R_s 3 (12, [(0, vR 7 13), (1, vR 0 0)], [vI (h 7 13 1), vR 7 13], h) rfl ?_
    refine R_top (nI i) hi ?_
    refine R_s 1 (13, [(0, vR 7 13), (1, vR 0 0)], [vI (nI 5), vI (nI i), vR 7 13], h) rfl ?_
    refine R_add i 5 rfl ?_
    refine R_s 1 (15, [(0, vR 7 13), (1, vR 0 0)], [vI (nI 1), vI (nI (i + 5)), vR 7 13], h) rfl ?_
    refine R_sub (i + 5) 1 rfl (by omega) ?_
    refine R_s 2 (18, [(0, vR 7 13), (1, vR 0 0)], [vI ((nI ((i + 5) - 1)) - (nI ((i + 5) - 1)) / (nI 5) * (nI 5)), vR 7 13], h) rfl ?_
    refine R_top (nI ((i + 4) % 5)) (by rw [rem5 ((i + 5) - 1) (by omega), pre5 i hi5]) ?_
    refine R_s 1 (21, [(0, vR 7 13), (1, vR 0 0)], [], (hset h 7 13 1 (nI ((i + 4) % 5)))) rfl ?_
    refine R_hp (fun h1 eh1 => ?_)
    refine R_s 5 (30, [(0, vR 7 13), (1, vR 0 0)], [vI (h1 7 13 1), vR 7 14, vR 0 0], h1) rfl ?_
    refine R_top (nI ((i + 4) % 5)) (by rw [eh1, hs_same, up_same]) ?_
    refine R_ldq 7 ((i + 4) % 5) rfl (Nat.mod_lt _ (by decide)) ?_
    refine R_call mC_copyFrom [vR 0 0, vR (((i + 4) % 5) + 2) 0] [] rfl (t_C_copyFrom (g := 0) (g2 := (i + 4) % 5 + 2) (by omega) (co_frame C (fun j => by rw [eh1, hs_ne (by omega)])) h8 h5 h6) (fun r h2 e2 => ?_)
    obtain ⟨rfl, C2, F2⟩ := e2
    show R (d + 2) mH_takeBack (34, [(0, vR 7 13), (1, vR 0 0)], [], h2) _
    refine R_s 3 (39, [(0, vR 7 13), (1, vR 0 0)], [vI (h2 7 13 2), vR 7 13], h2) rfl ?_
    refine R_top (nI c) (by rw [F2 7 13 (by omega), eh1, hs_same, up_ne (by omega)]; exact hc) ?_
    refine R_s 1 (40, [(0, vR 7 13), (1, vR 0 0)], [vI (nI 1), vI (nI c), vR 7 13], h2) rfl ?_
    refine R_sub c 1 rfl hc1 ?_
    refine R_s 1 (44, [(0, vR 7 13), (1, vR 0 0)], [], (hset h2 7 13 2 (nI (c - 1)))) rfl ?_
    refine R_hp (fun h3 eh3 => ?_)
    exact R_ret none h3 rfl ⟨rfl, co_frame C2 (fun j => by rw [eh3, hs_ne (by omega)]), fun g' j' q1 q2 => by rw [eh3, hs_ne q2, F2 g' j' q1, eh1, hs_ne q2], by rw [eh3, hs_same, up_ne (by omega), F2 7 13 (by omega), eh1, hs_same, up_same], by rw [eh3, hs_same, up_same]⟩
end
section
/-! THE STATE OF A PLANNER: the concert, the concerts that undo brings back (newest first), the text -/
abbrev AS : Type := ST × List ST × (Nat → Nat) × Nat
def en (z : ST) : Nat := (z.1 9).toNatClampNeg
def zW (z : ST) : Nat → Nat → Nat := Wc z.1 (-1) z.2.2.1
def zB (z : ST) : Nat → Nat → Bool := msb z.1 (en z) z.2.1
/-- no two songs are pinned at one place -/
def WU (s : Nat → Int32) (n : Nat) : Prop := ∀ a b, a < n → b < n → s (10 + a) = s (10 + b) → ¬ s (10 + a) = -1 → a = b
def WX (z : ST) : Prop := WF z.1 z.2.1 z.2.2.1 z.2.2.2 ∧ (WO z.1 z.2.1 ∧ WU z.1 z.2.1) ∧ 1 ≤ z.2.1 ∧ 1 ≤ z.2.2.1 ∧ 1 ≤ z.2.2.2
def VA (A : AS) : Prop := WX A.1 ∧ (∀ z ∈ A.2.1, WX z) ∧ A.2.1.length ≤ 5
def COz (h : HP) (g : Nat) (z : ST) : Prop := CO h g z.1 z.2.1 z.2.2.1 z.2.2.2
def CI (h : HP) (A : AS) : Prop := COz h 0 A.1 ∧ (∃ i, i < 5 ∧ h 7 13 1 = nI i ∧ h 7 13 2 = nI A.2.1.length ∧ ∀ j z, A.2.1[j]? = some z → COz h ((i + 4 - j) % 5 + 2) z) ∧ TXT h A.2.2.1 A.2.2.2 ∧ (h 7 9 5 = nI 0 ∨ (h 7 9 5 = nI 1 ∧ TF h A.1.2.1 (zW A.1) (zB A.1)))
def ed (A : AS) (z : ST) : AS := (z, (A.1 :: A.2.1).take 5, A.2.2)
theorem en_ok {z : ST} (F : WF z.1 z.2.1 z.2.2.1 z.2.2.2) : z.1 9 = nI (en z) ∧ en z < 2 ^ z.2.1 ∧ en z < 256 := by
  obtain ⟨e, e1, e2⟩ := F.2.2.1
  have h8 := Nat.lt_of_lt_of_le e2 (pw_le F.2.1.1)
  have : en z = e := by unfold en; rw [e1, nI_cl (by omega)]
  rw [this]
  exact ⟨e1, e2, h8⟩
theorem COz.mv {h h' : HP} {g : Nat} {z : ST} (C : COz h g z) (e : ∀ j, h' g j = h g j) : COz h' g z := co_frame C e
/-- another concert in the place of the present one, all else as it was -/
theorem CI.mod {h h2 : HP} {A : AS} {z : ST} (I : CI h A) (hf : h 7 9 5 = nI 0) (C : COz h2 0 z) (e : ∀ g' j', ¬ g' = 0 → h2 g' j' = h g' j') : CI h2 (z, A.2) := by
  obtain ⟨-, ⟨i, i1, i2, i3, i4⟩, T, -⟩ := I
  refine ⟨C, ⟨i, i1, by rw [e 7 13 (by omega)]; exact i2, by rw [e 7 13 (by omega)]; exact i3, fun j w hj => (i4 j w hj).mv (fun c => e _ c (by omega))⟩, ⟨by rw [e 7 10 (by omega)]; exact T.1, T.2.1, fun j hj => by rw [e 7 11 (by omega)]; exact T.2.2 j hj⟩, Or.inl (by rw [e 7 9 (by omega)]; exact hf)⟩
theorem take5 {z : ST} {l : List ST} {j : Nat} {w : ST} (h : ((z :: l).take 5)[j]? = some w) : j < 5 ∧ ((j = 0 ∧ w = z) ∨ ∃ i, j = i + 1 ∧ l[i]? = some w) := by
  have hj : j < 5 := by
    have := (List.getElem?_eq_some_iff.mp h).1
    rw [List.length_take] at this
    omega
  rw [List.getElem?_take_of_lt hj] at h
  refine ⟨hj, ?_⟩
  cases j with
  | zero => left; exact ⟨rfl, (Option.some.inj h).symm⟩
  | succ j => right; exact ⟨j, rfl, h⟩
theorem take5_len {z : ST} {l : List ST} (h : l.length ≤ 5) : ((z :: l).take 5).length = min (l.length + 1) 5 := by
  rw [List.length_take, List.length_cons, Nat.min_comm]
theorem ed_VA {A : AS} {z : ST} (V : VA A) (X : WX z) : VA (ed A z) := by
  refine ⟨X, fun w hw => ?_, ?_⟩
  · have := List.mem_of_mem_take hw
    rcases List.mem_cons.mp this with e | e
    · rw [e]; exact V.1
    · exact V.2.1 w e
  · show ((A.1 :: A.2.1).take 5).length ≤ 5
    rw [take5_len V.2.2]
    omega
/-- a choice by an argument's range -/
def sel1 {α : Type} (x : Int32) (n : Nat) (f : Nat → α) (e : α) : α := cond (inb x n) (f x.toNatClampNeg) e
theorem sel1_t {α : Type} {a n : Nat} {f : Nat → α} {e : α} (h : a < n) (hn : n < 2147483648) : sel1 (nI a) n f e = f a := by
  unfold sel1
  rw [inb_n h hn, nI_cl (by omega)]
  rfl
theorem sel1_f {α : Type} {x : Int32} {n : Nat} {f : Nat → α} {e : α} (h : inb x n = false) : sel1 x n f e = e := by
  unfold sel1
  rw [h]
  rfl
def upN (f : Nat → Nat) (k x : Nat) : Nat → Nat := fun j => if j = k then x else f j
/-! what each method answers, and the state behind it -/
def oAppend (A : AS) (x : Int32) : Int32 × AS := sel1 x 127 (fun c => if c < 32 then (-1, A) else if A.2.2.2 = 300 then (-3, A) else (nI (A.2.2.2 + 1), (A.1, A.2.1, upN A.2.2.1 A.2.2.2 c, A.2.2.2 + 1))) (-1, A)
def oClear (A : AS) : Int32 × AS := (nI A.2.2.2, (A.1, A.2.1, A.2.2.1, 0))
def oFirst (A : AS) : Int32 × AS := ((match (rd A.2.2.1 A.2.2.2).1 with
  | none => -4
  | some a => nI a), A)
def oConf (A : AS) : Int32 × AS := if (rd A.2.2.1 A.2.2.2).1 = none ∧ 0 < (rd A.2.2.1 A.2.2.2).2.2.1 ∧ 0 < (rd A.2.2.1 A.2.2.2).2.2.2.1 ∧ 0 < (rd A.2.2.1 A.2.2.2).2.2.2.2 then (nI (rd A.2.2.1 A.2.2.2).2.2.1, ((rd A.2.2.1 A.2.2.2).2, [], A.2.2)) else (-2, A)
def oSetPart (A : AS) (x y w t : Int32) : Int32 × AS := sel1 x A.1.2.1 (fun a => sel1 y A.1.2.2.1 (fun b => sel1 w A.1.2.2.2 (fun c => sel1 t 6 (fun t =>
  if oth A.1.1 a (nI c) b A.1.2.2.1 < (A.1.1 (33 + c)).toNatClampNeg then (nI (oth A.1.1 a (nI c) b A.1.2.2.1 + 1), ed A (upd (upd A.1.1 (45 + 2 * (a * 5 + b)) (nI c)) (46 + 2 * (a * 5 + b)) (nI t), A.1.2)) else (-2, A)) (-1, A)) (-1, A)) (-1, A)) (-1, A)
def oRemove (A : AS) (x y : Int32) : Int32 × AS := sel1 x A.1.2.1 (fun a => sel1 y A.1.2.2.1 (fun b => if kd A.1.1 a b = -1 then (-4, A) else (kd A.1.1 a b, ed A (upd A.1.1 (45 + 2 * (a * 5 + b)) (-1), A.1.2))) (-1, A)) (-1, A)
def oUnits (A : AS) (x y : Int32) : Int32 × AS := sel1 x A.1.2.2.2 (fun c => sel1 y 6 (fun u => if u < 1 then (-1, A) else if u < mx A.1.1 (nI c) A.1.2.2.1 A.1.2.1 then (-2, A) else (A.1.1 (33 + c), ed A (upd A.1.1 (33 + c) (nI u), A.1.2))) (-1, A)) (-1, A)
def pbo (s : Nat → Int32) (a : Nat) (y : Int32) : Nat → Bool
  | 0 => false
  | b + 1 => pbo s a y b || (!(decide (b = a)) && decide (s (10 + b) = y))
def oPin (A : AS) (x y : Int32) : Int32 × AS := sel1 x A.1.2.1 (fun a => sel1 y A.1.2.1 (fun j => if pbo A.1.1 a (nI j) A.1.2.1 = true then (-2, A) else (nI (pinc (upd A.1.1 (10 + a) (nI j)) A.1.2.1), ed A (upd A.1.1 (10 + a) (nI j), A.1.2))) (-1, A)) (-1, A)
def oUnpin (A : AS) (x : Int32) : Int32 × AS := sel1 x A.1.2.1 (fun a => if A.1.1 (10 + a) = -1 then (-4, A) else (A.1.1 (10 + a), ed A (upd A.1.1 (10 + a) (-1), A.1.2))) (-1, A)
def sbt (e a v : Nat) : Nat := (if e.testBit a then e - 2 ^ a else e) + v * 2 ^ a
def oEnc (A : AS) (x y : Int32) : Int32 × AS := sel1 x A.1.2.1 (fun a => sel1 y 2 (fun v => (nI (if (en A.1).testBit a then 1 else 0), ed A (upd A.1.1 9 (nI (sbt (en A.1) a v)), A.1.2))) (-1, A)) (-1, A)
def oMove (A : AS) (x y : Int32) : Int32 × AS := sel1 x A.1.2.1 (fun f => sel1 y A.1.2.1 (fun t => (A.1.1 (18 + f), ed A (ord A.1.1 (mvo (fun j => A.1.1 (18 + j)) f t), A.1.2))) (-1, A)) (-1, A)
def zG (z : ST) : Option Nat × Nat := GT z.2.1 (zW z) (mCl (zB z)) 0 0
def zS (z : ST) (j : Nat) : Option Nat := bsg z.2.1 (zW z) (mCl (zB z)) j
def oAdopt (A : AS) : Int32 × AS := match (zG A.1).1 with
  | none => (-4, A)
  | some c => (nI c, ed A (ord A.1.1 (fun j => if j < A.1.2.1 then enc (zS A.1 j) else A.1.1 (18 + j)), A.1.2))
def oUndo (A : AS) : Int32 × AS := match A.2.1 with
  | [] => (-2, A)
  | z :: r => (nI r.length, (z, r, A.2.2))
def oCount (A : AS) : Int32 := nI A.1.2.1
def oKind (A : AS) (x y : Int32) : Int32 := sel1 x A.1.2.1 (fun a => sel1 y A.1.2.2.1 (fun b => if kd A.1.1 a b = -1 then -4 else kd A.1.1 a b) (-1)) (-1)
def oTun (A : AS) (x y : Int32) : Int32 := sel1 x A.1.2.1 (fun a => sel1 y A.1.2.2.1 (fun b => if kd A.1.1 a b = -1 then -4 else tn A.1.1 a b) (-1)) (-1)
def oSpare (A : AS) (x y : Int32) : Int32 := sel1 x A.1.2.1 (fun a => sel1 y A.1.2.2.2 (fun c => A.1.1 (33 + c) - nI (cn A.1.1 a (nI c) A.1.2.2.1)) (-1)) (-1)
def oChange (A : AS) (q x y : Int32) : Int32 := sel1 q A.1.2.2.1 (fun q => sel1 x A.1.2.1 (fun a => sel1 y A.1.2.1 (fun b => if a = b then -1 else nI (chg A.1.1 (-1) A.1.2.2.1 a b q)) (-1)) (-1)) (-1)
def oCost (A : AS) (q x y : Int32) : Int32 := sel1 q A.1.2.2.1 (fun q => sel1 x A.1.2.1 (fun a => sel1 y A.1.2.1 (fun b => if a = b then -1 else nI (cof A.1.1 (-1) A.1.2.2.1 a b q)) (-1)) (-1)) (-1)
def oOver (A : AS) (x y : Int32) : Int32 := sel1 x A.1.2.1 (fun a => sel1 y A.1.2.1 (fun b => if a = b then -1 else nI (btw A.1.1 (-1) A.1.2.2.1 a b A.1.2.2.1)) (-1)) (-1)
def oSongAt (A : AS) (x : Int32) : Int32 := sel1 x A.1.2.1 (fun j => A.1.1 (18 + j)) (-1)
def stq (z : ST) (j : Nat) : Nat := btw z.1 (-1) z.2.2.1 (z.1 (18 + j)).toNatClampNeg (z.1 (18 + (j + 1))).toNatClampNeg z.2.2.1
def ocs (z : ST) : Nat → Nat
  | 0 => 0
  | j + 1 => ocs z j + stq z j
def oOrder (A : AS) : Int32 := nI (ocs A.1 (A.1.2.1 - 1))
def alw (z : ST) : Nat → Bool
  | 0 => true
  | j + 1 => alw z j && zB z (z.1 (18 + j)).toNatClampNeg j
def oAllowed (A : AS) : Int32 := bI (alw A.1 A.1.2.1)
/-- the dearest changeover so far: its cost and its place -/
def drs (z : ST) : Nat → Option (Nat × Nat)
  | 0 => none
  | j + 1 => match drs z j with
    | none => some (stq z j, j)
    | some q => if q.1 < stq z j then some (stq z j, j) else some q
def oDear (A : AS) : Int32 := match drs A.1 (A.1.2.1 - 1) with
  | none => -4
  | some q => nI q.2
def nf (o : Option Nat) : Int32 := match o with
  | none => -4
  | some c => nI c
def oBest (A : AS) : Int32 := nf (zG A.1).1
def oBestAt (A : AS) (x : Int32) : Int32 := sel1 x A.1.2.1 (fun j => nf (zS A.1 j)) (-1)
def oBestFrom (A : AS) (x : Int32) : Int32 := sel1 x A.1.2.1 (fun a => nf (cand (zW A.1) (mCl (zB A.1)) (GT A.1.2.1 (zW A.1) (mCl (zB A.1))) 0 0 a).1) (-1)
def oBestN (A : AS) : Int32 := nI (zG A.1).2
/-- the concert with one unit more of a kind -/
def zm (z : ST) (c : Nat) : ST := (upd z.1 (33 + c) (z.1 (33 + c) + 1), z.2)
def oSave (A : AS) (x : Int32) : Int32 := sel1 x A.1.2.2.2 (fun c => match (zG A.1).1 with
  | none => -4
  | some v => nI v - enc (zG (zm A.1 c)).1) (-1)
/-- the encores within a time: the sets before S -/
def ewi (z : ST) (t : Int32) : Nat → Nat × Int32
  | 0 => (0, nI 0)
  | 1 => (0, nI 0)
  | S + 2 => if ((S + 1) &&& en z = S + 1) ∧ ptm z.1 (S + 1) z.2.1 ≤ t ∧ ((ewi z t (S + 1)).2 < ptm z.1 (S + 1) z.2.1 ∨ (ptm z.1 (S + 1) z.2.1 = (ewi z t (S + 1)).2 ∧ pop (ewi z t (S + 1)).1 < pop (S + 1))) then (S + 1, ptm z.1 (S + 1) z.2.1) else ewi z t (S + 1)
def oWithin (A : AS) (x : Int32) : Int32 := sel1 x 161 (fun _ => nI (ewi A.1 x (2 ^ A.1.2.1)).1) (-1)
end
section
set_option maxRecDepth 100000 in
theorem t_S_songCount {d : Nat} {h : HP} {A : AS} (V : VA A) (I : CI h A) : MT (d) mS_songCount [vR 7 9] h (fun r h' => r = some (vI (oCount A)) ∧ CI h' A) := by
  obtain ⟨⟨s, n, p, k⟩, kp, ch, len⟩ := A
  have C : CO h 0 s n p k := I.1
  have F : WF s n p k := V.1.1
  have O : WO s n := V.1.2.1.1
  have hn1 : 1 ≤ n := V.1.2.2.1
  have hp1 : 1 ≤ p := V.1.2.2.2.1
  have hk1 : 1 ≤ k := V.1.2.2.2.2
  have h8 : n ≤ 8 := F.2.1.1
  have h5 : p ≤ 5 := F.2.1.2.1
  have h6 : k ≤ 6 := F.2.1.2.2
  refine R_s 3 (7, [(0, vR 7 9)], [vI (h 0 0 0)], h) rfl ?_
  refine R_top (nI n) C.1.1 ?_
  exact R_ret (some (vI (nI n))) h rfl ⟨rfl, I⟩
set_option maxRecDepth 100000 in
theorem t_S_kindOf {d : Nat} {h : HP} {A : AS} {x y : Int32} (V : VA A) (I : CI h A) : MT (d + 1) mS_kindOf [vR 7 9, vI x, vI y] h (fun r h' => r = some (vI (oKind A x y)) ∧ CI h' A) := by
  obtain ⟨⟨s, n, p, k⟩, kp, ch, len⟩ := A
  have C : CO h 0 s n p k := I.1
  have F : WF s n p k := V.1.1
  have O : WO s n := V.1.2.1.1
  have hn1 : 1 ≤ n := V.1.2.2.1
  have hp1 : 1 ≤ p := V.1.2.2.2.1
  have hk1 : 1 ≤ k := V.1.2.2.2.2
  have h8 : n ≤ 8 := F.2.1.1
  have h5 : p ≤ 5 := F.2.1.2.1
  have h6 : k ≤ 6 := F.2.1.2.2
  refine R_s 3 (5, [(0, vR 7 9), (1, vI x), (2, vI y)], [vI x, vR 0 0], h) rfl ?_
  refine R_calli mC_isSong [vR 0 0, vI x] [] (bI (inb x n)) h rfl (t_C_isSong C.1.1 h8) ?_
  refine R_s 1 (cond (if0 .eq (bI (inb x n))) 22 11, [(0, vR 7 9), (1, vI x), (2, vI y)], [], h) rfl ?_
  refine R_bp (inb x n = false) (x0_eq.trans bI_eq) (fun ca => ?_) (fun ca => ?_)
  · refine R_s 1 (23, [(0, vR 7 9), (1, vI x), (2, vI y)], [vI (-1)], h) rfl ?_
    exact R_ret (some (vI (-1))) h rfl ⟨by unfold oKind; dsimp only; rw [sel1_f ca], I⟩
  · obtain ⟨a, ha, rfl⟩ := inb_ex (by omega) (tf ca)
    refine R_s 3 (16, [(0, vR 7 9), (1, vI (nI a)), (2, vI y)], [vI y, vR 0 0], h) rfl ?_
    refine R_calli mC_isPlayer [vR 0 0, vI y] [] (bI (inb y p)) h rfl (t_C_isPlayer C.1.2.1 (by omega)) ?_
    refine R_s 1 (cond (if0 .ne (bI (inb y p))) 24 22, [(0, vR 7 9), (1, vI (nI a)), (2, vI y)], [], h) rfl ?_
    refine R_bp (inb y p = true) (x0_ne.trans bI_ne) (fun cb => ?_) (fun cb => ?_)
    · obtain ⟨b, hb, rfl⟩ := inb_ex (by omega) cb
      refine R_s 4 (30, [(0, vR 7 9), (1, vI (nI a)), (2, vI (nI b))], [vI (nI b), vI (nI a), vR 0 0], h) rfl ?_
      refine R_calli mC_kindPlayed [vR 0 0, vI (nI a), vI (nI b)] [] (kd s a b) h rfl (t_C_kindPlayed C (by omega) (by omega)) ?_
      refine R_s 4 (cond (if2 .ne (kd s a b) (-1)) 44 39, [(3, vI (kd s a b)), (0, vR 7 9), (1, vI (nI a)), (2, vI (nI b))], [], h) rfl ?_
      refine R_bp (¬ (kd s a b) = (-1)) x2_ne (fun c1 => ?_) (fun c1 => ?_)
      · refine R_s 1 (45, [(3, vI (kd s a b)), (0, vR 7 9), (1, vI (nI a)), (2, vI (nI b))], [vI (kd s a b)], h) rfl ?_
        exact R_ret (some (vI (kd s a b))) h rfl ⟨by unfold oKind; dsimp only; rw [sel1_t ha (by omega), sel1_t hb (by omega), if_neg c1], I⟩
      · refine R_s 2 (45, [(3, vI (kd s a b)), (0, vR 7 9), (1, vI (nI a)), (2, vI (nI b))], [vI (-4)], h) rfl ?_
        exact R_ret (some (vI (-4))) h rfl ⟨by unfold oKind; dsimp only; rw [sel1_t ha (by omega), sel1_t hb (by omega), if_pos (Classical.not_not.mp c1)], I⟩
    · have cb : inb y p = false := by cases q9 : inb y p with
        | false => rfl
        | true => exact absurd q9 cb
      refine R_s 1 (23, [(0, vR 7 9), (1, vI (nI a)), (2, vI y)], [vI (-1)], h) rfl ?_
      exact R_ret (some (vI (-1))) h rfl ⟨by unfold oKind; dsimp only; rw [sel1_t ha (by omega), sel1_f cb], I⟩
theorem kd_neg {s : Nat → Int32} {n p k a b : Nat} (F : WF s n p k) (ha : a < n) (hb : b < p) (h : ¬ kd s a b = -1) : ∃ c, c < k ∧ kd s a b = nI c := ((F.2.2.2.2.2.1 a (by have := F.2.1.1; omega) b (by have := F.2.1.2.1; omega)).resolve_left h).1
theorem oTun_f {A : AS} {x y : Int32} (q : inb x A.1.2.1 = false ∨ inb y A.1.2.2.1 = false) : oTun A x y = -1 := by
  unfold oTun
  rcases q with q | q
  · rw [sel1_f q]
  · unfold sel1
    rw [q]
    cases inb x A.1.2.1 <;> rfl
/-- the three ways of a part's answer -/
theorem oKind_c {z : ST} {kp : List ST} {ch : Nat → Nat} {len : Nat} {x y : Int32} (F : WF z.1 z.2.1 z.2.2.1 z.2.2.2) : (oKind (z, kp, ch, len) x y = -1 ∧ (inb x z.2.1 = false ∨ inb y z.2.2.1 = false)) ∨ (∃ a b, a < z.2.1 ∧ b < z.2.2.1 ∧ x = nI a ∧ y = nI b ∧ ((kd z.1 a b = -1 ∧ oKind (z, kp, ch, len) x y = -4) ∨ (∃ c, c < z.2.2.2 ∧ kd z.1 a b = nI c ∧ oKind (z, kp, ch, len) x y = nI c))) := by
  have h8 := F.2.1.1
  have h5 := F.2.1.2.1
  cases hx : inb x z.2.1 with
  | false => exact Or.inl ⟨by unfold oKind; rw [sel1_f hx], Or.inl rfl⟩
  | true =>
    obtain ⟨a, ha, rfl⟩ := inb_ex (by omega) hx
    cases hy : inb y z.2.2.1 with
    | false => exact Or.inl ⟨by unfold oKind; rw [sel1_t ha (by omega), sel1_f hy], Or.inr rfl⟩
    | true =>
      obtain ⟨b, hb, rfl⟩ := inb_ex (by omega) hy
      refine Or.inr ⟨a, b, ha, hb, rfl, rfl, ?_⟩
      have e : oKind (z, kp, ch, len) (nI a) (nI b) = if kd z.1 a b = -1 then -4 else kd z.1 a b := by unfold oKind; rw [sel1_t ha (by omega), sel1_t hb (by omega)]
      by_cases q : kd z.1 a b = -1
      · exact Or.inl ⟨q, by rw [e, if_pos q]⟩
      · obtain ⟨c, hc, ec⟩ := kd_neg F ha hb q
        exact Or.inr ⟨c, hc, ec, by rw [e, if_neg q, ec]⟩
set_option maxRecDepth 100000 in
theorem t_S_tuningOf {d : Nat} {h : HP} {A : AS} {x y : Int32} (V : VA A) (I : CI h A) : MT (d + 2) mS_tuningOf [vR 7 9, vI x, vI y] h (fun r h' => r = some (vI (oTun A x y)) ∧ CI h' A) := by
  obtain ⟨⟨s, n, p, k⟩, kp, ch, len⟩ := A
  have C : CO h 0 s n p k := I.1
  have F : WF s n p k := V.1.1
  have O : WO s n := V.1.2.1.1
  have hn1 : 1 ≤ n := V.1.2.2.1
  have hp1 : 1 ≤ p := V.1.2.2.2.1
  have hk1 : 1 ≤ k := V.1.2.2.2.2
  have h8 : n ≤ 8 := F.2.1.1
  have h5 : p ≤ 5 := F.2.1.2.1
  have h6 : k ≤ 6 := F.2.1.2.2
  refine R_s 3 (3, [(0, vR 7 9), (1, vI x), (2, vI y)], [vI y, vI x, vR 7 9], h) rfl ?_
  refine R_call mS_kindOf [vR 7 9, vI x, vI y] [] rfl (t_S_kindOf V I) (fun r h1 e1 => ?_)
  obtain ⟨rfl, I1⟩ := e1
  have C1 : CO h1 0 s n p k := I1.1
  rcases oKind_c (z := (s, n, p, k)) (kp := kp) (ch := ch) (len := len) (x := x) (y := y) F with ⟨e, q⟩ | ⟨a, b, ha, hb, rfl, rfl, ⟨q, e⟩ | ⟨c, hc, ec, e⟩⟩
  · rw [e]
    show R (d + 2) mS_tuningOf (6, [(0, vR 7 9), (1, vI x), (2, vI y)], [vI (-1)], h1) _
    refine R_s 3 (cond (if0 .ge (-1)) 15 11, [(3, vI (-1)), (0, vR 7 9), (1, vI x), (2, vI y)], [], h1) rfl ?_
    refine R_bf (by decide) ?_
    refine R_s 2 (24, [(3, vI (-1)), (0, vR 7 9), (1, vI x), (2, vI y)], [vI (-1)], h1) rfl ?_
    exact R_ret (some (vI (-1))) h1 rfl ⟨by rw [oTun_f q], I1⟩
  · rw [e]
    have ha8 : a < n := ha
    have hb5 : b < p := hb
    show R (d + 2) mS_tuningOf (6, [(0, vR 7 9), (1, vI (nI a)), (2, vI (nI b))], [vI (-4)], h1) _
    refine R_s 3 (cond (if0 .ge (-4)) 15 11, [(3, vI (-4)), (0, vR 7 9), (1, vI (nI a)), (2, vI (nI b))], [], h1) rfl ?_
    refine R_bf (by decide) ?_
    refine R_s 2 (24, [(3, vI (-4)), (0, vR 7 9), (1, vI (nI a)), (2, vI (nI b))], [vI (-4)], h1) rfl ?_
    exact R_ret (some (vI (-4))) h1 rfl ⟨by unfold oTun; dsimp only; rw [sel1_t ha8 (by omega), sel1_t hb5 (by omega), if_pos q], I1⟩
  · rw [e]
    show R (d + 2) mS_tuningOf (6, [(0, vR 7 9), (1, vI (nI a)), (2, vI (nI b))], [vI (nI c)], h1) _
    have hcb : c < k := hc
    refine R_s 3 (cond (if0 .ge (nI c)) 15 11, [(3, vI (nI c)), (0, vR 7 9), (1, vI (nI a)), (2, vI (nI b))], [], h1) rfl ?_
    refine R_bt (by unfold if0; exact decide_eq_true (nI_pos' (by omega))) ?_
    refine R_s 4 (21, [(3, vI (nI c)), (0, vR 7 9), (1, vI (nI a)), (2, vI (nI b))], [vI (nI b), vI (nI a), vR 0 0], h1) rfl ?_
    have hk : ¬ kd s a b = -1 := by rw [show kd s a b = nI c from ec]; exact nI_ne_m1 (by omega)
    have ha8 : a < n := ha
    have hb5 : b < p := hb
    refine R_calli mC_tuningPlayed [vR 0 0, vI (nI a), vI (nI b)] [] (tn s a b) h1 rfl (t_C_tuningPlayed C1 (by omega) (by omega) hk) ?_
    exact R_ret (some (vI (tn s a b))) h1 rfl ⟨by unfold oTun; dsimp only; rw [sel1_t ha8 (by omega), sel1_t hb5 (by omega), if_neg hk], I1⟩
set_option maxRecDepth 100000 in
theorem t_S_spareUnits {d : Nat} {h : HP} {A : AS} {x y : Int32} (V : VA A) (I : CI h A) : MT (d + 1) mS_spareUnits [vR 7 9, vI x, vI y] h (fun r h' => r = some (vI (oSpare A x y)) ∧ CI h' A) := by
  obtain ⟨⟨s, n, p, k⟩, kp, ch, len⟩ := A
  have C : CO h 0 s n p k := I.1
  have F : WF s n p k := V.1.1
  have O : WO s n := V.1.2.1.1
  have hn1 : 1 ≤ n := V.1.2.2.1
  have hp1 : 1 ≤ p := V.1.2.2.2.1
  have hk1 : 1 ≤ k := V.1.2.2.2.2
  have h8 : n ≤ 8 := F.2.1.1
  have h5 : p ≤ 5 := F.2.1.2.1
  have h6 : k ≤ 6 := F.2.1.2.2
  refine R_s 3 (5, [(0, vR 7 9), (1, vI x), (2, vI y)], [vI x, vR 0 0], h) rfl ?_
  refine R_calli mC_isSong [vR 0 0, vI x] [] (bI (inb x n)) h rfl (t_C_isSong C.1.1 h8) ?_
  refine R_s 1 (cond (if0 .eq (bI (inb x n))) 22 11, [(0, vR 7 9), (1, vI x), (2, vI y)], [], h) rfl ?_
  refine R_bp (inb x n = false) (x0_eq.trans bI_eq) (fun ca => ?_) (fun ca => ?_)
  · refine R_s 1 (23, [(0, vR 7 9), (1, vI x), (2, vI y)], [vI (-1)], h) rfl ?_
    exact R_ret (some (vI (-1))) h rfl ⟨by unfold oSpare; dsimp only; rw [sel1_f ca], I⟩
  · obtain ⟨a, ha, rfl⟩ := inb_ex (by omega) (tf ca)
    refine R_s 3 (16, [(0, vR 7 9), (1, vI (nI a)), (2, vI y)], [vI y, vR 0 0], h) rfl ?_
    refine R_calli mC_isKind [vR 0 0, vI y] [] (bI (inb y k)) h rfl (t_C_isKind C.1.2.2.1 (by omega)) ?_
    refine R_s 1 (cond (if0 .ne (bI (inb y k))) 24 22, [(0, vR 7 9), (1, vI (nI a)), (2, vI y)], [], h) rfl ?_
    refine R_bp (inb y k = true) (x0_ne.trans bI_ne) (fun cb => ?_) (fun cb => ?_)
    · obtain ⟨b, hb, rfl⟩ := inb_ex (by omega) cb
      refine R_s 4 (32, [(0, vR 7 9), (1, vI (nI a)), (2, vI (nI b))], [vI (nI b), vR 0 3], h) rfl ?_
      refine R_ld 0 3 b 6 rfl rfl (by omega) (by decide) ?_
      refine R_top (s (33 + b)) (C.2.2.2.1 b hb).1 ?_
      refine R_s 4 (39, [(0, vR 7 9), (1, vI (nI a)), (2, vI (nI b))], [vI (nI b), vI (nI a), vR 0 0, vI (s (33 + b))], h) rfl ?_
      refine R_calli mC_playersOn [vR 0 0, vI (nI a), vI (nI b)] [vI (s (33 + b))] (nI (cn s a (nI b) p)) h rfl (t_C_playersOn C h5 (by omega)) ?_
      refine R_s 1 (43, [(0, vR 7 9), (1, vI (nI a)), (2, vI (nI b))], [vI ((s (33 + b)) - (nI (cn s a (nI b) p)))], h) rfl ?_
      exact R_ret (some (vI ((s (33 + b)) - (nI (cn s a (nI b) p))))) h rfl ⟨by unfold oSpare; dsimp only; rw [sel1_t ha (by omega), sel1_t hb (by omega)], I⟩
    · have cb : inb y k = false := by cases q9 : inb y k with
        | false => rfl
        | true => exact absurd q9 cb
      refine R_s 1 (23, [(0, vR 7 9), (1, vI (nI a)), (2, vI y)], [vI (-1)], h) rfl ?_
      exact R_ret (some (vI (-1))) h rfl ⟨by unfold oSpare; dsimp only; rw [sel1_t ha (by omega), sel1_f cb], I⟩
theorem two_c {x y : Int32} {n : Nat} (hn : n ≤ 8) : ((inb x n && inb y n && !(decide (x = y))) = true ∧ ∃ a b, a < n ∧ b < n ∧ ¬ a = b ∧ x = nI a ∧ y = nI b) ∨ ((inb x n && inb y n && !(decide (x = y))) = false ∧ ∀ f : Nat → Nat → Int32, sel1 x n (fun a => sel1 y n (fun b => if a = b then -1 else f a b) (-1)) (-1) = -1) := by
  cases hx : inb x n with
  | false => exact Or.inr ⟨rfl, fun f => sel1_f hx⟩
  | true =>
    obtain ⟨a, ha, rfl⟩ := inb_ex (by omega) hx
    cases hy : inb y n with
    | false => exact Or.inr ⟨rfl, fun f => by rw [sel1_t ha (by omega), sel1_f hy]⟩
    | true =>
      obtain ⟨b, hb, rfl⟩ := inb_ex (by omega) hy
      by_cases e : a = b
      · exact Or.inr ⟨by rw [e]; simp, fun f => by rw [sel1_t ha (by omega), sel1_t hb (by omega), if_pos e]⟩
      · refine Or.inl ⟨?_, a, b, ha, hb, e, rfl, rfl⟩
        rw [decide_eq_false (fun q => e ((nI_eq (by omega) (by omega)).mp q))]
        rfl
set_option maxRecDepth 100000 in
theorem t_S_changeOf {d : Nat} {h : HP} {A : AS} {q x y : Int32} (V : VA A) (I : CI h A) : MT (d + 2) mS_changeOf [vR 7 9, vI q, vI x, vI y] h (fun r h' => r = some (vI (oChange A q x y)) ∧ CI h' A) := by
  obtain ⟨⟨s, n, p, k⟩, kp, ch, len⟩ := A
  have C : CO h 0 s n p k := I.1
  have F : WF s n p k := V.1.1
  have O : WO s n := V.1.2.1.1
  have hn1 : 1 ≤ n := V.1.2.2.1
  have hp1 : 1 ≤ p := V.1.2.2.2.1
  have hk1 : 1 ≤ k := V.1.2.2.2.2
  have h8 : n ≤ 8 := F.2.1.1
  have h5 : p ≤ 5 := F.2.1.2.1
  have h6 : k ≤ 6 := F.2.1.2.2
  refine R_s 3 (5, [(0, vR 7 9), (1, vI q), (2, vI x), (3, vI y)], [vI q, vR 0 0], h) rfl ?_
  refine R_calli mC_isPlayer [vR 0 0, vI q] [] (bI (inb q p)) h rfl (t_C_isPlayer C.1.2.1 (by omega)) ?_
  refine R_s 1 (cond (if0 .eq (bI (inb q p))) 23 11, [(0, vR 7 9), (1, vI q), (2, vI x), (3, vI y)], [], h) rfl ?_
  refine R_bp (inb q p = false) (x0_eq.trans bI_eq) (fun cq0 => ?_) (fun cq0 => ?_)
  · refine R_s 1 (24, [(0, vR 7 9), (1, vI q), (2, vI x), (3, vI y)], [vI (-1)], h) rfl ?_
    exact R_ret (some (vI (-1))) h rfl ⟨by unfold oChange; dsimp only; rw [sel1_f cq0], I⟩
  · obtain ⟨q0, hq0, rfl⟩ := inb_ex (by omega) (tf cq0)
    refine R_s 4 (17, [(0, vR 7 9), (1, vI (nI q0)), (2, vI x), (3, vI y)], [vI y, vI x, vR 0 0], h) rfl ?_
    refine R_calli mC_areTwoSongs [vR 0 0, vI x, vI y] [] (bI (inb x n && inb y n && !(decide (x = y)))) h rfl (t_C_areTwoSongs C.1.1 h8) ?_
    rcases two_c (x := x) (y := y) h8 with ⟨e2, a, b, ha, hb, hab, rfl, rfl⟩ | ⟨e2, hf⟩
    · rw [e2]
      show R _ mS_changeOf (20, [(0, vR 7 9), (1, vI (nI q0)), (2, vI (nI a)), (3, vI (nI b))], [vI (nI 1)], h) _
      refine R_s 1 (cond (if0 .ne (nI 1)) 25 23, [(0, vR 7 9), (1, vI (nI q0)), (2, vI (nI a)), (3, vI (nI b))], [], h) rfl ?_
      refine R_bt rfl ?_
      refine R_s 5 (32, [(0, vR 7 9), (1, vI (nI q0)), (2, vI (nI a)), (3, vI (nI b))], [vI (nI b), vI (nI a), vI (nI q0), vR 0 0], h) rfl ?_
      refine R_calli mC_change [vR 0 0, vI (nI q0), vI (nI a), vI (nI b)] [] (nI (chg s (-1) p a b q0)) h rfl (t_C_change C F (by omega) (by omega) (by omega)) ?_
      exact R_ret (some (vI (nI (chg s (-1) p a b q0)))) h rfl ⟨by unfold oChange; dsimp only; rw [sel1_t hq0 (by omega), sel1_t ha (by omega), sel1_t hb (by omega), if_neg hab], I⟩
    · rw [e2]
      show R _ mS_changeOf (20, [(0, vR 7 9), (1, vI (nI q0)), (2, vI x), (3, vI y)], [vI (nI 0)], h) _
      refine R_s 1 (cond (if0 .ne (nI 0)) 25 23, [(0, vR 7 9), (1, vI (nI q0)), (2, vI x), (3, vI y)], [], h) rfl ?_
      refine R_bf rfl ?_
      refine R_s 1 (24, [(0, vR 7 9), (1, vI (nI q0)), (2, vI x), (3, vI y)], [vI (-1)], h) rfl ?_
      exact R_ret (some (vI (-1))) h rfl ⟨by unfold oChange; dsimp only; rw [sel1_t hq0 (by omega), hf], I⟩
set_option maxRecDepth 100000 in
theorem t_S_changeCost {d : Nat} {h : HP} {A : AS} {q x y : Int32} (V : VA A) (I : CI h A) : MT (d + 3) mS_changeCost [vR 7 9, vI q, vI x, vI y] h (fun r h' => r = some (vI (oCost A q x y)) ∧ CI h' A) := by
  obtain ⟨⟨s, n, p, k⟩, kp, ch, len⟩ := A
  have C : CO h 0 s n p k := I.1
  have F : WF s n p k := V.1.1
  have O : WO s n := V.1.2.1.1
  have hn1 : 1 ≤ n := V.1.2.2.1
  have hp1 : 1 ≤ p := V.1.2.2.2.1
  have hk1 : 1 ≤ k := V.1.2.2.2.2
  have h8 : n ≤ 8 := F.2.1.1
  have h5 : p ≤ 5 := F.2.1.2.1
  have h6 : k ≤ 6 := F.2.1.2.2
  refine R_s 3 (5, [(0, vR 7 9), (1, vI q), (2, vI x), (3, vI y)], [vI q, vR 0 0], h) rfl ?_
  refine R_calli mC_isPlayer [vR 0 0, vI q] [] (bI (inb q p)) h rfl (t_C_isPlayer C.1.2.1 (by omega)) ?_
  refine R_s 1 (cond (if0 .eq (bI (inb q p))) 23 11, [(0, vR 7 9), (1, vI q), (2, vI x), (3, vI y)], [], h) rfl ?_
  refine R_bp (inb q p = false) (x0_eq.trans bI_eq) (fun cq0 => ?_) (fun cq0 => ?_)
  · refine R_s 1 (24, [(0, vR 7 9), (1, vI q), (2, vI x), (3, vI y)], [vI (-1)], h) rfl ?_
    exact R_ret (some (vI (-1))) h rfl ⟨by unfold oCost; dsimp only; rw [sel1_f cq0], I⟩
  · obtain ⟨q0, hq0, rfl⟩ := inb_ex (by omega) (tf cq0)
    refine R_s 4 (17, [(0, vR 7 9), (1, vI (nI q0)), (2, vI x), (3, vI y)], [vI y, vI x, vR 0 0], h) rfl ?_
    refine R_calli mC_areTwoSongs [vR 0 0, vI x, vI y] [] (bI (inb x n && inb y n && !(decide (x = y)))) h rfl (t_C_areTwoSongs C.1.1 h8) ?_
    rcases two_c (x := x) (y := y) h8 with ⟨e2, a, b, ha, hb, hab, rfl, rfl⟩ | ⟨e2, hf⟩
    · rw [e2]
      show R _ mS_changeCost (20, [(0, vR 7 9), (1, vI (nI q0)), (2, vI (nI a)), (3, vI (nI b))], [vI (nI 1)], h) _
      refine R_s 1 (cond (if0 .ne (nI 1)) 25 23, [(0, vR 7 9), (1, vI (nI q0)), (2, vI (nI a)), (3, vI (nI b))], [], h) rfl ?_
      refine R_bt rfl ?_
      refine R_s 5 (32, [(0, vR 7 9), (1, vI (nI q0)), (2, vI (nI a)), (3, vI (nI b))], [vI (nI b), vI (nI a), vI (nI q0), vR 0 0], h) rfl ?_
      refine R_calli mC_costOfChange [vR 0 0, vI (nI q0), vI (nI a), vI (nI b)] [] (nI (cof s (-1) p a b q0)) h rfl (t_C_costOfChange C F (by omega) (by omega) (by omega)) ?_
      exact R_ret (some (vI (nI (cof s (-1) p a b q0)))) h rfl ⟨by unfold oCost; dsimp only; rw [sel1_t hq0 (by omega), sel1_t ha (by omega), sel1_t hb (by omega), if_neg hab], I⟩
    · rw [e2]
      show R _ mS_changeCost (20, [(0, vR 7 9), (1, vI (nI q0)), (2, vI x), (3, vI y)], [vI (nI 0)], h) _
      refine R_s 1 (cond (if0 .ne (nI 0)) 25 23, [(0, vR 7 9), (1, vI (nI q0)), (2, vI x), (3, vI y)], [], h) rfl ?_
      refine R_bf rfl ?_
      refine R_s 1 (24, [(0, vR 7 9), (1, vI (nI q0)), (2, vI x), (3, vI y)], [vI (-1)], h) rfl ?_
      exact R_ret (some (vI (-1))) h rfl ⟨by unfold oCost; dsimp only; rw [sel1_t hq0 (by omega), hf], I⟩
set_option maxRecDepth 100000 in
theorem t_S_changeoverCost {d : Nat} {h : HP} {A : AS} {x y : Int32} (V : VA A) (I : CI h A) : MT (d + 4) mS_changeoverCost [vR 7 9, vI x, vI y] h (fun r h' => r = some (vI (oOver A x y)) ∧ CI h' A) := by
  obtain ⟨⟨s, n, p, k⟩, kp, ch, len⟩ := A
  have C : CO h 0 s n p k := I.1
  have F : WF s n p k := V.1.1
  have O : WO s n := V.1.2.1.1
  have hn1 : 1 ≤ n := V.1.2.2.1
  have hp1 : 1 ≤ p := V.1.2.2.2.1
  have hk1 : 1 ≤ k := V.1.2.2.2.2
  have h8 : n ≤ 8 := F.2.1.1
  have h5 : p ≤ 5 := F.2.1.2.1
  have h6 : k ≤ 6 := F.2.1.2.2
  refine R_s 4 (6, [(0, vR 7 9), (1, vI x), (2, vI y)], [vI y, vI x, vR 0 0], h) rfl ?_
  refine R_calli mC_areTwoSongs [vR 0 0, vI x, vI y] [] (bI (inb x n && inb y n && !(decide (x = y)))) h rfl (t_C_areTwoSongs C.1.1 h8) ?_
  rcases two_c (x := x) (y := y) h8 with ⟨e2, a, b, ha, hb, hab, rfl, rfl⟩ | ⟨e2, hf⟩
  · rw [e2]
    show R _ mS_changeoverCost (9, [(0, vR 7 9), (1, vI (nI a)), (2, vI (nI b))], [vI (nI 1)], h) _
    refine R_s 1 (cond (if0 .ne (nI 1)) 14 12, [(0, vR 7 9), (1, vI (nI a)), (2, vI (nI b))], [], h) rfl ?_
    refine R_bt rfl ?_
    refine R_s 4 (20, [(0, vR 7 9), (1, vI (nI a)), (2, vI (nI b))], [vI (nI b), vI (nI a), vR 0 0], h) rfl ?_
    refine R_calli mC_costOfChangeover [vR 0 0, vI (nI a), vI (nI b)] [] (nI (btw s (-1) p a b p)) h rfl (t_C_costOfChangeover C F (by omega) (by omega)) ?_
    exact R_ret (some (vI (nI (btw s (-1) p a b p)))) h rfl ⟨by unfold oOver; dsimp only; rw [sel1_t ha (by omega), sel1_t hb (by omega), if_neg hab], I⟩
  · rw [e2]
    show R _ mS_changeoverCost (9, [(0, vR 7 9), (1, vI x), (2, vI y)], [vI (nI 0)], h) _
    refine R_s 1 (cond (if0 .ne (nI 0)) 14 12, [(0, vR 7 9), (1, vI x), (2, vI y)], [], h) rfl ?_
    refine R_bf rfl ?_
    refine R_s 1 (13, [(0, vR 7 9), (1, vI x), (2, vI y)], [vI (-1)], h) rfl ?_
    exact R_ret (some (vI (-1))) h rfl ⟨by unfold oOver; dsimp only; rw [hf], I⟩
set_option maxRecDepth 100000 in
theorem t_S_songAt {d : Nat} {h : HP} {A : AS} {x : Int32} (V : VA A) (I : CI h A) : MT (d + 1) mS_songAt [vR 7 9, vI x] h (fun r h' => r = some (vI (oSongAt A x)) ∧ CI h' A) := by
  obtain ⟨⟨s, n, p, k⟩, kp, ch, len⟩ := A
  have C : CO h 0 s n p k := I.1
  have F : WF s n p k := V.1.1
  have O : WO s n := V.1.2.1.1
  have hn1 : 1 ≤ n := V.1.2.2.1
  have hp1 : 1 ≤ p := V.1.2.2.2.1
  have hk1 : 1 ≤ k := V.1.2.2.2.2
  have h8 : n ≤ 8 := F.2.1.1
  have h5 : p ≤ 5 := F.2.1.2.1
  have h6 : k ≤ 6 := F.2.1.2.2
  refine R_s 3 (5, [(0, vR 7 9), (1, vI x)], [vI x, vR 0 0], h) rfl ?_
  refine R_calli mC_isSong [vR 0 0, vI x] [] (bI (inb x n)) h rfl (t_C_isSong C.1.1 h8) ?_
  refine R_s 1 (cond (if0 .eq (bI (inb x n))) 23 11, [(0, vR 7 9), (1, vI x)], [], h) rfl ?_
  refine R_bp (inb x n = false) (x0_eq.trans bI_eq) (fun ca => ?_) (fun ca => ?_)
  · refine R_s 1 (24, [(0, vR 7 9), (1, vI x)], [vI (-1)], h) rfl ?_
    exact R_ret (some (vI (-1))) h rfl ⟨by unfold oSongAt; dsimp only; rw [sel1_f ca], I⟩
  · obtain ⟨a, ha, rfl⟩ := inb_ex (by omega) (tf ca)
    refine R_s 4 (19, [(0, vR 7 9), (1, vI (nI a))], [vI (nI a), vR 0 8], h) rfl ?_
    refine R_ld 0 8 a 8 rfl rfl (by omega) (by decide) ?_
    refine R_top (s (18 + a)) (C.2.2.2.2.2.2 a (by omega)).2 ?_
    refine R_s 1 (24, [(0, vR 7 9), (1, vI (nI a))], [vI (s (18 + a))], h) rfl ?_
    exact R_ret (some (vI (s (18 + a)))) h rfl ⟨by unfold oSongAt; dsimp only; rw [sel1_t ha (by omega)], I⟩
theorem stq_ok {s : Nat → Int32} {n p k j a b : Nat} (ea : s (18 + j) = nI a) (eb : s (18 + (j + 1)) = nI b) (ha : a < 8) (hb : b < 8) : stq (s, n, p, k) j = btw s (-1) p a b p := by
  unfold stq
  dsimp only
  rw [ea, eb, nI_cl (by omega), nI_cl (by omega)]
theorem stq_le {s : Nat → Int32} {n p k j : Nat} (F : WF s n p k) (O : WO s n) (hj : j + 1 < n) : stq (s, n, p, k) j ≤ 35 := by
  obtain ⟨a, ha, ea⟩ := O.2.1 j (by omega)
  obtain ⟨b, hb, eb⟩ := O.2.1 (j + 1) hj
  have h8 := F.2.1.1
  have h5 := F.2.1.2.1
  rw [stq_ok ea eb (by omega) (by omega)]
  have := btw_le (m := -1) F (show a < 8 by omega) (show b < 8 by omega) p h5
  omega
set_option maxRecDepth 100000 in
theorem t_S_orderCost {d : Nat} {h : HP} {A : AS} (V : VA A) (I : CI h A) : MT (d + 5) mS_orderCost [vR 7 9] h (fun r h' => r = some (vI (oOrder A)) ∧ CI h' A) := by
  obtain ⟨⟨s, n, p, k⟩, kp, ch, len⟩ := A
  have C : CO h 0 s n p k := I.1
  have F : WF s n p k := V.1.1
  have O : WO s n := V.1.2.1.1
  have hn1 : 1 ≤ n := V.1.2.2.1
  have hp1 : 1 ≤ p := V.1.2.2.2.1
  have hk1 : 1 ≤ k := V.1.2.2.2.2
  have h8 : n ≤ 8 := F.2.1.1
  have h5 : p ≤ 5 := F.2.1.2.1
  have h6 : k ≤ 6 := F.2.1.2.2
  refine R_s 4 (4, [(2, vI (nI 0)), (1, vI (nI 0)), (0, vR 7 9)], [], h) rfl ?_
  suffices ∀ m j c, j + m = n - 1 → c = ocs (s, n, p, k) j → R (d + 5) mS_orderCost (4, [(2, vI (nI j)), (1, vI (nI c)), (0, vR 7 9)], [], h) (fun r h' => r = some (vI (oOrder ((s, n, p, k), kp, ch, len))) ∧ CI h' ((s, n, p, k), kp, ch, len)) from this (n - 1) 0 0 (by omega) rfl
  intro m
  induction m with
  | zero =>
    intro j c hm hc
    refine R_s 4 (12, [(2, vI (nI j)), (1, vI (nI c)), (0, vR 7 9)], [vI (h 0 0 0), vI (nI j)], h) rfl ?_
    refine R_top (nI n) C.1.1 ?_
    refine R_s 1 (13, [(2, vI (nI j)), (1, vI (nI c)), (0, vR 7 9)], [vI (nI 1), vI (nI n), vI (nI j)], h) rfl ?_
    refine R_sub n 1 rfl hn1 ?_
    refine R_s 1 (cond (if2 .ge (nI j) (nI (n - 1))) 34 17, [(2, vI (nI j)), (1, vI (nI c)), (0, vR 7 9)], [], h) rfl ?_
    refine R_bp ((n - 1) ≤ j) (i2_ge (by omega) (by omega)) (fun c1 => ?_) (fun c1 => ?_)
    · refine R_s 1 (35, [(2, vI (nI j)), (1, vI (nI c)), (0, vR 7 9)], [vI (nI c)], h) rfl ?_
      exact R_ret (some (vI (nI c))) h rfl ⟨by unfold oOrder; dsimp only; rw [hc, show j = n - 1 by omega], I⟩
    · exact absurd hm (by omega)
  | succ m ih =>
    intro j c hm hc
    refine R_s 4 (12, [(2, vI (nI j)), (1, vI (nI c)), (0, vR 7 9)], [vI (h 0 0 0), vI (nI j)], h) rfl ?_
    refine R_top (nI n) C.1.1 ?_
    refine R_s 1 (13, [(2, vI (nI j)), (1, vI (nI c)), (0, vR 7 9)], [vI (nI 1), vI (nI n), vI (nI j)], h) rfl ?_
    refine R_sub n 1 rfl hn1 ?_
    refine R_s 1 (cond (if2 .ge (nI j) (nI (n - 1))) 34 17, [(2, vI (nI j)), (1, vI (nI c)), (0, vR 7 9)], [], h) rfl ?_
    refine R_bp ((n - 1) ≤ j) (i2_ge (by omega) (by omega)) (fun c1 => ?_) (fun c1 => ?_)
    · refine R_s 1 (35, [(2, vI (nI j)), (1, vI (nI c)), (0, vR 7 9)], [vI (nI c)], h) rfl ?_
      exact R_ret (some (vI (nI c))) h rfl ⟨by unfold oOrder; dsimp only; rw [hc, show j = n - 1 by omega], I⟩
    · obtain ⟨a, ha, ea⟩ := O.2.1 j (by omega)
      obtain ⟨b, hb, eb⟩ := O.2.1 (j + 1) (by omega)
      refine R_s 4 (23, [(2, vI (nI j)), (1, vI (nI c)), (0, vR 7 9)], [vI (nI j), vR 0 0, vI (nI c)], h) rfl ?_
      refine R_calli mC_costAfter [vR 0 0, vI (nI j)] [vI (nI c)] (nI (btw s (-1) p a b p)) h rfl (t_C_costAfter C F (by omega) (by omega) (by omega) ea eb) ?_
      refine R_add c (btw s (-1) p a b p) rfl ?_
      refine R_s 2 (31, [(2, vI (nI j + Int32.ofInt 1)), (1, vI (nI (c + (btw s (-1) p a b p)))), (0, vR 7 9)], [], h) rfl ?_
      refine R_lv (lv' := [(2, vI (nI (j + 1))), (1, vI (nI (c + (btw s (-1) p a b p)))), (0, vR 7 9)]) (by rw [show nI j + Int32.ofInt 1 = nI (j + 1) from nI_add _ _]) ?_
      refine R_s 1 (4, [(2, vI (nI (j + 1))), (1, vI (nI (c + (btw s (-1) p a b p)))), (0, vR 7 9)], [], h) rfl ?_
      exact ih (j + 1) _ (by omega) (by rw [hc, ← stq_ok (n := n) (k := k) ea eb (by omega) (by omega)]; rfl)
theorem alw_f {z : ST} {j : Nat} : ∀ {n : Nat}, j < n → zB z (z.1 (18 + j)).toNatClampNeg j = false → alw z n = false := by
  intro n
  induction n with
  | zero => intro h; omega
  | succ n ih =>
    intro h e
    show (alw z n && zB z (z.1 (18 + n)).toNatClampNeg n) = false
    by_cases q : j = n
    · rw [← q, e, Bool.and_false]
    · rw [ih (by omega) e]; rfl
set_option maxRecDepth 100000 in
theorem t_S_isAllowed {d : Nat} {h : HP} {A : AS} (V : VA A) (I : CI h A) : MT (d + 2) mS_isAllowed [vR 7 9] h (fun r h' => r = some (vI (oAllowed A)) ∧ CI h' A) := by
  obtain ⟨⟨s, n, p, k⟩, kp, ch, len⟩ := A
  have C : CO h 0 s n p k := I.1
  have F : WF s n p k := V.1.1
  have O : WO s n := V.1.2.1.1
  have hn1 : 1 ≤ n := V.1.2.2.1
  have hp1 : 1 ≤ p := V.1.2.2.2.1
  have hk1 : 1 ≤ k := V.1.2.2.2.2
  have h8 : n ≤ 8 := F.2.1.1
  have h5 : p ≤ 5 := F.2.1.2.1
  have h6 : k ≤ 6 := F.2.1.2.2
  obtain ⟨he, hen, he8⟩ := en_ok (z := (s, n, p, k)) F
  refine R_s 2 (2, [(1, vI (nI 0)), (0, vR 7 9)], [], h) rfl ?_
  suffices ∀ m j, j + m = n → alw (s, n, p, k) j = true → R (d + 2) mS_isAllowed (2, [(1, vI (nI j)), (0, vR 7 9)], [], h) (fun r h' => r = some (vI (oAllowed ((s, n, p, k), kp, ch, len))) ∧ CI h' ((s, n, p, k), kp, ch, len)) from this n 0 (by omega) rfl
  intro m
  induction m with
  | zero =>
    intro j hm hc
    refine R_s 4 (10, [(1, vI (nI j)), (0, vR 7 9)], [vI (h 0 0 0), vI (nI j)], h) rfl ?_
    refine R_top (nI n) C.1.1 ?_
    refine R_s 1 (cond (if2 .ge (nI j) (nI n)) 41 13, [(1, vI (nI j)), (0, vR 7 9)], [], h) rfl ?_
    refine R_bp (n ≤ j) (i2_ge (by omega) (by omega)) (fun c1 => ?_) (fun c1 => ?_)
    · refine R_s 1 (42, [(1, vI (nI j)), (0, vR 7 9)], [vI (nI 1)], h) rfl ?_
      exact R_ret (some (vI (nI 1))) h rfl ⟨by unfold oAllowed; dsimp only; rw [show alw (s, n, p, k) n = true from (congrArg (alw (s, n, p, k)) (show n = j by omega)).trans hc]; rfl, I⟩
    · exact absurd hm (by omega)
  | succ m ih =>
    intro j hm hc
    refine R_s 4 (10, [(1, vI (nI j)), (0, vR 7 9)], [vI (h 0 0 0), vI (nI j)], h) rfl ?_
    refine R_top (nI n) C.1.1 ?_
    refine R_s 1 (cond (if2 .ge (nI j) (nI n)) 41 13, [(1, vI (nI j)), (0, vR 7 9)], [], h) rfl ?_
    refine R_bp (n ≤ j) (i2_ge (by omega) (by omega)) (fun c1 => ?_) (fun c1 => ?_)
    · refine R_s 1 (42, [(1, vI (nI j)), (0, vR 7 9)], [vI (nI 1)], h) rfl ?_
      exact R_ret (some (vI (nI 1))) h rfl ⟨by unfold oAllowed; dsimp only; rw [show alw (s, n, p, k) n = true from (congrArg (alw (s, n, p, k)) (show n = j by omega)).trans hc]; rfl, I⟩
    · obtain ⟨a, ha, ea⟩ := O.2.1 j (by omega)
      have hz : zB (s, n, p, k) (s (18 + j)).toNatClampNeg j = msb s (en (s, n, p, k)) n a j := by rw [ea, nI_cl (by omega)]; rfl
      refine R_s 6 (25, [(1, vI (nI j)), (0, vR 7 9)], [vI (nI j), vR 0 8, vR 0 0], h) rfl ?_
      refine R_ld 0 8 j 8 rfl rfl (by omega) (by decide) ?_
      refine R_top (nI a) ((C.2.2.2.2.2.2 j (by omega)).2.trans ea) ?_
      refine R_s 1 (27, [(1, vI (nI j)), (0, vR 7 9)], [vI (nI j), vI (nI a), vR 0 0], h) rfl ?_
      refine R_calli mC_mayStandAt [vR 0 0, vI (nI a), vI (nI j)] [] (bI (msb s (en (s, n, p, k)) n a j)) h rfl (t_C_mayStandAt C h8 he hen (by omega) (by omega)) ?_
      refine R_s 1 (cond (if0 .ne (bI (msb s (en (s, n, p, k)) n a j))) 35 33, [(1, vI (nI j)), (0, vR 7 9)], [], h) rfl ?_
      refine R_bp (msb s (en (s, n, p, k)) n a j = true) (x0_ne.trans bI_ne) (fun c2 => ?_) (fun c2 => ?_)
      · refine R_s 1 (38, [(1, vI (nI j + Int32.ofInt 1)), (0, vR 7 9)], [], h) rfl ?_
        refine R_lv (lv' := [(1, vI (nI (j + 1))), (0, vR 7 9)]) (by rw [show nI j + Int32.ofInt 1 = nI (j + 1) from nI_add _ _]) ?_
        refine R_s 1 (2, [(1, vI (nI (j + 1))), (0, vR 7 9)], [], h) rfl ?_
        exact ih (j + 1) (by omega) (by show (_ && _) = true; rw [hc, hz, c2]; rfl)
      · refine R_s 1 (34, [(1, vI (nI j)), (0, vR 7 9)], [vI (nI 0)], h) rfl ?_
        exact R_ret (some (vI (nI 0))) h rfl ⟨by unfold oAllowed; dsimp only; rw [alw_f (j := j) (by omega) (by rw [hz]; simpa using c2)]; rfl, I⟩
theorem m1_le {c : Nat} (h : c < 2147483648) : ¬ nI c ≤ -1 := by
  intro q
  have h1 := Int32.le_iff_toInt_le.mp q
  rw [nI_toInt h] at h1
  have h2 : (-1 : Int32).toInt = -1 := by decide
  omega
def drI (o : Option (Nat × Nat)) : Int32 × Int32 := match o with
  | none => (-4, -1)
  | some q => (nI q.2, nI q.1)
theorem drs_le {s : Nat → Int32} {n p k : Nat} (F : WF s n p k) (O : WO s n) : ∀ j, j + 1 ≤ n → ∀ q, drs (s, n, p, k) j = some q → q.1 ≤ 35 ∧ q.2 ≤ 8 := by
  intro j
  induction j with
  | zero => intro _ q h; cases h
  | succ j ih =>
    intro hj q h
    have h1 := stq_le F O (show j + 1 < n by omega)
    have h8 := F.2.1.1
    unfold drs at h
    cases hd : drs (s, n, p, k) j with
    | none => rw [hd] at h; cases h; exact ⟨h1, by show j ≤ 8; omega⟩
    | some q0 =>
      rw [hd] at h
      dsimp only at h
      split at h
      · cases h; exact ⟨h1, by show j ≤ 8; omega⟩
      · cases h; exact ih (by omega) _ hd
set_option maxRecDepth 100000 in
theorem t_S_dearestChangeover {d : Nat} {h : HP} {A : AS} (V : VA A) (I : CI h A) : MT (d + 5) mS_dearestChangeover [vR 7 9] h (fun r h' => r = some (vI (oDear A)) ∧ CI h' A) := by
  obtain ⟨⟨s, n, p, k⟩, kp, ch, len⟩ := A
  have C : CO h 0 s n p k := I.1
  have F : WF s n p k := V.1.1
  have O : WO s n := V.1.2.1.1
  have hn1 : 1 ≤ n := V.1.2.2.1
  have hp1 : 1 ≤ p := V.1.2.2.2.1
  have hk1 : 1 ≤ k := V.1.2.2.2.2
  have h8 : n ≤ 8 := F.2.1.1
  have h5 : p ≤ 5 := F.2.1.2.1
  have h6 : k ≤ 6 := F.2.1.2.2
  refine R_s 6 (7, [(3, vI (nI 0)), (2, vI (-1)), (1, vI (-4)), (0, vR 7 9)], [], h) rfl ?_
  suffices ∀ m j o, j + m = n - 1 → drs (s, n, p, k) j = o → R (d + 5) mS_dearestChangeover (7, [(3, vI (nI j)), (2, vI (drI o).2), (1, vI (drI o).1), (0, vR 7 9)], [], h) (fun r h' => r = some (vI (oDear ((s, n, p, k), kp, ch, len))) ∧ CI h' ((s, n, p, k), kp, ch, len)) from this (n - 1) 0 none (by omega) rfl
  intro m
  induction m with
  | zero =>
    intro j o hm ho
    refine R_s 4 (15, [(3, vI (nI j)), (2, vI ((drI o).2)), (1, vI ((drI o).1)), (0, vR 7 9)], [vI (h 0 0 0), vI (nI j)], h) rfl ?_
    refine R_top (nI n) C.1.1 ?_
    refine R_s 1 (16, [(3, vI (nI j)), (2, vI ((drI o).2)), (1, vI ((drI o).1)), (0, vR 7 9)], [vI (nI 1), vI (nI n), vI (nI j)], h) rfl ?_
    refine R_sub n 1 rfl hn1 ?_
    refine R_s 1 (cond (if2 .ge (nI j) (nI (n - 1))) 47 20, [(3, vI (nI j)), (2, vI ((drI o).2)), (1, vI ((drI o).1)), (0, vR 7 9)], [], h) rfl ?_
    refine R_bp ((n - 1) ≤ j) (i2_ge (by omega) (by omega)) (fun c1 => ?_) (fun c1 => ?_)
    · refine R_s 1 (48, [(3, vI (nI j)), (2, vI ((drI o).2)), (1, vI ((drI o).1)), (0, vR 7 9)], [vI ((drI o).1)], h) rfl ?_
      exact R_ret (some (vI ((drI o).1))) h rfl ⟨by unfold oDear; dsimp only; rw [← show j = n - 1 by omega, ho]; cases o <;> rfl, I⟩
    · exact absurd hm (by omega)
  | succ m ih =>
    intro j o hm ho
    refine R_s 4 (15, [(3, vI (nI j)), (2, vI ((drI o).2)), (1, vI ((drI o).1)), (0, vR 7 9)], [vI (h 0 0 0), vI (nI j)], h) rfl ?_
    refine R_top (nI n) C.1.1 ?_
    refine R_s 1 (16, [(3, vI (nI j)), (2, vI ((drI o).2)), (1, vI ((drI o).1)), (0, vR 7 9)], [vI (nI 1), vI (nI n), vI (nI j)], h) rfl ?_
    refine R_sub n 1 rfl hn1 ?_
    refine R_s 1 (cond (if2 .ge (nI j) (nI (n - 1))) 47 20, [(3, vI (nI j)), (2, vI ((drI o).2)), (1, vI ((drI o).1)), (0, vR 7 9)], [], h) rfl ?_
    refine R_bp ((n - 1) ≤ j) (i2_ge (by omega) (by omega)) (fun c1 => ?_) (fun c1 => ?_)
    · refine R_s 1 (48, [(3, vI (nI j)), (2, vI ((drI o).2)), (1, vI ((drI o).1)), (0, vR 7 9)], [vI ((drI o).1)], h) rfl ?_
      exact R_ret (some (vI ((drI o).1))) h rfl ⟨by unfold oDear; dsimp only; rw [← show j = n - 1 by omega, ho]; cases o <;> rfl, I⟩
    · obtain ⟨a, ha, ea⟩ := O.2.1 j (by omega)
      obtain ⟨b, hb, eb⟩ := O.2.1 (j + 1) (by omega)
      have hst := stq_ok (n := n) (p := p) (k := k) ea eb (show a < 8 by omega) (show b < 8 by omega)
      have hsl := stq_le F O (show j + 1 < n by omega)
      refine R_s 3 (25, [(3, vI (nI j)), (2, vI ((drI o).2)), (1, vI ((drI o).1)), (0, vR 7 9)], [vI (nI j), vR 0 0], h) rfl ?_
      refine R_calli mC_costAfter [vR 0 0, vI (nI j)] [] (nI (btw s (-1) p a b p)) h rfl (t_C_costAfter C F (by omega) (by omega) (by omega) ea eb) ?_
      refine R_top (nI (stq (s, n, p, k) j)) (by rw [hst]) ?_
      cases o with
      | none =>
        show R _ mS_dearestChangeover (28, [(3, vI (nI j)), (2, vI (-1)), (1, vI (-4)), (0, vR 7 9)], [vI (nI (stq (s, n, p, k) j))], h) _
        refine R_s 4 (cond (if2 .le (nI (stq (s, n, p, k) j)) (-1)) 41 36, [(4, vI (nI (stq (s, n, p, k) j))), (3, vI (nI j)), (2, vI (-1)), (1, vI (-4)), (0, vR 7 9)], [], h) rfl ?_
        refine R_bf (by unfold if2; exact decide_eq_false (fun q => m1_le (by omega) q)) ?_
        refine R_s 5 (44, [(3, vI (nI j + Int32.ofInt 1)), (1, vI (nI j)), (2, vI (nI (stq (s, n, p, k) j))), (4, vI (nI (stq (s, n, p, k) j))), (0, vR 7 9)], [], h) rfl ?_
        refine R_lv (lv' := [(3, vI (nI (j + 1))), (1, vI (nI j)), (2, vI (nI (stq (s, n, p, k) j))), (4, vI (nI (stq (s, n, p, k) j))), (0, vR 7 9)]) (by rw [show nI j + Int32.ofInt 1 = nI (j + 1) from nI_add _ _]) ?_
        refine R_s 1 (7, [(3, vI (nI (j + 1))), (1, vI (nI j)), (2, vI (nI (stq (s, n, p, k) j))), (4, vI (nI (stq (s, n, p, k) j))), (0, vR 7 9)], [], h) rfl ?_
        refine R_fg (lv' := [(3, vI (nI (j + 1))), (2, vI (nI (stq (s, n, p, k) j))), (1, vI (nI j)), (0, vR 7 9)]) [0, 2, 1, 4] rfl [3, 1, 2, 4, 0] rfl (by decide) ?_
        exact ih (j + 1) (some (stq (s, n, p, k) j, j)) (by omega) (by rw [drs, ho])
      | some q =>
        have hq := drs_le F O j (by omega) q ho
        show R _ mS_dearestChangeover (28, [(3, vI (nI j)), (2, vI (nI (q.1))), (1, vI (nI (q.2))), (0, vR 7 9)], [vI (nI (stq (s, n, p, k) j))], h) _
        refine R_s 4 (cond (if2 .le (nI (stq (s, n, p, k) j)) (nI (q.1))) 41 36, [(4, vI (nI (stq (s, n, p, k) j))), (3, vI (nI j)), (2, vI (nI (q.1))), (1, vI (nI (q.2))), (0, vR 7 9)], [], h) rfl ?_
        refine R_bp ((stq (s, n, p, k) j) ≤ (q.1)) (i2_le (by omega) (by omega)) (fun c2 => ?_) (fun c2 => ?_)
        · refine R_s 1 (44, [(3, vI (nI j + Int32.ofInt 1)), (4, vI (nI (stq (s, n, p, k) j))), (2, vI (nI (q.1))), (1, vI (nI (q.2))), (0, vR 7 9)], [], h) rfl ?_
          refine R_lv (lv' := [(3, vI (nI (j + 1))), (4, vI (nI (stq (s, n, p, k) j))), (2, vI (nI (q.1))), (1, vI (nI (q.2))), (0, vR 7 9)]) (by rw [show nI j + Int32.ofInt 1 = nI (j + 1) from nI_add _ _]) ?_
          refine R_s 1 (7, [(3, vI (nI (j + 1))), (4, vI (nI (stq (s, n, p, k) j))), (2, vI (nI (q.1))), (1, vI (nI (q.2))), (0, vR 7 9)], [], h) rfl ?_
          refine R_fg (lv' := [(3, vI (nI (j + 1))), (2, vI (nI (q.1))), (1, vI (nI (q.2))), (0, vR 7 9)]) [0, 2, 3, 4] rfl [3, 4, 2, 1, 0] rfl (by decide) ?_
          exact ih (j + 1) (some q) (by omega) (by rw [drs, ho]; dsimp only; rw [if_neg (by omega)])
        · refine R_s 5 (44, [(3, vI (nI j + Int32.ofInt 1)), (1, vI (nI j)), (2, vI (nI (stq (s, n, p, k) j))), (4, vI (nI (stq (s, n, p, k) j))), (0, vR 7 9)], [], h) rfl ?_
          refine R_lv (lv' := [(3, vI (nI (j + 1))), (1, vI (nI j)), (2, vI (nI (stq (s, n, p, k) j))), (4, vI (nI (stq (s, n, p, k) j))), (0, vR 7 9)]) (by rw [show nI j + Int32.ofInt 1 = nI (j + 1) from nI_add _ _]) ?_
          refine R_s 1 (7, [(3, vI (nI (j + 1))), (1, vI (nI j)), (2, vI (nI (stq (s, n, p, k) j))), (4, vI (nI (stq (s, n, p, k) j))), (0, vR 7 9)], [], h) rfl ?_
          refine R_fg (lv' := [(3, vI (nI (j + 1))), (2, vI (nI (stq (s, n, p, k) j))), (1, vI (nI j)), (0, vR 7 9)]) [0, 2, 1, 4] rfl [3, 1, 2, 4, 0] rfl (by decide) ?_
          exact ih (j + 1) (some (stq (s, n, p, k) j, j)) (by omega) (by rw [drs, ho]; dsimp only; rw [if_pos (by omega)])
end
section
theorem mod5a : ∀ i, i < 5 → ((i + 1) % 5 + 4 - 0) % 5 = i := by decide
theorem mod5b : ∀ i, i < 5 → ∀ j, j < 4 → ((i + 1) % 5 + 4 - (j + 1)) % 5 = (i + 4 - j) % 5 ∧ ¬ (i + 4 - j) % 5 = i := by decide
theorem CO.mv' {h h' : HP} {g n p k : Nat} {s : Nat → Int32} (C : CO h g s n p k) (e : ∀ j, h' g j = h g j) : CO h' g s n p k := co_frame C e
set_option maxRecDepth 100000 in
theorem t_S_beginEdit {d : Nat} {h : HP} {A : AS} (V : VA A) (I : CI h A) : MT (d + 3) mS_beginEdit [vR 7 9] h (fun r h' => r = none ∧ CI h' (ed A A.1) ∧ h' 7 9 5 = nI 0 ∧ ∀ j, h' 0 j = h 0 j) := by
  obtain ⟨⟨s, n, p, k⟩, kp, ch, len⟩ := A
  have C : CO h 0 s n p k := I.1
  have F : WF s n p k := V.1.1
  have O : WO s n := V.1.2.1.1
  have hn1 : 1 ≤ n := V.1.2.2.1
  have hp1 : 1 ≤ p := V.1.2.2.2.1
  have hk1 : 1 ≤ k := V.1.2.2.2.2
  have h8 : n ≤ 8 := F.2.1.1
  have h5 : p ≤ 5 := F.2.1.2.1
  have h6 : k ≤ 6 := F.2.1.2.2
  obtain ⟨-, ⟨i, i1, i2, i3, i4⟩, T, -⟩ := id I
  have hkl : kp.length ≤ 5 := V.2.2
  refine R_s 4 (8, [(0, vR 7 9)], [vR 0 0, vR 7 13], h) rfl ?_
  refine R_call mH_keep [vR 7 13, vR 0 0] [] rfl (t_H_keep i2 i1 i3 hkl C h8 h5 h6) (fun r h1 e1 => ?_)
  obtain ⟨rfl, C1, F1, g1, g2⟩ := e1
  show R _ mS_beginEdit (11, [(0, vR 7 9)], [], h1) _
  refine R_s 3 (16, [(0, vR 7 9)], [], (hset h1 7 9 5 (nI 0))) rfl ?_
  refine R_hp (fun h2 eh2 => ?_)
  have e2 : ∀ g' j', ¬ (g' = 7 ∧ j' = 9) → h2 g' j' = h1 g' j' := fun g' j' q => by rw [eh2, hs_ne q]
  have h0 : ∀ j, h2 0 j = h 0 j := fun j => by rw [e2 0 j (by omega)]; exact F1 0 j (by omega) (by omega)
  refine R_ret none h2 rfl ⟨rfl, ⟨C.mv' h0, ⟨(i + 1) % 5, Nat.mod_lt _ (by decide), by rw [e2 7 13 (by omega)]; exact g1, by rw [e2 7 13 (by omega), g2]; show _ = nI (((s, n, p, k) :: kp).take 5).length; rw [take5_len hkl], fun j z hj => ?_⟩, ⟨by rw [e2 7 10 (by omega), F1 7 10 (by omega) (by omega)]; exact T.1, T.2.1, fun j hj => by rw [e2 7 11 (by omega), F1 7 11 (by omega) (by omega)]; exact T.2.2 j hj⟩, Or.inl (by rw [eh2, hs_same, up_same])⟩, by rw [eh2, hs_same, up_same], h0⟩
  obtain ⟨hj5, ⟨rfl, rfl⟩ | ⟨j', rfl, hj'⟩⟩ := take5 hj
  · rw [mod5a i i1]; exact co_frame C1 (fun c => e2 _ c (by omega))
  · obtain ⟨m1, m2⟩ := mod5b i i1 j' (by omega)
    rw [m1]
    exact (i4 j' z hj').mv (fun c => by rw [e2 _ c (by omega)]; exact F1 _ c (by omega) (by omega))
theorem CI.tab {h h' : HP} {A : AS} (I : CI h A) (e : ∀ g' j', ¬ (g' = 7 ∧ j' = 9) → ¬ (g' = 7 ∧ 15 ≤ j' ∧ j' ≤ 19) → h' g' j' = h g' j') (f : h' 7 9 5 = nI 1) (T : TF h' A.1.2.1 (zW A.1) (zB A.1)) : CI h' A := by
  obtain ⟨C, ⟨i, i1, i2, i3, i4⟩, X, -⟩ := I
  exact ⟨C.mv (fun j => e 0 j (by omega) (by omega)), ⟨i, i1, by rw [e 7 13 (by omega) (by omega)]; exact i2, by rw [e 7 13 (by omega) (by omega)]; exact i3, fun j z hj => (i4 j z hj).mv (fun c => e _ c (by omega) (by omega))⟩, ⟨by rw [e 7 10 (by omega) (by omega)]; exact X.1, X.2.1, fun j hj => by rw [e 7 11 (by omega) (by omega)]; exact X.2.2 j hj⟩, Or.inr ⟨f, T⟩⟩
set_option maxRecDepth 100000 in
theorem t_S_presentTable {d : Nat} {h : HP} {A : AS} (V : VA A) (I : CI h A) : MT (d + 5) mS_presentTable [vR 7 9] h (fun r h' => r = some (vR 7 15) ∧ CI h' A ∧ TF h' A.1.2.1 (zW A.1) (zB A.1)) := by
  obtain ⟨⟨s, n, p, k⟩, kp, ch, len⟩ := A
  have C : CO h 0 s n p k := I.1
  have F : WF s n p k := V.1.1
  have O : WO s n := V.1.2.1.1
  have hn1 : 1 ≤ n := V.1.2.2.1
  have hp1 : 1 ≤ p := V.1.2.2.2.1
  have hk1 : 1 ≤ k := V.1.2.2.2.2
  have h8 : n ≤ 8 := F.2.1.1
  have h5 : p ≤ 5 := F.2.1.2.1
  have h6 : k ≤ 6 := F.2.1.2.2
  obtain ⟨he, hen, he8⟩ := en_ok (z := (s, n, p, k)) F
  rcases I.2.2.2 with f0 | ⟨f1, T1⟩
  · refine R_s 2 (4, [(0, vR 7 9)], [vI (h 7 9 5)], h) rfl ?_
    refine R_top (nI 0) f0 ?_
    refine R_s 1 (cond (if0 .ne (nI 0)) 30 7, [(0, vR 7 9)], [], h) rfl ?_
    refine R_bf rfl ?_
    refine R_s 4 (15, [(0, vR 7 9)], [vR 0 0, vR 7 15], h) rfl ?_
    refine R_call mO_load [vR 7 15, vR 0 0] [] rfl (t_O_load (show ¬ 0 = 7 by omega) C F he hen) (fun r h1 e1 => ?_)
    obtain ⟨rfl, T1, F1⟩ := e1
    show R _ mS_presentTable (18, [(0, vR 7 9)], [], h1) _
    refine R_s 2 (22, [(0, vR 7 9)], [vR 7 15], h1) rfl ?_
    refine R_call mO_solve [vR 7 15] [] rfl (t_O_solve T1 (Wc_le F) hn1 h8) (fun r h2 e2 => ?_)
    obtain ⟨rfl, T2, F2⟩ := e2
    show R _ mS_presentTable (25, [(0, vR 7 9)], [], h2) _
    refine R_s 3 (30, [(0, vR 7 9)], [], (hset h2 7 9 5 (nI 1))) rfl ?_
    refine R_hp (fun h3 eh3 => ?_)
    refine R_s 2 (34, [(0, vR 7 9)], [vR 7 15], h3) rfl ?_
    have e3 : ∀ g' j', ¬ (g' = 7 ∧ j' = 9) → ¬ (g' = 7 ∧ 15 ≤ j' ∧ j' ≤ 19) → h3 g' j' = h g' j' := fun g' j' q1 q2 => by rw [eh3, hs_ne q1, F2 g' j' (by omega), F1 g' j' (by omega)]
    have T3 : TF h3 n (zW (s, n, p, k)) (zB (s, n, p, k)) := T2.mv (fun j a b => by rw [eh3, hs_ne (by omega)])
    have h95 : h3 7 9 5 = nI 1 := by rw [eh3, hs_same, up_same]
    exact R_ret (some (vR 7 15)) h3 rfl ⟨rfl, I.tab e3 h95 T3, T3⟩
  · refine R_s 2 (4, [(0, vR 7 9)], [vI (h 7 9 5)], h) rfl ?_
    refine R_top (nI 1) f1 ?_
    refine R_s 1 (cond (if0 .ne (nI 1)) 30 7, [(0, vR 7 9)], [], h) rfl ?_
    refine R_bt rfl ?_
    refine R_s 2 (34, [(0, vR 7 9)], [vR 7 15], h) rfl ?_
    exact R_ret (some (vR 7 15)) h rfl ⟨rfl, I, T1⟩
theorem enc_m1 {o : Option Nat} (h : ∀ c, o = some c → c ≤ 400) : if2 .ne (enc o) (-1) = true ↔ ¬ o = none := by
  rw [x2_ne]
  cases o with
  | none => exact ⟨fun q => absurd rfl q, fun q => absurd rfl q⟩
  | some c => exact ⟨fun _ q => by (cases q), fun _ => nI_ne_m1 (by have := h c rfl; omega)⟩
theorem nf_enc {o : Option Nat} (h : ¬ o = none) : nf o = enc o := by cases o with
  | none => exact absurd rfl h
  | some c => rfl
theorem nf_none {o : Option Nat} (h : o = none) : nf o = -4 := by rw [h]; rfl
set_option maxRecDepth 100000 in
theorem t_S_bestCost {d : Nat} {h : HP} {A : AS} (V : VA A) (I : CI h A) : MT (d + 6) mS_bestCost [vR 7 9] h (fun r h' => r = some (vI (oBest A)) ∧ CI h' A) := by
  obtain ⟨⟨s, n, p, k⟩, kp, ch, len⟩ := A
  have C : CO h 0 s n p k := I.1
  have F : WF s n p k := V.1.1
  have O : WO s n := V.1.2.1.1
  have hn1 : 1 ≤ n := V.1.2.2.1
  have hp1 : 1 ≤ p := V.1.2.2.2.1
  have hk1 : 1 ≤ k := V.1.2.2.2.2
  have h8 : n ≤ 8 := F.2.1.1
  have h5 : p ≤ 5 := F.2.1.2.1
  have h6 : k ≤ 6 := F.2.1.2.2
  refine R_s 1 (1, [(0, vR 7 9)], [vR 7 9], h) rfl ?_
  refine R_call mS_presentTable [vR 7 9] [] rfl (t_S_presentTable V I) (fun r h1 e1 => ?_)
  obtain ⟨rfl, I1, T1⟩ := e1
  show R _ mS_bestCost (4, [(0, vR 7 9)], [vR 7 15], h1) _
  refine R_calli mO_leastCost [vR 7 15] [] (enc (zG (s, n, p, k)).1) h1 rfl (t_O_leastCost T1) ?_
  refine R_s 4 (cond (if2 .ne (enc (zG (s, n, p, k)).1) (-1)) 18 13, [(1, vI (enc (zG (s, n, p, k)).1)), (0, vR 7 9)], [], h1) rfl ?_
  refine R_bp (¬ (zG (s, n, p, k)).1 = none) (enc_m1 (fun c q => Nat.le_trans (GT_le h8 (Wc_le F) q) (by decide))) (fun c1 => ?_) (fun c1 => ?_)
  · refine R_s 1 (19, [(1, vI (enc (zG (s, n, p, k)).1)), (0, vR 7 9)], [vI (enc (zG (s, n, p, k)).1)], h1) rfl ?_
    exact R_ret (some (vI (enc (zG (s, n, p, k)).1))) h1 rfl ⟨by unfold oBest; dsimp only; rw [nf_enc c1], I1⟩
  · have c1 := Classical.not_not.mp c1
    refine R_s 2 (19, [(1, vI (enc (zG (s, n, p, k)).1)), (0, vR 7 9)], [vI (-4)], h1) rfl ?_
    exact R_ret (some (vI (-4))) h1 rfl ⟨by unfold oBest; dsimp only; rw [nf_none c1], I1⟩
set_option maxRecDepth 100000 in
theorem t_S_bestOrderCount {d : Nat} {h : HP} {A : AS} (V : VA A) (I : CI h A) : MT (d + 6) mS_bestOrderCount [vR 7 9] h (fun r h' => r = some (vI (oBestN A)) ∧ CI h' A) := by
  obtain ⟨⟨s, n, p, k⟩, kp, ch, len⟩ := A
  have C : CO h 0 s n p k := I.1
  have F : WF s n p k := V.1.1
  have O : WO s n := V.1.2.1.1
  have hn1 : 1 ≤ n := V.1.2.2.1
  have hp1 : 1 ≤ p := V.1.2.2.2.1
  have hk1 : 1 ≤ k := V.1.2.2.2.2
  have h8 : n ≤ 8 := F.2.1.1
  have h5 : p ≤ 5 := F.2.1.2.1
  have h6 : k ≤ 6 := F.2.1.2.2
  refine R_s 1 (1, [(0, vR 7 9)], [vR 7 9], h) rfl ?_
  refine R_call mS_presentTable [vR 7 9] [] rfl (t_S_presentTable V I) (fun r h1 e1 => ?_)
  obtain ⟨rfl, I1, T1⟩ := e1
  show R _ mS_bestOrderCount (4, [(0, vR 7 9)], [vR 7 15], h1) _
  refine R_calli mO_leastCostOrders [vR 7 15] [] (nI ((zG (s, n, p, k)).2)) h1 rfl (t_O_leastCostOrders T1) ?_
  exact R_ret (some (vI (nI ((zG (s, n, p, k)).2)))) h1 rfl ⟨rfl, I1⟩
theorem zS_lt {s : Nat → Int32} {n p k j c : Nat} (h8 : n ≤ 8) (hj : j < n) (h : zS (s, n, p, k) j = some c) : c ≤ 8 := by
  unfold zS bsg at h
  cases hb : bch (s, n, p, k).2.1 (zW (s, n, p, k)) (mCl (zB (s, n, p, k))) (j + 1) with
  | none => rw [hb] at h; cases h
  | some q =>
    rw [hb] at h
    have e : q.2 = c := Option.some.inj h
    obtain ⟨-, b2, b3⟩ := bch_ok (n := n) h8 mCl_bit (j + 1) hj q hb
    rcases b3 with ⟨z1, z2⟩ | ⟨z1, z2⟩ <;> omega
set_option maxRecDepth 100000 in
theorem t_S_bestSongAt {d : Nat} {h : HP} {A : AS} {x : Int32} (V : VA A) (I : CI h A) : MT (d + 6) mS_bestSongAt [vR 7 9, vI x] h (fun r h' => r = some (vI (oBestAt A x)) ∧ CI h' A) := by
  obtain ⟨⟨s, n, p, k⟩, kp, ch, len⟩ := A
  have C : CO h 0 s n p k := I.1
  have F : WF s n p k := V.1.1
  have O : WO s n := V.1.2.1.1
  have hn1 : 1 ≤ n := V.1.2.2.1
  have hp1 : 1 ≤ p := V.1.2.2.2.1
  have hk1 : 1 ≤ k := V.1.2.2.2.2
  have h8 : n ≤ 8 := F.2.1.1
  have h5 : p ≤ 5 := F.2.1.2.1
  have h6 : k ≤ 6 := F.2.1.2.2
  refine R_s 3 (5, [(0, vR 7 9), (1, vI x)], [vI x, vR 0 0], h) rfl ?_
  refine R_calli mC_isSong [vR 0 0, vI x] [] (bI (inb x n)) h rfl (t_C_isSong C.1.1 h8) ?_
  refine R_s 1 (cond (if0 .ne (bI (inb x n))) 13 11, [(0, vR 7 9), (1, vI x)], [], h) rfl ?_
  refine R_bp (inb x n = true) (x0_ne.trans bI_ne) (fun ca => ?_) (fun ca => ?_)
  · obtain ⟨a, ha, rfl⟩ := inb_ex (by omega) ca
    refine R_s 1 (14, [(0, vR 7 9), (1, vI (nI a))], [vR 7 9], h) rfl ?_
    refine R_call mS_presentTable [vR 7 9] [] rfl (t_S_presentTable V I) (fun r h1 e1 => ?_)
    obtain ⟨rfl, I1, T1⟩ := e1
    show R _ mS_bestSongAt (17, [(0, vR 7 9), (1, vI (nI a))], [vR 7 15], h1) _
    refine R_s 1 (18, [(0, vR 7 9), (1, vI (nI a))], [vI (nI a), vR 7 15], h1) rfl ?_
    refine R_calli mO_bestSong [vR 7 15, vI (nI a)] [] (enc (zS (s, n, p, k) a)) h1 rfl (t_O_bestSong T1 (Wc_le F) h8 ha) ?_
    refine R_s 4 (cond (if2 .ne (enc (zS (s, n, p, k) a)) (-1)) 32 27, [(2, vI (enc (zS (s, n, p, k) a))), (0, vR 7 9), (1, vI (nI a))], [], h1) rfl ?_
    refine R_bp (¬ zS (s, n, p, k) a = none) (enc_m1 (fun c q => Nat.le_trans (zS_lt h8 ha q) (by decide))) (fun c1 => ?_) (fun c1 => ?_)
    · refine R_s 1 (33, [(2, vI (enc (zS (s, n, p, k) a))), (0, vR 7 9), (1, vI (nI a))], [vI (enc (zS (s, n, p, k) a))], h1) rfl ?_
      exact R_ret (some (vI (enc (zS (s, n, p, k) a)))) h1 rfl ⟨by unfold oBestAt; dsimp only; rw [sel1_t ha (by omega), nf_enc c1], I1⟩
    · have c1 := Classical.not_not.mp c1
      refine R_s 2 (33, [(2, vI (enc (zS (s, n, p, k) a))), (0, vR 7 9), (1, vI (nI a))], [vI (-4)], h1) rfl ?_
      exact R_ret (some (vI (-4))) h1 rfl ⟨by unfold oBestAt; dsimp only; rw [sel1_t ha (by omega), nf_none c1], I1⟩
  · have ca : inb x n = false := by cases q9 : inb x n with
      | false => rfl
      | true => exact absurd q9 ca
    refine R_s 1 (12, [(0, vR 7 9), (1, vI x)], [vI (-1)], h) rfl ?_
    exact R_ret (some (vI (-1))) h rfl ⟨by unfold oBestAt; dsimp only; rw [sel1_f ca], I⟩
set_option maxRecDepth 100000 in
theorem t_S_bestCostFrom {d : Nat} {h : HP} {A : AS} {x : Int32} (V : VA A) (I : CI h A) : MT (d + 6) mS_bestCostFrom [vR 7 9, vI x] h (fun r h' => r = some (vI (oBestFrom A x)) ∧ CI h' A) := by
  obtain ⟨⟨s, n, p, k⟩, kp, ch, len⟩ := A
  have C : CO h 0 s n p k := I.1
  have F : WF s n p k := V.1.1
  have O : WO s n := V.1.2.1.1
  have hn1 : 1 ≤ n := V.1.2.2.1
  have hp1 : 1 ≤ p := V.1.2.2.2.1
  have hk1 : 1 ≤ k := V.1.2.2.2.2
  have h8 : n ≤ 8 := F.2.1.1
  have h5 : p ≤ 5 := F.2.1.2.1
  have h6 : k ≤ 6 := F.2.1.2.2
  refine R_s 3 (5, [(0, vR 7 9), (1, vI x)], [vI x, vR 0 0], h) rfl ?_
  refine R_calli mC_isSong [vR 0 0, vI x] [] (bI (inb x n)) h rfl (t_C_isSong C.1.1 h8) ?_
  refine R_s 1 (cond (if0 .ne (bI (inb x n))) 13 11, [(0, vR 7 9), (1, vI x)], [], h) rfl ?_
  refine R_bp (inb x n = true) (x0_ne.trans bI_ne) (fun ca => ?_) (fun ca => ?_)
  · obtain ⟨a, ha, rfl⟩ := inb_ex (by omega) ca
    refine R_s 1 (14, [(0, vR 7 9), (1, vI (nI a))], [vR 7 9], h) rfl ?_
    refine R_call mS_presentTable [vR 7 9] [] rfl (t_S_presentTable V I) (fun r h1 e1 => ?_)
    obtain ⟨rfl, I1, T1⟩ := e1
    show R _ mS_bestCostFrom (17, [(0, vR 7 9), (1, vI (nI a))], [vR 7 15], h1) _
    refine R_s 1 (18, [(0, vR 7 9), (1, vI (nI a))], [vI (nI a), vR 7 15], h1) rfl ?_
    refine R_calli mO_leastCostFrom [vR 7 15, vI (nI a)] [] (enc (cand (zW (s, n, p, k)) (mCl (zB (s, n, p, k))) (GT n (zW (s, n, p, k)) (mCl (zB (s, n, p, k)))) 0 0 a).1) h1 rfl (t_O_leastCostFrom T1 (Wc_le F) h8 ha) ?_
    refine R_s 4 (cond (if2 .ne (enc (cand (zW (s, n, p, k)) (mCl (zB (s, n, p, k))) (GT n (zW (s, n, p, k)) (mCl (zB (s, n, p, k)))) 0 0 a).1) (-1)) 32 27, [(2, vI (enc (cand (zW (s, n, p, k)) (mCl (zB (s, n, p, k))) (GT n (zW (s, n, p, k)) (mCl (zB (s, n, p, k)))) 0 0 a).1)), (0, vR 7 9), (1, vI (nI a))], [], h1) rfl ?_
    refine R_bp (¬ (cand (zW (s, n, p, k)) (mCl (zB (s, n, p, k))) (GT n (zW (s, n, p, k)) (mCl (zB (s, n, p, k)))) 0 0 a).1 = none) (enc_m1 (fun c q => Nat.le_trans (cand_le (Wc_le F) h8 q) (by decide))) (fun c1 => ?_) (fun c1 => ?_)
    · refine R_s 1 (33, [(2, vI (enc (cand (zW (s, n, p, k)) (mCl (zB (s, n, p, k))) (GT n (zW (s, n, p, k)) (mCl (zB (s, n, p, k)))) 0 0 a).1)), (0, vR 7 9), (1, vI (nI a))], [vI (enc (cand (zW (s, n, p, k)) (mCl (zB (s, n, p, k))) (GT n (zW (s, n, p, k)) (mCl (zB (s, n, p, k)))) 0 0 a).1)], h1) rfl ?_
      exact R_ret (some (vI (enc (cand (zW (s, n, p, k)) (mCl (zB (s, n, p, k))) (GT n (zW (s, n, p, k)) (mCl (zB (s, n, p, k)))) 0 0 a).1))) h1 rfl ⟨by unfold oBestFrom; dsimp only; rw [sel1_t ha (by omega), nf_enc c1], I1⟩
    · have c1 := Classical.not_not.mp c1
      refine R_s 2 (33, [(2, vI (enc (cand (zW (s, n, p, k)) (mCl (zB (s, n, p, k))) (GT n (zW (s, n, p, k)) (mCl (zB (s, n, p, k)))) 0 0 a).1)), (0, vR 7 9), (1, vI (nI a))], [vI (-4)], h1) rfl ?_
      exact R_ret (some (vI (-4))) h1 rfl ⟨by unfold oBestFrom; dsimp only; rw [sel1_t ha (by omega), nf_none c1], I1⟩
  · have ca : inb x n = false := by cases q9 : inb x n with
      | false => rfl
      | true => exact absurd q9 ca
    refine R_s 1 (12, [(0, vR 7 9), (1, vI x)], [vI (-1)], h) rfl ?_
    exact R_ret (some (vI (-1))) h rfl ⟨by unfold oBestFrom; dsimp only; rw [sel1_f ca], I⟩
end
section
theorem CI.txt {h h' : HP} {A : AS} {ch : Nat → Nat} {len : Nat} (I : CI h A) (T : TXT h' ch len) (e : ∀ g' j', ¬ g' = 1 → ¬ (g' = 7 ∧ 10 ≤ j' ∧ j' ≤ 12) → h' g' j' = h g' j') : CI h' (A.1, A.2.1, ch, len) := by
  obtain ⟨C, ⟨i, i1, i2, i3, i4⟩, X, f⟩ := I
  refine ⟨C.mv (fun j => e 0 j (by omega) (by omega)), ⟨i, i1, by rw [e 7 13 (by omega) (by omega)]; exact i2, by rw [e 7 13 (by omega) (by omega)]; exact i3, fun j z hj => (i4 j z hj).mv (fun c => e _ c (by omega) (by omega))⟩, T, ?_⟩
  rcases f with f | ⟨f, t⟩
  · exact Or.inl (by rw [e 7 9 (by omega) (by omega)]; exact f)
  · exact Or.inr ⟨by rw [e 7 9 (by omega) (by omega)]; exact f, t.mv (fun j a b => e 7 j (by omega) (by omega))⟩
theorem chr_n : ∀ c, c < 127 → ((nI c).toUInt32 % 65536).toInt32 = nI c ∧ vp_nar .char (nI c) = nI c := by decide +kernel
theorem inb_of {x : Int32} {a n m : Nat} (hm : m + 1 = n) (hn : n < 2147483648) (h1 : ¬ x < nI a) (h2 : x ≤ nI m) (ha : a < 2147483648) : inb x n = true := by
  have e1 : ¬ x < 0 := by
    intro q
    apply h1
    have := Int32.lt_iff_toInt_lt.mp q
    apply Int32.lt_iff_toInt_lt.mpr
    rw [nI_toInt ha]
    have h0 : (0 : Int32).toInt = 0 := by decide
    omega
  refine inb_mid hn e1 (fun q => ?_)
  have a1 := Int32.le_iff_toInt_le.mp q
  have a2 := Int32.le_iff_toInt_le.mp h2
  rw [nI_toInt hn] at a1
  rw [nI_toInt (by omega)] at a2
  omega
set_option maxRecDepth 100000 in
theorem t_S_append {d : Nat} {h : HP} {A : AS} {x : Int32} (V : VA A) (I : CI h A) : MT (d + 1) mS_append [vR 7 9, vI x] h (fun r h' => r = some (vI (oAppend A x).1) ∧ CI h' (oAppend A x).2) := by
  obtain ⟨⟨s, n, p, k⟩, kp, ch, len⟩ := A
  have C : CO h 0 s n p k := I.1
  have F : WF s n p k := V.1.1
  have O : WO s n := V.1.2.1.1
  have hn1 : 1 ≤ n := V.1.2.2.1
  have hp1 : 1 ≤ p := V.1.2.2.2.1
  have hk1 : 1 ≤ k := V.1.2.2.2.2
  have h8 : n ≤ 8 := F.2.1.1
  have h5 : p ≤ 5 := F.2.1.2.1
  have h6 : k ≤ 6 := F.2.1.2.2
  have T := I.2.2.1
  have hlen : len ≤ 300 := T.2.1
  cases hx : inb x 127 with
  | false =>
    rw [show oAppend ((s, n, p, k), kp, ch, len) x = (-1, ((s, n, p, k), kp, ch, len)) from sel1_f hx]
    refine R_s 3 (cond (if2 .lt x (nI 32)) 12 6, [(0, vR 7 9), (1, vI x)], [], h) rfl ?_
    refine R_bp (x < (nI 32)) x2_lt (fun c1 => ?_) (fun c1 => ?_)
    · refine R_s 1 (13, [(0, vR 7 9), (1, vI x)], [vI (-1)], h) rfl ?_
      exact R_ret (some (vI (-1))) h rfl ⟨rfl, I⟩
    · refine R_s 3 (cond (if2 .le x (nI 126)) 14 12, [(0, vR 7 9), (1, vI x)], [], h) rfl ?_
      refine R_bp (x ≤ (nI 126)) x2_le (fun c2 => ?_) (fun c2 => ?_)
      · rw [inb_of (a := 32) (m := 126) rfl (by decide) c1 c2 (by decide)] at hx
        cases hx
      · refine R_s 1 (13, [(0, vR 7 9), (1, vI x)], [vI (-1)], h) rfl ?_
        exact R_ret (some (vI (-1))) h rfl ⟨rfl, I⟩
  | true =>
    obtain ⟨c, hc, rfl⟩ := inb_ex (by decide) hx
    rw [show oAppend ((s, n, p, k), kp, ch, len) (nI c) = _ from sel1_t hc (by decide)]
    dsimp only
    refine R_s 3 (cond (if2 .lt (nI c) (nI 32)) 12 6, [(0, vR 7 9), (1, vI (nI c))], [], h) rfl ?_
    refine R_bp (c < 32) (i2_lt (by omega) (by omega)) (fun c1 => ?_) (fun c1 => ?_)
    · refine R_s 1 (13, [(0, vR 7 9), (1, vI (nI c))], [vI (-1)], h) rfl ?_
      exact R_ret (some (vI (-1))) h rfl ⟨by rw [if_pos c1], by rw [if_pos c1]; exact I⟩
    · refine R_s 3 (cond (if2 .le (nI c) (nI 126)) 14 12, [(0, vR 7 9), (1, vI (nI c))], [], h) rfl ?_
      refine R_bp (c ≤ 126) (i2_le (by omega) (by omega)) (fun c2 => ?_) (fun c2 => ?_)
      · rw [if_neg c1]
        refine R_s 4 (20, [(0, vR 7 9), (1, vI (nI c))], [vI (((nI c).toUInt32 % 65536).toInt32), vR 7 10], h) rfl ?_
        refine R_top (nI c) (chr_n c hc).1 ?_
        by_cases h3 : len = 300
        · rw [if_pos h3]
          refine R_calli mT_add [vR 7 10, vI (nI c)] [] (nI 0) h rfl (t_T_add_f (by rw [show h 7 10 1 = nI len from T.1, h3])) ?_
          refine R_s 1 (cond (if0 .eq (nI 0)) 36 26, [(0, vR 7 9), (1, vI (nI c))], [], h) rfl ?_
          refine R_bt rfl ?_
          refine R_s 1 (38, [(0, vR 7 9), (1, vI (nI c))], [vI (-3)], h) rfl ?_
          exact R_ret (some (vI (-3))) h rfl ⟨rfl, I⟩
        · rw [if_neg h3]
          refine R_calli mT_add [vR 7 10, vI (nI c)] [] (nI 1) (hset (hset h 7 11 len (vp_nar .char (nI c))) 7 10 1 (nI (len + 1))) rfl (t_T_add_t (n := len) T.1 (by omega)) ?_
          refine R_hp (fun h1 eh1 => ?_)
          refine R_s 1 (cond (if0 .eq (nI 1)) 36 26, [(0, vR 7 9), (1, vI (nI c))], [], h1) rfl ?_
          refine R_bf rfl ?_
          refine R_s 3 (33, [(0, vR 7 9), (1, vI (nI c))], [vI (h1 7 10 1)], h1) rfl ?_
          refine R_top (nI (len + 1)) (by rw [eh1, hs_same, up_same]) ?_
          refine R_s 1 (38, [(0, vR 7 9), (1, vI (nI c))], [vI (nI (len + 1))], h1) rfl ?_
          refine R_ret (some (vI (nI (len + 1)))) h1 rfl ⟨rfl, I.txt ⟨by rw [eh1, hs_same, up_same], by omega, fun j hj => ?_⟩ (fun g' j' q1 q2 => by rw [eh1, hs_ne (by omega), hs_ne (by omega)])⟩
          rw [eh1, hs_ne (by omega), hs_same, (chr_n c hc).2]
          unfold upN
          by_cases q : j = len
          · rw [q, up_same, if_pos rfl]; exact ⟨rfl, by omega, by omega⟩
          · rw [up_ne q, if_neg q]; exact T.2.2 j (show j < len by omega)
      · exact absurd c2 (by omega)
set_option maxRecDepth 100000 in
theorem t_S_clearText {d : Nat} {h : HP} {A : AS} (V : VA A) (I : CI h A) : MT (d) mS_clearText [vR 7 9] h (fun r h' => r = some (vI (oClear A).1) ∧ CI h' (oClear A).2) := by
  obtain ⟨⟨s, n, p, k⟩, kp, ch, len⟩ := A
  have C : CO h 0 s n p k := I.1
  have F : WF s n p k := V.1.1
  have O : WO s n := V.1.2.1.1
  have hn1 : 1 ≤ n := V.1.2.2.1
  have hp1 : 1 ≤ p := V.1.2.2.2.1
  have hk1 : 1 ≤ k := V.1.2.2.2.2
  have h8 : n ≤ 8 := F.2.1.1
  have h5 : p ≤ 5 := F.2.1.2.1
  have h6 : k ≤ 6 := F.2.1.2.2
  have T := I.2.2.1
  refine R_s 3 (7, [(0, vR 7 9)], [vI (h 7 10 1)], h) rfl ?_
  refine R_top (nI len) T.1 ?_
  refine R_s 5 (16, [(1, vI (nI len)), (0, vR 7 9)], [], (hset h 7 10 1 (nI 0))) rfl ?_
  refine R_hp (fun h1 eh1 => ?_)
  refine R_s 1 (17, [(1, vI (nI len)), (0, vR 7 9)], [vI (nI len)], h1) rfl ?_
  exact R_ret (some (vI (nI len))) h1 rfl ⟨rfl, I.txt ⟨by rw [eh1, hs_same, up_same], Nat.zero_le _, fun j hj => absurd hj (by omega)⟩ (fun g' j' q1 q2 => by rw [eh1, hs_ne (by omega)])⟩
theorem pC_lt {ch : Nat → Nat} {len : Nat} : ∀ m i a z e, i + m = len → a ≤ i → (pC ch len m i a z).1 = some e → e < len := by
  intro m
  induction m with
  | zero =>
    intro i a z e h1 h2 h
    rw [pC_0] at h
    dsimp only at h
    split at h
    · cases h; assumption
    · cases h
  | succ m ih =>
    intro i a z e h1 h2 h
    unfold pC at h
    split at h
    · cases hs : stC ch a i z with
      | none => rw [hs] at h; cases h; omega
      | some z' => rw [hs] at h; exact ih _ _ _ _ (by omega) (by omega) h
    · exact ih _ _ _ _ (by omega) (by omega) h
theorem rd_lt {ch : Nat → Nat} {len e : Nat} (h : (rd ch len).1 = some e) : e < len := pC_lt len 0 0 z0 e (by omega) (by omega) h
theorem TXT.ok {h h' : HP} {ch : Nat → Nat} {len : Nat} (T : TXT h ch len) (F : FT h h') : TXT h' ch len := T.ft F
set_option maxRecDepth 100000 in
theorem t_S_firstError {d : Nat} {h : HP} {A : AS} (V : VA A) (I : CI h A) : MT (d + 5) mS_firstError [vR 7 9] h (fun r h' => r = some (vI (oFirst A).1) ∧ CI h' (oFirst A).2) := by
  obtain ⟨⟨s, n, p, k⟩, kp, ch, len⟩ := A
  have C : CO h 0 s n p k := I.1
  have F : WF s n p k := V.1.1
  have O : WO s n := V.1.2.1.1
  have hn1 : 1 ≤ n := V.1.2.2.1
  have hp1 : 1 ≤ p := V.1.2.2.2.1
  have hk1 : 1 ≤ k := V.1.2.2.2.2
  have h8 : n ≤ 8 := F.2.1.1
  have h5 : p ≤ 5 := F.2.1.2.1
  have h6 : k ≤ 6 := F.2.1.2.2
  have T := I.2.2.1
  have hlen : len ≤ 300 := T.2.1
  refine R_s 4 (8, [(0, vR 7 9)], [vR 1 0, vR 7 10], h) rfl ?_
  refine R_call mT_readInto [vR 7 10, vR 1 0] [] rfl (t_T_readInto T) (fun r h1 e1 => ?_)
  obtain ⟨rfl, F1, -⟩ := e1
  show R _ mS_firstError (11, [(0, vR 7 9)], [vI (enc (rd ch len).1)], h1) _
  have I1 : CI h1 ((s, n, p, k), kp, ch, len) := I.txt (T.ft F1) (fun g' j' q1 q2 => F1.1 g' j' q1 (by omega))
  refine R_s 4 (cond (if2 .ne (enc (rd ch len).1) (-1)) 22 17, [(1, vI (enc (rd ch len).1)), (0, vR 7 9)], [], h1) rfl ?_
  refine R_bp (¬ (rd ch len).1 = none) (enc_m1 (fun c q => by have := rd_lt q; omega)) (fun c1 => ?_) (fun c1 => ?_)
  · refine R_s 1 (23, [(1, vI (enc (rd ch len).1)), (0, vR 7 9)], [vI (enc (rd ch len).1)], h1) rfl ?_
    exact R_ret (some (vI (enc (rd ch len).1))) h1 rfl ⟨by unfold oFirst; dsimp only; cases q : (rd ch len).1 with
        | none => exact absurd q c1
        | some a => rfl, I1⟩
  · have c1 := Classical.not_not.mp c1
    refine R_s 2 (23, [(1, vI (enc (rd ch len).1)), (0, vR 7 9)], [vI (-4)], h1) rfl ?_
    exact R_ret (some (vI (-4))) h1 rfl ⟨by unfold oFirst; dsimp only; rw [c1], I1⟩
set_option maxRecDepth 100000 in
theorem t_S_configure {d : Nat} {h : HP} {A : AS} (V : VA A) (I : CI h A) : MT (d + 5) mS_configure [vR 7 9] h (fun r h' => r = some (vI (oConf A).1) ∧ CI h' (oConf A).2) := by
  obtain ⟨⟨s, n, p, k⟩, kp, ch, len⟩ := A
  have C : CO h 0 s n p k := I.1
  have F : WF s n p k := V.1.1
  have O : WO s n := V.1.2.1.1
  have hn1 : 1 ≤ n := V.1.2.2.1
  have hp1 : 1 ≤ p := V.1.2.2.2.1
  have hk1 : 1 ≤ k := V.1.2.2.2.2
  have h8 : n ≤ 8 := F.2.1.1
  have h5 : p ≤ 5 := F.2.1.2.1
  have h6 : k ≤ 6 := F.2.1.2.2
  have T := I.2.2.1
  have hlen : len ≤ 300 := T.2.1
  obtain ⟨-, ⟨i, i1, i2, i3, i4⟩, -, -⟩ := id I
  refine R_s 4 (8, [(0, vR 7 9)], [vR 1 0, vR 7 10], h) rfl ?_
  refine R_call mT_readInto [vR 7 10, vR 1 0] [] rfl (t_T_readInto T) (fun r h1 e1 => ?_)
  obtain ⟨rfl, F1, K1⟩ := e1
  show R _ mS_configure (11, [(0, vR 7 9)], [vI (enc (rd ch len).1)], h1) _
  have I1 : CI h1 ((s, n, p, k), kp, ch, len) := I.txt (T.ft F1) (fun g' j' q1 q2 => F1.1 g' j' q1 (by omega))
  refine R_s 2 (cond (if2 .ne (enc (rd ch len).1) (-1)) 25 15, [(0, vR 7 9)], [], h1) rfl ?_
  refine R_bp (¬ (rd ch len).1 = none) (enc_m1 (fun c q => by have := rd_lt q; omega)) (fun c1 => ?_) (fun c1 => ?_)
  · refine R_s 1 (27, [(0, vR 7 9)], [vI (-2)], h1) rfl ?_
    exact R_ret (some (vI (-2))) h1 rfl ⟨by unfold oConf; dsimp only; rw [if_neg (fun q => c1 q.1)], by unfold oConf; dsimp only; rw [if_neg (fun q => c1 q.1)]; exact I1⟩
  · have c1 := Classical.not_not.mp c1
    obtain ⟨C1, D1⟩ := K1 c1
    unfold oConf
    dsimp only
    generalize (rd ch len).2 = z2 at C1 D1 ⊢
    obtain ⟨s2, n2, p2, k2⟩ := z2
    have C1 : CO h1 1 s2 n2 p2 k2 := C1
    have F2 : WF s2 n2 p2 k2 := D1.1
    have g8 := F2.2.1.1
    have g5 := F2.2.1.2.1
    have g6 := F2.2.1.2.2
    rw [c1]
    dsimp only
    refine R_s 2 (19, [(0, vR 7 9)], [vR 1 0], h1) rfl ?_
    refine R_calli mC_hasAllSorts [vR 1 0] [] (bI (decide (0 < n2) && decide (0 < p2) && decide (0 < k2))) h1 rfl (t_C_hasAllSorts C1.1.1 C1.1.2.1 C1.1.2.2.1 g8 g5 g6) ?_
    refine R_s 1 (cond (if0 .ne (bI (decide (0 < n2) && decide (0 < p2) && decide (0 < k2)))) 28 25, [(0, vR 7 9)], [], h1) rfl ?_
    refine R_bp ((decide (0 < n2) && decide (0 < p2) && decide (0 < k2)) = true) (x0_ne.trans bI_ne) (fun c2 => ?_) (fun c2 => ?_)
    · have c2 : 0 < n2 ∧ 0 < p2 ∧ 0 < k2 := by simpa [and_assoc] using c2
      rw [if_pos ⟨rfl, c2⟩]
      refine R_s 4 (36, [(0, vR 7 9)], [vR 1 0, vR 0 0], h1) rfl ?_
      refine R_call mC_copyFrom [vR 0 0, vR 1 0] [] rfl (t_C_copyFrom (g := 0) (g2 := 1) (by omega) C1 g8 g5 g6) (fun r h2 e2 => ?_)
      obtain ⟨rfl, C2, F3⟩ := e2
      show R _ mS_configure (39, [(0, vR 7 9)], [], h2) _
      refine R_s 2 (43, [(0, vR 7 9)], [vR 7 13], h2) rfl ?_
      refine R_callv mH_forget [vR 7 13] [] (hset h2 7 13 2 (nI 0)) rfl t_H_forget ?_
      refine R_hp (fun h3 eh3 => ?_)
      refine R_s 3 (51, [(0, vR 7 9)], [], (hset h3 7 9 5 (nI 0))) rfl ?_
      refine R_hp (fun h4 eh4 => ?_)
      have e4 : ∀ j, h4 0 j = h2 0 j := fun j => by rw [eh4, hs_ne (by omega), eh3, hs_ne (by omega)]
      refine R_s 3 (58, [(0, vR 7 9)], [vI (h4 0 0 0)], h4) rfl ?_
      refine R_top (nI n2) (by rw [e4 0]; exact C2.1.1) ?_
      refine R_ret (some (vI (nI n2))) h4 rfl ⟨rfl, co_frame C2 e4, ⟨i, i1, by rw [eh4, hs_ne (by omega), eh3, hs_same, up_ne (by omega), F3 7 13 (by omega), F1.1 7 13 (by omega) (by omega)]; exact i2, by rw [eh4, hs_ne (by omega), eh3, hs_same, up_same]; rfl, fun j z hj => by cases hj⟩, ?_, Or.inl (by rw [eh4, hs_same, up_same])⟩
      have T1 := T.ft F1
      exact ⟨by rw [eh4, hs_ne (by omega), eh3, hs_ne (by omega), F3 7 10 (by omega)]; exact T1.1, T1.2.1, fun j hj => by rw [eh4, hs_ne (by omega), eh3, hs_ne (by omega), F3 7 11 (by omega)]; exact T1.2.2 j hj⟩
    · have c2 : ¬ (0 < n2 ∧ 0 < p2 ∧ 0 < k2) := by simpa [and_assoc] using c2
      rw [if_neg (fun q => c2 q.2)]
      refine R_s 1 (27, [(0, vR 7 9)], [vI (-2)], h1) rfl ?_
      exact R_ret (some (vI (-2))) h1 rfl ⟨rfl, I1⟩
theorem mod5c : ∀ i, i < 5 → ∀ j, j < 4 → ((i + 4) % 5 + 4 - j) % 5 = (i + 4 - (j + 1)) % 5 := by decide
set_option maxRecDepth 100000 in
theorem t_S_undo {d : Nat} {h : HP} {A : AS} (V : VA A) (I : CI h A) : MT (d + 3) mS_undo [vR 7 9] h (fun r h' => r = some (vI (oUndo A).1) ∧ CI h' (oUndo A).2) := by
  obtain ⟨⟨s, n, p, k⟩, kp, ch, len⟩ := A
  have C : CO h 0 s n p k := I.1
  have F : WF s n p k := V.1.1
  have O : WO s n := V.1.2.1.1
  have hn1 : 1 ≤ n := V.1.2.2.1
  have hp1 : 1 ≤ p := V.1.2.2.2.1
  have hk1 : 1 ≤ k := V.1.2.2.2.2
  have h8 : n ≤ 8 := F.2.1.1
  have h5 : p ≤ 5 := F.2.1.2.1
  have h6 : k ≤ 6 := F.2.1.2.2
  obtain ⟨-, ⟨i, i1, i2, i3, i4⟩, T, -⟩ := id I
  cases kp with
  | nil =>
    refine R_s 3 (7, [(0, vR 7 9)], [vI (h 7 13 2)], h) rfl ?_
    refine R_top (nI 0) i3 ?_
    refine R_s 1 (cond (if0 .ne (nI 0)) 13 10, [(0, vR 7 9)], [], h) rfl ?_
    refine R_bf rfl ?_
    refine R_s 1 (12, [(0, vR 7 9)], [vI (-2)], h) rfl ?_
    exact R_ret (some (vI (-2))) h rfl ⟨rfl, I⟩
  | cons z0 kp =>
    have hkl : (z0 :: kp).length ≤ 5 := V.2.2
    have hl2 : (z0 :: kp).length = kp.length + 1 := rfl
    obtain ⟨s2, n2, p2, k2⟩ := z0
    have X2 : WX (s2, n2, p2, k2) := V.2.1 _ List.mem_cons_self
    have F2 : WF s2 n2 p2 k2 := X2.1
    have C2 : CO h ((i + 4) % 5 + 2) s2 n2 p2 k2 := i4 0 _ rfl
    have i3 : h 7 13 2 = nI (kp.length + 1) := i3
    refine R_s 3 (7, [(0, vR 7 9)], [vI (h 7 13 2)], h) rfl ?_
    refine R_top (nI (kp.length + 1)) i3 ?_
    refine R_s 1 (cond (if0 .ne (nI (kp.length + 1))) 13 10, [(0, vR 7 9)], [], h) rfl ?_
    refine R_bt (by unfold if0; exact decide_eq_true (nI_ne0 (by omega) (by omega))) ?_
    refine R_s 4 (21, [(0, vR 7 9)], [vR 0 0, vR 7 13], h) rfl ?_
    refine R_call mH_takeBack [vR 7 13, vR 0 0] [] rfl (t_H_takeBack i2 i1 i3 (by omega) (by omega) C2 F2.2.1.1 F2.2.1.2.1 F2.2.1.2.2) (fun r h1 e1 => ?_)
    obtain ⟨rfl, C3, F3, g1, g2⟩ := e1
    show R _ mS_undo (24, [(0, vR 7 9)], [], h1) _
    refine R_s 3 (29, [(0, vR 7 9)], [], (hset h1 7 9 5 (nI 0))) rfl ?_
    refine R_hp (fun h2 eh2 => ?_)
    refine R_s 3 (36, [(0, vR 7 9)], [vI (h2 7 13 2)], h2) rfl ?_
    refine R_top (nI (kp.length)) (by rw [eh2, hs_ne (by omega), g2]; rfl) ?_
    refine R_ret (some (vI (nI (kp.length)))) h2 rfl ⟨rfl, co_frame C3 (fun j => by rw [eh2, hs_ne (by omega)]), ⟨(i + 4) % 5, Nat.mod_lt _ (by decide), by rw [eh2, hs_ne (by omega)]; exact g1, by rw [eh2, hs_ne (by omega), g2]; rfl, fun j z hj => ?_⟩, ⟨by rw [eh2, hs_ne (by omega), F3 7 10 (by omega) (by omega)]; exact T.1, T.2.1, fun j hj => by rw [eh2, hs_ne (by omega), F3 7 11 (by omega) (by omega)]; exact T.2.2 j hj⟩, Or.inl (by rw [eh2, hs_same, up_same])⟩
    have hj4 : j < kp.length := (List.getElem?_eq_some_iff.mp hj).1
    rw [mod5c i i1 j (by omega)]
    exact (i4 (j + 1) z hj).mv (fun c => by rw [eh2, hs_ne (by omega), F3 _ c (by omega) (by omega)])
end
section
theorem part_c {A : AS} {x y w t : Int32} (F : WF A.1.1 A.1.2.1 A.1.2.2.1 A.1.2.2.2) : ((inb x A.1.2.1 && inb y A.1.2.2.1 && inb w A.1.2.2.2 && inb t 6) = true ∧ ∃ a b c v, a < A.1.2.1 ∧ b < A.1.2.2.1 ∧ c < A.1.2.2.2 ∧ v < 6 ∧ x = nI a ∧ y = nI b ∧ w = nI c ∧ t = nI v) ∨ ((inb x A.1.2.1 && inb y A.1.2.2.1 && inb w A.1.2.2.2 && inb t 6) = false ∧ oSetPart A x y w t = (-1, A)) := by
  have h8 := F.2.1.1
  have h5 := F.2.1.2.1
  have h6 := F.2.1.2.2
  unfold oSetPart
  cases hx : inb x A.1.2.1 with
  | false => exact Or.inr ⟨rfl, by rw [sel1_f hx]⟩
  | true =>
    obtain ⟨a, ha, rfl⟩ := inb_ex (by omega) hx
    cases hy : inb y A.1.2.2.1 with
    | false => exact Or.inr ⟨rfl, by rw [sel1_t ha (by omega), sel1_f hy]⟩
    | true =>
      obtain ⟨b, hb, rfl⟩ := inb_ex (by omega) hy
      cases hw : inb w A.1.2.2.2 with
      | false => exact Or.inr ⟨rfl, by rw [sel1_t ha (by omega), sel1_t hb (by omega), sel1_f hw]⟩
      | true =>
        obtain ⟨c, hc, rfl⟩ := inb_ex (by omega) hw
        cases ht : inb t 6 with
        | false => exact Or.inr ⟨rfl, by rw [sel1_t ha (by omega), sel1_t hb (by omega), sel1_t hc (by omega), sel1_f ht]⟩
        | true =>
          obtain ⟨v, hv, rfl⟩ := inb_ex (by decide) ht
          exact Or.inl ⟨rfl, a, b, c, v, ha, hb, hc, hv, rfl, rfl, rfl, rfl⟩
theorem cn_part {s : Nat → Int32} {p a b c : Nat} {v : Int32} (hb : b < p) (h5 : p ≤ 5) : cn (upd (upd s (45 + 2 * (a * 5 + b)) (nI c)) (46 + 2 * (a * 5 + b)) v) a (nI c) p = oth s a (nI c) b p + 1 := by
  have o1 := oth_cn (upd (upd s (45 + 2 * (a * 5 + b)) (nI c)) (46 + 2 * (a * 5 + b)) v) a (nI c) b p
  rw [oth_congr (s := s) p (fun i _ hib => by rw [kd_part, if_neg (by omega)]), kd_part, if_pos rfl, if_pos ⟨hb, rfl⟩] at o1
  exact o1
set_option maxRecDepth 100000 in
theorem t_S_setPart {d : Nat} {h : HP} {A : AS} {x y w t : Int32} (V : VA A) (I : CI h A) : MT (d + 4) mS_setPart [vR 7 9, vI x, vI y, vI w, vI t] h (fun r h' => r = some (vI (oSetPart A x y w t).1) ∧ CI h' (oSetPart A x y w t).2) := by
  obtain ⟨⟨s, n, p, k⟩, kp, ch, len⟩ := A
  have C : CO h 0 s n p k := I.1
  have F : WF s n p k := V.1.1
  have O : WO s n := V.1.2.1.1
  have hn1 : 1 ≤ n := V.1.2.2.1
  have hp1 : 1 ≤ p := V.1.2.2.2.1
  have hk1 : 1 ≤ k := V.1.2.2.2.2
  have h8 : n ≤ 8 := F.2.1.1
  have h5 : p ≤ 5 := F.2.1.2.1
  have h6 : k ≤ 6 := F.2.1.2.2
  refine R_s 6 (9, [(0, vR 7 9), (1, vI x), (2, vI y), (3, vI w), (4, vI t)], [vI t, vI w, vI y, vI x, vR 0 0], h) rfl ?_
  refine R_calli mC_isPart [vR 0 0, vI x, vI y, vI w, vI t] [] (bI (inb x n && inb y p && inb w k && inb t 6)) h rfl (t_C_isPart C.1.1 C.1.2.1 C.1.2.2.1 h8 h5 h6) ?_
  rcases part_c (A := ((s, n, p, k), kp, ch, len)) (x := x) (y := y) (w := w) (t := t) F with ⟨e2, a, b, c, v, ha, hb, hc, hv, rfl, rfl, rfl, rfl⟩ | ⟨e2, hf⟩
  · have ha : a < n := ha
    have hb : b < p := hb
    have hc : c < k := hc
    dsimp only at e2
    rw [e2]
    show R _ mS_setPart (12, [(0, vR 7 9), (1, vI (nI a)), (2, vI (nI b)), (3, vI (nI c)), (4, vI (nI v))], [vI (nI 1)], h) _
    refine R_s 1 (cond (if0 .ne (nI 1)) 17 15, [(0, vR 7 9), (1, vI (nI a)), (2, vI (nI b)), (3, vI (nI c)), (4, vI (nI v))], [], h) rfl ?_
    refine R_bt rfl ?_
    obtain ⟨u, hu, hu6⟩ := F.2.2.2.2.1 c hc
    have hmp := may_part F ha hb hc hu hu6
    have hun : (s (33 + c)).toNatClampNeg = u := by rw [hu, nI_cl (by omega)]
    have hsp : oSetPart ((s, n, p, k), kp, ch, len) (nI a) (nI b) (nI c) (nI v) = if oth s a (nI c) b p < u then (nI (oth s a (nI c) b p + 1), ed ((s, n, p, k), kp, ch, len) (upd (upd s (45 + 2 * (a * 5 + b)) (nI c)) (46 + 2 * (a * 5 + b)) (nI v), n, p, k)) else (-2, ((s, n, p, k), kp, ch, len)) := by unfold oSetPart; dsimp only; rw [sel1_t ha (by omega), sel1_t hb (by omega), sel1_t hc (by omega), sel1_t hv (by omega), hun]
    refine R_s 5 (24, [(0, vR 7 9), (1, vI (nI a)), (2, vI (nI b)), (3, vI (nI c)), (4, vI (nI v))], [vI (nI c), vI (nI b), vI (nI a), vR 0 0], h) rfl ?_
    refine R_calli mC_hasUnitFor [vR 0 0, vI (nI a), vI (nI b), vI (nI c)] [] (bI (decide (kd s a b = nI c) || decide (cn s a (nI c) p < u))) h rfl (t_C_hasUnitFor C h5 h6 (by omega) (by omega) hc hu hu6) ?_
    refine R_s 1 (cond (if0 .ne (bI (decide (kd s a b = nI c) || decide (cn s a (nI c) p < u)))) 33 30, [(0, vR 7 9), (1, vI (nI a)), (2, vI (nI b)), (3, vI (nI c)), (4, vI (nI v))], [], h) rfl ?_
    refine R_bp ((decide (kd s a b = nI c) || decide (cn s a (nI c) p < u)) = true) (x0_ne.trans bI_ne) (fun c1 => ?_) (fun c1 => ?_)
    · have q5 : oth s a (nI c) b p < u := hmp.mp (by simpa using c1)
      rw [hsp, if_pos q5]
      refine R_s 1 (34, [(0, vR 7 9), (1, vI (nI a)), (2, vI (nI b)), (3, vI (nI c)), (4, vI (nI v))], [vR 7 9], h) rfl ?_
      refine R_call mS_beginEdit [vR 7 9] [] rfl (t_S_beginEdit V I) (fun r h1 e1 => ?_)
      obtain ⟨rfl, I1, f1, k1⟩ := e1
      have C1 : CO h1 0 s n p k := I1.1
      show R _ mS_setPart (37, [(0, vR 7 9), (1, vI (nI a)), (2, vI (nI b)), (3, vI (nI c)), (4, vI (nI v))], [], h1) _
      refine R_s 6 (46, [(0, vR 7 9), (1, vI (nI a)), (2, vI (nI b)), (3, vI (nI c)), (4, vI (nI v))], [vI (nI v), vI (nI c), vI (nI b), vI (nI a), vR 0 0], h1) rfl ?_
      refine R_callv mC_givePart [vR 0 0, vI (nI a), vI (nI b), vI (nI c), vI (nI v)] [] (hset (hset h1 0 5 (a * 5 + b) (nI c)) 0 6 (a * 5 + b) (nI v)) rfl (t_C_givePart (by omega) (by omega)) ?_
      refine R_hp (fun h2 eh2 => ?_)
      have C2 : CO h2 0 (upd (upd s (45 + 2 * (a * 5 + b)) (nI c)) (46 + 2 * (a * 5 + b)) (nI v)) n p k := by rw [eh2]; exact co_part h8 h5 h6 (by omega) C1
      refine R_s 4 (55, [(0, vR 7 9), (1, vI (nI a)), (2, vI (nI b)), (3, vI (nI c)), (4, vI (nI v))], [vI (nI c), vI (nI a), vR 0 0], h2) rfl ?_
      refine R_calli mC_playersOn [vR 0 0, vI (nI a), vI (nI c)] [] (nI (cn (upd (upd s (45 + 2 * (a * 5 + b)) (nI c)) (46 + 2 * (a * 5 + b)) (nI v)) a (nI c) p)) h2 rfl (t_C_playersOn C2 h5 (by omega)) ?_
      refine R_top (nI (oth s a (nI c) b p + 1)) (by rw [cn_part hb h5]) ?_
      exact R_ret (some (vI (nI (oth s a (nI c) b p + 1)))) h2 rfl ⟨rfl, I1.mod f1 C2 (fun g' j' q => by rw [eh2, hs_ne (by omega), hs_ne (by omega)])⟩
    · have q5 : ¬ oth s a (nI c) b p < u := fun q => c1 (by simpa using hmp.mpr q)
      rw [hsp, if_neg q5]
      refine R_s 1 (32, [(0, vR 7 9), (1, vI (nI a)), (2, vI (nI b)), (3, vI (nI c)), (4, vI (nI v))], [vI (-2)], h) rfl ?_
      exact R_ret (some (vI (-2))) h rfl ⟨rfl, I⟩
  · dsimp only at e2
    rw [hf, e2]
    show R _ mS_setPart (12, [(0, vR 7 9), (1, vI x), (2, vI y), (3, vI w), (4, vI t)], [vI (nI 0)], h) _
    refine R_s 1 (cond (if0 .ne (nI 0)) 17 15, [(0, vR 7 9), (1, vI x), (2, vI y), (3, vI w), (4, vI t)], [], h) rfl ?_
    refine R_bf rfl ?_
    refine R_s 1 (16, [(0, vR 7 9), (1, vI x), (2, vI y), (3, vI w), (4, vI t)], [vI (-1)], h) rfl ?_
    exact R_ret (some (vI (-1))) h rfl ⟨rfl, I⟩
theorem oRem_f {A : AS} {x y : Int32} (q : inb x A.1.2.1 = false ∨ inb y A.1.2.2.1 = false) : oRemove A x y = (-1, A) := by
  unfold oRemove
  rcases q with q | q
  · rw [sel1_f q]
  · unfold sel1
    rw [q]
    cases inb x A.1.2.1 <;> rfl
set_option maxRecDepth 100000 in
theorem t_S_removePart {d : Nat} {h : HP} {A : AS} {x y : Int32} (V : VA A) (I : CI h A) : MT (d + 4) mS_removePart [vR 7 9, vI x, vI y] h (fun r h' => r = some (vI (oRemove A x y).1) ∧ CI h' (oRemove A x y).2) := by
  obtain ⟨⟨s, n, p, k⟩, kp, ch, len⟩ := A
  have C : CO h 0 s n p k := I.1
  have F : WF s n p k := V.1.1
  have O : WO s n := V.1.2.1.1
  have hn1 : 1 ≤ n := V.1.2.2.1
  have hp1 : 1 ≤ p := V.1.2.2.2.1
  have hk1 : 1 ≤ k := V.1.2.2.2.2
  have h8 : n ≤ 8 := F.2.1.1
  have h5 : p ≤ 5 := F.2.1.2.1
  have h6 : k ≤ 6 := F.2.1.2.2
  refine R_s 3 (3, [(0, vR 7 9), (1, vI x), (2, vI y)], [vI y, vI x, vR 7 9], h) rfl ?_
  refine R_call mS_kindOf [vR 7 9, vI x, vI y] [] rfl (t_S_kindOf V I) (fun r h0 e0 => ?_)
  obtain ⟨rfl, I0⟩ := e0
  clear I
  have I := I0
  have C : CO h0 0 s n p k := I.1
  rcases oKind_c (z := (s, n, p, k)) (kp := kp) (ch := ch) (len := len) (x := x) (y := y) F with ⟨e, q⟩ | ⟨a, b, ha, hb, rfl, rfl, ⟨q, e⟩ | ⟨c, hc, ec, e⟩⟩
  · rw [e]
    show R _ mS_removePart (6, [(0, vR 7 9), (1, vI x), (2, vI y)], [vI (-1)], h0) _
    refine R_s 3 (cond (if0 .ge (-1)) 13 11, [(3, vI (-1)), (0, vR 7 9), (1, vI x), (2, vI y)], [], h0) rfl ?_
    refine R_bf (by decide) ?_
    refine R_s 1 (12, [(3, vI (-1)), (0, vR 7 9), (1, vI x), (2, vI y)], [vI (-1)], h0) rfl ?_
    exact R_ret (some (vI (-1))) h0 rfl ⟨by rw [oRem_f q], by rw [oRem_f q]; exact I⟩
  · rw [e]
    have ha : a < n := ha
    have hb : b < p := hb
    show R _ mS_removePart (6, [(0, vR 7 9), (1, vI (nI a)), (2, vI (nI b))], [vI (-4)], h0) _
    refine R_s 3 (cond (if0 .ge (-4)) 13 11, [(3, vI (-4)), (0, vR 7 9), (1, vI (nI a)), (2, vI (nI b))], [], h0) rfl ?_
    refine R_bf (by decide) ?_
    refine R_s 1 (12, [(3, vI (-4)), (0, vR 7 9), (1, vI (nI a)), (2, vI (nI b))], [vI (-4)], h0) rfl ?_
    exact R_ret (some (vI (-4))) h0 rfl ⟨by unfold oRemove; dsimp only; rw [sel1_t ha (by omega), sel1_t hb (by omega), if_pos q], by unfold oRemove; dsimp only; rw [sel1_t ha (by omega), sel1_t hb (by omega), if_pos q]; exact I⟩
  · rw [e]
    have ha : a < n := ha
    have hb : b < p := hb
    show R _ mS_removePart (6, [(0, vR 7 9), (1, vI (nI a)), (2, vI (nI b))], [vI (nI c)], h0) _
    have hc : c < k := hc
    have ec : kd s a b = nI c := ec
    have hk : ¬ kd s a b = -1 := by rw [ec]; exact nI_ne_m1 (by omega)
    rw [show oRemove ((s, n, p, k), kp, ch, len) (nI a) (nI b) = (nI c, ed ((s, n, p, k), kp, ch, len) (upd s (45 + 2 * (a * 5 + b)) (-1), n, p, k)) by unfold oRemove; dsimp only; rw [sel1_t ha (by omega), sel1_t hb (by omega), if_neg hk, ec]]
    refine R_s 3 (cond (if0 .ge (nI c)) 13 11, [(3, vI (nI c)), (0, vR 7 9), (1, vI (nI a)), (2, vI (nI b))], [], h0) rfl ?_
    refine R_bt (by unfold if0; exact decide_eq_true (nI_pos' (by omega))) ?_
    refine R_s 1 (14, [(3, vI (nI c)), (0, vR 7 9), (1, vI (nI a)), (2, vI (nI b))], [vR 7 9], h0) rfl ?_
    refine R_call mS_beginEdit [vR 7 9] [] rfl (t_S_beginEdit V I) (fun r h1 e1 => ?_)
    obtain ⟨rfl, I1, f1, k1⟩ := e1
    have C1 : CO h1 0 s n p k := I1.1
    show R _ mS_removePart (17, [(3, vI (nI c)), (0, vR 7 9), (1, vI (nI a)), (2, vI (nI b))], [], h1) _
    refine R_s 6 (25, [(3, vI (nI c)), (0, vR 7 9), (1, vI (nI a)), (2, vI (nI b))], [vI (nI 0), vI (-1), vI (nI b), vI (nI a), vR 0 0], h1) rfl ?_
    refine R_callv mC_givePart [vR 0 0, vI (nI a), vI (nI b), vI (-1), vI (nI 0)] [] (hset (hset h1 0 5 (a * 5 + b) (-1)) 0 6 (a * 5 + b) (nI 0)) rfl (t_C_givePart (by omega) (by omega)) ?_
    refine R_hp (fun h2 eh2 => ?_)
    refine R_s 1 (29, [(3, vI (nI c)), (0, vR 7 9), (1, vI (nI a)), (2, vI (nI b))], [vI (nI c)], h2) rfl ?_
    exact R_ret (some (vI (nI c))) h2 rfl ⟨rfl, I1.mod f1 (by rw [eh2]; exact co_unpart h8 h5 h6 (by omega) C1) (fun g' j' q => by rw [eh2, hs_ne (by omega), hs_ne (by omega)])⟩
set_option maxRecDepth 100000 in
theorem t_S_setUnits {d : Nat} {h : HP} {A : AS} {x y : Int32} (V : VA A) (I : CI h A) : MT (d + 4) mS_setUnits [vR 7 9, vI x, vI y] h (fun r h' => r = some (vI (oUnits A x y).1) ∧ CI h' (oUnits A x y).2) := by
  obtain ⟨⟨s, n, p, k⟩, kp, ch, len⟩ := A
  have C : CO h 0 s n p k := I.1
  have F : WF s n p k := V.1.1
  have O : WO s n := V.1.2.1.1
  have hn1 : 1 ≤ n := V.1.2.2.1
  have hp1 : 1 ≤ p := V.1.2.2.2.1
  have hk1 : 1 ≤ k := V.1.2.2.2.2
  have h8 : n ≤ 8 := F.2.1.1
  have h5 : p ≤ 5 := F.2.1.2.1
  have h6 : k ≤ 6 := F.2.1.2.2
  refine R_s 3 (5, [(0, vR 7 9), (1, vI x), (2, vI y)], [vI x, vR 0 0], h) rfl ?_
  refine R_calli mC_isKind [vR 0 0, vI x] [] (bI (inb x k)) h rfl (t_C_isKind C.1.2.2.1 (by omega)) ?_
  refine R_s 1 (cond (if0 .eq (bI (inb x k))) 21 11, [(0, vR 7 9), (1, vI x), (2, vI y)], [], h) rfl ?_
  refine R_bp (inb x k = false) (x0_eq.trans bI_eq) (fun ca => ?_) (fun ca => ?_)
  · refine R_s 1 (22, [(0, vR 7 9), (1, vI x), (2, vI y)], [vI (-1)], h) rfl ?_
    exact R_ret (some (vI (-1))) h rfl ⟨by unfold oUnits; dsimp only; rw [sel1_f ca], by unfold oUnits; dsimp only; rw [sel1_f ca]; exact I⟩
  · obtain ⟨a, ha, rfl⟩ := inb_ex (by omega) (tf ca)
    cases hy : inb y 6 with
    | false =>
      rw [show oUnits ((s, n, p, k), kp, ch, len) (nI a) y = (-1, ((s, n, p, k), kp, ch, len)) by unfold oUnits; dsimp only; rw [sel1_t ha (by omega), sel1_f hy]]
      refine R_s 3 (cond (if2 .lt y (nI 1)) 21 16, [(0, vR 7 9), (1, vI (nI a)), (2, vI y)], [], h) rfl ?_
      refine R_bp (y < (nI 1)) x2_lt (fun c1 => ?_) (fun c1 => ?_)
      · refine R_s 1 (22, [(0, vR 7 9), (1, vI (nI a)), (2, vI y)], [vI (-1)], h) rfl ?_
        exact R_ret (some (vI (-1))) h rfl ⟨rfl, I⟩
      · refine R_s 3 (cond (if2 .le y (nI 5)) 23 21, [(0, vR 7 9), (1, vI (nI a)), (2, vI y)], [], h) rfl ?_
        refine R_bp (y ≤ (nI 5)) x2_le (fun c2 => ?_) (fun c2 => ?_)
        · rw [inb_of (a := 1) (m := 5) rfl (by decide) c1 c2 (by decide)] at hy
          cases hy
        · refine R_s 1 (22, [(0, vR 7 9), (1, vI (nI a)), (2, vI y)], [vI (-1)], h) rfl ?_
          exact R_ret (some (vI (-1))) h rfl ⟨rfl, I⟩
    | true =>
      obtain ⟨u, hu, rfl⟩ := inb_ex (by decide) hy
      rw [show oUnits ((s, n, p, k), kp, ch, len) (nI a) (nI u) = if u < 1 then (-1, ((s, n, p, k), kp, ch, len)) else if u < mx s (nI a) p n then (-2, ((s, n, p, k), kp, ch, len)) else (s (33 + a), ed ((s, n, p, k), kp, ch, len) (upd s (33 + a) (nI u), n, p, k)) by unfold oUnits; dsimp only; rw [sel1_t ha (by omega), sel1_t hu (by omega)]]
      have hmx := mx_le s (nI a) p n
      refine R_s 3 (cond (if2 .lt (nI u) (nI 1)) 21 16, [(0, vR 7 9), (1, vI (nI a)), (2, vI (nI u))], [], h) rfl ?_
      refine R_bp (u < 1) (i2_lt (by omega) (by omega)) (fun c1 => ?_) (fun c1 => ?_)
      · refine R_s 1 (22, [(0, vR 7 9), (1, vI (nI a)), (2, vI (nI u))], [vI (-1)], h) rfl ?_
        exact R_ret (some (vI (-1))) h rfl ⟨by rw [if_pos c1], by rw [if_pos c1]; exact I⟩
      · rw [if_neg c1]
        refine R_s 3 (cond (if2 .le (nI u) (nI 5)) 23 21, [(0, vR 7 9), (1, vI (nI a)), (2, vI (nI u))], [], h) rfl ?_
        refine R_bt ((i2_le (by omega) (by omega)).mpr (by omega)) ?_
        refine R_s 3 (28, [(0, vR 7 9), (1, vI (nI a)), (2, vI (nI u))], [vI (nI a), vR 0 0], h) rfl ?_
        refine R_calli mC_mostPlayersOn [vR 0 0, vI (nI a)] [] (nI (mx s (nI a) p n)) h rfl (t_C_mostPlayersOn C h8 h5) ?_
        refine R_s 2 (cond (if2 .le (nI (mx s (nI a) p n)) (nI u)) 38 35, [(0, vR 7 9), (1, vI (nI a)), (2, vI (nI u))], [], h) rfl ?_
        refine R_bp ((mx s (nI a) p n) ≤ u) (i2_le (by omega) (by omega)) (fun c2 => ?_) (fun c2 => ?_)
        · rw [if_neg (by omega)]
          refine R_s 4 (46, [(0, vR 7 9), (1, vI (nI a)), (2, vI (nI u))], [vI (nI a), vR 0 3], h) rfl ?_
          refine R_ld 0 3 a 6 rfl rfl (by omega) (by decide) ?_
          refine R_top (s (33 + a)) (C.2.2.2.1 a ha).1 ?_
          refine R_s 2 (49, [(3, vI (s (33 + a))), (0, vR 7 9), (1, vI (nI a)), (2, vI (nI u))], [vR 7 9], h) rfl ?_
          refine R_call mS_beginEdit [vR 7 9] [] rfl (t_S_beginEdit V I) (fun r h1 e1 => ?_)
          obtain ⟨rfl, I1, f1, k1⟩ := e1
          have C1 : CO h1 0 s n p k := I1.1
          show R _ mS_setUnits (52, [(3, vI (s (33 + a))), (0, vR 7 9), (1, vI (nI a)), (2, vI (nI u))], [], h1) _
          refine R_s 5 (61, [(3, vI (s (33 + a))), (0, vR 7 9), (1, vI (nI a)), (2, vI (nI u))], [vI (nI u), vI (nI a), vR 0 3], h1) rfl ?_
          refine R_st 0 3 a 6 (nI u) rfl rfl (by omega) (by decide) (fun h2 eh2 => ?_)
          refine R_s 1 (63, [(3, vI (s (33 + a))), (0, vR 7 9), (1, vI (nI a)), (2, vI (nI u))], [vI (s (33 + a))], h2) rfl ?_
          exact R_ret (some (vI (s (33 + a)))) h2 rfl ⟨rfl, I1.mod f1 (by rw [eh2]; exact co_unit h8 h5 h6 (by omega) C1) (fun g' j' q => by rw [eh2, hs_ne (by omega)])⟩
        · refine R_s 1 (37, [(0, vR 7 9), (1, vI (nI a)), (2, vI (nI u))], [vI (-2)], h) rfl ?_
          exact R_ret (some (vI (-2))) h rfl ⟨by rw [if_pos (by omega)], by rw [if_pos (by omega)]; exact I⟩
theorem spn_c {s : Nat → Int32} {y : Int32} : ∀ m a, (spn s y m a = -1 ∧ ∀ b, a ≤ b → b < a + m → ¬ s (10 + b) = y) ∨ (∃ b, a ≤ b ∧ b < a + m ∧ spn s y m a = nI b ∧ s (10 + b) = y) := by
  intro m
  induction m with
  | zero => intro a; exact Or.inl ⟨rfl, fun b h1 h2 => by omega⟩
  | succ m ih =>
    intro a
    by_cases e : s (10 + a) = y
    · exact Or.inr ⟨a, Nat.le_refl _, by omega, by unfold spn; rw [if_pos e], e⟩
    · have e2 : spn s y (m + 1) a = spn s y m (a + 1) := by rw [spn, if_neg e]
      rw [e2]
      rcases ih (a + 1) with ⟨h1, h2⟩ | ⟨b, h1, h2, h3, h4⟩
      · refine Or.inl ⟨h1, fun b q1 q2 => ?_⟩
        by_cases z : b = a
        · rw [z]; exact e
        · exact h2 b (by omega) (by omega)
      · exact Or.inr ⟨b, by omega, by omega, h3, h4⟩
theorem pbo_f {s : Nat → Int32} {a : Nat} {y : Int32} : ∀ n, (∀ b, b < n → ¬ b = a → ¬ s (10 + b) = y) → pbo s a y n = false := by
  intro n
  induction n with
  | zero => intro _; rfl
  | succ n ih =>
    intro h
    show (pbo s a y n || (!(decide (n = a)) && decide (s (10 + n) = y))) = false
    rw [ih (fun b hb => h b (by omega))]
    by_cases e : n = a
    · rw [decide_eq_true e]; rfl
    · rw [decide_eq_false (h n (by omega) e), Bool.and_false]; rfl
theorem pbo_t {s : Nat → Int32} {a b : Nat} {y : Int32} : ∀ n, b < n → ¬ b = a → s (10 + b) = y → pbo s a y n = true := by
  intro n
  induction n with
  | zero => intro h; omega
  | succ n ih =>
    intro h1 h2 h3
    show (pbo s a y n || (!(decide (n = a)) && decide (s (10 + n) = y))) = true
    by_cases e : b = n
    · subst e
      rw [decide_eq_true h3, decide_eq_false h2, Bool.not_false, Bool.and_true, Bool.or_true]
    · rw [ih (by omega) h2 h3, Bool.true_or]
set_option maxRecDepth 100000 in
theorem t_S_pin {d : Nat} {h : HP} {A : AS} {x y : Int32} (V : VA A) (I : CI h A) : MT (d + 4) mS_pin [vR 7 9, vI x, vI y] h (fun r h' => r = some (vI (oPin A x y).1) ∧ CI h' (oPin A x y).2) := by
  obtain ⟨⟨s, n, p, k⟩, kp, ch, len⟩ := A
  have C : CO h 0 s n p k := I.1
  have F : WF s n p k := V.1.1
  have O : WO s n := V.1.2.1.1
  have hn1 : 1 ≤ n := V.1.2.2.1
  have hp1 : 1 ≤ p := V.1.2.2.2.1
  have hk1 : 1 ≤ k := V.1.2.2.2.2
  have h8 : n ≤ 8 := F.2.1.1
  have h5 : p ≤ 5 := F.2.1.2.1
  have h6 : k ≤ 6 := F.2.1.2.2
  have U : WU s n := V.1.2.1.2
  refine R_s 3 (5, [(0, vR 7 9), (1, vI x), (2, vI y)], [vI x, vR 0 0], h) rfl ?_
  refine R_calli mC_isSong [vR 0 0, vI x] [] (bI (inb x n)) h rfl (t_C_isSong C.1.1 h8) ?_
  refine R_s 1 (cond (if0 .eq (bI (inb x n))) 22 11, [(0, vR 7 9), (1, vI x), (2, vI y)], [], h) rfl ?_
  refine R_bp (inb x n = false) (x0_eq.trans bI_eq) (fun ca => ?_) (fun ca => ?_)
  · refine R_s 1 (23, [(0, vR 7 9), (1, vI x), (2, vI y)], [vI (-1)], h) rfl ?_
    exact R_ret (some (vI (-1))) h rfl ⟨by unfold oPin; dsimp only; rw [sel1_f ca], by unfold oPin; dsimp only; rw [sel1_f ca]; exact I⟩
  · obtain ⟨a, ha, rfl⟩ := inb_ex (by omega) (tf ca)
    refine R_s 3 (16, [(0, vR 7 9), (1, vI (nI a)), (2, vI y)], [vI y, vR 0 0], h) rfl ?_
    refine R_calli mC_isSong [vR 0 0, vI y] [] (bI (inb y n)) h rfl (t_C_isSong C.1.1 h8) ?_
    refine R_s 1 (cond (if0 .ne (bI (inb y n))) 24 22, [(0, vR 7 9), (1, vI (nI a)), (2, vI y)], [], h) rfl ?_
    refine R_bp (inb y n = true) (x0_ne.trans bI_ne) (fun cb => ?_) (fun cb => ?_)
    · obtain ⟨b, hb, rfl⟩ := inb_ex (by omega) cb
      rw [show oPin ((s, n, p, k), kp, ch, len) (nI a) (nI b) = if pbo s a (nI b) n = true then (-2, ((s, n, p, k), kp, ch, len)) else (nI (pinc (upd s (10 + a) (nI b)) n), ed ((s, n, p, k), kp, ch, len) (upd s (10 + a) (nI b), n, p, k)) by unfold oPin; dsimp only; rw [sel1_t ha (by omega), sel1_t hb (by omega)]]
      refine R_s 3 (29, [(0, vR 7 9), (1, vI (nI a)), (2, vI (nI b))], [vI (nI b), vR 0 0], h) rfl ?_
      refine R_calli mC_songPinnedAt [vR 0 0, vI (nI b)] [] (spn s (nI b) n 0) h rfl (t_C_songPinnedAt C h8) ?_
      rcases spn_c (s := s) (y := nI b) n 0 with ⟨e1, e2⟩ | ⟨c, e1, e2, e3, e4⟩
      · rw [e1]
        rw [if_neg (by rw [pbo_f n (fun b9 q1 _ => e2 b9 (by omega) (by omega))]; decide)]
        show R _ mS_pin (32, [(0, vR 7 9), (1, vI (nI a)), (2, vI (nI b))], [vI (-1)], h) _
        refine R_s 4 (cond (if2 .eq (-1) (-1)) 46 38, [(3, vI (-1)), (0, vR 7 9), (1, vI (nI a)), (2, vI (nI b))], [], h) rfl ?_
        refine R_bt (by decide) ?_
        refine R_s 1 (47, [(3, vI (-1)), (0, vR 7 9), (1, vI (nI a)), (2, vI (nI b))], [vR 7 9], h) rfl ?_
        refine R_call mS_beginEdit [vR 7 9] [] rfl (t_S_beginEdit V I) (fun r h1 e1 => ?_)
        obtain ⟨rfl, I1, f1, k1⟩ := e1
        have C1 : CO h1 0 s n p k := I1.1
        show R _ mS_pin (50, [(3, vI (-1)), (0, vR 7 9), (1, vI (nI a)), (2, vI (nI b))], [], h1) _
        refine R_s 5 (59, [(3, vI (-1)), (0, vR 7 9), (1, vI (nI a)), (2, vI (nI b))], [vI (nI b), vI (nI a), vR 0 7], h1) rfl ?_
        refine R_st 0 7 a 8 (nI b) rfl rfl (by omega) (by decide) (fun h2 eh2 => ?_)
        have C2 : CO h2 0 (upd s (10 + a) (nI b)) n p k := by rw [eh2]; exact co_pin h8 h5 h6 (by omega) C1
        refine R_s 2 (64, [(3, vI (-1)), (0, vR 7 9), (1, vI (nI a)), (2, vI (nI b))], [vR 0 0], h2) rfl ?_
        refine R_calli mC_pinCount [vR 0 0] [] (nI (pinc (upd s (10 + a) (nI b)) n)) h2 rfl (t_C_pinCount C2 h8) ?_
        exact R_ret (some (vI (nI (pinc (upd s (10 + a) (nI b)) n)))) h2 rfl ⟨rfl, I1.mod f1 C2 (fun g' j' q => by rw [eh2, hs_ne (by omega)])⟩
      · rw [e3]
        show R _ mS_pin (32, [(0, vR 7 9), (1, vI (nI a)), (2, vI (nI b))], [vI (nI c)], h) _
        refine R_s 4 (cond (if2 .eq (nI c) (-1)) 46 38, [(3, vI (nI c)), (0, vR 7 9), (1, vI (nI a)), (2, vI (nI b))], [], h) rfl ?_
        refine R_bf (e2_m1 (by omega)) ?_
        refine R_s 3 (cond (if2 .eq (nI c) (nI a)) 46 43, [(3, vI (nI c)), (0, vR 7 9), (1, vI (nI a)), (2, vI (nI b))], [], h) rfl ?_
        refine R_bp (c = a) (i2_eq (by omega) (by omega)) (fun c1 => ?_) (fun c1 => ?_)
        · rw [if_neg (by rw [pbo_f n (fun b9 q1 q2 q3 => q2 (by rw [← c1]; exact U b9 c q1 (by omega) (by rw [q3, e4]) (by rw [q3]; exact nI_ne_m1 (by omega))))]; decide)]
          refine R_s 1 (47, [(3, vI (nI c)), (0, vR 7 9), (1, vI (nI a)), (2, vI (nI b))], [vR 7 9], h) rfl ?_
          refine R_call mS_beginEdit [vR 7 9] [] rfl (t_S_beginEdit V I) (fun r h1 e1 => ?_)
          obtain ⟨rfl, I1, f1, k1⟩ := e1
          have C1 : CO h1 0 s n p k := I1.1
          show R _ mS_pin (50, [(3, vI (nI c)), (0, vR 7 9), (1, vI (nI a)), (2, vI (nI b))], [], h1) _
          refine R_s 5 (59, [(3, vI (nI c)), (0, vR 7 9), (1, vI (nI a)), (2, vI (nI b))], [vI (nI b), vI (nI a), vR 0 7], h1) rfl ?_
          refine R_st 0 7 a 8 (nI b) rfl rfl (by omega) (by decide) (fun h2 eh2 => ?_)
          have C2 : CO h2 0 (upd s (10 + a) (nI b)) n p k := by rw [eh2]; exact co_pin h8 h5 h6 (by omega) C1
          refine R_s 2 (64, [(3, vI (nI c)), (0, vR 7 9), (1, vI (nI a)), (2, vI (nI b))], [vR 0 0], h2) rfl ?_
          refine R_calli mC_pinCount [vR 0 0] [] (nI (pinc (upd s (10 + a) (nI b)) n)) h2 rfl (t_C_pinCount C2 h8) ?_
          exact R_ret (some (vI (nI (pinc (upd s (10 + a) (nI b)) n)))) h2 rfl ⟨rfl, I1.mod f1 C2 (fun g' j' q => by rw [eh2, hs_ne (by omega)])⟩
        · rw [if_pos (pbo_t n (show c < n by omega) c1 e4)]
          refine R_s 1 (45, [(3, vI (nI c)), (0, vR 7 9), (1, vI (nI a)), (2, vI (nI b))], [vI (-2)], h) rfl ?_
          exact R_ret (some (vI (-2))) h rfl ⟨rfl, I⟩
    · have cb : inb y n = false := by cases q9 : inb y n with
        | false => rfl
        | true => exact absurd q9 cb
      refine R_s 1 (23, [(0, vR 7 9), (1, vI (nI a)), (2, vI y)], [vI (-1)], h) rfl ?_
      exact R_ret (some (vI (-1))) h rfl ⟨by unfold oPin; dsimp only; rw [sel1_t ha (by omega), sel1_f cb], by unfold oPin; dsimp only; rw [sel1_t ha (by omega), sel1_f cb]; exact I⟩
set_option maxRecDepth 100000 in
theorem t_S_unpin {d : Nat} {h : HP} {A : AS} {x : Int32} (V : VA A) (I : CI h A) : MT (d + 4) mS_unpin [vR 7 9, vI x] h (fun r h' => r = some (vI (oUnpin A x).1) ∧ CI h' (oUnpin A x).2) := by
  obtain ⟨⟨s, n, p, k⟩, kp, ch, len⟩ := A
  have C : CO h 0 s n p k := I.1
  have F : WF s n p k := V.1.1
  have O : WO s n := V.1.2.1.1
  have hn1 : 1 ≤ n := V.1.2.2.1
  have hp1 : 1 ≤ p := V.1.2.2.2.1
  have hk1 : 1 ≤ k := V.1.2.2.2.2
  have h8 : n ≤ 8 := F.2.1.1
  have h5 : p ≤ 5 := F.2.1.2.1
  have h6 : k ≤ 6 := F.2.1.2.2
  refine R_s 3 (5, [(0, vR 7 9), (1, vI x)], [vI x, vR 0 0], h) rfl ?_
  refine R_calli mC_isSong [vR 0 0, vI x] [] (bI (inb x n)) h rfl (t_C_isSong C.1.1 h8) ?_
  refine R_s 1 (cond (if0 .ne (bI (inb x n))) 13 11, [(0, vR 7 9), (1, vI x)], [], h) rfl ?_
  refine R_bp (inb x n = true) (x0_ne.trans bI_ne) (fun ca => ?_) (fun ca => ?_)
  · obtain ⟨a, ha, rfl⟩ := inb_ex (by omega) ca
    rw [show oUnpin ((s, n, p, k), kp, ch, len) (nI a) = if s (10 + a) = -1 then (-4, ((s, n, p, k), kp, ch, len)) else (s (10 + a), ed ((s, n, p, k), kp, ch, len) (upd s (10 + a) (-1), n, p, k)) by unfold oUnpin; dsimp only; rw [sel1_t ha (by omega)]]
    refine R_s 4 (21, [(0, vR 7 9), (1, vI (nI a))], [vI (nI a), vR 0 7], h) rfl ?_
    refine R_ld 0 7 a 8 rfl rfl (by omega) (by decide) ?_
    refine R_top (s (10 + a)) (C.2.2.2.2.2.2 a (by omega)).1 ?_
    refine R_s 4 (cond (if2 .ne (s (10 + a)) (-1)) 31 28, [(2, vI (s (10 + a))), (0, vR 7 9), (1, vI (nI a))], [], h) rfl ?_
    refine R_bp (¬ (s (10 + a)) = (-1)) x2_ne (fun c1 => ?_) (fun c1 => ?_)
    · rw [if_neg c1]
      refine R_s 1 (32, [(2, vI (s (10 + a))), (0, vR 7 9), (1, vI (nI a))], [vR 7 9], h) rfl ?_
      refine R_call mS_beginEdit [vR 7 9] [] rfl (t_S_beginEdit V I) (fun r h1 e1 => ?_)
      obtain ⟨rfl, I1, f1, k1⟩ := e1
      have C1 : CO h1 0 s n p k := I1.1
      show R _ mS_unpin (35, [(2, vI (s (10 + a))), (0, vR 7 9), (1, vI (nI a))], [], h1) _
      refine R_s 5 (44, [(2, vI (s (10 + a))), (0, vR 7 9), (1, vI (nI a))], [vI (-1), vI (nI a), vR 0 7], h1) rfl ?_
      refine R_st 0 7 a 8 (-1) rfl rfl (by omega) (by decide) (fun h2 eh2 => ?_)
      refine R_s 1 (46, [(2, vI (s (10 + a))), (0, vR 7 9), (1, vI (nI a))], [vI (s (10 + a))], h2) rfl ?_
      exact R_ret (some (vI (s (10 + a)))) h2 rfl ⟨rfl, I1.mod f1 (by rw [eh2]; exact co_pin h8 h5 h6 (by omega) C1) (fun g' j' q => by rw [eh2, hs_ne (by omega)])⟩
    · rw [if_pos (Classical.not_not.mp c1)]
      refine R_s 1 (30, [(2, vI (s (10 + a))), (0, vR 7 9), (1, vI (nI a))], [vI (-4)], h) rfl ?_
      exact R_ret (some (vI (-4))) h rfl ⟨rfl, I⟩
  · have ca : inb x n = false := by cases q9 : inb x n with
      | false => rfl
      | true => exact absurd q9 ca
    refine R_s 1 (12, [(0, vR 7 9), (1, vI x)], [vI (-1)], h) rfl ?_
    exact R_ret (some (vI (-1))) h rfl ⟨by unfold oUnpin; dsimp only; rw [sel1_f ca], by unfold oUnpin; dsimp only; rw [sel1_f ca]; exact I⟩
theorem sbt_ok : ∀ e, e < 256 → ∀ a, a < 8 → ∀ v, v < 2 → ((nI e &&& ((nI 1 <<< (nI a &&& 31)) ^^^ (-1))) ||| (nI v <<< (nI a &&& 31))) = nI (sbt e a v) := by decide +kernel
set_option maxRecDepth 100000 in
theorem t_S_setEncore {d : Nat} {h : HP} {A : AS} {x y : Int32} (V : VA A) (I : CI h A) : MT (d + 4) mS_setEncore [vR 7 9, vI x, vI y] h (fun r h' => r = some (vI (oEnc A x y).1) ∧ CI h' (oEnc A x y).2) := by
  obtain ⟨⟨s, n, p, k⟩, kp, ch, len⟩ := A
  have C : CO h 0 s n p k := I.1
  have F : WF s n p k := V.1.1
  have O : WO s n := V.1.2.1.1
  have hn1 : 1 ≤ n := V.1.2.2.1
  have hp1 : 1 ≤ p := V.1.2.2.2.1
  have hk1 : 1 ≤ k := V.1.2.2.2.2
  have h8 : n ≤ 8 := F.2.1.1
  have h5 : p ≤ 5 := F.2.1.2.1
  have h6 : k ≤ 6 := F.2.1.2.2
  obtain ⟨he, hen, he8⟩ := en_ok (z := (s, n, p, k)) F
  have he : s 9 = nI (en (s, n, p, k)) := he
  refine R_s 3 (5, [(0, vR 7 9), (1, vI x), (2, vI y)], [vI x, vR 0 0], h) rfl ?_
  refine R_calli mC_isSong [vR 0 0, vI x] [] (bI (inb x n)) h rfl (t_C_isSong C.1.1 h8) ?_
  refine R_s 1 (cond (if0 .eq (bI (inb x n))) 20 11, [(0, vR 7 9), (1, vI x), (2, vI y)], [], h) rfl ?_
  refine R_bp (inb x n = false) (x0_eq.trans bI_eq) (fun ca => ?_) (fun ca => ?_)
  · refine R_s 1 (21, [(0, vR 7 9), (1, vI x), (2, vI y)], [vI (-1)], h) rfl ?_
    exact R_ret (some (vI (-1))) h rfl ⟨by unfold oEnc; dsimp only; rw [sel1_f ca], by unfold oEnc; dsimp only; rw [sel1_f ca]; exact I⟩
  · obtain ⟨a, ha, rfl⟩ := inb_ex (by omega) (tf ca)
    cases hy : inb y 2 with
    | false =>
      rw [show oEnc ((s, n, p, k), kp, ch, len) (nI a) y = (-1, ((s, n, p, k), kp, ch, len)) by unfold oEnc; dsimp only; rw [sel1_t ha (by omega), sel1_f hy]]
      refine R_s 2 (cond (if0 .lt y) 20 15, [(0, vR 7 9), (1, vI (nI a)), (2, vI y)], [], h) rfl ?_
      refine R_bp (y < 0) x0_lt (fun c1 => ?_) (fun c1 => ?_)
      · refine R_s 1 (21, [(0, vR 7 9), (1, vI (nI a)), (2, vI y)], [vI (-1)], h) rfl ?_
        exact R_ret (some (vI (-1))) h rfl ⟨rfl, I⟩
      · refine R_s 3 (cond (if2 .le y (nI 1)) 22 20, [(0, vR 7 9), (1, vI (nI a)), (2, vI y)], [], h) rfl ?_
        refine R_bp (y ≤ (nI 1)) x2_le (fun c2 => ?_) (fun c2 => ?_)
        · rw [inb_of (a := 0) (m := 1) rfl (by decide) c1 c2 (by decide)] at hy
          cases hy
        · refine R_s 1 (21, [(0, vR 7 9), (1, vI (nI a)), (2, vI y)], [vI (-1)], h) rfl ?_
          exact R_ret (some (vI (-1))) h rfl ⟨rfl, I⟩
    | true =>
      obtain ⟨v, hv, rfl⟩ := inb_ex (by decide) hy
      rw [show oEnc ((s, n, p, k), kp, ch, len) (nI a) (nI v) = (nI (if (en (s, n, p, k)).testBit a then 1 else 0), ed ((s, n, p, k), kp, ch, len) (upd s 9 (nI (sbt (en (s, n, p, k)) a v)), n, p, k)) by unfold oEnc; dsimp only; rw [sel1_t ha (by omega), sel1_t hv (by omega)]]
      refine R_s 2 (cond (if0 .lt (nI v)) 20 15, [(0, vR 7 9), (1, vI (nI a)), (2, vI (nI v))], [], h) rfl ?_
      refine R_bf (by unfold if0; exact decide_eq_false (nI_pos (by omega))) ?_
      refine R_s 3 (cond (if2 .le (nI v) (nI 1)) 22 20, [(0, vR 7 9), (1, vI (nI a)), (2, vI (nI v))], [], h) rfl ?_
      refine R_bt ((i2_le (by omega) (by omega)).mpr (by omega)) ?_
      refine R_s 3 (27, [(0, vR 7 9), (1, vI (nI a)), (2, vI (nI v))], [vI (nI a), vR 0 0], h) rfl ?_
      refine R_calli mC_isEncore [vR 0 0, vI (nI a)] [] (bI ((en (s, n, p, k)).testBit a)) h rfl (t_C_isEncore (C.1.2.2.2.trans he) he8 (by omega)) ?_
      refine R_s 1 (cond (if0 .eq (bI ((en (s, n, p, k)).testBit a))) 37 33, [(0, vR 7 9), (1, vI (nI a)), (2, vI (nI v))], [], h) rfl ?_
      refine R_bp ((en (s, n, p, k)).testBit a = false) (x0_eq.trans bI_eq) (fun c1 => ?_) (fun c1 => ?_)
      · rw [c1]
        refine R_s 3 (40, [(3, vI (nI 0)), (0, vR 7 9), (1, vI (nI a)), (2, vI (nI v))], [vR 7 9], h) rfl ?_
        refine R_call mS_beginEdit [vR 7 9] [] rfl (t_S_beginEdit V I) (fun r h1 e1 => ?_)
        obtain ⟨rfl, I1, f1, k1⟩ := e1
        have C1 : CO h1 0 s n p k := I1.1
        show R _ mS_setEncore (43, [(3, vI (nI 0)), (0, vR 7 9), (1, vI (nI a)), (2, vI (nI v))], [], h1) _
        refine R_s 5 (54, [(3, vI (nI 0)), (0, vR 7 9), (1, vI (nI a)), (2, vI (nI v))], [vI (h1 0 0 3), vR 0 0], h1) rfl ?_
        refine R_top (nI (en (s, n, p, k))) (C1.1.2.2.2.trans he) ?_
        refine R_s 10 (64, [(3, vI (nI 0)), (0, vR 7 9), (1, vI (nI a)), (2, vI (nI v))], [vI (((nI (en (s, n, p, k))) &&& (((nI 1) <<< ((nI a) &&& 31)) ^^^ (-1))) ||| ((nI v) <<< ((nI a) &&& 31))), vR 0 0], h1) rfl ?_
        refine R_top (nI (sbt (en (s, n, p, k)) a v)) (sbt_ok _ he8 a (by omega) v hv) ?_
        refine R_s 1 (67, [(3, vI (nI 0)), (0, vR 7 9), (1, vI (nI a)), (2, vI (nI v))], [], (hset h1 0 0 3 (nI (sbt (en (s, n, p, k)) a v)))) rfl ?_
        refine R_hp (fun h2 eh2 => ?_)
        refine R_s 1 (68, [(3, vI (nI 0)), (0, vR 7 9), (1, vI (nI a)), (2, vI (nI v))], [vI (nI 0)], h2) rfl ?_
        exact R_ret (some (vI (nI 0))) h2 rfl ⟨rfl, I1.mod f1 (by rw [eh2]; exact co_enc h8 h5 h6 C1) (fun g' j' q => by rw [eh2, hs_ne (by omega)])⟩
      · rw [tf c1]
        refine R_s 4 (40, [(3, vI (nI 1)), (0, vR 7 9), (1, vI (nI a)), (2, vI (nI v))], [vR 7 9], h) rfl ?_
        refine R_call mS_beginEdit [vR 7 9] [] rfl (t_S_beginEdit V I) (fun r h1 e1 => ?_)
        obtain ⟨rfl, I1, f1, k1⟩ := e1
        have C1 : CO h1 0 s n p k := I1.1
        show R _ mS_setEncore (43, [(3, vI (nI 1)), (0, vR 7 9), (1, vI (nI a)), (2, vI (nI v))], [], h1) _
        refine R_s 5 (54, [(3, vI (nI 1)), (0, vR 7 9), (1, vI (nI a)), (2, vI (nI v))], [vI (h1 0 0 3), vR 0 0], h1) rfl ?_
        refine R_top (nI (en (s, n, p, k))) (C1.1.2.2.2.trans he) ?_
        refine R_s 10 (64, [(3, vI (nI 1)), (0, vR 7 9), (1, vI (nI a)), (2, vI (nI v))], [vI (((nI (en (s, n, p, k))) &&& (((nI 1) <<< ((nI a) &&& 31)) ^^^ (-1))) ||| ((nI v) <<< ((nI a) &&& 31))), vR 0 0], h1) rfl ?_
        refine R_top (nI (sbt (en (s, n, p, k)) a v)) (sbt_ok _ he8 a (by omega) v hv) ?_
        refine R_s 1 (67, [(3, vI (nI 1)), (0, vR 7 9), (1, vI (nI a)), (2, vI (nI v))], [], (hset h1 0 0 3 (nI (sbt (en (s, n, p, k)) a v)))) rfl ?_
        refine R_hp (fun h2 eh2 => ?_)
        refine R_s 1 (68, [(3, vI (nI 1)), (0, vR 7 9), (1, vI (nI a)), (2, vI (nI v))], [vI (nI 1)], h2) rfl ?_
        exact R_ret (some (vI (nI 1))) h2 rfl ⟨rfl, I1.mod f1 (by rw [eh2]; exact co_enc h8 h5 h6 C1) (fun g' j' q => by rw [eh2, hs_ne (by omega)])⟩
theorem mvo_congr {o o' : Nat → Int32} {f t j : Nat} (h : ∀ i, i < 8 → o i = o' i) (hf : f < 8) (ht : t < 8) (hj : j < 8) : mvo o f t j = mvo o' f t j := by
  unfold mvo
  split
  · exact h f hf
  · split
    · exact h _ (by omega)
    · split
      · exact h _ (by omega)
      · exact h j hj
set_option maxRecDepth 100000 in
theorem t_S_moveSong {d : Nat} {h : HP} {A : AS} {x y : Int32} (V : VA A) (I : CI h A) : MT (d + 4) mS_moveSong [vR 7 9, vI x, vI y] h (fun r h' => r = some (vI (oMove A x y).1) ∧ CI h' (oMove A x y).2) := by
  obtain ⟨⟨s, n, p, k⟩, kp, ch, len⟩ := A
  have C : CO h 0 s n p k := I.1
  have F : WF s n p k := V.1.1
  have O : WO s n := V.1.2.1.1
  have hn1 : 1 ≤ n := V.1.2.2.1
  have hp1 : 1 ≤ p := V.1.2.2.2.1
  have hk1 : 1 ≤ k := V.1.2.2.2.2
  have h8 : n ≤ 8 := F.2.1.1
  have h5 : p ≤ 5 := F.2.1.2.1
  have h6 : k ≤ 6 := F.2.1.2.2
  refine R_s 3 (5, [(0, vR 7 9), (1, vI x), (2, vI y)], [vI x, vR 0 0], h) rfl ?_
  refine R_calli mC_isSong [vR 0 0, vI x] [] (bI (inb x n)) h rfl (t_C_isSong C.1.1 h8) ?_
  refine R_s 1 (cond (if0 .eq (bI (inb x n))) 22 11, [(0, vR 7 9), (1, vI x), (2, vI y)], [], h) rfl ?_
  refine R_bp (inb x n = false) (x0_eq.trans bI_eq) (fun ca => ?_) (fun ca => ?_)
  · refine R_s 1 (23, [(0, vR 7 9), (1, vI x), (2, vI y)], [vI (-1)], h) rfl ?_
    exact R_ret (some (vI (-1))) h rfl ⟨by unfold oMove; dsimp only; rw [sel1_f ca], by unfold oMove; dsimp only; rw [sel1_f ca]; exact I⟩
  · obtain ⟨a, ha, rfl⟩ := inb_ex (by omega) (tf ca)
    refine R_s 3 (16, [(0, vR 7 9), (1, vI (nI a)), (2, vI y)], [vI y, vR 0 0], h) rfl ?_
    refine R_calli mC_isSong [vR 0 0, vI y] [] (bI (inb y n)) h rfl (t_C_isSong C.1.1 h8) ?_
    refine R_s 1 (cond (if0 .ne (bI (inb y n))) 24 22, [(0, vR 7 9), (1, vI (nI a)), (2, vI y)], [], h) rfl ?_
    refine R_bp (inb y n = true) (x0_ne.trans bI_ne) (fun cb => ?_) (fun cb => ?_)
    · obtain ⟨b, hb, rfl⟩ := inb_ex (by omega) cb
      rw [show oMove ((s, n, p, k), kp, ch, len) (nI a) (nI b) = (s (18 + a), ed ((s, n, p, k), kp, ch, len) (ord s (mvo (fun j => s (18 + j)) a b), n, p, k)) by unfold oMove; dsimp only; rw [sel1_t ha (by omega), sel1_t hb (by omega)]]
      refine R_s 1 (25, [(0, vR 7 9), (1, vI (nI a)), (2, vI (nI b))], [vR 7 9], h) rfl ?_
      refine R_call mS_beginEdit [vR 7 9] [] rfl (t_S_beginEdit V I) (fun r h1 e1 => ?_)
      obtain ⟨rfl, I1, f1, k1⟩ := e1
      have C1 : CO h1 0 s n p k := I1.1
      show R _ mS_moveSong (28, [(0, vR 7 9), (1, vI (nI a)), (2, vI (nI b))], [], h1) _
      refine R_s 4 (34, [(0, vR 7 9), (1, vI (nI a)), (2, vI (nI b))], [vI (nI b), vI (nI a), vR 0 0], h1) rfl ?_
      refine R_call mC_shiftOrder [vR 0 0, vI (nI a), vI (nI b)] [] rfl (t_C_shiftOrder (by omega) (by omega)) (fun r h2 e2 => ?_)
      obtain ⟨rfl, J⟩ := e2
      show R _ mS_moveSong (37, [(0, vR 7 9), (1, vI (nI a)), (2, vI (nI b))], [], h2) _
      have hmv : ∀ j, j < 8 → h2 0 8 j = mvo (fun j => s (18 + j)) a b j := fun j hj => by
        rw [← Nat.zero_add j, J.1 j hj, Nat.zero_add]
        exact mvo_congr (fun i hi => (C1.2.2.2.2.2.2 i hi).2) (by omega) (by omega) hj
      refine R_s 4 (45, [(0, vR 7 9), (1, vI (nI a)), (2, vI (nI b))], [vI (nI b), vR 0 8], h2) rfl ?_
      refine R_ld 0 8 b 8 rfl rfl (by omega) (by decide) ?_
      refine R_top (s (18 + a)) (by rw [hmv b (by omega), mv_oa]) ?_
      exact R_ret (some (vI (s (18 + a)))) h2 rfl ⟨rfl, I1.mod f1 (co_ord h8 h5 h6 C1 (fun j q => J.2.1 0 j (by omega)) hmv) (fun g' j' q => J.2.1 g' j' (by omega))⟩
    · have cb : inb y n = false := by cases q9 : inb y n with
        | false => rfl
        | true => exact absurd q9 cb
      refine R_s 1 (23, [(0, vR 7 9), (1, vI (nI a)), (2, vI y)], [vI (-1)], h) rfl ?_
      exact R_ret (some (vI (-1))) h rfl ⟨by unfold oMove; dsimp only; rw [sel1_t ha (by omega), sel1_f cb], by unfold oMove; dsimp only; rw [sel1_t ha (by omega), sel1_f cb]; exact I⟩
set_option maxRecDepth 100000 in
theorem t_S_beginEdit2 {d n9 : Nat} {h : HP} {A : AS} {W9 : Nat → Nat → Nat} {B9 : Nat → Nat → Bool} (V : VA A) (I : CI h A) (T9 : TF h n9 W9 B9) : MT (d + 3) mS_beginEdit [vR 7 9] h (fun r h' => r = none ∧ CI h' (ed A A.1) ∧ h' 7 9 5 = nI 0 ∧ (∀ j, h' 0 j = h 0 j) ∧ TF h' n9 W9 B9) := by
  obtain ⟨⟨s, n, p, k⟩, kp, ch, len⟩ := A
  have C : CO h 0 s n p k := I.1
  have F : WF s n p k := V.1.1
  have O : WO s n := V.1.2.1.1
  have hn1 : 1 ≤ n := V.1.2.2.1
  have hp1 : 1 ≤ p := V.1.2.2.2.1
  have hk1 : 1 ≤ k := V.1.2.2.2.2
  have h8 : n ≤ 8 := F.2.1.1
  have h5 : p ≤ 5 := F.2.1.2.1
  have h6 : k ≤ 6 := F.2.1.2.2
  obtain ⟨-, ⟨i, i1, i2, i3, i4⟩, T, -⟩ := id I
  have hkl : kp.length ≤ 5 := V.2.2
  refine R_s 4 (8, [(0, vR 7 9)], [vR 0 0, vR 7 13], h) rfl ?_
  refine R_call mH_keep [vR 7 13, vR 0 0] [] rfl (t_H_keep i2 i1 i3 hkl C h8 h5 h6) (fun r h1 e1 => ?_)
  obtain ⟨rfl, C1, F1, g1, g2⟩ := e1
  show R _ mS_beginEdit (11, [(0, vR 7 9)], [], h1) _
  refine R_s 3 (16, [(0, vR 7 9)], [], (hset h1 7 9 5 (nI 0))) rfl ?_
  refine R_hp (fun h2 eh2 => ?_)
  have e2 : ∀ g' j', ¬ (g' = 7 ∧ j' = 9) → h2 g' j' = h1 g' j' := fun g' j' q => by rw [eh2, hs_ne q]
  have h0 : ∀ j, h2 0 j = h 0 j := fun j => by rw [e2 0 j (by omega)]; exact F1 0 j (by omega) (by omega)
  refine R_ret none h2 rfl ⟨rfl, ⟨C.mv' h0, ⟨(i + 1) % 5, Nat.mod_lt _ (by decide), by rw [e2 7 13 (by omega)]; exact g1, by rw [e2 7 13 (by omega), g2]; show _ = nI (((s, n, p, k) :: kp).take 5).length; rw [take5_len hkl], fun j z hj => ?_⟩, ⟨by rw [e2 7 10 (by omega), F1 7 10 (by omega) (by omega)]; exact T.1, T.2.1, fun j hj => by rw [e2 7 11 (by omega), F1 7 11 (by omega) (by omega)]; exact T.2.2 j hj⟩, Or.inl (by rw [eh2, hs_same, up_same])⟩, by rw [eh2, hs_same, up_same], h0, T9.mv (fun j a b => by rw [e2 7 j (by omega)]; exact F1 7 j (by omega) (by omega))⟩
  obtain ⟨hj5, ⟨rfl, rfl⟩ | ⟨j', rfl, hj'⟩⟩ := take5 hj
  · rw [mod5a i i1]; exact co_frame C1 (fun c => e2 _ c (by omega))
  · obtain ⟨m1, m2⟩ := mod5b i i1 j' (by omega)
    rw [m1]
    exact (i4 j' z hj').mv (fun c => by rw [e2 _ c (by omega)]; exact F1 _ c (by omega) (by omega))
set_option maxRecDepth 100000 in
theorem t_S_adoptBest {d : Nat} {h : HP} {A : AS} (V : VA A) (I : CI h A) : MT (d + 6) mS_adoptBest [vR 7 9] h (fun r h' => r = some (vI (oAdopt A).1) ∧ CI h' (oAdopt A).2) := by
  obtain ⟨⟨s, n, p, k⟩, kp, ch, len⟩ := A
  have C : CO h 0 s n p k := I.1
  have F : WF s n p k := V.1.1
  have O : WO s n := V.1.2.1.1
  have hn1 : 1 ≤ n := V.1.2.2.1
  have hp1 : 1 ≤ p := V.1.2.2.2.1
  have hk1 : 1 ≤ k := V.1.2.2.2.2
  have h8 : n ≤ 8 := F.2.1.1
  have h5 : p ≤ 5 := F.2.1.2.1
  have h6 : k ≤ 6 := F.2.1.2.2
  refine R_s 1 (1, [(0, vR 7 9)], [vR 7 9], h) rfl ?_
  refine R_call mS_presentTable [vR 7 9] [] rfl (t_S_presentTable V I) (fun r h0 e0 => ?_)
  obtain ⟨rfl, I0, T0⟩ := e0
  clear I
  have I := I0
  show R _ mS_adoptBest (4, [(0, vR 7 9)], [vR 7 15], h0) _
  refine R_calli mO_leastCost [vR 7 15] [] (enc (zG (s, n, p, k)).1) h0 rfl (t_O_leastCost T0) ?_
  cases hg : (zG (s, n, p, k)).1 with
  | none =>
    rw [show oAdopt ((s, n, p, k), kp, ch, len) = (-4, ((s, n, p, k), kp, ch, len)) by unfold oAdopt; dsimp only; rw [hg]]
    refine R_s 4 (cond (if2 .ne (enc none) (-1)) 16 13, [(1, vI (enc none)), (0, vR 7 9)], [], h0) rfl ?_
    refine R_bf (by decide) ?_
    refine R_s 1 (15, [(1, vI (enc none)), (0, vR 7 9)], [vI (-4)], h0) rfl ?_
    exact R_ret (some (vI (-4))) h0 rfl ⟨rfl, I⟩
  | some c =>
    have hc280 : c ≤ 280 := GT_le h8 (Wc_le F) hg
    rw [show oAdopt ((s, n, p, k), kp, ch, len) = (nI c, ed ((s, n, p, k), kp, ch, len) (ord s (fun j => if j < n then enc (zS (s, n, p, k) j) else s (18 + j)), n, p, k)) by unfold oAdopt; dsimp only; rw [hg]]
    refine R_top (nI c) rfl ?_
    refine R_s 4 (cond (if2 .ne (nI c) (-1)) 16 13, [(1, vI (nI c)), (0, vR 7 9)], [], h0) rfl ?_
    refine R_bt (by unfold if2; exact decide_eq_true (nI_ne_m1 (by omega))) ?_
    refine R_s 1 (17, [(1, vI (nI c)), (0, vR 7 9)], [vR 7 9], h0) rfl ?_
    refine R_call mS_beginEdit [vR 7 9] [] rfl (t_S_beginEdit2 V I T0) (fun r h1 e1 => ?_)
    obtain ⟨rfl, I1, f1, k1, T1⟩ := e1
    have C1 : CO h1 0 s n p k := I1.1
    show R _ mS_adoptBest (20, [(1, vI (nI c)), (0, vR 7 9)], [], h1) _
    refine R_s 5 (31, [(1, vI (nI c)), (0, vR 7 9)], [vR 0 8, vR 7 15], h1) rfl ?_
    refine R_call mO_copyBestOrder [vR 7 15, vR 0 8] [] rfl (t_O_copyBestOrder T1 (Wc_le F) h8) (fun r h2 e2 => ?_)
    obtain ⟨rfl, J1, J2, J3⟩ := e2
    show R _ mS_adoptBest (34, [(1, vI (nI c)), (0, vR 7 9)], [], h2) _
    refine R_s 1 (35, [(1, vI (nI c)), (0, vR 7 9)], [vI (nI c)], h2) rfl ?_
    refine R_ret (some (vI (nI c))) h2 rfl ⟨rfl, I1.mod f1 (co_ord (o := fun j => if j < n then enc (zS (s, n, p, k) j) else s (18 + j)) h8 h5 h6 C1 (fun j q => J3 0 j (by omega)) (fun j hj => ?_)) (fun g' j' q => J3 g' j' (by omega))⟩
    by_cases q : j < n
    · rw [if_pos q]; exact J1 j q
    · rw [if_neg q, J2 j (show n ≤ j by omega)]; exact (C1.2.2.2.2.2.2 j hj).2
end
section
/-- all kinds have at most five units -/
def WK (z : ST) : Prop := ∀ c, c < z.2.2.2 → ∀ u, z.1 (33 + c) = nI u → u < 2147483648 → u ≤ 5
/-- behind another table: nothing but the draft and the table's cells has changed -/
theorem CI.sav {h h' : HP} {A : AS} (I : CI h A) (e : ∀ g' j', ¬ g' = 1 → ¬ (g' = 7 ∧ j' = 9) → ¬ (g' = 7 ∧ 15 ≤ j' ∧ j' ≤ 19) → h' g' j' = h g' j') (f : h' 7 9 5 = nI 0) : CI h' A := by
  obtain ⟨C, ⟨i, i1, i2, i3, i4⟩, X, -⟩ := I
  exact ⟨C.mv (fun j => e 0 j (by omega) (by omega) (by omega)), ⟨i, i1, by rw [e 7 13 (by omega) (by omega) (by omega)]; exact i2, by rw [e 7 13 (by omega) (by omega) (by omega)]; exact i3, fun j z hj => (i4 j z hj).mv (fun c => e _ c (by omega) (by omega) (by omega))⟩, ⟨by rw [e 7 10 (by omega) (by omega) (by omega)]; exact X.1, X.2.1, fun j hj => by rw [e 7 11 (by omega) (by omega) (by omega)]; exact X.2.2 j hj⟩, Or.inl f⟩
theorem wf_more' {s : Nat → Int32} {n p k c : Nat} (F : WF s n p k) (K : WK (s, n, p, k)) (hc : c < k) : WF (upd s (33 + c) (s (33 + c) + 1)) n p k := by
  obtain ⟨u, hu, hu6⟩ := F.2.2.2.2.1 c hc
  have hu5 : u ≤ 5 := K c hc u hu (by omega)
  rw [hu, nI_1]
  refine wf_unit F hc (by omega) (fun a ha => ?_)
  have h1 := F.2.2.2.2.2.2 a ha c hc
  have h2 := cn_le s a (nI c) p
  have := F.2.1.2.1
  rw [hu] at h1
  have h3 := (nI_leI (by omega) (by omega)).mp h1
  omega
set_option maxRecDepth 100000 in
theorem t_S_savingByUnit {d : Nat} {h : HP} {A : AS} {x : Int32} (V : VA A) (K : WK A.1) (I : CI h A) : MT (d + 6) mS_savingByUnit [vR 7 9, vI x] h (fun r h' => r = some (vI (oSave A x)) ∧ CI h' A) := by
  obtain ⟨⟨s, n, p, k⟩, kp, ch, len⟩ := A
  have C : CO h 0 s n p k := I.1
  have F : WF s n p k := V.1.1
  have O : WO s n := V.1.2.1.1
  have hn1 : 1 ≤ n := V.1.2.2.1
  have hp1 : 1 ≤ p := V.1.2.2.2.1
  have hk1 : 1 ≤ k := V.1.2.2.2.2
  have h8 : n ≤ 8 := F.2.1.1
  have h5 : p ≤ 5 := F.2.1.2.1
  have h6 : k ≤ 6 := F.2.1.2.2
  obtain ⟨he, hen, he8⟩ := en_ok (z := (s, n, p, k)) F
  refine R_s 3 (5, [(0, vR 7 9), (1, vI x)], [vI x, vR 0 0], h) rfl ?_
  refine R_calli mC_isKind [vR 0 0, vI x] [] (bI (inb x k)) h rfl (t_C_isKind C.1.2.2.1 (by omega)) ?_
  refine R_s 1 (cond (if0 .ne (bI (inb x k))) 13 11, [(0, vR 7 9), (1, vI x)], [], h) rfl ?_
  refine R_bp (inb x k = true) (x0_ne.trans bI_ne) (fun ca => ?_) (fun ca => ?_)
  · obtain ⟨a, ha, rfl⟩ := inb_ex (by omega) ca
    obtain ⟨u, hu, hu6⟩ := F.2.2.2.2.1 a ha
    have hu5 : u ≤ 5 := K a ha u hu (by omega)
    refine R_s 1 (14, [(0, vR 7 9), (1, vI (nI a))], [vR 7 9], h) rfl ?_
    refine R_call mS_presentTable [vR 7 9] [] rfl (t_S_presentTable V I) (fun r h1 e1 => ?_)
    obtain ⟨rfl, I1, T1⟩ := e1
    show R _ mS_savingByUnit (17, [(0, vR 7 9), (1, vI (nI a))], [vR 7 15], h1) _
    refine R_calli mO_leastCost [vR 7 15] [] (enc (zG (s, n, p, k)).1) h1 rfl (t_O_leastCost T1) ?_
    cases hg : (zG (s, n, p, k)).1 with
    | none =>
      refine R_s 4 (cond (if2 .ne (enc none) (-1)) 29 26, [(2, vI (enc none)), (0, vR 7 9), (1, vI (nI a))], [], h1) rfl ?_
      refine R_bf (by decide) ?_
      refine R_s 1 (28, [(2, vI (enc none)), (0, vR 7 9), (1, vI (nI a))], [vI (-4)], h1) rfl ?_
      exact R_ret (some (vI (-4))) h1 rfl ⟨by unfold oSave; dsimp only; rw [sel1_t ha (by omega), hg], I1⟩
    | some v =>
      have hv280 : v ≤ 280 := GT_le h8 (Wc_le F) hg
      refine R_top (nI v) rfl ?_
      refine R_s 4 (cond (if2 .ne (nI v) (-1)) 29 26, [(2, vI (nI v)), (0, vR 7 9), (1, vI (nI a))], [], h1) rfl ?_
      refine R_bt (by unfold if2; exact decide_eq_true (nI_ne_m1 (by omega))) ?_
      have C1 : CO h1 0 s n p k := I1.1
      refine R_s 4 (37, [(2, vI (nI v)), (0, vR 7 9), (1, vI (nI a))], [vR 0 0, vR 1 0], h1) rfl ?_
      refine R_call mC_copyFrom [vR 1 0, vR 0 0] [] rfl (t_C_copyFrom (g := 1) (g2 := 0) (by omega) C1 h8 h5 h6) (fun r h2 e2 => ?_)
      obtain ⟨rfl, C2, F2⟩ := e2
      show R _ mS_savingByUnit (40, [(2, vI (nI v)), (0, vR 7 9), (1, vI (nI a))], [], h2) _
      refine R_s 5 (49, [(2, vI (nI v)), (0, vR 7 9), (1, vI (nI a))], [vI (nI a), vR 1 3, vI (nI a), vR 1 3], h2) rfl ?_
      refine R_ld 1 3 a 6 rfl rfl (by omega) (by decide) ?_
      refine R_top (nI u) ((C2.2.2.2.1 a ha).1.trans hu) ?_
      refine R_s 1 (51, [(2, vI (nI v)), (0, vR 7 9), (1, vI (nI a))], [vI (nI 1), vI (nI u), vI (nI a), vR 1 3], h2) rfl ?_
      refine R_add u 1 rfl ?_
      refine R_st 1 3 a 6 (nI (u + 1)) rfl rfl (by omega) (by decide) (fun h3 eh3 => ?_)
      refine R_s 3 (58, [(2, vI (nI v)), (0, vR 7 9), (1, vI (nI a))], [], (hset h3 7 9 5 (nI 0))) rfl ?_
      refine R_hp (fun h4 eh4 => ?_)
      have F3 : WF (upd s (33 + a) (nI (u + 1))) n p k := by have := wf_more' F K ha; rw [hu, nI_1] at this; exact this
      have C4 : CO h4 1 (upd s (33 + a) (nI (u + 1))) n p k := by
        have q : CO h3 1 (upd s (33 + a) (nI (u + 1))) n p k := by rw [eh3]; exact co_unit h8 h5 h6 (by omega) C2
        exact co_frame q (fun j => by rw [eh4, hs_ne (by omega)])
      have hzm : zm (s, n, p, k) a = (upd s (33 + a) (nI (u + 1)), n, p, k) := by unfold zm; dsimp only; rw [hu, nI_1]
      obtain ⟨he3, hen3, he38⟩ := en_ok (z := (upd s (33 + a) (nI (u + 1)), n, p, k)) F3
      refine R_s 4 (66, [(2, vI (nI v)), (0, vR 7 9), (1, vI (nI a))], [vR 1 0, vR 7 15], h4) rfl ?_
      refine R_call mO_load [vR 7 15, vR 1 0] [] rfl (t_O_load (show ¬ 1 = 7 by omega) C4 F3 he3 hen3) (fun r h5 e5 => ?_)
      obtain ⟨rfl, T5, F5⟩ := e5
      show R _ mS_savingByUnit (69, [(2, vI (nI v)), (0, vR 7 9), (1, vI (nI a))], [], h5) _
      refine R_s 2 (73, [(2, vI (nI v)), (0, vR 7 9), (1, vI (nI a))], [vR 7 15], h5) rfl ?_
      refine R_call mO_solve [vR 7 15] [] rfl (t_O_solve T5 (Wc_le F3) hn1 h8) (fun r h6 e6 => ?_)
      obtain ⟨rfl, T6, F6⟩ := e6
      show R _ mS_savingByUnit (76, [(2, vI (nI v)), (0, vR 7 9), (1, vI (nI a))], [], h6) _
      refine R_s 3 (81, [(2, vI (nI v)), (0, vR 7 9), (1, vI (nI a))], [vR 7 15, vI (nI v)], h6) rfl ?_
      refine R_calli mO_leastCost [vR 7 15] [vI (nI v)] (enc (zG (upd s (33 + a) (nI (u + 1)), n, p, k)).1) h6 rfl (t_O_leastCost T6) ?_
      refine R_s 1 (85, [(2, vI (nI v)), (0, vR 7 9), (1, vI (nI a))], [vI ((nI v) - (enc (zG (upd s (33 + a) (nI (u + 1)), n, p, k)).1))], h6) rfl ?_
      exact R_ret (some (vI ((nI v) - (enc (zG (upd s (33 + a) (nI (u + 1)), n, p, k)).1)))) h6 rfl ⟨by unfold oSave; dsimp only; rw [sel1_t ha (by omega), hg, hzm], I1.sav (fun g' j' q1 q2 q3 => by rw [F6 g' j' (by omega), F5 g' j' (by omega), eh4, hs_ne (by omega), eh3, hs_ne (by omega)]; exact F2 g' j' q1) (by rw [F6 7 9 (by omega), F5 7 9 (by omega), eh4, hs_same, up_same])⟩
  · have ca : inb x k = false := by cases q9 : inb x k with
      | false => rfl
      | true => exact absurd q9 ca
    refine R_s 1 (12, [(0, vR 7 9), (1, vI x)], [vI (-1)], h) rfl ?_
    exact R_ret (some (vI (-1))) h rfl ⟨by unfold oSave; dsimp only; rw [sel1_f ca], I⟩
theorem msk_ok {S e : Nat} (hS : S < 256) (he : e < 256) : (nI S &&& (nI e ^^^ (-1))) = 0 ↔ S &&& e = S := by
  have h : ∀ S, S < 256 → ∀ e, e < 256 → ((nI S &&& (nI e ^^^ (-1))) = 0 ↔ S &&& e = S) := by decide +kernel
  exact h S hS e he
theorem ewi_lt {z : ST} {t : Int32} : ∀ S, (ewi z t S).1 < S ∨ (ewi z t S).1 = 0 := by
  intro S
  induction S with
  | zero => exact Or.inr rfl
  | succ S ih =>
    cases S with
    | zero => exact Or.inr rfl
    | succ S =>
      unfold ewi
      split
      · left; show S + 1 < S + 2; omega
      · rcases ih with h | h
        · left; omega
        · right; exact h
theorem i2_gb {a b : Nat} (ha : a < 2147483648) (hb : b < 2147483648) : True := trivial
set_option maxRecDepth 100000 in
theorem t_S_encoresWithin {d : Nat} {h : HP} {A : AS} {x : Int32} (V : VA A) (I : CI h A) : MT (d + 1) mS_encoresWithin [vR 7 9, vI x] h (fun r h' => r = some (vI (oWithin A x)) ∧ CI h' A) := by
  obtain ⟨⟨s, n, p, k⟩, kp, ch, len⟩ := A
  have C : CO h 0 s n p k := I.1
  have F : WF s n p k := V.1.1
  have O : WO s n := V.1.2.1.1
  have hn1 : 1 ≤ n := V.1.2.2.1
  have hp1 : 1 ≤ p := V.1.2.2.2.1
  have hk1 : 1 ≤ k := V.1.2.2.2.2
  have h8 : n ≤ 8 := F.2.1.1
  have h5 : p ≤ 5 := F.2.1.2.1
  have h6 : k ≤ 6 := F.2.1.2.2
  obtain ⟨he, hen, he8⟩ := en_ok (z := (s, n, p, k)) F
  have he : s 9 = nI (en (s, n, p, k)) := he
  have hp256 := pw_le h8
  cases hx : inb x 161 with
  | false =>
    rw [show oWithin ((s, n, p, k), kp, ch, len) x = -1 from sel1_f hx]
    refine R_s 2 (cond (if0 .lt x) 11 4, [(0, vR 7 9), (1, vI x)], [], h) rfl ?_
    refine R_bp (x < 0) x0_lt (fun c1 => ?_) (fun c1 => ?_)
    · refine R_s 1 (12, [(0, vR 7 9), (1, vI x)], [vI (-1)], h) rfl ?_
      exact R_ret (some (vI (-1))) h rfl ⟨rfl, I⟩
    · refine R_s 3 (cond (if2 .le x (nI 160)) 13 11, [(0, vR 7 9), (1, vI x)], [], h) rfl ?_
      refine R_bp (x ≤ (nI 160)) x2_le (fun c2 => ?_) (fun c2 => ?_)
      · rw [inb_of (a := 0) (m := 160) rfl (by decide) c1 c2 (by decide)] at hx
        cases hx
      · refine R_s 1 (12, [(0, vR 7 9), (1, vI x)], [vI (-1)], h) rfl ?_
        exact R_ret (some (vI (-1))) h rfl ⟨rfl, I⟩
  | true =>
    have hxx : oWithin ((s, n, p, k), kp, ch, len) x = nI (ewi (s, n, p, k) x (2 ^ n)).1 := by unfold oWithin sel1; rw [hx]; rfl
    rw [hxx]
    have c0 : ¬ x < 0 := fun q => by rw [inb_lo q] at hx; cases hx
    have c160 : x ≤ nI 160 := by
      obtain ⟨t, ht, rfl⟩ := inb_ex (by decide) hx
      exact nI_le (by omega) (by decide)
    refine R_s 2 (cond (if0 .lt x) 11 4, [(0, vR 7 9), (1, vI x)], [], h) rfl ?_
    refine R_bf (by unfold if0; exact decide_eq_false c0) ?_
    refine R_s 3 (cond (if2 .le x (nI 160)) 13 11, [(0, vR 7 9), (1, vI x)], [], h) rfl ?_
    refine R_bt (by unfold if2; exact decide_eq_true c160) ?_
    refine R_s 6 (20, [(4, vI (nI 1)), (3, vI (nI 0)), (2, vI (nI 0)), (0, vR 7 9), (1, vI x)], [], h) rfl ?_
    suffices ∀ m S b m9, S + m = 2 ^ n → 1 ≤ S → ewi (s, n, p, k) x S = (b, m9) → R (d + 1) mS_encoresWithin (20, [(4, vI (nI S)), (3, vI m9), (2, vI (nI b)), (0, vR 7 9), (1, vI x)], [], h) (fun r h' => r = some (vI (nI (ewi (s, n, p, k) x (2 ^ n)).1)) ∧ CI h' ((s, n, p, k), kp, ch, len)) from this (2 ^ n - 1) 1 0 (nI 0) (by have := Nat.pow_pos (n := n) (show 0 < 2 by decide); omega) (by omega) rfl
    intro m
    induction m with
    | zero =>
      intro S b m9 hm hS1 hE
      refine R_s 5 (30, [(4, vI (nI S)), (3, vI m9), (2, vI (nI b)), (0, vR 7 9), (1, vI x)], [vI (h 0 0 0), vI (nI 1), vI (nI S)], h) rfl ?_
      refine R_top (nI n) C.1.1 ?_
      refine R_s 1 (31, [(4, vI (nI S)), (3, vI m9), (2, vI (nI b)), (0, vR 7 9), (1, vI x)], [vI ((nI 1) <<< ((nI n) &&& 31)), vI (nI S)], h) rfl ?_
      refine R_top (nI (2 ^ n)) (bit_all n (by omega)) ?_
      refine R_s 1 (cond (if2 .ge (nI S) (nI (2 ^ n))) 114 34, [(4, vI (nI S)), (3, vI m9), (2, vI (nI b)), (0, vR 7 9), (1, vI x)], [], h) rfl ?_
      refine R_bp ((2 ^ n) ≤ S) (i2_ge (by omega) (by omega)) (fun c1 => ?_) (fun c1 => ?_)
      · refine R_s 1 (115, [(4, vI (nI S)), (3, vI m9), (2, vI (nI b)), (0, vR 7 9), (1, vI x)], [vI (nI b)], h) rfl ?_
        exact R_ret (some (vI (nI b))) h rfl ⟨by rw [show 2 ^ n = S by omega, hE], I⟩
      · exact absurd hm (by omega)
    | succ m ih =>
      intro S b m9 hm hS1 hE
      refine R_s 5 (30, [(4, vI (nI S)), (3, vI m9), (2, vI (nI b)), (0, vR 7 9), (1, vI x)], [vI (h 0 0 0), vI (nI 1), vI (nI S)], h) rfl ?_
      refine R_top (nI n) C.1.1 ?_
      refine R_s 1 (31, [(4, vI (nI S)), (3, vI m9), (2, vI (nI b)), (0, vR 7 9), (1, vI x)], [vI ((nI 1) <<< ((nI n) &&& 31)), vI (nI S)], h) rfl ?_
      refine R_top (nI (2 ^ n)) (bit_all n (by omega)) ?_
      refine R_s 1 (cond (if2 .ge (nI S) (nI (2 ^ n))) 114 34, [(4, vI (nI S)), (3, vI m9), (2, vI (nI b)), (0, vR 7 9), (1, vI x)], [], h) rfl ?_
      refine R_bp ((2 ^ n) ≤ S) (i2_ge (by omega) (by omega)) (fun c1 => ?_) (fun c1 => ?_)
      · refine R_s 1 (115, [(4, vI (nI S)), (3, vI m9), (2, vI (nI b)), (0, vR 7 9), (1, vI x)], [vI (nI b)], h) rfl ?_
        exact R_ret (some (vI (nI b))) h rfl ⟨by rw [show 2 ^ n = S by omega, hE], I⟩
      · have hS8 : S < 256 := by omega
        have hb8 : b < 256 := by
          rcases ewi_lt (z := (s, n, p, k)) (t := x) S with q | q <;> (rw [hE] at q; dsimp only at q; omega)
        have hst : ewi (s, n, p, k) x (S + 1) = if (S &&& en (s, n, p, k) = S) ∧ ptm s S n ≤ x ∧ (m9 < ptm s S n ∨ (ptm s S n = m9 ∧ pop b < pop S)) then (S, ptm s S n) else (b, m9) := by
          obtain ⟨S, rfl⟩ : ∃ y, S = y + 1 := ⟨S - 1, by omega⟩
          rw [ewi, hE]
        have hpS := pop_le S
        have hpb := pop_le b
        refine R_s 4 (43, [(4, vI (nI S)), (3, vI m9), (2, vI (nI b)), (0, vR 7 9), (1, vI x)], [vI (h 0 0 3), vI (nI S)], h) rfl ?_
        refine R_top (nI (en (s, n, p, k))) (C.1.2.2.2.trans he) ?_
        refine R_s 4 (cond (if0 .ne ((nI S) &&& ((nI (en (s, n, p, k))) ^^^ (-1)))) 108 49, [(4, vI (nI S)), (3, vI m9), (2, vI (nI b)), (0, vR 7 9), (1, vI x)], [], h) rfl ?_
        refine R_bp (¬ (nI S &&& (nI (en (s, n, p, k)) ^^^ (-1))) = 0) x0_ne (fun c2 => ?_) (fun c2 => ?_)
        · refine R_s 1 (111, [(4, vI (nI S + Int32.ofInt 1)), (3, vI m9), (2, vI (nI b)), (0, vR 7 9), (1, vI x)], [], h) rfl ?_
          refine R_lv (lv' := [(4, vI (nI (S + 1))), (3, vI m9), (2, vI (nI b)), (0, vR 7 9), (1, vI x)]) (by rw [show nI S + Int32.ofInt 1 = nI (S + 1) from nI_add _ _]) ?_
          refine R_s 1 (20, [(4, vI (nI (S + 1))), (3, vI m9), (2, vI (nI b)), (0, vR 7 9), (1, vI x)], [], h) rfl ?_
          exact ih (S + 1) b m9 (by omega) (by omega) (by rw [hst, if_neg (fun q => c2 ((msk_ok hS8 he8).mpr q.1))])
        · have c2 := (msk_ok hS8 he8).mp (Classical.not_not.mp c2)
          refine R_s 3 (55, [(4, vI (nI S)), (3, vI m9), (2, vI (nI b)), (0, vR 7 9), (1, vI x)], [vI (nI S), vR 0 0], h) rfl ?_
          refine R_calli mC_playingTime [vR 0 0, vI (nI S)] [] (ptm s S n) h rfl (t_C_playingTime C h8 hS8) ?_
          refine R_s 2 (62, [(5, vI (ptm s S n)), (4, vI (nI S)), (3, vI m9), (2, vI (nI b)), (0, vR 7 9), (1, vI x)], [vI (nI S)], h) rfl ?_
          refine R_calli mI_bitCount [vI (nI S)] [] (nI (pop S)) h rfl (t_I_bitCount hS8) ?_
          refine R_s 1 (66, [(5, vI (ptm s S n)), (4, vI (nI S)), (3, vI m9), (2, vI (nI b)), (0, vR 7 9), (1, vI x)], [vI (nI b), vI (nI (pop S))], h) rfl ?_
          refine R_calli mI_bitCount [vI (nI b)] [vI (nI (pop S))] (nI (pop b)) h rfl (t_I_bitCount hb8) ?_
          refine R_s 1 (cond (if2 .le (nI (pop S)) (nI (pop b))) 76 72, [(5, vI (ptm s S n)), (4, vI (nI S)), (3, vI m9), (2, vI (nI b)), (0, vR 7 9), (1, vI x)], [], h) rfl ?_
          refine R_bp ((pop S) ≤ (pop b)) (i2_le (by omega) (by omega)) (fun c3 => ?_) (fun c3 => ?_)
          · refine R_s 5 (cond (if2 .gt (ptm s S n) x) 108 85, [(6, vI (nI 0)), (5, vI (ptm s S n)), (4, vI (nI S)), (3, vI m9), (2, vI (nI b)), (0, vR 7 9), (1, vI x)], [], h) rfl ?_
            refine R_bp (x < (ptm s S n)) x2_gt (fun c4 => ?_) (fun c4 => ?_)
            · refine R_s 1 (111, [(4, vI (nI S + Int32.ofInt 1)), (6, vI (nI 0)), (5, vI (ptm s S n)), (3, vI m9), (2, vI (nI b)), (0, vR 7 9), (1, vI x)], [], h) rfl ?_
              refine R_lv (lv' := [(4, vI (nI (S + 1))), (6, vI (nI 0)), (5, vI (ptm s S n)), (3, vI m9), (2, vI (nI b)), (0, vR 7 9), (1, vI x)]) (by rw [show nI S + Int32.ofInt 1 = nI (S + 1) from nI_add _ _]) ?_
              refine R_s 1 (20, [(4, vI (nI (S + 1))), (6, vI (nI 0)), (5, vI (ptm s S n)), (3, vI m9), (2, vI (nI b)), (0, vR 7 9), (1, vI x)], [], h) rfl ?_
              refine R_fg (lv' := [(4, vI (nI (S + 1))), (3, vI m9), (2, vI (nI b)), (0, vR 7 9), (1, vI x)]) [0, 3, 4, 5, 6] rfl [4, 6, 5, 3, 2, 0, 1] rfl (by decide) ?_
              exact ih (S + 1) b m9 (by omega) (by omega) (by rw [hst, if_neg (fun q => absurd q.2.1 (Int32.not_le.mpr c4))])
            · have c4 : ptm s S n ≤ x := Int32.not_lt.mp c4
              refine R_s 3 (cond (if2 .gt (ptm s S n) m9) 102 91, [(6, vI (nI 0)), (5, vI (ptm s S n)), (4, vI (nI S)), (3, vI m9), (2, vI (nI b)), (0, vR 7 9), (1, vI x)], [], h) rfl ?_
              refine R_bp (m9 < (ptm s S n)) x2_gt (fun c5 => ?_) (fun c5 => ?_)
              · refine R_s 5 (111, [(4, vI (nI S + Int32.ofInt 1)), (3, vI (ptm s S n)), (2, vI (nI S)), (6, vI (nI 0)), (5, vI (ptm s S n)), (0, vR 7 9), (1, vI x)], [], h) rfl ?_
                refine R_lv (lv' := [(4, vI (nI (S + 1))), (3, vI (ptm s S n)), (2, vI (nI S)), (6, vI (nI 0)), (5, vI (ptm s S n)), (0, vR 7 9), (1, vI x)]) (by rw [show nI S + Int32.ofInt 1 = nI (S + 1) from nI_add _ _]) ?_
                refine R_s 1 (20, [(4, vI (nI (S + 1))), (3, vI (ptm s S n)), (2, vI (nI S)), (6, vI (nI 0)), (5, vI (ptm s S n)), (0, vR 7 9), (1, vI x)], [], h) rfl ?_
                refine R_fg (lv' := [(4, vI (nI (S + 1))), (3, vI (ptm s S n)), (2, vI (nI S)), (0, vR 7 9), (1, vI x)]) [0, 1, 2, 5, 6] rfl [4, 3, 2, 6, 5, 0, 1] rfl (by decide) ?_
                exact ih (S + 1) S (ptm s S n) (by omega) (by omega) (by rw [hst, if_pos ⟨c2, c4, Or.inl c5⟩])
              · refine R_s 3 (cond (if2 .ne (ptm s S n) m9) 108 97, [(6, vI (nI 0)), (5, vI (ptm s S n)), (4, vI (nI S)), (3, vI m9), (2, vI (nI b)), (0, vR 7 9), (1, vI x)], [], h) rfl ?_
                refine R_bp (¬ (ptm s S n) = m9) x2_ne (fun c6 => ?_) (fun c6 => ?_)
                · refine R_s 1 (111, [(4, vI (nI S + Int32.ofInt 1)), (6, vI (nI 0)), (5, vI (ptm s S n)), (3, vI m9), (2, vI (nI b)), (0, vR 7 9), (1, vI x)], [], h) rfl ?_
                  refine R_lv (lv' := [(4, vI (nI (S + 1))), (6, vI (nI 0)), (5, vI (ptm s S n)), (3, vI m9), (2, vI (nI b)), (0, vR 7 9), (1, vI x)]) (by rw [show nI S + Int32.ofInt 1 = nI (S + 1) from nI_add _ _]) ?_
                  refine R_s 1 (20, [(4, vI (nI (S + 1))), (6, vI (nI 0)), (5, vI (ptm s S n)), (3, vI m9), (2, vI (nI b)), (0, vR 7 9), (1, vI x)], [], h) rfl ?_
                  refine R_fg (lv' := [(4, vI (nI (S + 1))), (3, vI m9), (2, vI (nI b)), (0, vR 7 9), (1, vI x)]) [0, 3, 4, 5, 6] rfl [4, 6, 5, 3, 2, 0, 1] rfl (by decide) ?_
                  exact ih (S + 1) b m9 (by omega) (by omega) (by rw [hst, if_neg (fun q => q.2.2.elim (fun z => c5 z) (fun z => c6 z.1))])
                · refine R_s 2 (cond (if0 .eq (nI 0)) 108 102, [(6, vI (nI 0)), (5, vI (ptm s S n)), (4, vI (nI S)), (3, vI m9), (2, vI (nI b)), (0, vR 7 9), (1, vI x)], [], h) rfl ?_
                  refine R_bt rfl ?_
                  refine R_s 1 (111, [(4, vI (nI S + Int32.ofInt 1)), (6, vI (nI 0)), (5, vI (ptm s S n)), (3, vI m9), (2, vI (nI b)), (0, vR 7 9), (1, vI x)], [], h) rfl ?_
                  refine R_lv (lv' := [(4, vI (nI (S + 1))), (6, vI (nI 0)), (5, vI (ptm s S n)), (3, vI m9), (2, vI (nI b)), (0, vR 7 9), (1, vI x)]) (by rw [show nI S + Int32.ofInt 1 = nI (S + 1) from nI_add _ _]) ?_
                  refine R_s 1 (20, [(4, vI (nI (S + 1))), (6, vI (nI 0)), (5, vI (ptm s S n)), (3, vI m9), (2, vI (nI b)), (0, vR 7 9), (1, vI x)], [], h) rfl ?_
                  refine R_fg (lv' := [(4, vI (nI (S + 1))), (3, vI m9), (2, vI (nI b)), (0, vR 7 9), (1, vI x)]) [0, 3, 4, 5, 6] rfl [4, 6, 5, 3, 2, 0, 1] rfl (by decide) ?_
                  exact ih (S + 1) b m9 (by omega) (by omega) (by rw [hst, if_neg (fun q => q.2.2.elim (fun z => c5 z) (fun z => by omega))])
          · refine R_s 6 (cond (if2 .gt (ptm s S n) x) 108 85, [(6, vI (nI 1)), (5, vI (ptm s S n)), (4, vI (nI S)), (3, vI m9), (2, vI (nI b)), (0, vR 7 9), (1, vI x)], [], h) rfl ?_
            refine R_bp (x < (ptm s S n)) x2_gt (fun c4 => ?_) (fun c4 => ?_)
            · refine R_s 1 (111, [(4, vI (nI S + Int32.ofInt 1)), (6, vI (nI 1)), (5, vI (ptm s S n)), (3, vI m9), (2, vI (nI b)), (0, vR 7 9), (1, vI x)], [], h) rfl ?_
              refine R_lv (lv' := [(4, vI (nI (S + 1))), (6, vI (nI 1)), (5, vI (ptm s S n)), (3, vI m9), (2, vI (nI b)), (0, vR 7 9), (1, vI x)]) (by rw [show nI S + Int32.ofInt 1 = nI (S + 1) from nI_add _ _]) ?_
              refine R_s 1 (20, [(4, vI (nI (S + 1))), (6, vI (nI 1)), (5, vI (ptm s S n)), (3, vI m9), (2, vI (nI b)), (0, vR 7 9), (1, vI x)], [], h) rfl ?_
              refine R_fg (lv' := [(4, vI (nI (S + 1))), (3, vI m9), (2, vI (nI b)), (0, vR 7 9), (1, vI x)]) [0, 3, 4, 5, 6] rfl [4, 6, 5, 3, 2, 0, 1] rfl (by decide) ?_
              exact ih (S + 1) b m9 (by omega) (by omega) (by rw [hst, if_neg (fun q => absurd q.2.1 (Int32.not_le.mpr c4))])
            · have c4 : ptm s S n ≤ x := Int32.not_lt.mp c4
              refine R_s 3 (cond (if2 .gt (ptm s S n) m9) 102 91, [(6, vI (nI 1)), (5, vI (ptm s S n)), (4, vI (nI S)), (3, vI m9), (2, vI (nI b)), (0, vR 7 9), (1, vI x)], [], h) rfl ?_
              refine R_bp (m9 < (ptm s S n)) x2_gt (fun c5 => ?_) (fun c5 => ?_)
              · refine R_s 5 (111, [(4, vI (nI S + Int32.ofInt 1)), (3, vI (ptm s S n)), (2, vI (nI S)), (6, vI (nI 1)), (5, vI (ptm s S n)), (0, vR 7 9), (1, vI x)], [], h) rfl ?_
                refine R_lv (lv' := [(4, vI (nI (S + 1))), (3, vI (ptm s S n)), (2, vI (nI S)), (6, vI (nI 1)), (5, vI (ptm s S n)), (0, vR 7 9), (1, vI x)]) (by rw [show nI S + Int32.ofInt 1 = nI (S + 1) from nI_add _ _]) ?_
                refine R_s 1 (20, [(4, vI (nI (S + 1))), (3, vI (ptm s S n)), (2, vI (nI S)), (6, vI (nI 1)), (5, vI (ptm s S n)), (0, vR 7 9), (1, vI x)], [], h) rfl ?_
                refine R_fg (lv' := [(4, vI (nI (S + 1))), (3, vI (ptm s S n)), (2, vI (nI S)), (0, vR 7 9), (1, vI x)]) [0, 1, 2, 5, 6] rfl [4, 3, 2, 6, 5, 0, 1] rfl (by decide) ?_
                exact ih (S + 1) S (ptm s S n) (by omega) (by omega) (by rw [hst, if_pos ⟨c2, c4, Or.inl c5⟩])
              · refine R_s 3 (cond (if2 .ne (ptm s S n) m9) 108 97, [(6, vI (nI 1)), (5, vI (ptm s S n)), (4, vI (nI S)), (3, vI m9), (2, vI (nI b)), (0, vR 7 9), (1, vI x)], [], h) rfl ?_
                refine R_bp (¬ (ptm s S n) = m9) x2_ne (fun c6 => ?_) (fun c6 => ?_)
                · refine R_s 1 (111, [(4, vI (nI S + Int32.ofInt 1)), (6, vI (nI 1)), (5, vI (ptm s S n)), (3, vI m9), (2, vI (nI b)), (0, vR 7 9), (1, vI x)], [], h) rfl ?_
                  refine R_lv (lv' := [(4, vI (nI (S + 1))), (6, vI (nI 1)), (5, vI (ptm s S n)), (3, vI m9), (2, vI (nI b)), (0, vR 7 9), (1, vI x)]) (by rw [show nI S + Int32.ofInt 1 = nI (S + 1) from nI_add _ _]) ?_
                  refine R_s 1 (20, [(4, vI (nI (S + 1))), (6, vI (nI 1)), (5, vI (ptm s S n)), (3, vI m9), (2, vI (nI b)), (0, vR 7 9), (1, vI x)], [], h) rfl ?_
                  refine R_fg (lv' := [(4, vI (nI (S + 1))), (3, vI m9), (2, vI (nI b)), (0, vR 7 9), (1, vI x)]) [0, 3, 4, 5, 6] rfl [4, 6, 5, 3, 2, 0, 1] rfl (by decide) ?_
                  exact ih (S + 1) b m9 (by omega) (by omega) (by rw [hst, if_neg (fun q => q.2.2.elim (fun z => c5 z) (fun z => c6 z.1))])
                · refine R_s 2 (cond (if0 .eq (nI 1)) 108 102, [(6, vI (nI 1)), (5, vI (ptm s S n)), (4, vI (nI S)), (3, vI m9), (2, vI (nI b)), (0, vR 7 9), (1, vI x)], [], h) rfl ?_
                  refine R_bf rfl ?_
                  refine R_s 5 (111, [(4, vI (nI S + Int32.ofInt 1)), (3, vI (ptm s S n)), (2, vI (nI S)), (6, vI (nI 1)), (5, vI (ptm s S n)), (0, vR 7 9), (1, vI x)], [], h) rfl ?_
                  refine R_lv (lv' := [(4, vI (nI (S + 1))), (3, vI (ptm s S n)), (2, vI (nI S)), (6, vI (nI 1)), (5, vI (ptm s S n)), (0, vR 7 9), (1, vI x)]) (by rw [show nI S + Int32.ofInt 1 = nI (S + 1) from nI_add _ _]) ?_
                  refine R_s 1 (20, [(4, vI (nI (S + 1))), (3, vI (ptm s S n)), (2, vI (nI S)), (6, vI (nI 1)), (5, vI (ptm s S n)), (0, vR 7 9), (1, vI x)], [], h) rfl ?_
                  refine R_fg (lv' := [(4, vI (nI (S + 1))), (3, vI (ptm s S n)), (2, vI (nI S)), (0, vR 7 9), (1, vI x)]) [0, 1, 2, 5, 6] rfl [4, 3, 2, 6, 5, 0, 1] rfl (by decide) ?_
                  exact ih (S + 1) S (ptm s S n) (by omega) (by omega) (by rw [hst, if_pos ⟨c2, c4, Or.inr ⟨Classical.not_not.mp c6, by omega⟩⟩])
end
section
/-! THE REFERENCE: its row is the concert -/
def MS (c : Nat) (h : HP) (s : Nat → Int32) : Prop := ∀ i, i < 125 → h 8 c i = s i
theorem w_le {a b : Int32} : a.toInt64 ≤ b.toInt64 ↔ a ≤ b := by
  rw [Int64.le_iff_toInt_le, Int32.le_iff_toInt_le, Int32.toInt_toInt64, Int32.toInt_toInt64]
theorem w_in {x a b : Int32} : (decide (a.toInt64 ≤ x.toInt64) && decide (x.toInt64 ≤ b.toInt64)) = (decide (a ≤ x) && decide (x ≤ b)) := by simp only [w_le]
theorem inb_in {x : Int32} {n : Nat} (hn : n ≤ 160) : (decide ((0 : Int64) ≤ x.toInt64) && decide (x.toInt64 ≤ (nI n - nI 1).toInt64)) = inb x n := by
  rw [show (0 : Int64) = (0 : Int32).toInt64 by decide, w_in]
  have e : (nI n - nI 1).toInt = (n : Int) - 1 := by
    have h : ∀ n, n < 161 → (nI n - nI 1).toInt = (n : Int) - 1 := by decide +kernel
    exact h n (by omega)
  have h0 : (0 : Int32).toInt = 0 := by decide
  by_cases h1 : x < 0
  · rw [inb_lo h1, decide_eq_false (fun q => by have := Int32.lt_iff_toInt_lt.mp h1; have := Int32.le_iff_toInt_le.mp q; omega)]; rfl
  · by_cases h2 : nI n ≤ x
    · rw [inb_hi (by omega) h2, decide_eq_false (p := x ≤ _) (fun q => by have h3 := Int32.le_iff_toInt_le.mp h2; have := Int32.le_iff_toInt_le.mp q; rw [nI_toInt (by omega)] at h3; omega)]; simp
    · rw [inb_mid (by omega) h1 h2, decide_eq_true, decide_eq_true]; · rfl
      · apply Int32.le_iff_toInt_le.mpr
        have h3 : ¬ (nI n).toInt ≤ x.toInt := fun q => h2 (Int32.le_iff_toInt_le.mpr q)
        rw [nI_toInt (by omega)] at h3
        omega
      · apply Int32.le_iff_toInt_le.mpr
        have h3 : ¬ x.toInt < (0 : Int32).toInt := fun q => h1 (Int32.lt_iff_toInt_lt.mpr q)
        omega
theorem lg_lt {x y : Int64} : if0 .lt (lg_cmp x y) = true ↔ ¬ y ≤ x := by
  rw [x0_lt, lg_cmp_lt, Int64.lt_iff_toInt_lt, Int64.le_iff_toInt_le]; omega
theorem lg_gt {x y : Int64} : if0 .gt (lg_cmp x y) = true ↔ ¬ x ≤ y := by
  rw [x0_gt, lg_cmp_gt, Int64.lt_iff_toInt_lt, Int64.le_iff_toInt_le]; omega
theorem R_retb {d : Nat} {M : MR} {pc : Nat} {lv : List (Nat × AV)} {h : HP} {Q : Option AV → HP → Prop} (b : Bool) (hs : lk (mI M) pc = some (.ireturn, 1)) (hr : mR M = some .boolean) (k : Q (some (vI (bI b))) h) : R d M (pc, lv, [vI (bI b)], h) Q := by
  refine R_ret (some (vI (bI b))) h ?_ k
  have hz : zero1 (bI b) = true := by cases b <;> decide
  unfold stp opt
  rw [hs]
  simp only [sti, hr, hz]
  rfl
set_option maxRecDepth 100000 in
theorem t_M_in {d : Nat} {h : HP} {x a b : Int64} : MT d mM_in [vL x, vL a, vL b] h (fun r h' => r = some (vI (bI (decide (a ≤ x) && decide (x ≤ b)))) ∧ h' = h) := by
  refine R_s 4 (cond (if0 .lt (lg_cmp x a)) 17 6, [(0, vL x), (2, vL a), (4, vL b)], [], h) rfl ?_
  refine R_bp (¬ a ≤ x) lg_lt (fun c1 => ?_) (fun c1 => ?_)
  · refine R_s 1 (18, [(0, vL x), (2, vL a), (4, vL b)], [vI (nI 0)], h) rfl ?_
    exact R_ret (some (vI (nI 0))) h rfl ⟨by rw [decide_eq_false c1]; rfl, rfl⟩
  · refine R_s 4 (cond (if0 .gt (lg_cmp x b)) 17 13, [(0, vL x), (2, vL a), (4, vL b)], [], h) rfl ?_
    refine R_bp (¬ x ≤ b) lg_gt (fun c2 => ?_) (fun c2 => ?_)
    · refine R_s 1 (18, [(0, vL x), (2, vL a), (4, vL b)], [vI (nI 0)], h) rfl ?_
      exact R_ret (some (vI (nI 0))) h rfl ⟨by rw [decide_eq_false (p := x ≤ b) c2, Bool.and_false]; rfl, rfl⟩
    · refine R_s 2 (18, [(0, vL x), (2, vL a), (4, vL b)], [vI (nI 1)], h) rfl ?_
      exact R_ret (some (vI (nI 1))) h rfl ⟨by rw [decide_eq_true (Classical.not_not.mp c1), decide_eq_true (Classical.not_not.mp c2)]; rfl, rfl⟩
set_option maxRecDepth 100000 in
theorem t_M_at {d a b : Nat} {h : HP} : MT d mM_at [vI (nI a), vI (nI b)] h (fun r h' => r = some (vI (nI (45 + 2 * (a * 5 + b)))) ∧ h' = h) := by
  refine R_s 4 (5, [(0, vI (nI a)), (1, vI (nI b))], [vI (nI a), vI (nI 5), vI (nI 2), vI (nI 45)], h) rfl ?_
  refine R_mul 5 a rfl ?_
  refine R_s 1 (7, [(0, vI (nI a)), (1, vI (nI b))], [vI (nI b), vI (nI (5 * a)), vI (nI 2), vI (nI 45)], h) rfl ?_
  refine R_add (5 * a) b rfl ?_
  refine R_mul 2 ((5 * a) + b) rfl ?_
  refine R_add 45 (2 * ((5 * a) + b)) rfl ?_
  exact R_ret (some (vI (nI (45 + (2 * ((5 * a) + b)))))) h rfl ⟨by rw [Nat.mul_comm 5 a], rfl⟩
set_option maxRecDepth 100000 in
theorem t_M_isSong {d n : Nat} {h : HP} {x : Int32} (hn : h 8 21 0 = nI n) (h8 : n ≤ 8) : MT (d + 1) mM_isSong [vR 8 20, vI x] h (fun r h' => r = some (vI (bI (inb x n))) ∧ h' = h) := by
  refine R_s 6 (8, [(0, vR 8 20), (1, vI x)], [vI (nI 0), vR 8 21, vL 0, vL ((x).toInt64)], h) rfl ?_
  refine R_ld 8 21 0 125 rfl rfl (by omega) (by decide) ?_
  refine R_top (nI n) hn ?_
  refine R_s 3 (12, [(0, vR 8 20), (1, vI x)], [vL ((nI n - nI 1).toInt64), vL 0, vL ((x).toInt64)], h) rfl ?_
  refine R_calli mM_in [vL ((x).toInt64), vL 0, vL ((nI n - nI 1).toInt64)] [] (bI (decide ((0 : Int64) ≤ x.toInt64) && decide (x.toInt64 ≤ (nI n - nI 1).toInt64))) h rfl t_M_in ?_
  refine R_top (bI (inb x n)) (by rw [inb_in (by omega)]) ?_
  exact R_retb _ rfl rfl ⟨rfl, rfl⟩
set_option maxRecDepth 100000 in
theorem t_M_isPosition {d n : Nat} {h : HP} {x : Int32} (hn : h 8 21 0 = nI n) (h8 : n ≤ 8) : MT (d + 1) mM_isPosition [vR 8 20, vI x] h (fun r h' => r = some (vI (bI (inb x n))) ∧ h' = h) := by
  refine R_s 6 (8, [(0, vR 8 20), (1, vI x)], [vI (nI 0), vR 8 21, vL 0, vL ((x).toInt64)], h) rfl ?_
  refine R_ld 8 21 0 125 rfl rfl (by omega) (by decide) ?_
  refine R_top (nI n) hn ?_
  refine R_s 3 (12, [(0, vR 8 20), (1, vI x)], [vL ((nI n - nI 1).toInt64), vL 0, vL ((x).toInt64)], h) rfl ?_
  refine R_calli mM_in [vL ((x).toInt64), vL 0, vL ((nI n - nI 1).toInt64)] [] (bI (decide ((0 : Int64) ≤ x.toInt64) && decide (x.toInt64 ≤ (nI n - nI 1).toInt64))) h rfl t_M_in ?_
  refine R_top (bI (inb x n)) (by rw [inb_in (by omega)]) ?_
  exact R_retb _ rfl rfl ⟨rfl, rfl⟩
set_option maxRecDepth 100000 in
theorem t_M_isPlayer {d n : Nat} {h : HP} {x : Int32} (hn : h 8 21 26 = nI n) (h8 : n ≤ 8) : MT (d + 1) mM_isPlayer [vR 8 20, vI x] h (fun r h' => r = some (vI (bI (inb x n))) ∧ h' = h) := by
  refine R_s 6 (9, [(0, vR 8 20), (1, vI x)], [vI (nI 26), vR 8 21, vL 0, vL ((x).toInt64)], h) rfl ?_
  refine R_ld 8 21 26 125 rfl rfl (by omega) (by decide) ?_
  refine R_top (nI n) hn ?_
  refine R_s 3 (13, [(0, vR 8 20), (1, vI x)], [vL ((nI n - nI 1).toInt64), vL 0, vL ((x).toInt64)], h) rfl ?_
  refine R_calli mM_in [vL ((x).toInt64), vL 0, vL ((nI n - nI 1).toInt64)] [] (bI (decide ((0 : Int64) ≤ x.toInt64) && decide (x.toInt64 ≤ (nI n - nI 1).toInt64))) h rfl t_M_in ?_
  refine R_top (bI (inb x n)) (by rw [inb_in (by omega)]) ?_
  exact R_retb _ rfl rfl ⟨rfl, rfl⟩
set_option maxRecDepth 100000 in
theorem t_M_isKind {d n : Nat} {h : HP} {x : Int32} (hn : h 8 21 32 = nI n) (h8 : n ≤ 8) : MT (d + 1) mM_isKind [vR 8 20, vI x] h (fun r h' => r = some (vI (bI (inb x n))) ∧ h' = h) := by
  refine R_s 6 (9, [(0, vR 8 20), (1, vI x)], [vI (nI 32), vR 8 21, vL 0, vL ((x).toInt64)], h) rfl ?_
  refine R_ld 8 21 32 125 rfl rfl (by omega) (by decide) ?_
  refine R_top (nI n) hn ?_
  refine R_s 3 (13, [(0, vR 8 20), (1, vI x)], [vL ((nI n - nI 1).toInt64), vL 0, vL ((x).toInt64)], h) rfl ?_
  refine R_calli mM_in [vL ((x).toInt64), vL 0, vL ((nI n - nI 1).toInt64)] [] (bI (decide ((0 : Int64) ≤ x.toInt64) && decide (x.toInt64 ≤ (nI n - nI 1).toInt64))) h rfl t_M_in ?_
  refine R_top (bI (inb x n)) (by rw [inb_in (by omega)]) ?_
  exact R_retb _ rfl rfl ⟨rfl, rfl⟩
def otm (s : Nat → Int32) (a : Nat) (y t : Int32) : Nat → Nat
  | 0 => 0
  | q + 1 => otm s a y t q + (if ¬ nI q = t ∧ kd s a q = y then 1 else 0)
theorem otm_cn {s : Nat → Int32} {a : Nat} {y : Int32} : ∀ q, q ≤ 5 → otm s a y (-1) q = cn s a y q := by
  intro q
  induction q with
  | zero => intro _; rfl
  | succ q ih =>
    intro h
    show otm s a y (-1) q + _ = cn s a y q + _
    rw [ih (by omega)]
    by_cases e : kd s a q = y
    · rw [if_pos ⟨nI_ne_m1 (by omega), e⟩, if_pos e]
    · rw [if_neg (fun z => e z.2), if_neg e]
theorem otm_oth {s : Nat → Int32} {a b : Nat} {y : Int32} (hb : b < 1000) : ∀ q, q ≤ 5 → otm s a y (nI b) q = oth s a y b q := by
  intro q
  induction q with
  | zero => intro _; rfl
  | succ q ih =>
    intro h
    show otm s a y (nI b) q + _ = oth s a y b q + _
    rw [ih (by omega)]
    by_cases e : ¬ q = b ∧ kd s a q = y
    · rw [if_pos e, if_pos ⟨fun z => e.1 ((nI_eq (by omega) (by omega)).mp z), e.2⟩]
    · rw [if_neg e, if_neg (fun z => e ⟨fun v => z.1 (by rw [v]), z.2⟩)]
set_option maxRecDepth 100000 in
theorem t_M_others21 {d p a : Nat} {h : HP} {s : Nat → Int32} {y t : Int32} (M : MS 21 h s) (hp : s 26 = nI p) (h5 : p ≤ 5) (ha : a < 8) : MT (d + 1) mM_others [vR 8 21, vI (nI a), vI y, vI t] h (fun r h' => r = some (vI (nI (otm s a y t p))) ∧ h' = h) := by
  refine R_s 4 (6, [(5, vI (nI 0)), (4, vI (nI 0)), (0, vR 8 21), (1, vI (nI a)), (2, vI y), (3, vI t)], [], h) rfl ?_
  suffices ∀ m (q c : Nat) (hm : q + m = p) (hc : c = otm s a y t q), R (d + 1) mM_others (6, [(5, vI (nI q)), (4, vI (nI c)), (0, vR 8 21), (1, vI (nI a)), (2, vI y), (3, vI t)], [], h) _ from this p 0 0 (by omega) rfl
  intro m
  induction m with
  | zero =>
    intro q c hm hc
    refine R_s 3 (11, [(5, vI (nI q)), (4, vI (nI c)), (0, vR 8 21), (1, vI (nI a)), (2, vI y), (3, vI t)], [vI (nI 26), vR 8 21, vI (nI q)], h) rfl ?_
    refine R_ld 8 21 26 125 rfl rfl (by omega) (by decide) ?_
    refine R_top (nI p) ((M 26 (by decide)).trans hp) ?_
    refine R_s 1 (cond (if2 .ge (nI q) (nI p)) 49 15, [(5, vI (nI q)), (4, vI (nI c)), (0, vR 8 21), (1, vI (nI a)), (2, vI y), (3, vI t)], [], h) rfl ?_
    refine R_bp (p ≤ q) (i2_ge (by omega) (by omega)) (fun c1 => ?_) (fun c1 => ?_)
    · refine R_s 1 (51, [(5, vI (nI q)), (4, vI (nI c)), (0, vR 8 21), (1, vI (nI a)), (2, vI y), (3, vI t)], [vI (nI c)], h) rfl ?_
      exact R_ret (some (vI (nI c))) h rfl ⟨by rw [hc, show q = p by omega], rfl⟩
    · exact absurd hm (by omega)
  | succ m ih =>
    intro q c hm hc
    refine R_s 3 (11, [(5, vI (nI q)), (4, vI (nI c)), (0, vR 8 21), (1, vI (nI a)), (2, vI y), (3, vI t)], [vI (nI 26), vR 8 21, vI (nI q)], h) rfl ?_
    refine R_ld 8 21 26 125 rfl rfl (by omega) (by decide) ?_
    refine R_top (nI p) ((M 26 (by decide)).trans hp) ?_
    refine R_s 1 (cond (if2 .ge (nI q) (nI p)) 49 15, [(5, vI (nI q)), (4, vI (nI c)), (0, vR 8 21), (1, vI (nI a)), (2, vI y), (3, vI t)], [], h) rfl ?_
    refine R_bp (p ≤ q) (i2_ge (by omega) (by omega)) (fun c1 => ?_) (fun c1 => ?_)
    · refine R_s 1 (51, [(5, vI (nI q)), (4, vI (nI c)), (0, vR 8 21), (1, vI (nI a)), (2, vI y), (3, vI t)], [vI (nI c)], h) rfl ?_
      exact R_ret (some (vI (nI c))) h rfl ⟨by rw [hc, show q = p by omega], rfl⟩
    · refine R_s 4 (cond (if2 .eq (nI q) t) 39 23, [(5, vI (nI q)), (4, vI (nI c)), (0, vR 8 21), (1, vI (nI a)), (2, vI y), (3, vI t)], [vI (nI c)], h) rfl ?_
      refine R_bp ((nI q) = t) x2_eq (fun c2 => ?_) (fun c2 => ?_)
      · refine R_s 1 (40, [(5, vI (nI q)), (4, vI (nI c)), (0, vR 8 21), (1, vI (nI a)), (2, vI y), (3, vI t)], [vI (nI 0), vI (nI c)], h) rfl ?_
        refine R_add c 0 rfl ?_
        refine R_s 2 (46, [(5, vI (nI q + Int32.ofInt 1)), (4, vI (nI (c + 0))), (0, vR 8 21), (1, vI (nI a)), (2, vI y), (3, vI t)], [], h) rfl ?_
        refine R_lv (lv' := [(5, vI (nI (q + 1))), (4, vI (nI (c + 0))), (0, vR 8 21), (1, vI (nI a)), (2, vI y), (3, vI t)]) (by rw [show nI q + Int32.ofInt 1 = nI (q + 1) from nI_add _ _]) ?_
        refine R_s 1 (6, [(5, vI (nI (q + 1))), (4, vI (nI (c + 0))), (0, vR 8 21), (1, vI (nI a)), (2, vI y), (3, vI t)], [], h) rfl ?_
        exact ih (q + 1) c (by omega) (by rw [hc]; show _ = otm s a y t q + _; rw [if_neg (fun z => z.1 c2)]; rfl)
      · refine R_s 3 (27, [(5, vI (nI q)), (4, vI (nI c)), (0, vR 8 21), (1, vI (nI a)), (2, vI y), (3, vI t)], [vI (nI q), vI (nI a), vR 8 21, vI (nI c)], h) rfl ?_
        refine R_calli mM_at [vI (nI a), vI (nI q)] [vR 8 21, vI (nI c)] (nI (45 + 2 * (a * 5 + q))) h rfl t_M_at ?_
        refine R_ld 8 21 (45 + 2 * (a * 5 + q)) 125 rfl rfl (by omega) (by decide) ?_
        refine R_top (kd s a q) (M _ (by omega)) ?_
        refine R_s 2 (cond (if2 .ne (kd s a q) y) 39 35, [(5, vI (nI q)), (4, vI (nI c)), (0, vR 8 21), (1, vI (nI a)), (2, vI y), (3, vI t)], [vI (nI c)], h) rfl ?_
        refine R_bp (¬ (kd s a q) = y) x2_ne (fun c3 => ?_) (fun c3 => ?_)
        · refine R_s 1 (40, [(5, vI (nI q)), (4, vI (nI c)), (0, vR 8 21), (1, vI (nI a)), (2, vI y), (3, vI t)], [vI (nI 0), vI (nI c)], h) rfl ?_
          refine R_add c 0 rfl ?_
          refine R_s 2 (46, [(5, vI (nI q + Int32.ofInt 1)), (4, vI (nI (c + 0))), (0, vR 8 21), (1, vI (nI a)), (2, vI y), (3, vI t)], [], h) rfl ?_
          refine R_lv (lv' := [(5, vI (nI (q + 1))), (4, vI (nI (c + 0))), (0, vR 8 21), (1, vI (nI a)), (2, vI y), (3, vI t)]) (by rw [show nI q + Int32.ofInt 1 = nI (q + 1) from nI_add _ _]) ?_
          refine R_s 1 (6, [(5, vI (nI (q + 1))), (4, vI (nI (c + 0))), (0, vR 8 21), (1, vI (nI a)), (2, vI y), (3, vI t)], [], h) rfl ?_
          exact ih (q + 1) c (by omega) (by rw [hc]; show _ = otm s a y t q + _; rw [if_neg (fun z => c3 z.2)]; rfl)
        · refine R_s 2 (40, [(5, vI (nI q)), (4, vI (nI c)), (0, vR 8 21), (1, vI (nI a)), (2, vI y), (3, vI t)], [vI (nI 1), vI (nI c)], h) rfl ?_
          refine R_add c 1 rfl ?_
          refine R_s 2 (46, [(5, vI (nI q + Int32.ofInt 1)), (4, vI (nI (c + 1))), (0, vR 8 21), (1, vI (nI a)), (2, vI y), (3, vI t)], [], h) rfl ?_
          refine R_lv (lv' := [(5, vI (nI (q + 1))), (4, vI (nI (c + 1))), (0, vR 8 21), (1, vI (nI a)), (2, vI y), (3, vI t)]) (by rw [show nI q + Int32.ofInt 1 = nI (q + 1) from nI_add _ _]) ?_
          refine R_s 1 (6, [(5, vI (nI (q + 1))), (4, vI (nI (c + 1))), (0, vR 8 21), (1, vI (nI a)), (2, vI y), (3, vI t)], [], h) rfl ?_
          exact ih (q + 1) (c + 1) (by omega) (by rw [hc]; show _ = otm s a y t q + _; rw [if_pos ⟨c2, Classical.not_not.mp c3⟩])
set_option maxRecDepth 100000 in
theorem t_M_part21 {d a b : Nat} {h : HP} {y t : Int32} (ha : a < 8) (hb : b < 5) : MT (d + 1) mM_part [vR 8 21, vI (nI a), vI (nI b), vI y, vI t] h (fun r h' => r = none ∧ h' = hset (hset h 8 21 (45 + 2 * (a * 5 + b)) y) 8 21 (46 + 2 * (a * 5 + b)) t) := by
  refine R_s 3 (3, [(0, vR 8 21), (1, vI (nI a)), (2, vI (nI b)), (3, vI y), (4, vI t)], [vI (nI b), vI (nI a), vR 8 21], h) rfl ?_
  refine R_calli mM_at [vI (nI a), vI (nI b)] [vR 8 21] (nI (45 + 2 * (a * 5 + b))) h rfl t_M_at ?_
  refine R_s 1 (7, [(0, vR 8 21), (1, vI (nI a)), (2, vI (nI b)), (3, vI y), (4, vI t)], [vI y, vI (nI (45 + 2 * (a * 5 + b))), vR 8 21], h) rfl ?_
  refine R_st 8 21 (45 + 2 * (a * 5 + b)) 125 y rfl rfl (by omega) (by decide) (fun h1 eh1 => ?_)
  refine R_s 3 (11, [(0, vR 8 21), (1, vI (nI a)), (2, vI (nI b)), (3, vI y), (4, vI t)], [vI (nI b), vI (nI a), vR 8 21], h1) rfl ?_
  refine R_calli mM_at [vI (nI a), vI (nI b)] [vR 8 21] (nI (45 + 2 * (a * 5 + b))) h1 rfl t_M_at ?_
  refine R_s 1 (15, [(0, vR 8 21), (1, vI (nI a)), (2, vI (nI b)), (3, vI y), (4, vI t)], [vI (nI 1), vI (nI (45 + 2 * (a * 5 + b))), vR 8 21], h1) rfl ?_
  refine R_add (45 + 2 * (a * 5 + b)) 1 rfl ?_
  refine R_s 1 (18, [(0, vR 8 21), (1, vI (nI a)), (2, vI (nI b)), (3, vI y), (4, vI t)], [vI t, vI (nI ((45 + 2 * (a * 5 + b)) + 1)), vR 8 21], h1) rfl ?_
  refine R_st 8 21 ((45 + 2 * (a * 5 + b)) + 1) 125 t rfl rfl (by omega) (by decide) (fun h2 eh2 => ?_)
  exact R_ret none h2 rfl ⟨rfl, by rw [eh2, show 45 + 2 * (a * 5 + b) + 1 = 46 + 2 * (a * 5 + b) by omega, eh1]⟩
set_option maxRecDepth 100000 in
theorem t_M_others22 {d p a : Nat} {h : HP} {s : Nat → Int32} {y t : Int32} (M : MS 22 h s) (hp : s 26 = nI p) (h5 : p ≤ 5) (ha : a < 8) : MT (d + 1) mM_others [vR 8 22, vI (nI a), vI y, vI t] h (fun r h' => r = some (vI (nI (otm s a y t p))) ∧ h' = h) := by
  refine R_s 4 (6, [(5, vI (nI 0)), (4, vI (nI 0)), (0, vR 8 22), (1, vI (nI a)), (2, vI y), (3, vI t)], [], h) rfl ?_
  suffices ∀ m (q c : Nat) (hm : q + m = p) (hc : c = otm s a y t q), R (d + 1) mM_others (6, [(5, vI (nI q)), (4, vI (nI c)), (0, vR 8 22), (1, vI (nI a)), (2, vI y), (3, vI t)], [], h) _ from this p 0 0 (by omega) rfl
  intro m
  induction m with
  | zero =>
    intro q c hm hc
    refine R_s 3 (11, [(5, vI (nI q)), (4, vI (nI c)), (0, vR 8 22), (1, vI (nI a)), (2, vI y), (3, vI t)], [vI (nI 26), vR 8 22, vI (nI q)], h) rfl ?_
    refine R_ld 8 22 26 125 rfl rfl (by omega) (by decide) ?_
    refine R_top (nI p) ((M 26 (by decide)).trans hp) ?_
    refine R_s 1 (cond (if2 .ge (nI q) (nI p)) 49 15, [(5, vI (nI q)), (4, vI (nI c)), (0, vR 8 22), (1, vI (nI a)), (2, vI y), (3, vI t)], [], h) rfl ?_
    refine R_bp (p ≤ q) (i2_ge (by omega) (by omega)) (fun c1 => ?_) (fun c1 => ?_)
    · refine R_s 1 (51, [(5, vI (nI q)), (4, vI (nI c)), (0, vR 8 22), (1, vI (nI a)), (2, vI y), (3, vI t)], [vI (nI c)], h) rfl ?_
      exact R_ret (some (vI (nI c))) h rfl ⟨by rw [hc, show q = p by omega], rfl⟩
    · exact absurd hm (by omega)
  | succ m ih =>
    intro q c hm hc
    refine R_s 3 (11, [(5, vI (nI q)), (4, vI (nI c)), (0, vR 8 22), (1, vI (nI a)), (2, vI y), (3, vI t)], [vI (nI 26), vR 8 22, vI (nI q)], h) rfl ?_
    refine R_ld 8 22 26 125 rfl rfl (by omega) (by decide) ?_
    refine R_top (nI p) ((M 26 (by decide)).trans hp) ?_
    refine R_s 1 (cond (if2 .ge (nI q) (nI p)) 49 15, [(5, vI (nI q)), (4, vI (nI c)), (0, vR 8 22), (1, vI (nI a)), (2, vI y), (3, vI t)], [], h) rfl ?_
    refine R_bp (p ≤ q) (i2_ge (by omega) (by omega)) (fun c1 => ?_) (fun c1 => ?_)
    · refine R_s 1 (51, [(5, vI (nI q)), (4, vI (nI c)), (0, vR 8 22), (1, vI (nI a)), (2, vI y), (3, vI t)], [vI (nI c)], h) rfl ?_
      exact R_ret (some (vI (nI c))) h rfl ⟨by rw [hc, show q = p by omega], rfl⟩
    · refine R_s 4 (cond (if2 .eq (nI q) t) 39 23, [(5, vI (nI q)), (4, vI (nI c)), (0, vR 8 22), (1, vI (nI a)), (2, vI y), (3, vI t)], [vI (nI c)], h) rfl ?_
      refine R_bp ((nI q) = t) x2_eq (fun c2 => ?_) (fun c2 => ?_)
      · refine R_s 1 (40, [(5, vI (nI q)), (4, vI (nI c)), (0, vR 8 22), (1, vI (nI a)), (2, vI y), (3, vI t)], [vI (nI 0), vI (nI c)], h) rfl ?_
        refine R_add c 0 rfl ?_
        refine R_s 2 (46, [(5, vI (nI q + Int32.ofInt 1)), (4, vI (nI (c + 0))), (0, vR 8 22), (1, vI (nI a)), (2, vI y), (3, vI t)], [], h) rfl ?_
        refine R_lv (lv' := [(5, vI (nI (q + 1))), (4, vI (nI (c + 0))), (0, vR 8 22), (1, vI (nI a)), (2, vI y), (3, vI t)]) (by rw [show nI q + Int32.ofInt 1 = nI (q + 1) from nI_add _ _]) ?_
        refine R_s 1 (6, [(5, vI (nI (q + 1))), (4, vI (nI (c + 0))), (0, vR 8 22), (1, vI (nI a)), (2, vI y), (3, vI t)], [], h) rfl ?_
        exact ih (q + 1) c (by omega) (by rw [hc]; show _ = otm s a y t q + _; rw [if_neg (fun z => z.1 c2)]; rfl)
      · refine R_s 3 (27, [(5, vI (nI q)), (4, vI (nI c)), (0, vR 8 22), (1, vI (nI a)), (2, vI y), (3, vI t)], [vI (nI q), vI (nI a), vR 8 22, vI (nI c)], h) rfl ?_
        refine R_calli mM_at [vI (nI a), vI (nI q)] [vR 8 22, vI (nI c)] (nI (45 + 2 * (a * 5 + q))) h rfl t_M_at ?_
        refine R_ld 8 22 (45 + 2 * (a * 5 + q)) 125 rfl rfl (by omega) (by decide) ?_
        refine R_top (kd s a q) (M _ (by omega)) ?_
        refine R_s 2 (cond (if2 .ne (kd s a q) y) 39 35, [(5, vI (nI q)), (4, vI (nI c)), (0, vR 8 22), (1, vI (nI a)), (2, vI y), (3, vI t)], [vI (nI c)], h) rfl ?_
        refine R_bp (¬ (kd s a q) = y) x2_ne (fun c3 => ?_) (fun c3 => ?_)
        · refine R_s 1 (40, [(5, vI (nI q)), (4, vI (nI c)), (0, vR 8 22), (1, vI (nI a)), (2, vI y), (3, vI t)], [vI (nI 0), vI (nI c)], h) rfl ?_
          refine R_add c 0 rfl ?_
          refine R_s 2 (46, [(5, vI (nI q + Int32.ofInt 1)), (4, vI (nI (c + 0))), (0, vR 8 22), (1, vI (nI a)), (2, vI y), (3, vI t)], [], h) rfl ?_
          refine R_lv (lv' := [(5, vI (nI (q + 1))), (4, vI (nI (c + 0))), (0, vR 8 22), (1, vI (nI a)), (2, vI y), (3, vI t)]) (by rw [show nI q + Int32.ofInt 1 = nI (q + 1) from nI_add _ _]) ?_
          refine R_s 1 (6, [(5, vI (nI (q + 1))), (4, vI (nI (c + 0))), (0, vR 8 22), (1, vI (nI a)), (2, vI y), (3, vI t)], [], h) rfl ?_
          exact ih (q + 1) c (by omega) (by rw [hc]; show _ = otm s a y t q + _; rw [if_neg (fun z => c3 z.2)]; rfl)
        · refine R_s 2 (40, [(5, vI (nI q)), (4, vI (nI c)), (0, vR 8 22), (1, vI (nI a)), (2, vI y), (3, vI t)], [vI (nI 1), vI (nI c)], h) rfl ?_
          refine R_add c 1 rfl ?_
          refine R_s 2 (46, [(5, vI (nI q + Int32.ofInt 1)), (4, vI (nI (c + 1))), (0, vR 8 22), (1, vI (nI a)), (2, vI y), (3, vI t)], [], h) rfl ?_
          refine R_lv (lv' := [(5, vI (nI (q + 1))), (4, vI (nI (c + 1))), (0, vR 8 22), (1, vI (nI a)), (2, vI y), (3, vI t)]) (by rw [show nI q + Int32.ofInt 1 = nI (q + 1) from nI_add _ _]) ?_
          refine R_s 1 (6, [(5, vI (nI (q + 1))), (4, vI (nI (c + 1))), (0, vR 8 22), (1, vI (nI a)), (2, vI y), (3, vI t)], [], h) rfl ?_
          exact ih (q + 1) (c + 1) (by omega) (by rw [hc]; show _ = otm s a y t q + _; rw [if_pos ⟨c2, Classical.not_not.mp c3⟩])
set_option maxRecDepth 100000 in
theorem t_M_part22 {d a b : Nat} {h : HP} {y t : Int32} (ha : a < 8) (hb : b < 5) : MT (d + 1) mM_part [vR 8 22, vI (nI a), vI (nI b), vI y, vI t] h (fun r h' => r = none ∧ h' = hset (hset h 8 22 (45 + 2 * (a * 5 + b)) y) 8 22 (46 + 2 * (a * 5 + b)) t) := by
  refine R_s 3 (3, [(0, vR 8 22), (1, vI (nI a)), (2, vI (nI b)), (3, vI y), (4, vI t)], [vI (nI b), vI (nI a), vR 8 22], h) rfl ?_
  refine R_calli mM_at [vI (nI a), vI (nI b)] [vR 8 22] (nI (45 + 2 * (a * 5 + b))) h rfl t_M_at ?_
  refine R_s 1 (7, [(0, vR 8 22), (1, vI (nI a)), (2, vI (nI b)), (3, vI y), (4, vI t)], [vI y, vI (nI (45 + 2 * (a * 5 + b))), vR 8 22], h) rfl ?_
  refine R_st 8 22 (45 + 2 * (a * 5 + b)) 125 y rfl rfl (by omega) (by decide) (fun h1 eh1 => ?_)
  refine R_s 3 (11, [(0, vR 8 22), (1, vI (nI a)), (2, vI (nI b)), (3, vI y), (4, vI t)], [vI (nI b), vI (nI a), vR 8 22], h1) rfl ?_
  refine R_calli mM_at [vI (nI a), vI (nI b)] [vR 8 22] (nI (45 + 2 * (a * 5 + b))) h1 rfl t_M_at ?_
  refine R_s 1 (15, [(0, vR 8 22), (1, vI (nI a)), (2, vI (nI b)), (3, vI y), (4, vI t)], [vI (nI 1), vI (nI (45 + 2 * (a * 5 + b))), vR 8 22], h1) rfl ?_
  refine R_add (45 + 2 * (a * 5 + b)) 1 rfl ?_
  refine R_s 1 (18, [(0, vR 8 22), (1, vI (nI a)), (2, vI (nI b)), (3, vI y), (4, vI t)], [vI t, vI (nI ((45 + 2 * (a * 5 + b)) + 1)), vR 8 22], h1) rfl ?_
  refine R_st 8 22 ((45 + 2 * (a * 5 + b)) + 1) 125 t rfl rfl (by omega) (by decide) (fun h2 eh2 => ?_)
  exact R_ret none h2 rfl ⟨rfl, by rw [eh2, show 45 + 2 * (a * 5 + b) + 1 = 46 + 2 * (a * 5 + b) by omega, eh1]⟩
theorem bool_f {b : Bool} (h : ¬ b = true) : b = false := by cases b with
  | false => rfl
  | true => exact absurd rfl h
theorem bool_t {b : Bool} (h : b = true) : ¬ b = false := by rw [h]; decide
set_option maxRecDepth 100000 in
theorem t_M_areTwo {d n : Nat} {h : HP} {x y : Int32} (hn : h 8 21 0 = nI n) (h8 : n ≤ 8) : MT (d + 2) mM_areTwo [vR 8 20, vI x, vI y] h (fun r h' => r = some (vI (bI (inb x n && inb y n && !(decide (x = y))))) ∧ h' = h) := by
  refine R_s 2 (2, [(0, vR 8 20), (1, vI x), (2, vI y)], [vI x, vR 8 20], h) rfl ?_
  refine R_calli mM_isSong [vR 8 20, vI x] [] (bI (inb x n)) h rfl (t_M_isSong hn h8) ?_
  refine R_s 1 (cond (if0 .eq (bI (inb x n))) 25 8, [(0, vR 8 20), (1, vI x), (2, vI y)], [], h) rfl ?_
  refine R_bp ((inb x n) = false) (x0_eq.trans bI_eq) (fun c1 => ?_) (fun c1 => ?_)
  · refine R_s 1 (26, [(0, vR 8 20), (1, vI x), (2, vI y)], [vI (nI 0)], h) rfl ?_
    exact R_ret (some (vI (nI 0))) h rfl ⟨by simp [c1, bI, nI_0], rfl⟩
  · refine R_s 2 (10, [(0, vR 8 20), (1, vI x), (2, vI y)], [vI y, vR 8 20], h) rfl ?_
    refine R_calli mM_isSong [vR 8 20, vI y] [] (bI (inb y n)) h rfl (t_M_isSong hn h8) ?_
    refine R_s 1 (cond (if0 .eq (bI (inb y n))) 25 16, [(0, vR 8 20), (1, vI x), (2, vI y)], [], h) rfl ?_
    refine R_bp ((inb y n) = false) (x0_eq.trans bI_eq) (fun c2 => ?_) (fun c2 => ?_)
    · refine R_s 1 (26, [(0, vR 8 20), (1, vI x), (2, vI y)], [vI (nI 0)], h) rfl ?_
      exact R_ret (some (vI (nI 0))) h rfl ⟨by simp [c2, bI, nI_0], rfl⟩
    · refine R_s 3 (cond (if2 .eq x y) 25 21, [(0, vR 8 20), (1, vI x), (2, vI y)], [], h) rfl ?_
      refine R_bp (x = y) x2_eq (fun c3 => ?_) (fun c3 => ?_)
      · refine R_s 1 (26, [(0, vR 8 20), (1, vI x), (2, vI y)], [vI (nI 0)], h) rfl ?_
        exact R_ret (some (vI (nI 0))) h rfl ⟨by simp [c3, bI, nI_0], rfl⟩
      · refine R_s 2 (26, [(0, vR 8 20), (1, vI x), (2, vI y)], [vI (nI 1)], h) rfl ?_
        exact R_ret (some (vI (nI 1))) h rfl ⟨by simp [c3, tf c1, tf c2, bI]; rfl, rfl⟩
theorem un_s {s : Nat → Int32} {m : Int32} {c u : Nat} (hc : c < 1000) (hu : s (33 + c) = nI u) : un s m (nI c) = nI (u + if nI c = m then 1 else 0) := by
  unfold un
  rw [nI_cl (by omega), hu]
  split
  · exact nI_add u 1
  · rw [show (0 : Int32) = nI 0 from rfl]; exact nI_add u 0
set_option maxRecDepth 100000 in
theorem t_M_change {d n p k : Nat} {h : HP} {s : Nat → Int32} {a b q : Nat} {m : Int32} (ha : a < 8) (hb : b < 8) (hq : q < 5) (M : MS 21 h s) (F : WF s n p k) : MT (d + 2) mM_change [vR 8 20, vI (nI q), vI (nI a), vI (nI b), vI m] h (fun r h' => r = some (vI (nI (chg s m p a b q))) ∧ h' = h) := by
  have h8 := F.2.1.1
  have h5 := F.2.1.2.1
  have h6 := F.2.1.2.2
  refine R_s 4 (6, [(0, vR 8 20), (1, vI (nI q)), (2, vI (nI a)), (3, vI (nI b)), (4, vI m)], [vI (nI q), vI (nI a), vR 8 21], h) rfl ?_
  refine R_calli mM_at [vI (nI a), vI (nI q)] [vR 8 21] (nI (45 + 2 * (a * 5 + q))) h rfl t_M_at ?_
  refine R_ld 8 21 (45 + 2 * (a * 5 + q)) 125 rfl rfl (by omega) (by decide) ?_
  refine R_top (kd s a q) (M _ (by omega)) ?_
  refine R_s 5 (18, [(5, vI (kd s a q)), (0, vR 8 20), (1, vI (nI q)), (2, vI (nI a)), (3, vI (nI b)), (4, vI m)], [vI (nI q), vI (nI b), vR 8 21], h) rfl ?_
  refine R_calli mM_at [vI (nI b), vI (nI q)] [vR 8 21] (nI (45 + 2 * (b * 5 + q))) h rfl t_M_at ?_
  refine R_ld 8 21 (45 + 2 * (b * 5 + q)) 125 rfl rfl (by omega) (by decide) ?_
  refine R_top (kd s b q) (M _ (by omega)) ?_
  refine R_s 4 (cond (if2 .eq (kd s a q) (-1)) 36 30, [(6, vI (kd s b q)), (5, vI (kd s a q)), (0, vR 8 20), (1, vI (nI q)), (2, vI (nI a)), (3, vI (nI b)), (4, vI m)], [], h) rfl ?_
  refine R_bp ((kd s a q) = (-1)) x2_eq (fun c1 => ?_) (fun c1 => ?_)
  · refine R_s 3 (cond (if2 .eq (kd s b q) (-1)) 46 42, [(6, vI (kd s b q)), (5, vI (kd s a q)), (0, vR 8 20), (1, vI (nI q)), (2, vI (nI a)), (3, vI (nI b)), (4, vI m)], [], h) rfl ?_
    refine R_bp ((kd s b q) = (-1)) x2_eq (fun c2 => ?_) (fun c2 => ?_)
    · refine R_s 3 (cond (if2 .eq (kd s a q) (-1)) 56 52, [(6, vI (kd s b q)), (5, vI (kd s a q)), (0, vR 8 20), (1, vI (nI q)), (2, vI (nI a)), (3, vI (nI b)), (4, vI m)], [], h) rfl ?_
      refine R_bt (x2_eq.mpr c1) ?_
      refine R_s 1 (57, [(6, vI (kd s b q)), (5, vI (kd s a q)), (0, vR 8 20), (1, vI (nI q)), (2, vI (nI a)), (3, vI (nI b)), (4, vI m)], [vI (nI 0)], h) rfl ?_
      exact R_ret (some (vI (nI 0))) h rfl ⟨by unfold chg; rw [if_pos c1, if_pos c2], rfl⟩
    · refine R_s 2 (57, [(6, vI (kd s b q)), (5, vI (kd s a q)), (0, vR 8 20), (1, vI (nI q)), (2, vI (nI a)), (3, vI (nI b)), (4, vI m)], [vI (nI 1)], h) rfl ?_
      exact R_ret (some (vI (nI 1))) h rfl ⟨by unfold chg; rw [if_pos c1, if_neg c2], rfl⟩
  · refine R_s 3 (cond (if2 .ne (kd s b q) (-1)) 58 36, [(6, vI (kd s b q)), (5, vI (kd s a q)), (0, vR 8 20), (1, vI (nI q)), (2, vI (nI a)), (3, vI (nI b)), (4, vI m)], [], h) rfl ?_
    refine R_bp (¬ (kd s b q) = (-1)) x2_ne (fun c2 => ?_) (fun c2 => ?_)
    · refine R_s 3 (cond (if2 .eq (kd s a q) (kd s b q)) 67 65, [(6, vI (kd s b q)), (5, vI (kd s a q)), (0, vR 8 20), (1, vI (nI q)), (2, vI (nI a)), (3, vI (nI b)), (4, vI m)], [], h) rfl ?_
      refine R_bp ((kd s a q) = (kd s b q)) x2_eq (fun c3 => ?_) (fun c3 => ?_)
      · refine R_s 4 (73, [(6, vI (kd s b q)), (5, vI (kd s a q)), (0, vR 8 20), (1, vI (nI q)), (2, vI (nI a)), (3, vI (nI b)), (4, vI m)], [vI (nI q), vI (nI a), vR 8 21], h) rfl ?_
        refine R_calli mM_at [vI (nI a), vI (nI q)] [vR 8 21] (nI (45 + 2 * (a * 5 + q))) h rfl t_M_at ?_
        refine R_s 1 (77, [(6, vI (kd s b q)), (5, vI (kd s a q)), (0, vR 8 20), (1, vI (nI q)), (2, vI (nI a)), (3, vI (nI b)), (4, vI m)], [vI (nI 1), vI (nI (45 + 2 * (a * 5 + q))), vR 8 21], h) rfl ?_
        refine R_add (45 + 2 * (a * 5 + q)) 1 rfl ?_
        refine R_ld 8 21 ((45 + 2 * (a * 5 + q)) + 1) 125 rfl rfl (by omega) (by decide) ?_
        refine R_top (tn s a q) ((M _ (by omega)).trans (by unfold tn; rw [show 45 + 2 * (a * 5 + q) + 1 = 46 + 2 * (a * 5 + q) by omega])) ?_
        refine R_s 4 (85, [(6, vI (kd s b q)), (5, vI (kd s a q)), (0, vR 8 20), (1, vI (nI q)), (2, vI (nI a)), (3, vI (nI b)), (4, vI m)], [vI (nI q), vI (nI b), vR 8 21, vI (tn s a q)], h) rfl ?_
        refine R_calli mM_at [vI (nI b), vI (nI q)] [vR 8 21, vI (tn s a q)] (nI (45 + 2 * (b * 5 + q))) h rfl t_M_at ?_
        refine R_s 1 (89, [(6, vI (kd s b q)), (5, vI (kd s a q)), (0, vR 8 20), (1, vI (nI q)), (2, vI (nI a)), (3, vI (nI b)), (4, vI m)], [vI (nI 1), vI (nI (45 + 2 * (b * 5 + q))), vR 8 21, vI (tn s a q)], h) rfl ?_
        refine R_add (45 + 2 * (b * 5 + q)) 1 rfl ?_
        refine R_ld 8 21 ((45 + 2 * (b * 5 + q)) + 1) 125 rfl rfl (by omega) (by decide) ?_
        refine R_top (tn s b q) ((M _ (by omega)).trans (by unfold tn; rw [show 45 + 2 * (b * 5 + q) + 1 = 46 + 2 * (b * 5 + q) by omega])) ?_
        refine R_s 1 (cond (if2 .ne (tn s a q) (tn s b q)) 96 94, [(6, vI (kd s b q)), (5, vI (kd s a q)), (0, vR 8 20), (1, vI (nI q)), (2, vI (nI a)), (3, vI (nI b)), (4, vI m)], [], h) rfl ?_
        refine R_bp (¬ (tn s a q) = (tn s b q)) x2_ne (fun c4 => ?_) (fun c4 => ?_)
        · obtain ⟨c, hc, ec⟩ := ((F.2.2.2.2.2.1 b hb q hq).resolve_left c2).1
          obtain ⟨u, hu, hu6⟩ := F.2.2.2.2.1 c hc
          have hcn : cn s b (nI c) p ≤ 5 := Nat.le_trans (cn_le _ _ _ _) h5
          refine R_lv (lv' := [(6, vI (nI c)), (5, vI (kd s a q)), (0, vR 8 20), (1, vI (nI q)), (2, vI (nI a)), (3, vI (nI b)), (4, vI m)]) (by rw [ec]) ?_
          refine R_s 4 (104, [(6, vI (nI c)), (5, vI (kd s a q)), (0, vR 8 20), (1, vI (nI q)), (2, vI (nI a)), (3, vI (nI b)), (4, vI m)], [vI (nI c), vI (nI 33), vR 8 21], h) rfl ?_
          refine R_add 33 c rfl ?_
          refine R_ld 8 21 (33 + c) 125 rfl rfl (by omega) (by decide) ?_
          refine R_top (nI u) ((M _ (by omega)).trans hu) ?_
          refine R_s 3 (cond (if2 .ne (nI c) m) 117 113, [(6, vI (nI c)), (5, vI (kd s a q)), (0, vR 8 20), (1, vI (nI q)), (2, vI (nI a)), (3, vI (nI b)), (4, vI m)], [vI (nI u)], h) rfl ?_
          refine R_bp (¬ (nI c) = m) x2_ne (fun c5 => ?_) (fun c5 => ?_)
          · refine R_s 1 (118, [(6, vI (nI c)), (5, vI (kd s a q)), (0, vR 8 20), (1, vI (nI q)), (2, vI (nI a)), (3, vI (nI b)), (4, vI m)], [vI (nI 0), vI (nI u)], h) rfl ?_
            refine R_add u 0 rfl ?_
            refine R_s 1 (121, [(7, vI (nI (u + 0))), (6, vI (nI c)), (5, vI (kd s a q)), (0, vR 8 20), (1, vI (nI q)), (2, vI (nI a)), (3, vI (nI b)), (4, vI m)], [], h) rfl ?_
            refine R_s 5 (129, [(7, vI (nI (u + 0))), (6, vI (nI c)), (5, vI (kd s a q)), (0, vR 8 20), (1, vI (nI q)), (2, vI (nI a)), (3, vI (nI b)), (4, vI m)], [vI (-1), vI (nI c), vI (nI b), vR 8 21], h) rfl ?_
            refine R_calli mM_others [vR 8 21, vI (nI b), vI (nI c), vI (-1)] [] (nI (otm s b (nI c) (-1) p)) h rfl (t_M_others21 M F.1.2.1 h5 hb) ?_
            refine R_top (nI (cn s b (nI c) p)) (by rw [otm_cn p h5]) ?_
            refine R_s 2 (cond (if2 .ge (nI (cn s b (nI c) p)) (nI (u + 0))) 141 137, [(7, vI (nI (u + 0))), (6, vI (nI c)), (5, vI (kd s a q)), (0, vR 8 20), (1, vI (nI q)), (2, vI (nI a)), (3, vI (nI b)), (4, vI m)], [], h) rfl ?_
            refine R_bp ((u + 0) ≤ (cn s b (nI c) p)) (i2_ge (by omega) (by omega)) (fun c6 => ?_) (fun c6 => ?_)
            · refine R_s 1 (142, [(7, vI (nI (u + 0))), (6, vI (nI c)), (5, vI (kd s a q)), (0, vR 8 20), (1, vI (nI q)), (2, vI (nI a)), (3, vI (nI b)), (4, vI m)], [vI (nI 5)], h) rfl ?_
              exact R_ret (some (vI (nI 5))) h rfl ⟨by unfold chg; rw [if_neg c1, if_neg c2, if_pos c3, if_neg c4, if_neg (by rw [ec, un_s (by omega) hu, if_neg c5]; exact nI_nlt c6 (by omega))], rfl⟩
            · refine R_s 2 (142, [(7, vI (nI (u + 0))), (6, vI (nI c)), (5, vI (kd s a q)), (0, vR 8 20), (1, vI (nI q)), (2, vI (nI a)), (3, vI (nI b)), (4, vI m)], [vI (nI 4)], h) rfl ?_
              exact R_ret (some (vI (nI 4))) h rfl ⟨by unfold chg; rw [if_neg c1, if_neg c2, if_pos c3, if_neg c4, if_pos (by rw [ec, un_s (by omega) hu, if_neg c5]; exact nI_lt (by omega) (by omega))], rfl⟩
          · refine R_s 2 (118, [(6, vI (nI c)), (5, vI (kd s a q)), (0, vR 8 20), (1, vI (nI q)), (2, vI (nI a)), (3, vI (nI b)), (4, vI m)], [vI (nI 1), vI (nI u)], h) rfl ?_
            refine R_add u 1 rfl ?_
            refine R_s 1 (121, [(7, vI (nI (u + 1))), (6, vI (nI c)), (5, vI (kd s a q)), (0, vR 8 20), (1, vI (nI q)), (2, vI (nI a)), (3, vI (nI b)), (4, vI m)], [], h) rfl ?_
            refine R_s 5 (129, [(7, vI (nI (u + 1))), (6, vI (nI c)), (5, vI (kd s a q)), (0, vR 8 20), (1, vI (nI q)), (2, vI (nI a)), (3, vI (nI b)), (4, vI m)], [vI (-1), vI (nI c), vI (nI b), vR 8 21], h) rfl ?_
            refine R_calli mM_others [vR 8 21, vI (nI b), vI (nI c), vI (-1)] [] (nI (otm s b (nI c) (-1) p)) h rfl (t_M_others21 M F.1.2.1 h5 hb) ?_
            refine R_top (nI (cn s b (nI c) p)) (by rw [otm_cn p h5]) ?_
            refine R_s 2 (cond (if2 .ge (nI (cn s b (nI c) p)) (nI (u + 1))) 141 137, [(7, vI (nI (u + 1))), (6, vI (nI c)), (5, vI (kd s a q)), (0, vR 8 20), (1, vI (nI q)), (2, vI (nI a)), (3, vI (nI b)), (4, vI m)], [], h) rfl ?_
            refine R_bp ((u + 1) ≤ (cn s b (nI c) p)) (i2_ge (by omega) (by omega)) (fun c6 => ?_) (fun c6 => ?_)
            · refine R_s 1 (142, [(7, vI (nI (u + 1))), (6, vI (nI c)), (5, vI (kd s a q)), (0, vR 8 20), (1, vI (nI q)), (2, vI (nI a)), (3, vI (nI b)), (4, vI m)], [vI (nI 5)], h) rfl ?_
              exact R_ret (some (vI (nI 5))) h rfl ⟨by unfold chg; rw [if_neg c1, if_neg c2, if_pos c3, if_neg c4, if_neg (by rw [ec, un_s (by omega) hu, if_pos (Classical.not_not.mp c5)]; exact nI_nlt c6 (by omega))], rfl⟩
            · refine R_s 2 (142, [(7, vI (nI (u + 1))), (6, vI (nI c)), (5, vI (kd s a q)), (0, vR 8 20), (1, vI (nI q)), (2, vI (nI a)), (3, vI (nI b)), (4, vI m)], [vI (nI 4)], h) rfl ?_
              exact R_ret (some (vI (nI 4))) h rfl ⟨by unfold chg; rw [if_neg c1, if_neg c2, if_pos c3, if_neg c4, if_pos (by rw [ec, un_s (by omega) hu, if_pos (Classical.not_not.mp c5)]; exact nI_lt (by omega) (by omega))], rfl⟩
        · refine R_s 1 (95, [(6, vI (kd s b q)), (5, vI (kd s a q)), (0, vR 8 20), (1, vI (nI q)), (2, vI (nI a)), (3, vI (nI b)), (4, vI m)], [vI (nI 0)], h) rfl ?_
          exact R_ret (some (vI (nI 0))) h rfl ⟨by unfold chg; rw [if_neg c1, if_neg c2, if_pos c3, if_pos (Classical.not_not.mp c4)], rfl⟩
      · refine R_s 1 (66, [(6, vI (kd s b q)), (5, vI (kd s a q)), (0, vR 8 20), (1, vI (nI q)), (2, vI (nI a)), (3, vI (nI b)), (4, vI m)], [vI (nI 3)], h) rfl ?_
        exact R_ret (some (vI (nI 3))) h rfl ⟨by unfold chg; rw [if_neg c1, if_neg c2, if_neg c3], rfl⟩
    · refine R_s 3 (cond (if2 .eq (kd s b q) (-1)) 46 42, [(6, vI (kd s b q)), (5, vI (kd s a q)), (0, vR 8 20), (1, vI (nI q)), (2, vI (nI a)), (3, vI (nI b)), (4, vI m)], [], h) rfl ?_
      refine R_bt (x2_eq.mpr (Classical.not_not.mp c2)) ?_
      refine R_s 3 (cond (if2 .eq (kd s a q) (-1)) 56 52, [(6, vI (kd s b q)), (5, vI (kd s a q)), (0, vR 8 20), (1, vI (nI q)), (2, vI (nI a)), (3, vI (nI b)), (4, vI m)], [], h) rfl ?_
      refine R_bf (by unfold if2; exact decide_eq_false c1) ?_
      refine R_s 2 (57, [(6, vI (kd s b q)), (5, vI (kd s a q)), (0, vR 8 20), (1, vI (nI q)), (2, vI (nI a)), (3, vI (nI b)), (4, vI m)], [vI (nI 2)], h) rfl ?_
      exact R_ret (some (vI (nI 2))) h rfl ⟨by unfold chg; rw [if_neg c1, if_pos (Classical.not_not.mp c2)], rfl⟩
set_option maxRecDepth 100000 in
theorem t_M_isFar {d n p k : Nat} {h : HP} {s : Nat → Int32} {q c : Nat} (hq : q < 5) (hc : c < 6) (M : MS 21 h s) (F : WF s n p k) : MT (d) mM_isFar [vR 8 20, vI (nI q), vI (nI c)] h (fun r h' => r = some (vI (nI (far s q (nI c)))) ∧ h' = h) := by
  have h8 := F.2.1.1
  have h5 := F.2.1.2.1
  have h6 := F.2.1.2.2
  refine R_s 4 (7, [(0, vR 8 20), (1, vI (nI q)), (2, vI (nI c))], [vI (nI c), vI (nI 39), vR 8 21], h) rfl ?_
  refine R_add 39 c rfl ?_
  refine R_ld 8 21 (39 + c) 125 rfl rfl (by omega) (by decide) ?_
  refine R_top (s (39 + c)) (M _ (by omega)) ?_
  refine R_s 4 (16, [(0, vR 8 20), (1, vI (nI q)), (2, vI (nI c))], [vI (nI q), vI (nI 27), vR 8 21, vI (s (39 + c))], h) rfl ?_
  refine R_add 27 q rfl ?_
  refine R_ld 8 21 (27 + q) 125 rfl rfl (by omega) (by decide) ?_
  refine R_top (s (27 + q)) (M _ (by omega)) ?_
  refine R_s 1 (cond (if2 .eq (s (39 + c)) (s (27 + q))) 25 21, [(0, vR 8 20), (1, vI (nI q)), (2, vI (nI c))], [], h) rfl ?_
  refine R_bp ((s (39 + c)) = (s (27 + q))) x2_eq (fun c1 => ?_) (fun c1 => ?_)
  · refine R_s 1 (26, [(0, vR 8 20), (1, vI (nI q)), (2, vI (nI c))], [vI (nI 0)], h) rfl ?_
    exact R_ret (some (vI (nI 0))) h rfl ⟨by unfold far; rw [nI_cl (by omega), if_pos c1], rfl⟩
  · refine R_s 2 (26, [(0, vR 8 20), (1, vI (nI q)), (2, vI (nI c))], [vI (nI 1)], h) rfl ?_
    exact R_ret (some (vI (nI 1))) h rfl ⟨by unfold far; rw [nI_cl (by omega), if_neg c1], rfl⟩
theorem neg_d {t u : Nat} (ht : t ≤ 5) (hu : u ≤ 5) (hl : ¬ 0 ≤ nI t - nI u) : nI 2 + -(nI t - nI u) = nI (2 + dst (nI t) (nI u)) := by
  have h : ∀ t, t < 6 → ∀ u, u < 6 → ¬ 0 ≤ nI t - nI u → nI 2 + -(nI t - nI u) = nI (2 + dst (nI t) (nI u)) := by decide +kernel
  exact h t (by omega) u (by omega) hl
theorem pos_d {t u : Nat} (ht : t ≤ 5) (hu : u ≤ 5) (hl : 0 ≤ nI t - nI u) : nI 2 + (nI t - nI u) = nI (2 + dst (nI t) (nI u)) := by
  have h : ∀ t, t < 6 → ∀ u, u < 6 → 0 ≤ nI t - nI u → nI 2 + (nI t - nI u) = nI (2 + dst (nI t) (nI u)) := by decide +kernel
  exact h t (by omega) u (by omega) hl
theorem i0_n {n : Nat} (h : n < 2147483648) : if0 .eq (nI n) = true ↔ n = 0 := by rw [x0_eq, ← nI_0, nI_eq h (by decide)]
set_option maxRecDepth 100000 in
theorem t_M_costOf {d n p k : Nat} {h : HP} {s : Nat → Int32} {a b q : Nat} {m : Int32} (ha : a < 8) (hb : b < 8) (hq : q < 5) (M : MS 21 h s) (F : WF s n p k) : MT (d + 3) mM_costOf [vR 8 20, vI (nI q), vI (nI a), vI (nI b), vI m] h (fun r h' => r = some (vI (nI (cof s m p a b q))) ∧ h' = h) := by
  have h8 := F.2.1.1
  have h5 := F.2.1.2.1
  have h6 := F.2.1.2.2
  refine R_s 4 (6, [(0, vR 8 20), (1, vI (nI q)), (2, vI (nI a)), (3, vI (nI b)), (4, vI m)], [vI (nI q), vI (nI a), vR 8 21], h) rfl ?_
  refine R_calli mM_at [vI (nI a), vI (nI q)] [vR 8 21] (nI (45 + 2 * (a * 5 + q))) h rfl t_M_at ?_
  refine R_ld 8 21 (45 + 2 * (a * 5 + q)) 125 rfl rfl (by omega) (by decide) ?_
  refine R_top (kd s a q) (M _ (by omega)) ?_
  refine R_s 5 (18, [(5, vI (kd s a q)), (0, vR 8 20), (1, vI (nI q)), (2, vI (nI a)), (3, vI (nI b)), (4, vI m)], [vI (nI q), vI (nI b), vR 8 21], h) rfl ?_
  refine R_calli mM_at [vI (nI b), vI (nI q)] [vR 8 21] (nI (45 + 2 * (b * 5 + q))) h rfl t_M_at ?_
  refine R_ld 8 21 (45 + 2 * (b * 5 + q)) 125 rfl rfl (by omega) (by decide) ?_
  refine R_top (kd s b q) (M _ (by omega)) ?_
  refine R_s 6 (30, [(6, vI (kd s b q)), (5, vI (kd s a q)), (0, vR 8 20), (1, vI (nI q)), (2, vI (nI a)), (3, vI (nI b)), (4, vI m)], [vI m, vI (nI b), vI (nI a), vI (nI q), vR 8 20], h) rfl ?_
  refine R_calli mM_change [vR 8 20, vI (nI q), vI (nI a), vI (nI b), vI m] [] (nI (chg s m p a b q)) h rfl (t_M_change ha hb hq M F) ?_
  have hle := chg_le s m p a b q
  unfold cof
  have key := chg_kd s m p a b q
  generalize chg s m p a b q = z at hle key ⊢
  rcases (show z = 0 ∨ z = 1 ∨ z = 2 ∨ z = 3 ∨ z = 4 ∨ z = 5 by omega) with rfl | rfl | rfl | rfl | rfl | rfl
  · refine R_s 1 (193, [(6, vI (kd s b q)), (5, vI (kd s a q)), (0, vR 8 20), (1, vI (nI q)), (2, vI (nI a)), (3, vI (nI b)), (4, vI m)], [], h) rfl ?_
    refine R_s 1 (194, [(6, vI (kd s b q)), (5, vI (kd s a q)), (0, vR 8 20), (1, vI (nI q)), (2, vI (nI a)), (3, vI (nI b)), (4, vI m)], [vI (nI 0)], h) rfl ?_
    exact R_ret (some (vI (nI 0))) h rfl ⟨rfl, rfl⟩
  · refine R_s 1 (68, [(6, vI (kd s b q)), (5, vI (kd s a q)), (0, vR 8 20), (1, vI (nI q)), (2, vI (nI a)), (3, vI (nI b)), (4, vI m)], [], h) rfl ?_
    obtain ⟨e, he, ee⟩ := ((F.2.2.2.2.2.1 b hb q hq).resolve_left key).1
    refine R_lv (lv' := [(6, vI (nI e)), (5, vI (kd s a q)), (0, vR 8 20), (1, vI (nI q)), (2, vI (nI a)), (3, vI (nI b)), (4, vI m)]) (by rw [ee]) ?_
    rw [ee]
    refine R_s 3 (72, [(6, vI (nI e)), (5, vI (kd s a q)), (0, vR 8 20), (1, vI (nI q)), (2, vI (nI a)), (3, vI (nI b)), (4, vI m)], [vI (nI e), vI (nI q), vR 8 20], h) rfl ?_
    refine R_calli mM_isFar [vR 8 20, vI (nI q), vI (nI e)] [] (nI (far s q (nI e))) h rfl (t_M_isFar hq (by omega) M F) ?_
    have hfe := far_le s q (nI e)
    refine R_s 1 (cond (if0 .eq (nI (far s q (nI e)))) 82 78, [(6, vI (nI e)), (5, vI (kd s a q)), (0, vR 8 20), (1, vI (nI q)), (2, vI (nI a)), (3, vI (nI b)), (4, vI m)], [], h) rfl ?_
    refine R_bp (far s q (nI e) = 0) (i0_n (by omega)) (fun fe => ?_) (fun fe => ?_)
    · rw [fe]
      refine R_s 1 (83, [(6, vI (nI e)), (5, vI (kd s a q)), (0, vR 8 20), (1, vI (nI q)), (2, vI (nI a)), (3, vI (nI b)), (4, vI m)], [vI (nI 1)], h) rfl ?_
      exact R_ret (some (vI (nI 1))) h rfl ⟨rfl, rfl⟩
    · have fe : far s q (nI e) = 1 := by omega
      rw [fe]
      refine R_s 2 (83, [(6, vI (nI e)), (5, vI (kd s a q)), (0, vR 8 20), (1, vI (nI q)), (2, vI (nI a)), (3, vI (nI b)), (4, vI m)], [vI (nI 2)], h) rfl ?_
      exact R_ret (some (vI (nI 2))) h rfl ⟨rfl, rfl⟩
  · refine R_s 1 (84, [(6, vI (kd s b q)), (5, vI (kd s a q)), (0, vR 8 20), (1, vI (nI q)), (2, vI (nI a)), (3, vI (nI b)), (4, vI m)], [], h) rfl ?_
    obtain ⟨c, hc, ec⟩ := ((F.2.2.2.2.2.1 a ha q hq).resolve_left key).1
    refine R_lv (lv' := [(6, vI (kd s b q)), (5, vI (nI c)), (0, vR 8 20), (1, vI (nI q)), (2, vI (nI a)), (3, vI (nI b)), (4, vI m)]) (by rw [ec]) ?_
    rw [ec]
    refine R_s 3 (88, [(6, vI (kd s b q)), (5, vI (nI c)), (0, vR 8 20), (1, vI (nI q)), (2, vI (nI a)), (3, vI (nI b)), (4, vI m)], [vI (nI c), vI (nI q), vR 8 20], h) rfl ?_
    refine R_calli mM_isFar [vR 8 20, vI (nI q), vI (nI c)] [] (nI (far s q (nI c))) h rfl (t_M_isFar hq (by omega) M F) ?_
    have hfc := far_le s q (nI c)
    refine R_s 1 (cond (if0 .eq (nI (far s q (nI c)))) 98 94, [(6, vI (kd s b q)), (5, vI (nI c)), (0, vR 8 20), (1, vI (nI q)), (2, vI (nI a)), (3, vI (nI b)), (4, vI m)], [], h) rfl ?_
    refine R_bp (far s q (nI c) = 0) (i0_n (by omega)) (fun fc => ?_) (fun fc => ?_)
    · rw [fc]
      refine R_s 1 (99, [(6, vI (kd s b q)), (5, vI (nI c)), (0, vR 8 20), (1, vI (nI q)), (2, vI (nI a)), (3, vI (nI b)), (4, vI m)], [vI (nI 1)], h) rfl ?_
      exact R_ret (some (vI (nI 1))) h rfl ⟨rfl, rfl⟩
    · have fc : far s q (nI c) = 1 := by omega
      rw [fc]
      refine R_s 2 (99, [(6, vI (kd s b q)), (5, vI (nI c)), (0, vR 8 20), (1, vI (nI q)), (2, vI (nI a)), (3, vI (nI b)), (4, vI m)], [vI (nI 2)], h) rfl ?_
      exact R_ret (some (vI (nI 2))) h rfl ⟨rfl, rfl⟩
  · refine R_s 1 (100, [(6, vI (kd s b q)), (5, vI (kd s a q)), (0, vR 8 20), (1, vI (nI q)), (2, vI (nI a)), (3, vI (nI b)), (4, vI m)], [], h) rfl ?_
    obtain ⟨c, hc, ec⟩ := ((F.2.2.2.2.2.1 a ha q hq).resolve_left key.1).1
    obtain ⟨e, he, ee⟩ := ((F.2.2.2.2.2.1 b hb q hq).resolve_left key.2).1
    refine R_lv (lv' := [(6, vI (kd s b q)), (5, vI (nI c)), (0, vR 8 20), (1, vI (nI q)), (2, vI (nI a)), (3, vI (nI b)), (4, vI m)]) (by rw [ec]) ?_
    refine R_lv (lv' := [(6, vI (nI e)), (5, vI (nI c)), (0, vR 8 20), (1, vI (nI q)), (2, vI (nI a)), (3, vI (nI b)), (4, vI m)]) (by rw [ee]) ?_
    rw [ec, ee]
    refine R_s 4 (105, [(6, vI (nI e)), (5, vI (nI c)), (0, vR 8 20), (1, vI (nI q)), (2, vI (nI a)), (3, vI (nI b)), (4, vI m)], [vI (nI c), vI (nI q), vR 8 20, vI (nI 3)], h) rfl ?_
    refine R_calli mM_isFar [vR 8 20, vI (nI q), vI (nI c)] [vI (nI 3)] (nI (far s q (nI c))) h rfl (t_M_isFar hq (by omega) M F) ?_
    have hfc := far_le s q (nI c)
    refine R_s 1 (cond (if0 .eq (nI (far s q (nI c)))) 115 111, [(6, vI (nI e)), (5, vI (nI c)), (0, vR 8 20), (1, vI (nI q)), (2, vI (nI a)), (3, vI (nI b)), (4, vI m)], [vI (nI 3)], h) rfl ?_
    refine R_bp (far s q (nI c) = 0) (i0_n (by omega)) (fun fc => ?_) (fun fc => ?_)
    · rw [fc]
      refine R_s 1 (116, [(6, vI (nI e)), (5, vI (nI c)), (0, vR 8 20), (1, vI (nI q)), (2, vI (nI a)), (3, vI (nI b)), (4, vI m)], [vI (nI 0), vI (nI 3)], h) rfl ?_
      refine R_add 3 0 rfl ?_
      refine R_s 3 (121, [(6, vI (nI e)), (5, vI (nI c)), (0, vR 8 20), (1, vI (nI q)), (2, vI (nI a)), (3, vI (nI b)), (4, vI m)], [vI (nI e), vI (nI q), vR 8 20, vI (nI (3 + 0))], h) rfl ?_
      refine R_calli mM_isFar [vR 8 20, vI (nI q), vI (nI e)] [vI (nI (3 + 0))] (nI (far s q (nI e))) h rfl (t_M_isFar hq (by omega) M F) ?_
      have hfe := far_le s q (nI e)
      refine R_s 1 (cond (if0 .eq (nI (far s q (nI e)))) 131 127, [(6, vI (nI e)), (5, vI (nI c)), (0, vR 8 20), (1, vI (nI q)), (2, vI (nI a)), (3, vI (nI b)), (4, vI m)], [vI (nI (3 + 0))], h) rfl ?_
      refine R_bp (far s q (nI e) = 0) (i0_n (by omega)) (fun fe => ?_) (fun fe => ?_)
      · rw [fe]
        refine R_s 1 (132, [(6, vI (nI e)), (5, vI (nI c)), (0, vR 8 20), (1, vI (nI q)), (2, vI (nI a)), (3, vI (nI b)), (4, vI m)], [vI (nI 0), vI (nI (3 + 0))], h) rfl ?_
        refine R_add (3 + 0) 0 rfl ?_
        exact R_ret (some (vI (nI ((3 + 0) + 0)))) h rfl ⟨rfl, rfl⟩
      · have fe : far s q (nI e) = 1 := by omega
        rw [fe]
        refine R_s 2 (132, [(6, vI (nI e)), (5, vI (nI c)), (0, vR 8 20), (1, vI (nI q)), (2, vI (nI a)), (3, vI (nI b)), (4, vI m)], [vI (nI 1), vI (nI (3 + 0))], h) rfl ?_
        refine R_add (3 + 0) 1 rfl ?_
        exact R_ret (some (vI (nI ((3 + 0) + 1)))) h rfl ⟨rfl, rfl⟩
    · have fc : far s q (nI c) = 1 := by omega
      rw [fc]
      refine R_s 2 (116, [(6, vI (nI e)), (5, vI (nI c)), (0, vR 8 20), (1, vI (nI q)), (2, vI (nI a)), (3, vI (nI b)), (4, vI m)], [vI (nI 1), vI (nI 3)], h) rfl ?_
      refine R_add 3 1 rfl ?_
      refine R_s 3 (121, [(6, vI (nI e)), (5, vI (nI c)), (0, vR 8 20), (1, vI (nI q)), (2, vI (nI a)), (3, vI (nI b)), (4, vI m)], [vI (nI e), vI (nI q), vR 8 20, vI (nI (3 + 1))], h) rfl ?_
      refine R_calli mM_isFar [vR 8 20, vI (nI q), vI (nI e)] [vI (nI (3 + 1))] (nI (far s q (nI e))) h rfl (t_M_isFar hq (by omega) M F) ?_
      have hfe := far_le s q (nI e)
      refine R_s 1 (cond (if0 .eq (nI (far s q (nI e)))) 131 127, [(6, vI (nI e)), (5, vI (nI c)), (0, vR 8 20), (1, vI (nI q)), (2, vI (nI a)), (3, vI (nI b)), (4, vI m)], [vI (nI (3 + 1))], h) rfl ?_
      refine R_bp (far s q (nI e) = 0) (i0_n (by omega)) (fun fe => ?_) (fun fe => ?_)
      · rw [fe]
        refine R_s 1 (132, [(6, vI (nI e)), (5, vI (nI c)), (0, vR 8 20), (1, vI (nI q)), (2, vI (nI a)), (3, vI (nI b)), (4, vI m)], [vI (nI 0), vI (nI (3 + 1))], h) rfl ?_
        refine R_add (3 + 1) 0 rfl ?_
        exact R_ret (some (vI (nI ((3 + 1) + 0)))) h rfl ⟨rfl, rfl⟩
      · have fe : far s q (nI e) = 1 := by omega
        rw [fe]
        refine R_s 2 (132, [(6, vI (nI e)), (5, vI (nI c)), (0, vR 8 20), (1, vI (nI q)), (2, vI (nI a)), (3, vI (nI b)), (4, vI m)], [vI (nI 1), vI (nI (3 + 1))], h) rfl ?_
        refine R_add (3 + 1) 1 rfl ?_
        exact R_ret (some (vI (nI ((3 + 1) + 1)))) h rfl ⟨rfl, rfl⟩
  · refine R_s 1 (134, [(6, vI (kd s b q)), (5, vI (kd s a q)), (0, vR 8 20), (1, vI (nI q)), (2, vI (nI a)), (3, vI (nI b)), (4, vI m)], [], h) rfl ?_
    obtain ⟨e, he, ee⟩ := ((F.2.2.2.2.2.1 b hb q hq).resolve_left key.2).1
    refine R_lv (lv' := [(6, vI (nI e)), (5, vI (kd s a q)), (0, vR 8 20), (1, vI (nI q)), (2, vI (nI a)), (3, vI (nI b)), (4, vI m)]) (by rw [ee]) ?_
    rw [ee]
    refine R_s 3 (138, [(6, vI (nI e)), (5, vI (kd s a q)), (0, vR 8 20), (1, vI (nI q)), (2, vI (nI a)), (3, vI (nI b)), (4, vI m)], [vI (nI e), vI (nI q), vR 8 20], h) rfl ?_
    refine R_calli mM_isFar [vR 8 20, vI (nI q), vI (nI e)] [] (nI (far s q (nI e))) h rfl (t_M_isFar hq (by omega) M F) ?_
    have hfe := far_le s q (nI e)
    refine R_s 1 (cond (if0 .eq (nI (far s q (nI e)))) 148 144, [(6, vI (nI e)), (5, vI (kd s a q)), (0, vR 8 20), (1, vI (nI q)), (2, vI (nI a)), (3, vI (nI b)), (4, vI m)], [], h) rfl ?_
    refine R_bp (far s q (nI e) = 0) (i0_n (by omega)) (fun fe => ?_) (fun fe => ?_)
    · rw [fe]
      refine R_s 1 (149, [(6, vI (nI e)), (5, vI (kd s a q)), (0, vR 8 20), (1, vI (nI q)), (2, vI (nI a)), (3, vI (nI b)), (4, vI m)], [vI (nI 2)], h) rfl ?_
      exact R_ret (some (vI (nI 2))) h rfl ⟨rfl, rfl⟩
    · have fe : far s q (nI e) = 1 := by omega
      rw [fe]
      refine R_s 2 (149, [(6, vI (nI e)), (5, vI (kd s a q)), (0, vR 8 20), (1, vI (nI q)), (2, vI (nI a)), (3, vI (nI b)), (4, vI m)], [vI (nI 3)], h) rfl ?_
      exact R_ret (some (vI (nI 3))) h rfl ⟨rfl, rfl⟩
  · refine R_s 1 (150, [(6, vI (kd s b q)), (5, vI (kd s a q)), (0, vR 8 20), (1, vI (nI q)), (2, vI (nI a)), (3, vI (nI b)), (4, vI m)], [], h) rfl ?_
    obtain ⟨t, ht, et⟩ := ((F.2.2.2.2.2.1 a ha q hq).resolve_left key.1).2
    obtain ⟨u, hu, eu⟩ := ((F.2.2.2.2.2.1 b hb q hq).resolve_left key.2).2
    refine R_s 4 (156, [(6, vI (kd s b q)), (5, vI (kd s a q)), (0, vR 8 20), (1, vI (nI q)), (2, vI (nI a)), (3, vI (nI b)), (4, vI m)], [vI (nI q), vI (nI a), vR 8 21], h) rfl ?_
    refine R_calli mM_at [vI (nI a), vI (nI q)] [vR 8 21] (nI (45 + 2 * (a * 5 + q))) h rfl t_M_at ?_
    refine R_s 1 (160, [(6, vI (kd s b q)), (5, vI (kd s a q)), (0, vR 8 20), (1, vI (nI q)), (2, vI (nI a)), (3, vI (nI b)), (4, vI m)], [vI (nI 1), vI (nI (45 + 2 * (a * 5 + q))), vR 8 21], h) rfl ?_
    refine R_add (45 + 2 * (a * 5 + q)) 1 rfl ?_
    refine R_ld 8 21 ((45 + 2 * (a * 5 + q)) + 1) 125 rfl rfl (by omega) (by decide) ?_
    refine R_top (nI t) ((M _ (by omega)).trans ((show s (45 + 2 * (a * 5 + q) + 1) = tn s a q by unfold tn; rw [show 45 + 2 * (a * 5 + q) + 1 = 46 + 2 * (a * 5 + q) by omega]).trans et)) ?_
    refine R_s 4 (168, [(6, vI (kd s b q)), (5, vI (kd s a q)), (0, vR 8 20), (1, vI (nI q)), (2, vI (nI a)), (3, vI (nI b)), (4, vI m)], [vI (nI q), vI (nI b), vR 8 21, vI (nI t)], h) rfl ?_
    refine R_calli mM_at [vI (nI b), vI (nI q)] [vR 8 21, vI (nI t)] (nI (45 + 2 * (b * 5 + q))) h rfl t_M_at ?_
    refine R_s 1 (172, [(6, vI (kd s b q)), (5, vI (kd s a q)), (0, vR 8 20), (1, vI (nI q)), (2, vI (nI a)), (3, vI (nI b)), (4, vI m)], [vI (nI 1), vI (nI (45 + 2 * (b * 5 + q))), vR 8 21, vI (nI t)], h) rfl ?_
    refine R_add (45 + 2 * (b * 5 + q)) 1 rfl ?_
    refine R_ld 8 21 ((45 + 2 * (b * 5 + q)) + 1) 125 rfl rfl (by omega) (by decide) ?_
    refine R_top (nI u) ((M _ (by omega)).trans ((show s (45 + 2 * (b * 5 + q) + 1) = tn s b q by unfold tn; rw [show 45 + 2 * (b * 5 + q) + 1 = 46 + 2 * (b * 5 + q) by omega]).trans eu)) ?_
    refine R_s 5 (cond (if0 .ge (nI t - nI u)) 189 183, [(7, vI (nI t - nI u)), (6, vI (kd s b q)), (5, vI (kd s a q)), (0, vR 8 20), (1, vI (nI q)), (2, vI (nI a)), (3, vI (nI b)), (4, vI m)], [vI (nI 2)], h) rfl ?_
    refine R_bp (0 ≤ (nI t - nI u)) x0_ge (fun c9 => ?_) (fun c9 => ?_)
    · refine R_s 2 (192, [(7, vI (nI t - nI u)), (6, vI (kd s b q)), (5, vI (kd s a q)), (0, vR 8 20), (1, vI (nI q)), (2, vI (nI a)), (3, vI (nI b)), (4, vI m)], [vI ((nI 2) + (nI t - nI u))], h) rfl ?_
      refine R_top (nI (2 + dst (nI t) (nI u))) (pos_d ht hu c9) ?_
      exact R_ret (some (vI (nI (2 + dst (nI t) (nI u))))) h rfl ⟨by rw [et, eu]; rfl, rfl⟩
    · refine R_s 4 (192, [(7, vI (nI t - nI u)), (6, vI (kd s b q)), (5, vI (kd s a q)), (0, vR 8 20), (1, vI (nI q)), (2, vI (nI a)), (3, vI (nI b)), (4, vI m)], [vI ((nI 2) + (-(nI t - nI u)))], h) rfl ?_
      refine R_top (nI (2 + dst (nI t) (nI u))) (neg_d ht hu c9) ?_
      exact R_ret (some (vI (nI (2 + dst (nI t) (nI u))))) h rfl ⟨by rw [et, eu]; rfl, rfl⟩
set_option maxRecDepth 100000 in
theorem t_M_between {d n p k : Nat} {h : HP} {s : Nat → Int32} {a b : Nat} {m : Int32} (ha : a < 8) (hb : b < 8) (M : MS 21 h s) (F : WF s n p k) : MT (d + 4) mM_between [vR 8 20, vI (nI a), vI (nI b), vI m] h (fun r h' => r = some (vI (nI (btw s m p a b p))) ∧ h' = h) := by
  have h8 := F.2.1.1
  have h5 := F.2.1.2.1
  have h6 := F.2.1.2.2
  refine R_s 4 (6, [(5, vI (nI 0)), (4, vI (nI 0)), (0, vR 8 20), (1, vI (nI a)), (2, vI (nI b)), (3, vI m)], [], h) rfl ?_
  suffices ∀ m0 (q c : Nat) (hm : q + m0 = p) (hc : c = btw s m p a b q), R (d + 4) mM_between (6, [(5, vI (nI q)), (4, vI (nI c)), (0, vR 8 20), (1, vI (nI a)), (2, vI (nI b)), (3, vI m)], [], h) _ from this p 0 0 (by omega) rfl
  intro m0
  induction m0 with
  | zero =>
    intro q c hm hc
    refine R_s 4 (14, [(5, vI (nI q)), (4, vI (nI c)), (0, vR 8 20), (1, vI (nI a)), (2, vI (nI b)), (3, vI m)], [vI (nI 26), vR 8 21, vI (nI q)], h) rfl ?_
    refine R_ld 8 21 26 125 rfl rfl (by omega) (by decide) ?_
    refine R_top (nI p) ((M 26 (by decide)).trans F.1.2.1) ?_
    refine R_s 1 (cond (if2 .ge (nI q) (nI p)) 38 18, [(5, vI (nI q)), (4, vI (nI c)), (0, vR 8 20), (1, vI (nI a)), (2, vI (nI b)), (3, vI m)], [], h) rfl ?_
    refine R_bp (p ≤ q) (i2_ge (by omega) (by omega)) (fun c1 => ?_) (fun c1 => ?_)
    · refine R_s 1 (40, [(5, vI (nI q)), (4, vI (nI c)), (0, vR 8 20), (1, vI (nI a)), (2, vI (nI b)), (3, vI m)], [vI (nI c)], h) rfl ?_
      exact R_ret (some (vI (nI c))) h rfl ⟨by rw [hc, show q = p by omega], rfl⟩
    · exact absurd hm (by omega)
  | succ m0 ih =>
    intro q c hm hc
    refine R_s 4 (14, [(5, vI (nI q)), (4, vI (nI c)), (0, vR 8 20), (1, vI (nI a)), (2, vI (nI b)), (3, vI m)], [vI (nI 26), vR 8 21, vI (nI q)], h) rfl ?_
    refine R_ld 8 21 26 125 rfl rfl (by omega) (by decide) ?_
    refine R_top (nI p) ((M 26 (by decide)).trans F.1.2.1) ?_
    refine R_s 1 (cond (if2 .ge (nI q) (nI p)) 38 18, [(5, vI (nI q)), (4, vI (nI c)), (0, vR 8 20), (1, vI (nI a)), (2, vI (nI b)), (3, vI m)], [], h) rfl ?_
    refine R_bp (p ≤ q) (i2_ge (by omega) (by omega)) (fun c1 => ?_) (fun c1 => ?_)
    · refine R_s 1 (40, [(5, vI (nI q)), (4, vI (nI c)), (0, vR 8 20), (1, vI (nI a)), (2, vI (nI b)), (3, vI m)], [vI (nI c)], h) rfl ?_
      exact R_ret (some (vI (nI c))) h rfl ⟨by rw [hc, show q = p by omega], rfl⟩
    · refine R_s 6 (26, [(5, vI (nI q)), (4, vI (nI c)), (0, vR 8 20), (1, vI (nI a)), (2, vI (nI b)), (3, vI m)], [vI m, vI (nI b), vI (nI a), vI (nI q), vR 8 20, vI (nI c)], h) rfl ?_
      refine R_calli mM_costOf [vR 8 20, vI (nI q), vI (nI a), vI (nI b), vI m] [vI (nI c)] (nI (cof s m p a b q)) h rfl (t_M_costOf ha hb (by omega) M F) ?_
      refine R_add c (cof s m p a b q) rfl ?_
      refine R_s 2 (35, [(5, vI (nI q + Int32.ofInt 1)), (4, vI (nI (c + (cof s m p a b q)))), (0, vR 8 20), (1, vI (nI a)), (2, vI (nI b)), (3, vI m)], [], h) rfl ?_
      refine R_lv (lv' := [(5, vI (nI (q + 1))), (4, vI (nI (c + (cof s m p a b q)))), (0, vR 8 20), (1, vI (nI a)), (2, vI (nI b)), (3, vI m)]) (by rw [show nI q + Int32.ofInt 1 = nI (q + 1) from nI_add _ _]) ?_
      refine R_s 1 (6, [(5, vI (nI (q + 1))), (4, vI (nI (c + (cof s m p a b q)))), (0, vR 8 20), (1, vI (nI a)), (2, vI (nI b)), (3, vI m)], [], h) rfl ?_
      exact ih (q + 1) _ (by omega) (by rw [hc]; rfl)
end
section
def TXM (h : HP) (ch : Nat → Nat) (len : Nat) : Prop := h 8 20 5 = nI len ∧ len ≤ 300 ∧ ∀ j, j < len → h 8 24 j = nI (ch j) ∧ 32 ≤ ch j ∧ ch j ≤ 126
/-- the reference holds the state -/
def MI (h : HP) (A : AS) : Prop := MS 21 h A.1.1 ∧ (h 8 20 3 = nI A.2.1.length ∧ ∀ j z, A.2.1[j]? = some z → ∀ i, i < 125 → h 8 23 (125 * (A.2.1.length - 1 - j) + i) = z.1 i) ∧ TXM h A.2.2.1 A.2.2.2
set_option maxRecDepth 100000 in
theorem t_M_songCount {d : Nat} {h : HP} {A : AS} (V : VA A) (I : MI h A) : MT (d) mM_songCount [vR 8 20] h (fun r h' => r = some (vI (oCount A)) ∧ MI h' A) := by
  obtain ⟨⟨s, n, p, k⟩, kp, ch, len⟩ := A
  have M : MS 21 h s := I.1
  have F : WF s n p k := V.1.1
  have O : WO s n := V.1.2.1.1
  have hn1 : 1 ≤ n := V.1.2.2.1
  have hp1 : 1 ≤ p := V.1.2.2.2.1
  have hk1 : 1 ≤ k := V.1.2.2.2.2
  have h8 := F.2.1.1
  have h5 := F.2.1.2.1
  have h6 := F.2.1.2.2
  refine R_s 3 (5, [(0, vR 8 20)], [vI (nI 0), vR 8 21], h) rfl ?_
  refine R_ld 8 21 0 125 rfl rfl (by omega) (by decide) ?_
  refine R_top (nI n) ((M 0 (by decide)).trans F.1.1) ?_
  exact R_ret (some (vI (nI n))) h rfl ⟨rfl, I⟩
set_option maxRecDepth 100000 in
theorem t_M_ofPart0 {d : Nat} {h : HP} {A : AS} {x y : Int32} (V : VA A) (I : MI h A) : MT (d + 2) mM_ofPart [vR 8 20, vI x, vI y, vI (nI 0)] h (fun r h' => r = some (vI (oKind A x y)) ∧ MI h' A) := by
  obtain ⟨⟨s, n, p, k⟩, kp, ch, len⟩ := A
  have M : MS 21 h s := I.1
  have F : WF s n p k := V.1.1
  have O : WO s n := V.1.2.1.1
  have hn1 : 1 ≤ n := V.1.2.2.1
  have hp1 : 1 ≤ p := V.1.2.2.2.1
  have hk1 : 1 ≤ k := V.1.2.2.2.2
  have h8 := F.2.1.1
  have h5 := F.2.1.2.1
  have h6 := F.2.1.2.2
  refine R_s 2 (2, [(0, vR 8 20), (1, vI x), (2, vI y), (3, vI (nI 0))], [vI x, vR 8 20], h) rfl ?_
  refine R_calli mM_isSong [vR 8 20, vI x] [] (bI (inb x n)) h rfl (t_M_isSong ((M 0 (by decide)).trans F.1.1) h8) ?_
  refine R_s 1 (cond (if0 .eq (bI (inb x n))) 16 8, [(0, vR 8 20), (1, vI x), (2, vI y), (3, vI (nI 0))], [], h) rfl ?_
  refine R_bp ((inb x n) = false) (x0_eq.trans bI_eq) (fun ca => ?_) (fun ca => ?_)
  · refine R_s 1 (17, [(0, vR 8 20), (1, vI x), (2, vI y), (3, vI (nI 0))], [vI (-1)], h) rfl ?_
    exact R_ret (some (vI (-1))) h rfl ⟨by unfold oKind; dsimp only; rw [sel1_f ca], I⟩
  · obtain ⟨a, ha, rfl⟩ := inb_ex (by omega) (tf ca)
    refine R_s 2 (10, [(0, vR 8 20), (1, vI (nI a)), (2, vI y), (3, vI (nI 0))], [vI y, vR 8 20], h) rfl ?_
    refine R_calli mM_isPlayer [vR 8 20, vI y] [] (bI (inb y p)) h rfl (t_M_isPlayer ((M 26 (by decide)).trans F.1.2.1) (by omega)) ?_
    refine R_s 1 (cond (if0 .ne (bI (inb y p))) 18 16, [(0, vR 8 20), (1, vI (nI a)), (2, vI y), (3, vI (nI 0))], [], h) rfl ?_
    refine R_bp ((inb y p) = true) (x0_ne.trans bI_ne) (fun cb => ?_) (fun cb => ?_)
    · have cb := bool_t cb
      obtain ⟨b, hb, rfl⟩ := inb_ex (by omega) (tf cb)
      refine R_s 4 (24, [(0, vR 8 20), (1, vI (nI a)), (2, vI (nI b)), (3, vI (nI 0))], [vI (nI b), vI (nI a), vR 8 21], h) rfl ?_
      refine R_calli mM_at [vI (nI a), vI (nI b)] [vR 8 21] (nI (45 + 2 * (a * 5 + b))) h rfl t_M_at ?_
      refine R_ld 8 21 (45 + 2 * (a * 5 + b)) 125 rfl rfl (by omega) (by decide) ?_
      refine R_top (kd s a b) (M _ (by omega)) ?_
      refine R_s 2 (cond (if2 .ne (kd s a b) (-1)) 37 32, [(0, vR 8 20), (1, vI (nI a)), (2, vI (nI b)), (3, vI (nI 0))], [], h) rfl ?_
      refine R_bp (¬ (kd s a b) = (-1)) x2_ne (fun c1 => ?_) (fun c1 => ?_)
      · refine R_s 4 (43, [(0, vR 8 20), (1, vI (nI a)), (2, vI (nI b)), (3, vI (nI 0))], [vI (nI b), vI (nI a), vR 8 21], h) rfl ?_
        refine R_calli mM_at [vI (nI a), vI (nI b)] [vR 8 21] (nI (45 + 2 * (a * 5 + b))) h rfl t_M_at ?_
        refine R_s 1 (47, [(0, vR 8 20), (1, vI (nI a)), (2, vI (nI b)), (3, vI (nI 0))], [vI (nI 0), vI (nI (45 + 2 * (a * 5 + b))), vR 8 21], h) rfl ?_
        refine R_add (45 + 2 * (a * 5 + b)) 0 rfl ?_
        refine R_ld 8 21 ((45 + 2 * (a * 5 + b)) + 0) 125 rfl rfl (by omega) (by decide) ?_
        refine R_top (kd s a b) (M _ (by omega)) ?_
        exact R_ret (some (vI (kd s a b))) h rfl ⟨by unfold oKind; dsimp only; rw [sel1_t ha (by omega), sel1_t hb (by omega), if_neg c1], I⟩
      · refine R_s 2 (49, [(0, vR 8 20), (1, vI (nI a)), (2, vI (nI b)), (3, vI (nI 0))], [vI (-4)], h) rfl ?_
        exact R_ret (some (vI (-4))) h rfl ⟨by unfold oKind; dsimp only; rw [sel1_t ha (by omega), sel1_t hb (by omega), if_pos (Classical.not_not.mp c1)], I⟩
    · have cb := bool_f cb
      refine R_s 1 (17, [(0, vR 8 20), (1, vI (nI a)), (2, vI y), (3, vI (nI 0))], [vI (-1)], h) rfl ?_
      exact R_ret (some (vI (-1))) h rfl ⟨by unfold oKind; dsimp only; rw [sel1_t ha (by omega), sel1_f cb], I⟩
set_option maxRecDepth 100000 in
theorem t_M_kindOf {d : Nat} {h : HP} {A : AS} {x y : Int32} (V : VA A) (I : MI h A) : MT (d + 3) mM_kindOf [vR 8 20, vI x, vI y] h (fun r h' => r = some (vI (oKind A x y)) ∧ MI h' A) := by
  refine R_s 4 (4, [(0, vR 8 20), (1, vI x), (2, vI y)], [vI (nI 0), vI y, vI x, vR 8 20], h) rfl ?_
  refine R_call mM_ofPart [vR 8 20, vI x, vI y, vI (nI 0)] [] rfl (t_M_ofPart0 V I) (fun r h1 e1 => ?_)
  obtain ⟨rfl, I1⟩ := e1
  show R _ mM_kindOf (7, [(0, vR 8 20), (1, vI x), (2, vI y)], [vI (oKind A x y)], h1) _
  exact R_ret (some (vI (oKind A x y))) h1 rfl ⟨rfl, I1⟩
set_option maxRecDepth 100000 in
theorem t_M_ofPart1 {d : Nat} {h : HP} {A : AS} {x y : Int32} (V : VA A) (I : MI h A) : MT (d + 2) mM_ofPart [vR 8 20, vI x, vI y, vI (nI 1)] h (fun r h' => r = some (vI (oTun A x y)) ∧ MI h' A) := by
  obtain ⟨⟨s, n, p, k⟩, kp, ch, len⟩ := A
  have M : MS 21 h s := I.1
  have F : WF s n p k := V.1.1
  have O : WO s n := V.1.2.1.1
  have hn1 : 1 ≤ n := V.1.2.2.1
  have hp1 : 1 ≤ p := V.1.2.2.2.1
  have hk1 : 1 ≤ k := V.1.2.2.2.2
  have h8 := F.2.1.1
  have h5 := F.2.1.2.1
  have h6 := F.2.1.2.2
  refine R_s 2 (2, [(0, vR 8 20), (1, vI x), (2, vI y), (3, vI (nI 1))], [vI x, vR 8 20], h) rfl ?_
  refine R_calli mM_isSong [vR 8 20, vI x] [] (bI (inb x n)) h rfl (t_M_isSong ((M 0 (by decide)).trans F.1.1) h8) ?_
  refine R_s 1 (cond (if0 .eq (bI (inb x n))) 16 8, [(0, vR 8 20), (1, vI x), (2, vI y), (3, vI (nI 1))], [], h) rfl ?_
  refine R_bp ((inb x n) = false) (x0_eq.trans bI_eq) (fun ca => ?_) (fun ca => ?_)
  · refine R_s 1 (17, [(0, vR 8 20), (1, vI x), (2, vI y), (3, vI (nI 1))], [vI (-1)], h) rfl ?_
    exact R_ret (some (vI (-1))) h rfl ⟨by unfold oTun; dsimp only; rw [sel1_f ca], I⟩
  · obtain ⟨a, ha, rfl⟩ := inb_ex (by omega) (tf ca)
    refine R_s 2 (10, [(0, vR 8 20), (1, vI (nI a)), (2, vI y), (3, vI (nI 1))], [vI y, vR 8 20], h) rfl ?_
    refine R_calli mM_isPlayer [vR 8 20, vI y] [] (bI (inb y p)) h rfl (t_M_isPlayer ((M 26 (by decide)).trans F.1.2.1) (by omega)) ?_
    refine R_s 1 (cond (if0 .ne (bI (inb y p))) 18 16, [(0, vR 8 20), (1, vI (nI a)), (2, vI y), (3, vI (nI 1))], [], h) rfl ?_
    refine R_bp ((inb y p) = true) (x0_ne.trans bI_ne) (fun cb => ?_) (fun cb => ?_)
    · have cb := bool_t cb
      obtain ⟨b, hb, rfl⟩ := inb_ex (by omega) (tf cb)
      refine R_s 4 (24, [(0, vR 8 20), (1, vI (nI a)), (2, vI (nI b)), (3, vI (nI 1))], [vI (nI b), vI (nI a), vR 8 21], h) rfl ?_
      refine R_calli mM_at [vI (nI a), vI (nI b)] [vR 8 21] (nI (45 + 2 * (a * 5 + b))) h rfl t_M_at ?_
      refine R_ld 8 21 (45 + 2 * (a * 5 + b)) 125 rfl rfl (by omega) (by decide) ?_
      refine R_top (kd s a b) (M _ (by omega)) ?_
      refine R_s 2 (cond (if2 .ne (kd s a b) (-1)) 37 32, [(0, vR 8 20), (1, vI (nI a)), (2, vI (nI b)), (3, vI (nI 1))], [], h) rfl ?_
      refine R_bp (¬ (kd s a b) = (-1)) x2_ne (fun c1 => ?_) (fun c1 => ?_)
      · refine R_s 4 (43, [(0, vR 8 20), (1, vI (nI a)), (2, vI (nI b)), (3, vI (nI 1))], [vI (nI b), vI (nI a), vR 8 21], h) rfl ?_
        refine R_calli mM_at [vI (nI a), vI (nI b)] [vR 8 21] (nI (45 + 2 * (a * 5 + b))) h rfl t_M_at ?_
        refine R_s 1 (47, [(0, vR 8 20), (1, vI (nI a)), (2, vI (nI b)), (3, vI (nI 1))], [vI (nI 1), vI (nI (45 + 2 * (a * 5 + b))), vR 8 21], h) rfl ?_
        refine R_add (45 + 2 * (a * 5 + b)) 1 rfl ?_
        refine R_ld 8 21 ((45 + 2 * (a * 5 + b)) + 1) 125 rfl rfl (by omega) (by decide) ?_
        refine R_top (tn s a b) ((M _ (by omega)).trans (by unfold tn; rw [show 45 + 2 * (a * 5 + b) + 1 = 46 + 2 * (a * 5 + b) by omega])) ?_
        exact R_ret (some (vI (tn s a b))) h rfl ⟨by unfold oTun; dsimp only; rw [sel1_t ha (by omega), sel1_t hb (by omega), if_neg c1], I⟩
      · refine R_s 2 (49, [(0, vR 8 20), (1, vI (nI a)), (2, vI (nI b)), (3, vI (nI 1))], [vI (-4)], h) rfl ?_
        exact R_ret (some (vI (-4))) h rfl ⟨by unfold oTun; dsimp only; rw [sel1_t ha (by omega), sel1_t hb (by omega), if_pos (Classical.not_not.mp c1)], I⟩
    · have cb := bool_f cb
      refine R_s 1 (17, [(0, vR 8 20), (1, vI (nI a)), (2, vI y), (3, vI (nI 1))], [vI (-1)], h) rfl ?_
      exact R_ret (some (vI (-1))) h rfl ⟨by unfold oTun; dsimp only; rw [sel1_t ha (by omega), sel1_f cb], I⟩
set_option maxRecDepth 100000 in
theorem t_M_tuningOf {d : Nat} {h : HP} {A : AS} {x y : Int32} (V : VA A) (I : MI h A) : MT (d + 3) mM_tuningOf [vR 8 20, vI x, vI y] h (fun r h' => r = some (vI (oTun A x y)) ∧ MI h' A) := by
  refine R_s 4 (4, [(0, vR 8 20), (1, vI x), (2, vI y)], [vI (nI 1), vI y, vI x, vR 8 20], h) rfl ?_
  refine R_call mM_ofPart [vR 8 20, vI x, vI y, vI (nI 1)] [] rfl (t_M_ofPart1 V I) (fun r h1 e1 => ?_)
  obtain ⟨rfl, I1⟩ := e1
  show R _ mM_tuningOf (7, [(0, vR 8 20), (1, vI x), (2, vI y)], [vI (oTun A x y)], h1) _
  exact R_ret (some (vI (oTun A x y))) h1 rfl ⟨rfl, I1⟩
set_option maxRecDepth 100000 in
theorem t_M_spareUnits {d : Nat} {h : HP} {A : AS} {x y : Int32} (V : VA A) (I : MI h A) : MT (d + 2) mM_spareUnits [vR 8 20, vI x, vI y] h (fun r h' => r = some (vI (oSpare A x y)) ∧ MI h' A) := by
  obtain ⟨⟨s, n, p, k⟩, kp, ch, len⟩ := A
  have M : MS 21 h s := I.1
  have F : WF s n p k := V.1.1
  have O : WO s n := V.1.2.1.1
  have hn1 : 1 ≤ n := V.1.2.2.1
  have hp1 : 1 ≤ p := V.1.2.2.2.1
  have hk1 : 1 ≤ k := V.1.2.2.2.2
  have h8 := F.2.1.1
  have h5 := F.2.1.2.1
  have h6 := F.2.1.2.2
  refine R_s 2 (2, [(0, vR 8 20), (1, vI x), (2, vI y)], [vI x, vR 8 20], h) rfl ?_
  refine R_calli mM_isSong [vR 8 20, vI x] [] (bI (inb x n)) h rfl (t_M_isSong ((M 0 (by decide)).trans F.1.1) h8) ?_
  refine R_s 1 (cond (if0 .eq (bI (inb x n))) 39 8, [(0, vR 8 20), (1, vI x), (2, vI y)], [], h) rfl ?_
  refine R_bp ((inb x n) = false) (x0_eq.trans bI_eq) (fun ca => ?_) (fun ca => ?_)
  · refine R_s 1 (40, [(0, vR 8 20), (1, vI x), (2, vI y)], [vI (-1)], h) rfl ?_
    exact R_ret (some (vI (-1))) h rfl ⟨by unfold oSpare; dsimp only; rw [sel1_f ca], I⟩
  · obtain ⟨a, ha, rfl⟩ := inb_ex (by omega) (tf ca)
    refine R_s 2 (10, [(0, vR 8 20), (1, vI (nI a)), (2, vI y)], [vI y, vR 8 20], h) rfl ?_
    refine R_calli mM_isKind [vR 8 20, vI y] [] (bI (inb y k)) h rfl (t_M_isKind ((M 32 (by decide)).trans F.1.2.2) (by omega)) ?_
    refine R_s 1 (cond (if0 .eq (bI (inb y k))) 39 16, [(0, vR 8 20), (1, vI (nI a)), (2, vI y)], [], h) rfl ?_
    refine R_bp ((inb y k) = false) (x0_eq.trans bI_eq) (fun cb => ?_) (fun cb => ?_)
    · refine R_s 1 (40, [(0, vR 8 20), (1, vI (nI a)), (2, vI y)], [vI (-1)], h) rfl ?_
      exact R_ret (some (vI (-1))) h rfl ⟨by unfold oSpare; dsimp only; rw [sel1_t ha (by omega), sel1_f cb], I⟩
    · obtain ⟨b, hb, rfl⟩ := inb_ex (by omega) (tf cb)
      refine R_s 4 (23, [(0, vR 8 20), (1, vI (nI a)), (2, vI (nI b))], [vI (nI b), vI (nI 33), vR 8 21], h) rfl ?_
      refine R_add 33 b rfl ?_
      refine R_ld 8 21 (33 + b) 125 rfl rfl (by omega) (by decide) ?_
      refine R_top (s (33 + b)) (M _ (by omega)) ?_
      refine R_s 5 (32, [(0, vR 8 20), (1, vI (nI a)), (2, vI (nI b))], [vI (-1), vI (nI b), vI (nI a), vR 8 21, vI (s (33 + b))], h) rfl ?_
      refine R_calli mM_others [vR 8 21, vI (nI a), vI (nI b), vI (-1)] [vI (s (33 + b))] (nI (otm s a (nI b) (-1) p)) h rfl (t_M_others21 M F.1.2.1 h5 (by omega)) ?_
      refine R_top (nI (cn s a (nI b) p)) (by rw [otm_cn p h5]) ?_
      refine R_s 2 (40, [(0, vR 8 20), (1, vI (nI a)), (2, vI (nI b))], [vI ((s (33 + b)) - (nI (cn s a (nI b) p)))], h) rfl ?_
      exact R_ret (some (vI ((s (33 + b)) - (nI (cn s a (nI b) p))))) h rfl ⟨by unfold oSpare; dsimp only; rw [sel1_t ha (by omega), sel1_t hb (by omega)], I⟩
set_option maxRecDepth 100000 in
theorem t_M_changeOf {d : Nat} {h : HP} {A : AS} {q x y : Int32} (V : VA A) (I : MI h A) : MT (d + 3) mM_changeOf [vR 8 20, vI q, vI x, vI y] h (fun r h' => r = some (vI (oChange A q x y)) ∧ MI h' A) := by
  obtain ⟨⟨s, n, p, k⟩, kp, ch, len⟩ := A
  have M : MS 21 h s := I.1
  have F : WF s n p k := V.1.1
  have O : WO s n := V.1.2.1.1
  have hn1 : 1 ≤ n := V.1.2.2.1
  have hp1 : 1 ≤ p := V.1.2.2.2.1
  have hk1 : 1 ≤ k := V.1.2.2.2.2
  have h8 := F.2.1.1
  have h5 := F.2.1.2.1
  have h6 := F.2.1.2.2
  refine R_s 2 (2, [(0, vR 8 20), (1, vI q), (2, vI x), (3, vI y)], [vI q, vR 8 20], h) rfl ?_
  refine R_calli mM_isPlayer [vR 8 20, vI q] [] (bI (inb q p)) h rfl (t_M_isPlayer ((M 26 (by decide)).trans F.1.2.1) (by omega)) ?_
  refine R_s 1 (cond (if0 .eq (bI (inb q p))) 28 8, [(0, vR 8 20), (1, vI q), (2, vI x), (3, vI y)], [], h) rfl ?_
  refine R_bp ((inb q p) = false) (x0_eq.trans bI_eq) (fun cq0 => ?_) (fun cq0 => ?_)
  · refine R_s 1 (29, [(0, vR 8 20), (1, vI q), (2, vI x), (3, vI y)], [vI (-1)], h) rfl ?_
    exact R_ret (some (vI (-1))) h rfl ⟨by unfold oChange; dsimp only; rw [sel1_f cq0], I⟩
  · obtain ⟨q0, hq0, rfl⟩ := inb_ex (by omega) (tf cq0)
    refine R_s 3 (11, [(0, vR 8 20), (1, vI (nI q0)), (2, vI x), (3, vI y)], [vI y, vI x, vR 8 20], h) rfl ?_
    refine R_calli mM_areTwo [vR 8 20, vI x, vI y] [] (bI (inb x n && inb y n && !(decide (x = y)))) h rfl (t_M_areTwo ((M 0 (by decide)).trans F.1.1) h8) ?_
    rcases two_c (x := x) (y := y) h8 with ⟨e2, a, b, ha, hb, hab, rfl, rfl⟩ | ⟨e2, hf⟩
    · rw [e2]
      show R _ mM_changeOf (14, [(0, vR 8 20), (1, vI (nI q0)), (2, vI (nI a)), (3, vI (nI b))], [vI (nI 1)], h) _
      refine R_s 1 (cond (if0 .eq (nI 1)) 28 17, [(0, vR 8 20), (1, vI (nI q0)), (2, vI (nI a)), (3, vI (nI b))], [], h) rfl ?_
      refine R_bf rfl ?_
      refine R_s 5 (22, [(0, vR 8 20), (1, vI (nI q0)), (2, vI (nI a)), (3, vI (nI b))], [vI (-1), vI (nI b), vI (nI a), vI (nI q0), vR 8 20], h) rfl ?_
      refine R_calli mM_change [vR 8 20, vI (nI q0), vI (nI a), vI (nI b), vI (-1)] [] (nI (chg s (-1) p a b q0)) h rfl (t_M_change (by omega) (by omega) (by omega) M F) ?_
      refine R_s 1 (29, [(0, vR 8 20), (1, vI (nI q0)), (2, vI (nI a)), (3, vI (nI b))], [vI (nI (chg s (-1) p a b q0))], h) rfl ?_
      exact R_ret (some (vI (nI (chg s (-1) p a b q0)))) h rfl ⟨by unfold oChange; dsimp only; rw [sel1_t hq0 (by omega), sel1_t ha (by omega), sel1_t hb (by omega), if_neg hab], I⟩
    · rw [e2]
      show R _ mM_changeOf (14, [(0, vR 8 20), (1, vI (nI q0)), (2, vI x), (3, vI y)], [vI (nI 0)], h) _
      refine R_s 1 (cond (if0 .eq (nI 0)) 28 17, [(0, vR 8 20), (1, vI (nI q0)), (2, vI x), (3, vI y)], [], h) rfl ?_
      refine R_bt rfl ?_
      refine R_s 1 (29, [(0, vR 8 20), (1, vI (nI q0)), (2, vI x), (3, vI y)], [vI (-1)], h) rfl ?_
      exact R_ret (some (vI (-1))) h rfl ⟨by unfold oChange; dsimp only; rw [sel1_t hq0 (by omega), hf], I⟩
set_option maxRecDepth 100000 in
theorem t_M_changeCost {d : Nat} {h : HP} {A : AS} {q x y : Int32} (V : VA A) (I : MI h A) : MT (d + 4) mM_changeCost [vR 8 20, vI q, vI x, vI y] h (fun r h' => r = some (vI (oCost A q x y)) ∧ MI h' A) := by
  obtain ⟨⟨s, n, p, k⟩, kp, ch, len⟩ := A
  have M : MS 21 h s := I.1
  have F : WF s n p k := V.1.1
  have O : WO s n := V.1.2.1.1
  have hn1 : 1 ≤ n := V.1.2.2.1
  have hp1 : 1 ≤ p := V.1.2.2.2.1
  have hk1 : 1 ≤ k := V.1.2.2.2.2
  have h8 := F.2.1.1
  have h5 := F.2.1.2.1
  have h6 := F.2.1.2.2
  refine R_s 2 (2, [(0, vR 8 20), (1, vI q), (2, vI x), (3, vI y)], [vI q, vR 8 20], h) rfl ?_
  refine R_calli mM_isPlayer [vR 8 20, vI q] [] (bI (inb q p)) h rfl (t_M_isPlayer ((M 26 (by decide)).trans F.1.2.1) (by omega)) ?_
  refine R_s 1 (cond (if0 .eq (bI (inb q p))) 28 8, [(0, vR 8 20), (1, vI q), (2, vI x), (3, vI y)], [], h) rfl ?_
  refine R_bp ((inb q p) = false) (x0_eq.trans bI_eq) (fun cq0 => ?_) (fun cq0 => ?_)
  · refine R_s 1 (29, [(0, vR 8 20), (1, vI q), (2, vI x), (3, vI y)], [vI (-1)], h) rfl ?_
    exact R_ret (some (vI (-1))) h rfl ⟨by unfold oCost; dsimp only; rw [sel1_f cq0], I⟩
  · obtain ⟨q0, hq0, rfl⟩ := inb_ex (by omega) (tf cq0)
    refine R_s 3 (11, [(0, vR 8 20), (1, vI (nI q0)), (2, vI x), (3, vI y)], [vI y, vI x, vR 8 20], h) rfl ?_
    refine R_calli mM_areTwo [vR 8 20, vI x, vI y] [] (bI (inb x n && inb y n && !(decide (x = y)))) h rfl (t_M_areTwo ((M 0 (by decide)).trans F.1.1) h8) ?_
    rcases two_c (x := x) (y := y) h8 with ⟨e2, a, b, ha, hb, hab, rfl, rfl⟩ | ⟨e2, hf⟩
    · rw [e2]
      show R _ mM_changeCost (14, [(0, vR 8 20), (1, vI (nI q0)), (2, vI (nI a)), (3, vI (nI b))], [vI (nI 1)], h) _
      refine R_s 1 (cond (if0 .eq (nI 1)) 28 17, [(0, vR 8 20), (1, vI (nI q0)), (2, vI (nI a)), (3, vI (nI b))], [], h) rfl ?_
      refine R_bf rfl ?_
      refine R_s 5 (22, [(0, vR 8 20), (1, vI (nI q0)), (2, vI (nI a)), (3, vI (nI b))], [vI (-1), vI (nI b), vI (nI a), vI (nI q0), vR 8 20], h) rfl ?_
      refine R_calli mM_costOf [vR 8 20, vI (nI q0), vI (nI a), vI (nI b), vI (-1)] [] (nI (cof s (-1) p a b q0)) h rfl (t_M_costOf (by omega) (by omega) (by omega) M F) ?_
      refine R_s 1 (29, [(0, vR 8 20), (1, vI (nI q0)), (2, vI (nI a)), (3, vI (nI b))], [vI (nI (cof s (-1) p a b q0))], h) rfl ?_
      exact R_ret (some (vI (nI (cof s (-1) p a b q0)))) h rfl ⟨by unfold oCost; dsimp only; rw [sel1_t hq0 (by omega), sel1_t ha (by omega), sel1_t hb (by omega), if_neg hab], I⟩
    · rw [e2]
      show R _ mM_changeCost (14, [(0, vR 8 20), (1, vI (nI q0)), (2, vI x), (3, vI y)], [vI (nI 0)], h) _
      refine R_s 1 (cond (if0 .eq (nI 0)) 28 17, [(0, vR 8 20), (1, vI (nI q0)), (2, vI x), (3, vI y)], [], h) rfl ?_
      refine R_bt rfl ?_
      refine R_s 1 (29, [(0, vR 8 20), (1, vI (nI q0)), (2, vI x), (3, vI y)], [vI (-1)], h) rfl ?_
      exact R_ret (some (vI (-1))) h rfl ⟨by unfold oCost; dsimp only; rw [sel1_t hq0 (by omega), hf], I⟩
set_option maxRecDepth 100000 in
theorem t_M_changeoverCost {d : Nat} {h : HP} {A : AS} {x y : Int32} (V : VA A) (I : MI h A) : MT (d + 5) mM_changeoverCost [vR 8 20, vI x, vI y] h (fun r h' => r = some (vI (oOver A x y)) ∧ MI h' A) := by
  obtain ⟨⟨s, n, p, k⟩, kp, ch, len⟩ := A
  have M : MS 21 h s := I.1
  have F : WF s n p k := V.1.1
  have O : WO s n := V.1.2.1.1
  have hn1 : 1 ≤ n := V.1.2.2.1
  have hp1 : 1 ≤ p := V.1.2.2.2.1
  have hk1 : 1 ≤ k := V.1.2.2.2.2
  have h8 := F.2.1.1
  have h5 := F.2.1.2.1
  have h6 := F.2.1.2.2
  refine R_s 3 (3, [(0, vR 8 20), (1, vI x), (2, vI y)], [vI y, vI x, vR 8 20], h) rfl ?_
  refine R_calli mM_areTwo [vR 8 20, vI x, vI y] [] (bI (inb x n && inb y n && !(decide (x = y)))) h rfl (t_M_areTwo ((M 0 (by decide)).trans F.1.1) h8) ?_
  rcases two_c (x := x) (y := y) h8 with ⟨e2, a, b, ha, hb, hab, rfl, rfl⟩ | ⟨e2, hf⟩
  · rw [e2]
    show R _ mM_changeoverCost (6, [(0, vR 8 20), (1, vI (nI a)), (2, vI (nI b))], [vI (nI 1)], h) _
    refine R_s 1 (cond (if0 .eq (nI 1)) 19 9, [(0, vR 8 20), (1, vI (nI a)), (2, vI (nI b))], [], h) rfl ?_
    refine R_bf rfl ?_
    refine R_s 4 (13, [(0, vR 8 20), (1, vI (nI a)), (2, vI (nI b))], [vI (-1), vI (nI b), vI (nI a), vR 8 20], h) rfl ?_
    refine R_calli mM_between [vR 8 20, vI (nI a), vI (nI b), vI (-1)] [] (nI (btw s (-1) p a b p)) h rfl (t_M_between (by omega) (by omega) M F) ?_
    refine R_s 1 (20, [(0, vR 8 20), (1, vI (nI a)), (2, vI (nI b))], [vI (nI (btw s (-1) p a b p))], h) rfl ?_
    exact R_ret (some (vI (nI (btw s (-1) p a b p)))) h rfl ⟨by unfold oOver; dsimp only; rw [sel1_t ha (by omega), sel1_t hb (by omega), if_neg hab], I⟩
  · rw [e2]
    show R _ mM_changeoverCost (6, [(0, vR 8 20), (1, vI x), (2, vI y)], [vI (nI 0)], h) _
    refine R_s 1 (cond (if0 .eq (nI 0)) 19 9, [(0, vR 8 20), (1, vI x), (2, vI y)], [], h) rfl ?_
    refine R_bt rfl ?_
    refine R_s 1 (20, [(0, vR 8 20), (1, vI x), (2, vI y)], [vI (-1)], h) rfl ?_
    exact R_ret (some (vI (-1))) h rfl ⟨by unfold oOver; dsimp only; rw [hf], I⟩
set_option maxRecDepth 100000 in
theorem t_M_songAt {d : Nat} {h : HP} {A : AS} {x : Int32} (V : VA A) (I : MI h A) : MT (d + 2) mM_songAt [vR 8 20, vI x] h (fun r h' => r = some (vI (oSongAt A x)) ∧ MI h' A) := by
  obtain ⟨⟨s, n, p, k⟩, kp, ch, len⟩ := A
  have M : MS 21 h s := I.1
  have F : WF s n p k := V.1.1
  have O : WO s n := V.1.2.1.1
  have hn1 : 1 ≤ n := V.1.2.2.1
  have hp1 : 1 ≤ p := V.1.2.2.2.1
  have hk1 : 1 ≤ k := V.1.2.2.2.2
  have h8 := F.2.1.1
  have h5 := F.2.1.2.1
  have h6 := F.2.1.2.2
  refine R_s 2 (2, [(0, vR 8 20), (1, vI x)], [vI x, vR 8 20], h) rfl ?_
  refine R_calli mM_isPosition [vR 8 20, vI x] [] (bI (inb x n)) h rfl (t_M_isPosition ((M 0 (by decide)).trans F.1.1) h8) ?_
  refine R_s 1 (cond (if0 .eq (bI (inb x n))) 20 8, [(0, vR 8 20), (1, vI x)], [], h) rfl ?_
  refine R_bp ((inb x n) = false) (x0_eq.trans bI_eq) (fun ca => ?_) (fun ca => ?_)
  · refine R_s 1 (21, [(0, vR 8 20), (1, vI x)], [vI (-1)], h) rfl ?_
    exact R_ret (some (vI (-1))) h rfl ⟨by unfold oSongAt; dsimp only; rw [sel1_f ca], I⟩
  · obtain ⟨a, ha, rfl⟩ := inb_ex (by omega) (tf ca)
    refine R_s 4 (15, [(0, vR 8 20), (1, vI (nI a))], [vI (nI a), vI (nI 18), vR 8 21], h) rfl ?_
    refine R_add 18 a rfl ?_
    refine R_ld 8 21 (18 + a) 125 rfl rfl (by omega) (by decide) ?_
    refine R_top (s (18 + a)) (M _ (by omega)) ?_
    refine R_s 1 (21, [(0, vR 8 20), (1, vI (nI a))], [vI (s (18 + a))], h) rfl ?_
    exact R_ret (some (vI (s (18 + a)))) h rfl ⟨by unfold oSongAt; dsimp only; rw [sel1_t ha (by omega)], I⟩
set_option maxRecDepth 100000 in
theorem t_M_step {d n p k : Nat} {h : HP} {s : Nat → Int32} {j : Nat} (hj : j + 1 < n) (O : WO s n) (M : MS 21 h s) (F : WF s n p k) : MT (d + 5) mM_step [vR 8 20, vI (nI j)] h (fun r h' => r = some (vI (nI (stq (s, n, p, k) j))) ∧ h' = h) := by
  have h8 := F.2.1.1
  have h5 := F.2.1.2.1
  have h6 := F.2.1.2.2
  obtain ⟨a, ha, ea⟩ := O.2.1 j (by omega)
  obtain ⟨b, hb, eb⟩ := O.2.1 (j + 1) (by omega)
  refine R_s 5 (8, [(0, vR 8 20), (1, vI (nI j))], [vI (nI j), vI (nI 18), vR 8 21, vR 8 20], h) rfl ?_
  refine R_add 18 j rfl ?_
  refine R_ld 8 21 (18 + j) 125 rfl rfl (by omega) (by decide) ?_
  refine R_top (nI a) ((M _ (by omega)).trans ea) ?_
  refine R_s 4 (17, [(0, vR 8 20), (1, vI (nI j))], [vI (nI j), vI (nI 18), vR 8 21, vI (nI a), vR 8 20], h) rfl ?_
  refine R_add 18 j rfl ?_
  refine R_s 1 (19, [(0, vR 8 20), (1, vI (nI j))], [vI (nI 1), vI (nI (18 + j)), vR 8 21, vI (nI a), vR 8 20], h) rfl ?_
  refine R_add (18 + j) 1 rfl ?_
  refine R_ld 8 21 ((18 + j) + 1) 125 rfl rfl (by omega) (by decide) ?_
  refine R_top (nI b) ((M _ (by omega)).trans eb) ?_
  refine R_s 1 (22, [(0, vR 8 20), (1, vI (nI j))], [vI (-1), vI (nI b), vI (nI a), vR 8 20], h) rfl ?_
  refine R_calli mM_between [vR 8 20, vI (nI a), vI (nI b), vI (-1)] [] (nI (btw s (-1) p a b p)) h rfl (t_M_between (by omega) (by omega) M F) ?_
  exact R_ret (some (vI (nI (btw s (-1) p a b p)))) h rfl ⟨by unfold stq; dsimp only; rw [ea, eb, nI_cl (by omega), nI_cl (by omega)], rfl⟩
set_option maxRecDepth 100000 in
theorem t_M_orderCost {d : Nat} {h : HP} {A : AS} (V : VA A) (I : MI h A) : MT (d + 6) mM_orderCost [vR 8 20] h (fun r h' => r = some (vI (oOrder A)) ∧ MI h' A) := by
  obtain ⟨⟨s, n, p, k⟩, kp, ch, len⟩ := A
  have M : MS 21 h s := I.1
  have F : WF s n p k := V.1.1
  have O : WO s n := V.1.2.1.1
  have hn1 : 1 ≤ n := V.1.2.2.1
  have hp1 : 1 ≤ p := V.1.2.2.2.1
  have hk1 : 1 ≤ k := V.1.2.2.2.2
  have h8 := F.2.1.1
  have h5 := F.2.1.2.1
  have h6 := F.2.1.2.2
  refine R_s 4 (4, [(2, vI (nI 0)), (1, vI (nI 0)), (0, vR 8 20)], [], h) rfl ?_
  suffices ∀ m (j c : Nat) (hm : j + 1 + m = n) (hc : c = ocs (s, n, p, k) j), R (d + 6) mM_orderCost (4, [(2, vI (nI j)), (1, vI (nI c)), (0, vR 8 20)], [], h) _ from this (n - 1) 0 0 (by omega) rfl
  intro m
  induction m with
  | zero =>
    intro j c hm hc
    refine R_s 2 (6, [(2, vI (nI j)), (1, vI (nI c)), (0, vR 8 20)], [vI (nI 1), vI (nI j)], h) rfl ?_
    refine R_add j 1 rfl ?_
    refine R_s 3 (12, [(2, vI (nI j)), (1, vI (nI c)), (0, vR 8 20)], [vI (nI 0), vR 8 21, vI (nI (j + 1))], h) rfl ?_
    refine R_ld 8 21 0 125 rfl rfl (by omega) (by decide) ?_
    refine R_top (nI n) ((M 0 (by decide)).trans F.1.1) ?_
    refine R_s 1 (cond (if2 .ge (nI (j + 1)) (nI n)) 30 16, [(2, vI (nI j)), (1, vI (nI c)), (0, vR 8 20)], [], h) rfl ?_
    refine R_bp (n ≤ (j + 1)) (i2_ge (by omega) (by omega)) (fun c1 => ?_) (fun c1 => ?_)
    · refine R_s 1 (31, [(2, vI (nI j)), (1, vI (nI c)), (0, vR 8 20)], [vI (nI c)], h) rfl ?_
      exact R_ret (some (vI (nI c))) h rfl ⟨by unfold oOrder; dsimp only; rw [hc, show j = n - 1 by omega], I⟩
    · exact absurd hm (by omega)
  | succ m ih =>
    intro j c hm hc
    refine R_s 2 (6, [(2, vI (nI j)), (1, vI (nI c)), (0, vR 8 20)], [vI (nI 1), vI (nI j)], h) rfl ?_
    refine R_add j 1 rfl ?_
    refine R_s 3 (12, [(2, vI (nI j)), (1, vI (nI c)), (0, vR 8 20)], [vI (nI 0), vR 8 21, vI (nI (j + 1))], h) rfl ?_
    refine R_ld 8 21 0 125 rfl rfl (by omega) (by decide) ?_
    refine R_top (nI n) ((M 0 (by decide)).trans F.1.1) ?_
    refine R_s 1 (cond (if2 .ge (nI (j + 1)) (nI n)) 30 16, [(2, vI (nI j)), (1, vI (nI c)), (0, vR 8 20)], [], h) rfl ?_
    refine R_bp (n ≤ (j + 1)) (i2_ge (by omega) (by omega)) (fun c1 => ?_) (fun c1 => ?_)
    · refine R_s 1 (31, [(2, vI (nI j)), (1, vI (nI c)), (0, vR 8 20)], [vI (nI c)], h) rfl ?_
      exact R_ret (some (vI (nI c))) h rfl ⟨by unfold oOrder; dsimp only; rw [hc, show j = n - 1 by omega], I⟩
    · refine R_s 3 (19, [(2, vI (nI j)), (1, vI (nI c)), (0, vR 8 20)], [vI (nI j), vR 8 20, vI (nI c)], h) rfl ?_
      refine R_calli mM_step [vR 8 20, vI (nI j)] [vI (nI c)] (nI (stq (s, n, p, k) j)) h rfl (t_M_step (by omega) O M F) ?_
      refine R_add c (stq (s, n, p, k) j) rfl ?_
      refine R_s 2 (27, [(2, vI (nI j + Int32.ofInt 1)), (1, vI (nI (c + (stq (s, n, p, k) j)))), (0, vR 8 20)], [], h) rfl ?_
      refine R_lv (lv' := [(2, vI (nI (j + 1))), (1, vI (nI (c + (stq (s, n, p, k) j)))), (0, vR 8 20)]) (by rw [show nI j + Int32.ofInt 1 = nI (j + 1) from nI_add _ _]) ?_
      refine R_s 1 (4, [(2, vI (nI (j + 1))), (1, vI (nI (c + (stq (s, n, p, k) j)))), (0, vR 8 20)], [], h) rfl ?_
      exact ih (j + 1) _ (by omega) (by rw [hc]; rfl)
theorem drs_lt {z : ST} : ∀ j q, drs z j = some q → q.2 < j := by
  intro j
  induction j with
  | zero => intro q h; cases h
  | succ j ih =>
    intro q h
    unfold drs at h
    cases e : drs z j with
    | none => rw [e] at h; cases h; show j < j + 1; omega
    | some q0 =>
      rw [e] at h
      dsimp only at h
      have := ih q0 e
      split at h
      · cases h; show j < j + 1; omega
      · cases h; omega
def drc : Option (Nat × Nat) → Int32 × Int32
  | none => (-1, -4)
  | some q => (nI q.1, nI q.2)
def drb (o : Option (Nat × Nat)) : Prop := ∀ q, o = some q → q.1 ≤ 35
theorem drs_gt {o : Option (Nat × Nat)} {v : Nat} (h : drb o) (hv : v ≤ 35) : if2 .le (nI v) (drc o).1 = true ↔ ∃ q, o = some q ∧ v ≤ q.1 := by
  cases o with
  | none =>
    have e : if2 .le (nI v) (-1) = false := by
      have h : ∀ v, v < 36 → if2 .le (nI v) (-1) = false := by decide +kernel
      exact h v (by omega)
    show if2 .le (nI v) (-1) = true ↔ _
    rw [e]
    exact ⟨fun q => (by cases q), fun ⟨q, h, _⟩ => (by cases h)⟩
  | some q =>
    have := h q rfl
    show if2 .le (nI v) (nI q.1) = true ↔ _
    rw [i2_le (by omega) (by omega)]
    exact ⟨fun z => ⟨q, rfl, z⟩, fun ⟨q', e, z⟩ => by cases e; exact z⟩
theorem drs_no {z : ST} {j : Nat} (h : ¬ ∃ q, drs z j = some q ∧ stq z j ≤ q.1) : drs z (j + 1) = some (stq z j, j) := by
  unfold drs
  cases e : drs z j with
  | none => rfl
  | some q => dsimp only; rw [if_pos (Nat.lt_of_not_le (fun y => h ⟨q, e, y⟩))]
theorem drs_yes {z : ST} {j : Nat} (h : ∃ q, drs z j = some q ∧ stq z j ≤ q.1) : drs z (j + 1) = drs z j := by
  obtain ⟨q, e, y⟩ := h
  rw [drs, e]
  dsimp only
  rw [if_neg (by omega)]
theorem drb_s {s : Nat → Int32} {n p k : Nat} (F : WF s n p k) (O : WO s n) : ∀ j, j + 1 ≤ n → drb (drs (s, n, p, k) j) := by
  intro j
  induction j with
  | zero => intro _ q h; cases h
  | succ j ih =>
    intro hj
    by_cases h : ∃ q, drs (s, n, p, k) j = some q ∧ stq (s, n, p, k) j ≤ q.1
    · rw [drs_yes h]; exact ih (by omega)
    · rw [drs_no h]
      intro q e
      cases e
      exact stq_le F O (by omega)
set_option maxRecDepth 100000 in
theorem t_M_dearestChangeover {d : Nat} {h : HP} {A : AS} (V : VA A) (I : MI h A) : MT (d + 6) mM_dearestChangeover [vR 8 20] h (fun r h' => r = some (vI (oDear A)) ∧ MI h' A) := by
  obtain ⟨⟨s, n, p, k⟩, kp, ch, len⟩ := A
  have M : MS 21 h s := I.1
  have F : WF s n p k := V.1.1
  have O : WO s n := V.1.2.1.1
  have hn1 : 1 ≤ n := V.1.2.2.1
  have hp1 : 1 ≤ p := V.1.2.2.2.1
  have hk1 : 1 ≤ k := V.1.2.2.2.2
  have h8 := F.2.1.1
  have h5 := F.2.1.2.1
  have h6 := F.2.1.2.2
  refine R_s 6 (7, [(3, vI (nI 0)), (2, vI (-4)), (1, vI (-1)), (0, vR 8 20)], [], h) rfl ?_
  suffices ∀ m (j : Nat) (hm : j + 1 + m = n), R (d + 6) mM_dearestChangeover (7, [(3, vI (nI j)), (2, vI ((drc (drs (s, n, p, k) j)).2)), (1, vI ((drc (drs (s, n, p, k) j)).1)), (0, vR 8 20)], [], h) _ from this (n - 1) 0 (by omega)
  intro m
  induction m with
  | zero =>
    intro j hm
    refine R_s 2 (9, [(3, vI (nI j)), (2, vI ((drc (drs (s, n, p, k) j)).2)), (1, vI ((drc (drs (s, n, p, k) j)).1)), (0, vR 8 20)], [vI (nI 1), vI (nI j)], h) rfl ?_
    refine R_add j 1 rfl ?_
    refine R_s 3 (15, [(3, vI (nI j)), (2, vI ((drc (drs (s, n, p, k) j)).2)), (1, vI ((drc (drs (s, n, p, k) j)).1)), (0, vR 8 20)], [vI (nI 0), vR 8 21, vI (nI (j + 1))], h) rfl ?_
    refine R_ld 8 21 0 125 rfl rfl (by omega) (by decide) ?_
    refine R_top (nI n) ((M 0 (by decide)).trans F.1.1) ?_
    refine R_s 1 (cond (if2 .ge (nI (j + 1)) (nI n)) 59 19, [(3, vI (nI j)), (2, vI ((drc (drs (s, n, p, k) j)).2)), (1, vI ((drc (drs (s, n, p, k) j)).1)), (0, vR 8 20)], [], h) rfl ?_
    refine R_bp (n ≤ (j + 1)) (i2_ge (by omega) (by omega)) (fun c1 => ?_) (fun c1 => ?_)
    · refine R_s 1 (60, [(3, vI (nI j)), (2, vI ((drc (drs (s, n, p, k) j)).2)), (1, vI ((drc (drs (s, n, p, k) j)).1)), (0, vR 8 20)], [vI ((drc (drs (s, n, p, k) j)).2)], h) rfl ?_
      exact R_ret (some (vI ((drc (drs (s, n, p, k) j)).2))) h rfl ⟨by unfold oDear; dsimp only; rw [show j = n - 1 by omega]; cases drs (s, n, p, k) (n - 1) <;> rfl, I⟩
    · exact absurd hm (by omega)
  | succ m ih =>
    intro j hm
    refine R_s 2 (9, [(3, vI (nI j)), (2, vI ((drc (drs (s, n, p, k) j)).2)), (1, vI ((drc (drs (s, n, p, k) j)).1)), (0, vR 8 20)], [vI (nI 1), vI (nI j)], h) rfl ?_
    refine R_add j 1 rfl ?_
    refine R_s 3 (15, [(3, vI (nI j)), (2, vI ((drc (drs (s, n, p, k) j)).2)), (1, vI ((drc (drs (s, n, p, k) j)).1)), (0, vR 8 20)], [vI (nI 0), vR 8 21, vI (nI (j + 1))], h) rfl ?_
    refine R_ld 8 21 0 125 rfl rfl (by omega) (by decide) ?_
    refine R_top (nI n) ((M 0 (by decide)).trans F.1.1) ?_
    refine R_s 1 (cond (if2 .ge (nI (j + 1)) (nI n)) 59 19, [(3, vI (nI j)), (2, vI ((drc (drs (s, n, p, k) j)).2)), (1, vI ((drc (drs (s, n, p, k) j)).1)), (0, vR 8 20)], [], h) rfl ?_
    refine R_bp (n ≤ (j + 1)) (i2_ge (by omega) (by omega)) (fun c1 => ?_) (fun c1 => ?_)
    · refine R_s 1 (60, [(3, vI (nI j)), (2, vI ((drc (drs (s, n, p, k) j)).2)), (1, vI ((drc (drs (s, n, p, k) j)).1)), (0, vR 8 20)], [vI ((drc (drs (s, n, p, k) j)).2)], h) rfl ?_
      exact R_ret (some (vI ((drc (drs (s, n, p, k) j)).2))) h rfl ⟨by unfold oDear; dsimp only; rw [show j = n - 1 by omega]; cases drs (s, n, p, k) (n - 1) <;> rfl, I⟩
    · have hb := drb_s F O j (by omega)
      have hs := stq_le F O (show j + 1 < n by omega)
      refine R_s 2 (21, [(3, vI (nI j)), (2, vI ((drc (drs (s, n, p, k) j)).2)), (1, vI ((drc (drs (s, n, p, k) j)).1)), (0, vR 8 20)], [vI (nI j), vR 8 20], h) rfl ?_
      refine R_calli mM_step [vR 8 20, vI (nI j)] [] (nI (stq (s, n, p, k) j)) h rfl (t_M_step (by omega) O M F) ?_
      refine R_s 2 (cond (if2 .le (nI (stq (s, n, p, k) j)) ((drc (drs (s, n, p, k) j)).1)) 32 28, [(3, vI (nI j)), (2, vI ((drc (drs (s, n, p, k) j)).2)), (1, vI ((drc (drs (s, n, p, k) j)).1)), (0, vR 8 20)], [], h) rfl ?_
      refine R_bp (∃ q, drs (s, n, p, k) j = some q ∧ stq (s, n, p, k) j ≤ q.1) (drs_gt hb hs) (fun c2 => ?_) (fun c2 => ?_)
      · refine R_s 4 (36, [(2, vI ((drc (drs (s, n, p, k) j)).2)), (3, vI (nI j)), (1, vI ((drc (drs (s, n, p, k) j)).1)), (0, vR 8 20)], [vI (nI j), vR 8 20], h) rfl ?_
        refine R_calli mM_step [vR 8 20, vI (nI j)] [] (nI (stq (s, n, p, k) j)) h rfl (t_M_step (by omega) O M F) ?_
        refine R_s 2 (cond (if2 .le (nI (stq (s, n, p, k) j)) ((drc (drs (s, n, p, k) j)).1)) 51 43, [(2, vI ((drc (drs (s, n, p, k) j)).2)), (3, vI (nI j)), (1, vI ((drc (drs (s, n, p, k) j)).1)), (0, vR 8 20)], [], h) rfl ?_
        refine R_bt ((drs_gt hb hs).mpr c2) ?_
        refine R_s 3 (56, [(3, vI (nI j + Int32.ofInt 1)), (1, vI ((drc (drs (s, n, p, k) j)).1)), (2, vI ((drc (drs (s, n, p, k) j)).2)), (0, vR 8 20)], [], h) rfl ?_
        refine R_lv (lv' := [(3, vI (nI (j + 1))), (1, vI ((drc (drs (s, n, p, k) j)).1)), (2, vI ((drc (drs (s, n, p, k) j)).2)), (0, vR 8 20)]) (by rw [show nI j + Int32.ofInt 1 = nI (j + 1) from nI_add _ _]) ?_
        refine R_s 1 (7, [(3, vI (nI (j + 1))), (1, vI ((drc (drs (s, n, p, k) j)).1)), (2, vI ((drc (drs (s, n, p, k) j)).2)), (0, vR 8 20)], [], h) rfl ?_
        refine R_fg (lv' := [(3, vI (nI (j + 1))), (2, vI ((drc (drs (s, n, p, k) j)).2)), (1, vI ((drc (drs (s, n, p, k) j)).1)), (0, vR 8 20)]) [0, 2, 1, 3] rfl [3, 1, 2, 0] rfl (by decide) ?_
        have hi := ih (j + 1) (by omega)
        rw [drs_yes c2] at hi
        exact hi
      · refine R_s 5 (36, [(2, vI (nI j)), (3, vI (nI j)), (1, vI ((drc (drs (s, n, p, k) j)).1)), (0, vR 8 20)], [vI (nI j), vR 8 20], h) rfl ?_
        refine R_calli mM_step [vR 8 20, vI (nI j)] [] (nI (stq (s, n, p, k) j)) h rfl (t_M_step (by omega) O M F) ?_
        refine R_s 2 (cond (if2 .le (nI (stq (s, n, p, k) j)) ((drc (drs (s, n, p, k) j)).1)) 51 43, [(2, vI (nI j)), (3, vI (nI j)), (1, vI ((drc (drs (s, n, p, k) j)).1)), (0, vR 8 20)], [], h) rfl ?_
        refine R_bf (by cases q : if2 .le (nI (stq (s, n, p, k) j)) (drc (drs (s, n, p, k) j)).1 with
          | false => rfl
          | true => exact absurd ((drs_gt hb hs).mp q) c2) ?_
        refine R_s 2 (45, [(2, vI (nI j)), (3, vI (nI j)), (1, vI ((drc (drs (s, n, p, k) j)).1)), (0, vR 8 20)], [vI (nI j), vR 8 20], h) rfl ?_
        refine R_calli mM_step [vR 8 20, vI (nI j)] [] (nI (stq (s, n, p, k) j)) h rfl (t_M_step (by omega) O M F) ?_
        refine R_s 3 (56, [(3, vI (nI j + Int32.ofInt 1)), (1, vI (nI (stq (s, n, p, k) j))), (2, vI (nI j)), (0, vR 8 20)], [], h) rfl ?_
        refine R_lv (lv' := [(3, vI (nI (j + 1))), (1, vI (nI (stq (s, n, p, k) j))), (2, vI (nI j)), (0, vR 8 20)]) (by rw [show nI j + Int32.ofInt 1 = nI (j + 1) from nI_add _ _]) ?_
        refine R_s 1 (7, [(3, vI (nI (j + 1))), (1, vI (nI (stq (s, n, p, k) j))), (2, vI (nI j)), (0, vR 8 20)], [], h) rfl ?_
        refine R_fg (lv' := [(3, vI (nI (j + 1))), (2, vI (nI j)), (1, vI (nI (stq (s, n, p, k) j))), (0, vR 8 20)]) [0, 2, 1, 3] rfl [3, 1, 2, 0] rfl (by decide) ?_
        have hi := ih (j + 1) (by omega)
        rw [drs_no c2] at hi
        exact hi
end
section
theorem all_n : ∀ n, n < 9 → nI (2 ^ n) - nI 1 = nI (2 ^ n - 1) := by decide +kernel
theorem one_k : ∀ x, x < 256 → 0 < x → nI x &&& (nI x - nI 1) = nI (x &&& (x - 1)) ∧ (x &&& (x - 1)) < x ∧ pop x = pop (x &&& (x - 1)) + 1 := by decide +kernel
theorem not_e : ∀ n, n < 9 → ∀ e, e < 2 ^ n → nI (2 ^ n - 1) &&& (nI e ^^^ (-1)) = nI (2 ^ n - 1 - e) := by decide +kernel
/-- all songs but the encores are in the set -/
def opn (n e S : Nat) : Bool := decide ((2 ^ n - 1 - e) &&& S = 2 ^ n - 1 - e)
/-- the reference's mayCome -/
def mcm (z : ST) (S a : Nat) : Bool := !(S.testBit a) && (decide (z.1 (10 + a) = -1) || decide (z.1 (10 + a) = nI (pop S))) && (!((en z).testBit a) || opn z.2.1 (en z) S)
set_option maxRecDepth 100000 in
theorem t_M_all {d n p k : Nat} {h : HP} {s : Nat → Int32}  (M : MS 21 h s) (F : WF s n p k) : MT (d) mM_all [vR 8 20] h (fun r h' => r = some (vI (nI (2 ^ n - 1))) ∧ h' = h) := by
  have h8 := F.2.1.1
  have h5 := F.2.1.2.1
  have h6 := F.2.1.2.2
  refine R_s 4 (6, [(0, vR 8 20)], [vI (nI 0), vR 8 21, vI (nI 1)], h) rfl ?_
  refine R_ld 8 21 0 125 rfl rfl (by omega) (by decide) ?_
  refine R_top (nI n) ((M 0 (by decide)).trans F.1.1) ?_
  refine R_s 1 (8, [(0, vR 8 20)], [vI ((nI 1) <<< ((nI n) &&& 31))], h) rfl ?_
  refine R_top (nI (2 ^ n)) (bit_all n (by omega)) ?_
  refine R_s 2 (10, [(0, vR 8 20)], [vI (nI (2 ^ n) - nI 1)], h) rfl ?_
  refine R_top (nI (2 ^ n - 1)) (all_n n (by omega)) ?_
  exact R_ret (some (vI (nI (2 ^ n - 1)))) h rfl ⟨rfl, rfl⟩
set_option maxRecDepth 100000 in
theorem t_M_ones {d S : Nat} {h : HP} (hS : S < 256) : MT d mM_ones [vI (nI S)] h (fun r h' => r = some (vI (nI (pop S))) ∧ h' = h) := by
  refine R_s 4 (4, [(2, vI (nI S)), (1, vI (nI 0)), (0, vI (nI S))], [], h) rfl ?_
  refine R_fg (lv' := [(2, vI (nI S)), (1, vI (nI 0))]) [0, 1] rfl [2, 1, 0] rfl (by decide) ?_
  suffices ∀ m (l c : Nat) (hm : l ≤ m) (hl : l < 256) (hc : c + pop l = pop S), R d mM_ones (4, [(2, vI (nI l)), (1, vI (nI c))], [], h) _ from this S S 0 (Nat.le_refl _) hS (by omega)
  intro m
  induction m with
  | zero =>
    intro l c hm hl hc
    refine R_s 2 (cond (if0 .eq (nI l)) 20 8, [(2, vI (nI l)), (1, vI (nI c))], [], h) rfl ?_
    refine R_bp (l = 0) (i0_n (by omega)) (fun c1 => ?_) (fun c1 => ?_)
    · refine R_s 1 (21, [(2, vI (nI l)), (1, vI (nI c))], [vI (nI c)], h) rfl ?_
      exact R_ret (some (vI (nI c))) h rfl ⟨by rw [← hc, c1]; rfl, rfl⟩
    · exact absurd hm (by omega)
  | succ m ih =>
    intro l c hm hl hc
    refine R_s 2 (cond (if0 .eq (nI l)) 20 8, [(2, vI (nI l)), (1, vI (nI c))], [], h) rfl ?_
    refine R_bp (l = 0) (i0_n (by omega)) (fun c1 => ?_) (fun c1 => ?_)
    · refine R_s 1 (21, [(2, vI (nI l)), (1, vI (nI c))], [vI (nI c)], h) rfl ?_
      exact R_ret (some (vI (nI c))) h rfl ⟨by rw [← hc, c1]; rfl, rfl⟩
    · obtain ⟨o1, o2, o3⟩ := one_k l hl (by omega)
      refine R_s 1 (11, [(1, vI (nI c + Int32.ofInt 1)), (2, vI (nI l))], [], h) rfl ?_
      refine R_lv (lv' := [(1, vI (nI (c + 1))), (2, vI (nI l))]) (by rw [show nI c + Int32.ofInt 1 = nI (c + 1) from nI_add _ _]) ?_
      refine R_s 5 (16, [(1, vI (nI (c + 1))), (2, vI (nI l))], [vI ((nI l) &&& (nI l - nI 1))], h) rfl ?_
      refine R_top (nI (l &&& (l - 1))) o1 ?_
      refine R_s 2 (4, [(2, vI (nI (l &&& (l - 1)))), (1, vI (nI (c + 1)))], [], h) rfl ?_
      exact ih (l &&& (l - 1)) (c + 1) (by omega) (by omega) (by omega)
theorem i0_nb {b : Bool} : if0 .ne (nI (if b then 1 else 0)) = true ↔ b = true := by cases b <;> decide
set_option maxRecDepth 100000 in
theorem t_M_mayCome {d n p k : Nat} {h : HP} {s : Nat → Int32} {S a : Nat} (hS : S < 256) (ha : a < n) (M : MS 21 h s) (F : WF s n p k) : MT (d + 1) mM_mayCome [vR 8 20, vI (nI S), vI (nI a)] h (fun r h' => r = some (vI (bI (mcm (s, n, p, k) S a))) ∧ h' = h) := by
  have h8 := F.2.1.1
  have h5 := F.2.1.2.1
  have h6 := F.2.1.2.2
  obtain ⟨e, e1, e2⟩ := F.2.2.1
  have e8 : e < 256 := Nat.lt_of_lt_of_le e2 (pw_le h8)
  have p8 := pw_le h8
  have ee : en (s, n, p, k) = e := by unfold en; rw [show (s, n, p, k).1 9 = s 9 from rfl, e1, nI_cl (by omega)]
  unfold mcm
  rw [ee]
  dsimp only
  refine R_s 3 (6, [(0, vR 8 20), (1, vI (nI S)), (2, vI (nI a))], [vI (nI 9), vR 8 21], h) rfl ?_
  refine R_ld 8 21 9 125 rfl rfl (by omega) (by decide) ?_
  refine R_top (nI e) ((M 9 (by decide)).trans e1) ?_
  refine R_s 4 (11, [(0, vR 8 20), (1, vI (nI S)), (2, vI (nI a))], [vI (((nI e) >>> ((nI a) &&& 31)) &&& (nI 1))], h) rfl ?_
  refine R_top (nI (if e.testBit a then 1 else 0)) (bit_sh e e8 a (by omega)) ?_
  refine R_s 2 (cond (if2 .ne (nI (if e.testBit a then 1 else 0)) (nI 1)) 19 15, [(0, vR 8 20), (1, vI (nI S)), (2, vI (nI a))], [], h) rfl ?_
  refine R_bp (e.testBit a = false) i2_nb (fun c1 => ?_) (fun c1 => ?_)
  · refine R_s 3 (22, [(3, vI (nI 0)), (0, vR 8 20), (1, vI (nI S)), (2, vI (nI a))], [vR 8 20], h) rfl ?_
    refine R_calli mM_all [vR 8 20] [] (nI (2 ^ n - 1)) h rfl (t_M_all M F) ?_
    refine R_s 3 (31, [(3, vI (nI 0)), (0, vR 8 20), (1, vI (nI S)), (2, vI (nI a))], [vI (nI 9), vR 8 21, vI (nI (2 ^ n - 1))], h) rfl ?_
    refine R_ld 8 21 9 125 rfl rfl (by omega) (by decide) ?_
    refine R_top (nI e) ((M 9 (by decide)).trans e1) ?_
    refine R_s 3 (35, [(3, vI (nI 0)), (0, vR 8 20), (1, vI (nI S)), (2, vI (nI a))], [vI ((nI (2 ^ n - 1)) &&& ((nI e) ^^^ (-1)))], h) rfl ?_
    refine R_top (nI (2 ^ n - 1 - e)) (not_e n (by omega) e e2) ?_
    refine R_s 5 (cond (if0 .ne ((nI (2 ^ n - 1 - e)) &&& ((nI S) ^^^ (-1)))) 46 42, [(3, vI (nI 0)), (0, vR 8 20), (1, vI (nI S)), (2, vI (nI a))], [], h) rfl ?_
    refine R_bp (¬ ((2 ^ n - 1 - e) &&& S = 2 ^ n - 1 - e)) (x0_ne.trans (not_congr (msk_ok (by omega) hS))) (fun c2 => ?_) (fun c2 => ?_)
    · have c2 : opn n e S = false := bool_f (fun q => c2 (of_decide_eq_true q))
      refine R_s 6 (56, [(4, vI (nI 0)), (3, vI (nI 0)), (0, vR 8 20), (1, vI (nI S)), (2, vI (nI a))], [vI (nI a), vI (nI 10), vR 8 21], h) rfl ?_
      refine R_add 10 a rfl ?_
      refine R_ld 8 21 (10 + a) 125 rfl rfl (by omega) (by decide) ?_
      refine R_top (s (10 + a)) (M _ (by omega)) ?_
      refine R_s 2 (cond (if2 .eq (s (10 + a)) (-1)) 78 62, [(4, vI (nI 0)), (3, vI (nI 0)), (0, vR 8 20), (1, vI (nI S)), (2, vI (nI a))], [], h) rfl ?_
      refine R_bp ((s (10 + a)) = (-1)) x2_eq (fun c3 => ?_) (fun c3 => ?_)
      · refine R_s 3 (85, [(5, vI (nI 1)), (4, vI (nI 0)), (3, vI (nI 0)), (0, vR 8 20), (1, vI (nI S)), (2, vI (nI a))], [], h) rfl ?_
        refine R_s 5 (90, [(5, vI (nI 1)), (4, vI (nI 0)), (3, vI (nI 0)), (0, vR 8 20), (1, vI (nI S)), (2, vI (nI a))], [vI (((nI S) >>> ((nI a) &&& 31)) &&& (nI 1))], h) rfl ?_
        refine R_top (nI (if S.testBit a then 1 else 0)) (bit_sh S hS a (by omega)) ?_
        refine R_s 1 (cond (if0 .ne (nI (if S.testBit a then 1 else 0))) 111 93, [(5, vI (nI 1)), (4, vI (nI 0)), (3, vI (nI 0)), (0, vR 8 20), (1, vI (nI S)), (2, vI (nI a))], [], h) rfl ?_
        refine R_bp (S.testBit a = true) i0_nb (fun c8 => ?_) (fun c8 => ?_)
        · refine R_s 1 (112, [(5, vI (nI 1)), (4, vI (nI 0)), (3, vI (nI 0)), (0, vR 8 20), (1, vI (nI S)), (2, vI (nI a))], [vI (nI 0)], h) rfl ?_
          exact R_ret (some (vI (nI 0))) h rfl ⟨by rw [c8]; rfl, rfl⟩
        · refine R_s 2 (cond (if0 .eq (nI 1)) 111 98, [(5, vI (nI 1)), (4, vI (nI 0)), (3, vI (nI 0)), (0, vR 8 20), (1, vI (nI S)), (2, vI (nI a))], [], h) rfl ?_
          refine R_bf rfl ?_
          refine R_s 2 (cond (if0 .eq (nI 0)) 107 102, [(5, vI (nI 1)), (4, vI (nI 0)), (3, vI (nI 0)), (0, vR 8 20), (1, vI (nI S)), (2, vI (nI a))], [], h) rfl ?_
          refine R_bt rfl ?_
          refine R_s 2 (112, [(5, vI (nI 1)), (4, vI (nI 0)), (3, vI (nI 0)), (0, vR 8 20), (1, vI (nI S)), (2, vI (nI a))], [vI (nI 1)], h) rfl ?_
          exact R_ret (some (vI (nI 1))) h rfl ⟨by rw [bool_f c8]; simp [c1, c2, c3, bI, nI_0]; try rfl, rfl⟩
      · refine R_s 4 (69, [(4, vI (nI 0)), (3, vI (nI 0)), (0, vR 8 20), (1, vI (nI S)), (2, vI (nI a))], [vI (nI a), vI (nI 10), vR 8 21], h) rfl ?_
        refine R_add 10 a rfl ?_
        refine R_ld 8 21 (10 + a) 125 rfl rfl (by omega) (by decide) ?_
        refine R_top (s (10 + a)) (M _ (by omega)) ?_
        refine R_s 1 (72, [(4, vI (nI 0)), (3, vI (nI 0)), (0, vR 8 20), (1, vI (nI S)), (2, vI (nI a))], [vI (nI S), vI (s (10 + a))], h) rfl ?_
        refine R_calli mM_ones [vI (nI S)] [vI (s (10 + a))] (nI (pop S)) h rfl (t_M_ones hS) ?_
        refine R_s 1 (cond (if2 .ne (s (10 + a)) (nI (pop S))) 82 78, [(4, vI (nI 0)), (3, vI (nI 0)), (0, vR 8 20), (1, vI (nI S)), (2, vI (nI a))], [], h) rfl ?_
        refine R_bp (¬ (s (10 + a)) = (nI (pop S))) x2_ne (fun c4 => ?_) (fun c4 => ?_)
        · refine R_s 2 (85, [(5, vI (nI 0)), (4, vI (nI 0)), (3, vI (nI 0)), (0, vR 8 20), (1, vI (nI S)), (2, vI (nI a))], [], h) rfl ?_
          refine R_s 5 (90, [(5, vI (nI 0)), (4, vI (nI 0)), (3, vI (nI 0)), (0, vR 8 20), (1, vI (nI S)), (2, vI (nI a))], [vI (((nI S) >>> ((nI a) &&& 31)) &&& (nI 1))], h) rfl ?_
          refine R_top (nI (if S.testBit a then 1 else 0)) (bit_sh S hS a (by omega)) ?_
          refine R_s 1 (cond (if0 .ne (nI (if S.testBit a then 1 else 0))) 111 93, [(5, vI (nI 0)), (4, vI (nI 0)), (3, vI (nI 0)), (0, vR 8 20), (1, vI (nI S)), (2, vI (nI a))], [], h) rfl ?_
          refine R_bp (S.testBit a = true) i0_nb (fun c8 => ?_) (fun c8 => ?_)
          · refine R_s 1 (112, [(5, vI (nI 0)), (4, vI (nI 0)), (3, vI (nI 0)), (0, vR 8 20), (1, vI (nI S)), (2, vI (nI a))], [vI (nI 0)], h) rfl ?_
            exact R_ret (some (vI (nI 0))) h rfl ⟨by rw [c8]; rfl, rfl⟩
          · refine R_s 2 (cond (if0 .eq (nI 0)) 111 98, [(5, vI (nI 0)), (4, vI (nI 0)), (3, vI (nI 0)), (0, vR 8 20), (1, vI (nI S)), (2, vI (nI a))], [], h) rfl ?_
            refine R_bt rfl ?_
            refine R_s 1 (112, [(5, vI (nI 0)), (4, vI (nI 0)), (3, vI (nI 0)), (0, vR 8 20), (1, vI (nI S)), (2, vI (nI a))], [vI (nI 0)], h) rfl ?_
            exact R_ret (some (vI (nI 0))) h rfl ⟨by rw [bool_f c8]; simp [c1, c2, c3, c4, bI, nI_0]; try rfl, rfl⟩
        · have c4 := Classical.not_not.mp c4
          have c4' : nI (pop S) = s (10 + a) := c4.symm
          refine R_s 3 (85, [(5, vI (nI 1)), (4, vI (nI 0)), (3, vI (nI 0)), (0, vR 8 20), (1, vI (nI S)), (2, vI (nI a))], [], h) rfl ?_
          refine R_s 5 (90, [(5, vI (nI 1)), (4, vI (nI 0)), (3, vI (nI 0)), (0, vR 8 20), (1, vI (nI S)), (2, vI (nI a))], [vI (((nI S) >>> ((nI a) &&& 31)) &&& (nI 1))], h) rfl ?_
          refine R_top (nI (if S.testBit a then 1 else 0)) (bit_sh S hS a (by omega)) ?_
          refine R_s 1 (cond (if0 .ne (nI (if S.testBit a then 1 else 0))) 111 93, [(5, vI (nI 1)), (4, vI (nI 0)), (3, vI (nI 0)), (0, vR 8 20), (1, vI (nI S)), (2, vI (nI a))], [], h) rfl ?_
          refine R_bp (S.testBit a = true) i0_nb (fun c8 => ?_) (fun c8 => ?_)
          · refine R_s 1 (112, [(5, vI (nI 1)), (4, vI (nI 0)), (3, vI (nI 0)), (0, vR 8 20), (1, vI (nI S)), (2, vI (nI a))], [vI (nI 0)], h) rfl ?_
            exact R_ret (some (vI (nI 0))) h rfl ⟨by rw [c8]; rfl, rfl⟩
          · refine R_s 2 (cond (if0 .eq (nI 1)) 111 98, [(5, vI (nI 1)), (4, vI (nI 0)), (3, vI (nI 0)), (0, vR 8 20), (1, vI (nI S)), (2, vI (nI a))], [], h) rfl ?_
            refine R_bf rfl ?_
            refine R_s 2 (cond (if0 .eq (nI 0)) 107 102, [(5, vI (nI 1)), (4, vI (nI 0)), (3, vI (nI 0)), (0, vR 8 20), (1, vI (nI S)), (2, vI (nI a))], [], h) rfl ?_
            refine R_bt rfl ?_
            refine R_s 2 (112, [(5, vI (nI 1)), (4, vI (nI 0)), (3, vI (nI 0)), (0, vR 8 20), (1, vI (nI S)), (2, vI (nI a))], [vI (nI 1)], h) rfl ?_
            exact R_ret (some (vI (nI 1))) h rfl ⟨by rw [bool_f c8]; simp [c1, c2, c4, bI, nI_0]; try rfl, rfl⟩
    · have c2 : opn n e S = true := decide_eq_true (Classical.not_not.mp c2)
      refine R_s 7 (56, [(4, vI (nI 1)), (3, vI (nI 0)), (0, vR 8 20), (1, vI (nI S)), (2, vI (nI a))], [vI (nI a), vI (nI 10), vR 8 21], h) rfl ?_
      refine R_add 10 a rfl ?_
      refine R_ld 8 21 (10 + a) 125 rfl rfl (by omega) (by decide) ?_
      refine R_top (s (10 + a)) (M _ (by omega)) ?_
      refine R_s 2 (cond (if2 .eq (s (10 + a)) (-1)) 78 62, [(4, vI (nI 1)), (3, vI (nI 0)), (0, vR 8 20), (1, vI (nI S)), (2, vI (nI a))], [], h) rfl ?_
      refine R_bp ((s (10 + a)) = (-1)) x2_eq (fun c3 => ?_) (fun c3 => ?_)
      · refine R_s 3 (85, [(5, vI (nI 1)), (4, vI (nI 1)), (3, vI (nI 0)), (0, vR 8 20), (1, vI (nI S)), (2, vI (nI a))], [], h) rfl ?_
        refine R_s 5 (90, [(5, vI (nI 1)), (4, vI (nI 1)), (3, vI (nI 0)), (0, vR 8 20), (1, vI (nI S)), (2, vI (nI a))], [vI (((nI S) >>> ((nI a) &&& 31)) &&& (nI 1))], h) rfl ?_
        refine R_top (nI (if S.testBit a then 1 else 0)) (bit_sh S hS a (by omega)) ?_
        refine R_s 1 (cond (if0 .ne (nI (if S.testBit a then 1 else 0))) 111 93, [(5, vI (nI 1)), (4, vI (nI 1)), (3, vI (nI 0)), (0, vR 8 20), (1, vI (nI S)), (2, vI (nI a))], [], h) rfl ?_
        refine R_bp (S.testBit a = true) i0_nb (fun c8 => ?_) (fun c8 => ?_)
        · refine R_s 1 (112, [(5, vI (nI 1)), (4, vI (nI 1)), (3, vI (nI 0)), (0, vR 8 20), (1, vI (nI S)), (2, vI (nI a))], [vI (nI 0)], h) rfl ?_
          exact R_ret (some (vI (nI 0))) h rfl ⟨by rw [c8]; rfl, rfl⟩
        · refine R_s 2 (cond (if0 .eq (nI 1)) 111 98, [(5, vI (nI 1)), (4, vI (nI 1)), (3, vI (nI 0)), (0, vR 8 20), (1, vI (nI S)), (2, vI (nI a))], [], h) rfl ?_
          refine R_bf rfl ?_
          refine R_s 2 (cond (if0 .eq (nI 0)) 107 102, [(5, vI (nI 1)), (4, vI (nI 1)), (3, vI (nI 0)), (0, vR 8 20), (1, vI (nI S)), (2, vI (nI a))], [], h) rfl ?_
          refine R_bt rfl ?_
          refine R_s 2 (112, [(5, vI (nI 1)), (4, vI (nI 1)), (3, vI (nI 0)), (0, vR 8 20), (1, vI (nI S)), (2, vI (nI a))], [vI (nI 1)], h) rfl ?_
          exact R_ret (some (vI (nI 1))) h rfl ⟨by rw [bool_f c8]; simp [c1, c2, c3, bI, nI_0]; try rfl, rfl⟩
      · refine R_s 4 (69, [(4, vI (nI 1)), (3, vI (nI 0)), (0, vR 8 20), (1, vI (nI S)), (2, vI (nI a))], [vI (nI a), vI (nI 10), vR 8 21], h) rfl ?_
        refine R_add 10 a rfl ?_
        refine R_ld 8 21 (10 + a) 125 rfl rfl (by omega) (by decide) ?_
        refine R_top (s (10 + a)) (M _ (by omega)) ?_
        refine R_s 1 (72, [(4, vI (nI 1)), (3, vI (nI 0)), (0, vR 8 20), (1, vI (nI S)), (2, vI (nI a))], [vI (nI S), vI (s (10 + a))], h) rfl ?_
        refine R_calli mM_ones [vI (nI S)] [vI (s (10 + a))] (nI (pop S)) h rfl (t_M_ones hS) ?_
        refine R_s 1 (cond (if2 .ne (s (10 + a)) (nI (pop S))) 82 78, [(4, vI (nI 1)), (3, vI (nI 0)), (0, vR 8 20), (1, vI (nI S)), (2, vI (nI a))], [], h) rfl ?_
        refine R_bp (¬ (s (10 + a)) = (nI (pop S))) x2_ne (fun c4 => ?_) (fun c4 => ?_)
        · refine R_s 2 (85, [(5, vI (nI 0)), (4, vI (nI 1)), (3, vI (nI 0)), (0, vR 8 20), (1, vI (nI S)), (2, vI (nI a))], [], h) rfl ?_
          refine R_s 5 (90, [(5, vI (nI 0)), (4, vI (nI 1)), (3, vI (nI 0)), (0, vR 8 20), (1, vI (nI S)), (2, vI (nI a))], [vI (((nI S) >>> ((nI a) &&& 31)) &&& (nI 1))], h) rfl ?_
          refine R_top (nI (if S.testBit a then 1 else 0)) (bit_sh S hS a (by omega)) ?_
          refine R_s 1 (cond (if0 .ne (nI (if S.testBit a then 1 else 0))) 111 93, [(5, vI (nI 0)), (4, vI (nI 1)), (3, vI (nI 0)), (0, vR 8 20), (1, vI (nI S)), (2, vI (nI a))], [], h) rfl ?_
          refine R_bp (S.testBit a = true) i0_nb (fun c8 => ?_) (fun c8 => ?_)
          · refine R_s 1 (112, [(5, vI (nI 0)), (4, vI (nI 1)), (3, vI (nI 0)), (0, vR 8 20), (1, vI (nI S)), (2, vI (nI a))], [vI (nI 0)], h) rfl ?_
            exact R_ret (some (vI (nI 0))) h rfl ⟨by rw [c8]; rfl, rfl⟩
          · refine R_s 2 (cond (if0 .eq (nI 0)) 111 98, [(5, vI (nI 0)), (4, vI (nI 1)), (3, vI (nI 0)), (0, vR 8 20), (1, vI (nI S)), (2, vI (nI a))], [], h) rfl ?_
            refine R_bt rfl ?_
            refine R_s 1 (112, [(5, vI (nI 0)), (4, vI (nI 1)), (3, vI (nI 0)), (0, vR 8 20), (1, vI (nI S)), (2, vI (nI a))], [vI (nI 0)], h) rfl ?_
            exact R_ret (some (vI (nI 0))) h rfl ⟨by rw [bool_f c8]; simp [c1, c2, c3, c4, bI, nI_0]; try rfl, rfl⟩
        · have c4 := Classical.not_not.mp c4
          have c4' : nI (pop S) = s (10 + a) := c4.symm
          refine R_s 3 (85, [(5, vI (nI 1)), (4, vI (nI 1)), (3, vI (nI 0)), (0, vR 8 20), (1, vI (nI S)), (2, vI (nI a))], [], h) rfl ?_
          refine R_s 5 (90, [(5, vI (nI 1)), (4, vI (nI 1)), (3, vI (nI 0)), (0, vR 8 20), (1, vI (nI S)), (2, vI (nI a))], [vI (((nI S) >>> ((nI a) &&& 31)) &&& (nI 1))], h) rfl ?_
          refine R_top (nI (if S.testBit a then 1 else 0)) (bit_sh S hS a (by omega)) ?_
          refine R_s 1 (cond (if0 .ne (nI (if S.testBit a then 1 else 0))) 111 93, [(5, vI (nI 1)), (4, vI (nI 1)), (3, vI (nI 0)), (0, vR 8 20), (1, vI (nI S)), (2, vI (nI a))], [], h) rfl ?_
          refine R_bp (S.testBit a = true) i0_nb (fun c8 => ?_) (fun c8 => ?_)
          · refine R_s 1 (112, [(5, vI (nI 1)), (4, vI (nI 1)), (3, vI (nI 0)), (0, vR 8 20), (1, vI (nI S)), (2, vI (nI a))], [vI (nI 0)], h) rfl ?_
            exact R_ret (some (vI (nI 0))) h rfl ⟨by rw [c8]; rfl, rfl⟩
          · refine R_s 2 (cond (if0 .eq (nI 1)) 111 98, [(5, vI (nI 1)), (4, vI (nI 1)), (3, vI (nI 0)), (0, vR 8 20), (1, vI (nI S)), (2, vI (nI a))], [], h) rfl ?_
            refine R_bf rfl ?_
            refine R_s 2 (cond (if0 .eq (nI 0)) 107 102, [(5, vI (nI 1)), (4, vI (nI 1)), (3, vI (nI 0)), (0, vR 8 20), (1, vI (nI S)), (2, vI (nI a))], [], h) rfl ?_
            refine R_bt rfl ?_
            refine R_s 2 (112, [(5, vI (nI 1)), (4, vI (nI 1)), (3, vI (nI 0)), (0, vR 8 20), (1, vI (nI S)), (2, vI (nI a))], [vI (nI 1)], h) rfl ?_
            exact R_ret (some (vI (nI 1))) h rfl ⟨by rw [bool_f c8]; simp [c1, c2, c4, bI, nI_0]; try rfl, rfl⟩
  · have c1 := tf c1
    refine R_s 4 (22, [(3, vI (nI 1)), (0, vR 8 20), (1, vI (nI S)), (2, vI (nI a))], [vR 8 20], h) rfl ?_
    refine R_calli mM_all [vR 8 20] [] (nI (2 ^ n - 1)) h rfl (t_M_all M F) ?_
    refine R_s 3 (31, [(3, vI (nI 1)), (0, vR 8 20), (1, vI (nI S)), (2, vI (nI a))], [vI (nI 9), vR 8 21, vI (nI (2 ^ n - 1))], h) rfl ?_
    refine R_ld 8 21 9 125 rfl rfl (by omega) (by decide) ?_
    refine R_top (nI e) ((M 9 (by decide)).trans e1) ?_
    refine R_s 3 (35, [(3, vI (nI 1)), (0, vR 8 20), (1, vI (nI S)), (2, vI (nI a))], [vI ((nI (2 ^ n - 1)) &&& ((nI e) ^^^ (-1)))], h) rfl ?_
    refine R_top (nI (2 ^ n - 1 - e)) (not_e n (by omega) e e2) ?_
    refine R_s 5 (cond (if0 .ne ((nI (2 ^ n - 1 - e)) &&& ((nI S) ^^^ (-1)))) 46 42, [(3, vI (nI 1)), (0, vR 8 20), (1, vI (nI S)), (2, vI (nI a))], [], h) rfl ?_
    refine R_bp (¬ ((2 ^ n - 1 - e) &&& S = 2 ^ n - 1 - e)) (x0_ne.trans (not_congr (msk_ok (by omega) hS))) (fun c2 => ?_) (fun c2 => ?_)
    · have c2 : opn n e S = false := bool_f (fun q => c2 (of_decide_eq_true q))
      refine R_s 6 (56, [(4, vI (nI 0)), (3, vI (nI 1)), (0, vR 8 20), (1, vI (nI S)), (2, vI (nI a))], [vI (nI a), vI (nI 10), vR 8 21], h) rfl ?_
      refine R_add 10 a rfl ?_
      refine R_ld 8 21 (10 + a) 125 rfl rfl (by omega) (by decide) ?_
      refine R_top (s (10 + a)) (M _ (by omega)) ?_
      refine R_s 2 (cond (if2 .eq (s (10 + a)) (-1)) 78 62, [(4, vI (nI 0)), (3, vI (nI 1)), (0, vR 8 20), (1, vI (nI S)), (2, vI (nI a))], [], h) rfl ?_
      refine R_bp ((s (10 + a)) = (-1)) x2_eq (fun c3 => ?_) (fun c3 => ?_)
      · refine R_s 3 (85, [(5, vI (nI 1)), (4, vI (nI 0)), (3, vI (nI 1)), (0, vR 8 20), (1, vI (nI S)), (2, vI (nI a))], [], h) rfl ?_
        refine R_s 5 (90, [(5, vI (nI 1)), (4, vI (nI 0)), (3, vI (nI 1)), (0, vR 8 20), (1, vI (nI S)), (2, vI (nI a))], [vI (((nI S) >>> ((nI a) &&& 31)) &&& (nI 1))], h) rfl ?_
        refine R_top (nI (if S.testBit a then 1 else 0)) (bit_sh S hS a (by omega)) ?_
        refine R_s 1 (cond (if0 .ne (nI (if S.testBit a then 1 else 0))) 111 93, [(5, vI (nI 1)), (4, vI (nI 0)), (3, vI (nI 1)), (0, vR 8 20), (1, vI (nI S)), (2, vI (nI a))], [], h) rfl ?_
        refine R_bp (S.testBit a = true) i0_nb (fun c8 => ?_) (fun c8 => ?_)
        · refine R_s 1 (112, [(5, vI (nI 1)), (4, vI (nI 0)), (3, vI (nI 1)), (0, vR 8 20), (1, vI (nI S)), (2, vI (nI a))], [vI (nI 0)], h) rfl ?_
          exact R_ret (some (vI (nI 0))) h rfl ⟨by rw [c8]; rfl, rfl⟩
        · refine R_s 2 (cond (if0 .eq (nI 1)) 111 98, [(5, vI (nI 1)), (4, vI (nI 0)), (3, vI (nI 1)), (0, vR 8 20), (1, vI (nI S)), (2, vI (nI a))], [], h) rfl ?_
          refine R_bf rfl ?_
          refine R_s 2 (cond (if0 .eq (nI 1)) 107 102, [(5, vI (nI 1)), (4, vI (nI 0)), (3, vI (nI 1)), (0, vR 8 20), (1, vI (nI S)), (2, vI (nI a))], [], h) rfl ?_
          refine R_bf rfl ?_
          refine R_s 2 (cond (if0 .eq (nI 0)) 111 107, [(5, vI (nI 1)), (4, vI (nI 0)), (3, vI (nI 1)), (0, vR 8 20), (1, vI (nI S)), (2, vI (nI a))], [], h) rfl ?_
          refine R_bt rfl ?_
          refine R_s 1 (112, [(5, vI (nI 1)), (4, vI (nI 0)), (3, vI (nI 1)), (0, vR 8 20), (1, vI (nI S)), (2, vI (nI a))], [vI (nI 0)], h) rfl ?_
          exact R_ret (some (vI (nI 0))) h rfl ⟨by rw [bool_f c8]; simp [c1, c2, c3, bI, nI_0]; try rfl, rfl⟩
      · refine R_s 4 (69, [(4, vI (nI 0)), (3, vI (nI 1)), (0, vR 8 20), (1, vI (nI S)), (2, vI (nI a))], [vI (nI a), vI (nI 10), vR 8 21], h) rfl ?_
        refine R_add 10 a rfl ?_
        refine R_ld 8 21 (10 + a) 125 rfl rfl (by omega) (by decide) ?_
        refine R_top (s (10 + a)) (M _ (by omega)) ?_
        refine R_s 1 (72, [(4, vI (nI 0)), (3, vI (nI 1)), (0, vR 8 20), (1, vI (nI S)), (2, vI (nI a))], [vI (nI S), vI (s (10 + a))], h) rfl ?_
        refine R_calli mM_ones [vI (nI S)] [vI (s (10 + a))] (nI (pop S)) h rfl (t_M_ones hS) ?_
        refine R_s 1 (cond (if2 .ne (s (10 + a)) (nI (pop S))) 82 78, [(4, vI (nI 0)), (3, vI (nI 1)), (0, vR 8 20), (1, vI (nI S)), (2, vI (nI a))], [], h) rfl ?_
        refine R_bp (¬ (s (10 + a)) = (nI (pop S))) x2_ne (fun c4 => ?_) (fun c4 => ?_)
        · refine R_s 2 (85, [(5, vI (nI 0)), (4, vI (nI 0)), (3, vI (nI 1)), (0, vR 8 20), (1, vI (nI S)), (2, vI (nI a))], [], h) rfl ?_
          refine R_s 5 (90, [(5, vI (nI 0)), (4, vI (nI 0)), (3, vI (nI 1)), (0, vR 8 20), (1, vI (nI S)), (2, vI (nI a))], [vI (((nI S) >>> ((nI a) &&& 31)) &&& (nI 1))], h) rfl ?_
          refine R_top (nI (if S.testBit a then 1 else 0)) (bit_sh S hS a (by omega)) ?_
          refine R_s 1 (cond (if0 .ne (nI (if S.testBit a then 1 else 0))) 111 93, [(5, vI (nI 0)), (4, vI (nI 0)), (3, vI (nI 1)), (0, vR 8 20), (1, vI (nI S)), (2, vI (nI a))], [], h) rfl ?_
          refine R_bp (S.testBit a = true) i0_nb (fun c8 => ?_) (fun c8 => ?_)
          · refine R_s 1 (112, [(5, vI (nI 0)), (4, vI (nI 0)), (3, vI (nI 1)), (0, vR 8 20), (1, vI (nI S)), (2, vI (nI a))], [vI (nI 0)], h) rfl ?_
            exact R_ret (some (vI (nI 0))) h rfl ⟨by rw [c8]; rfl, rfl⟩
          · refine R_s 2 (cond (if0 .eq (nI 0)) 111 98, [(5, vI (nI 0)), (4, vI (nI 0)), (3, vI (nI 1)), (0, vR 8 20), (1, vI (nI S)), (2, vI (nI a))], [], h) rfl ?_
            refine R_bt rfl ?_
            refine R_s 1 (112, [(5, vI (nI 0)), (4, vI (nI 0)), (3, vI (nI 1)), (0, vR 8 20), (1, vI (nI S)), (2, vI (nI a))], [vI (nI 0)], h) rfl ?_
            exact R_ret (some (vI (nI 0))) h rfl ⟨by rw [bool_f c8]; simp [c1, c2, c3, c4, bI, nI_0]; try rfl, rfl⟩
        · have c4 := Classical.not_not.mp c4
          have c4' : nI (pop S) = s (10 + a) := c4.symm
          refine R_s 3 (85, [(5, vI (nI 1)), (4, vI (nI 0)), (3, vI (nI 1)), (0, vR 8 20), (1, vI (nI S)), (2, vI (nI a))], [], h) rfl ?_
          refine R_s 5 (90, [(5, vI (nI 1)), (4, vI (nI 0)), (3, vI (nI 1)), (0, vR 8 20), (1, vI (nI S)), (2, vI (nI a))], [vI (((nI S) >>> ((nI a) &&& 31)) &&& (nI 1))], h) rfl ?_
          refine R_top (nI (if S.testBit a then 1 else 0)) (bit_sh S hS a (by omega)) ?_
          refine R_s 1 (cond (if0 .ne (nI (if S.testBit a then 1 else 0))) 111 93, [(5, vI (nI 1)), (4, vI (nI 0)), (3, vI (nI 1)), (0, vR 8 20), (1, vI (nI S)), (2, vI (nI a))], [], h) rfl ?_
          refine R_bp (S.testBit a = true) i0_nb (fun c8 => ?_) (fun c8 => ?_)
          · refine R_s 1 (112, [(5, vI (nI 1)), (4, vI (nI 0)), (3, vI (nI 1)), (0, vR 8 20), (1, vI (nI S)), (2, vI (nI a))], [vI (nI 0)], h) rfl ?_
            exact R_ret (some (vI (nI 0))) h rfl ⟨by rw [c8]; rfl, rfl⟩
          · refine R_s 2 (cond (if0 .eq (nI 1)) 111 98, [(5, vI (nI 1)), (4, vI (nI 0)), (3, vI (nI 1)), (0, vR 8 20), (1, vI (nI S)), (2, vI (nI a))], [], h) rfl ?_
            refine R_bf rfl ?_
            refine R_s 2 (cond (if0 .eq (nI 1)) 107 102, [(5, vI (nI 1)), (4, vI (nI 0)), (3, vI (nI 1)), (0, vR 8 20), (1, vI (nI S)), (2, vI (nI a))], [], h) rfl ?_
            refine R_bf rfl ?_
            refine R_s 2 (cond (if0 .eq (nI 0)) 111 107, [(5, vI (nI 1)), (4, vI (nI 0)), (3, vI (nI 1)), (0, vR 8 20), (1, vI (nI S)), (2, vI (nI a))], [], h) rfl ?_
            refine R_bt rfl ?_
            refine R_s 1 (112, [(5, vI (nI 1)), (4, vI (nI 0)), (3, vI (nI 1)), (0, vR 8 20), (1, vI (nI S)), (2, vI (nI a))], [vI (nI 0)], h) rfl ?_
            exact R_ret (some (vI (nI 0))) h rfl ⟨by rw [bool_f c8]; simp [c1, c2, c4, bI, nI_0]; try rfl, rfl⟩
    · have c2 : opn n e S = true := decide_eq_true (Classical.not_not.mp c2)
      refine R_s 7 (56, [(4, vI (nI 1)), (3, vI (nI 1)), (0, vR 8 20), (1, vI (nI S)), (2, vI (nI a))], [vI (nI a), vI (nI 10), vR 8 21], h) rfl ?_
      refine R_add 10 a rfl ?_
      refine R_ld 8 21 (10 + a) 125 rfl rfl (by omega) (by decide) ?_
      refine R_top (s (10 + a)) (M _ (by omega)) ?_
      refine R_s 2 (cond (if2 .eq (s (10 + a)) (-1)) 78 62, [(4, vI (nI 1)), (3, vI (nI 1)), (0, vR 8 20), (1, vI (nI S)), (2, vI (nI a))], [], h) rfl ?_
      refine R_bp ((s (10 + a)) = (-1)) x2_eq (fun c3 => ?_) (fun c3 => ?_)
      · refine R_s 3 (85, [(5, vI (nI 1)), (4, vI (nI 1)), (3, vI (nI 1)), (0, vR 8 20), (1, vI (nI S)), (2, vI (nI a))], [], h) rfl ?_
        refine R_s 5 (90, [(5, vI (nI 1)), (4, vI (nI 1)), (3, vI (nI 1)), (0, vR 8 20), (1, vI (nI S)), (2, vI (nI a))], [vI (((nI S) >>> ((nI a) &&& 31)) &&& (nI 1))], h) rfl ?_
        refine R_top (nI (if S.testBit a then 1 else 0)) (bit_sh S hS a (by omega)) ?_
        refine R_s 1 (cond (if0 .ne (nI (if S.testBit a then 1 else 0))) 111 93, [(5, vI (nI 1)), (4, vI (nI 1)), (3, vI (nI 1)), (0, vR 8 20), (1, vI (nI S)), (2, vI (nI a))], [], h) rfl ?_
        refine R_bp (S.testBit a = true) i0_nb (fun c8 => ?_) (fun c8 => ?_)
        · refine R_s 1 (112, [(5, vI (nI 1)), (4, vI (nI 1)), (3, vI (nI 1)), (0, vR 8 20), (1, vI (nI S)), (2, vI (nI a))], [vI (nI 0)], h) rfl ?_
          exact R_ret (some (vI (nI 0))) h rfl ⟨by rw [c8]; rfl, rfl⟩
        · refine R_s 2 (cond (if0 .eq (nI 1)) 111 98, [(5, vI (nI 1)), (4, vI (nI 1)), (3, vI (nI 1)), (0, vR 8 20), (1, vI (nI S)), (2, vI (nI a))], [], h) rfl ?_
          refine R_bf rfl ?_
          refine R_s 2 (cond (if0 .eq (nI 1)) 107 102, [(5, vI (nI 1)), (4, vI (nI 1)), (3, vI (nI 1)), (0, vR 8 20), (1, vI (nI S)), (2, vI (nI a))], [], h) rfl ?_
          refine R_bf rfl ?_
          refine R_s 2 (cond (if0 .eq (nI 1)) 111 107, [(5, vI (nI 1)), (4, vI (nI 1)), (3, vI (nI 1)), (0, vR 8 20), (1, vI (nI S)), (2, vI (nI a))], [], h) rfl ?_
          refine R_bf rfl ?_
          refine R_s 2 (112, [(5, vI (nI 1)), (4, vI (nI 1)), (3, vI (nI 1)), (0, vR 8 20), (1, vI (nI S)), (2, vI (nI a))], [vI (nI 1)], h) rfl ?_
          exact R_ret (some (vI (nI 1))) h rfl ⟨by rw [bool_f c8]; simp [c1, c2, c3, bI, nI_0]; try rfl, rfl⟩
      · refine R_s 4 (69, [(4, vI (nI 1)), (3, vI (nI 1)), (0, vR 8 20), (1, vI (nI S)), (2, vI (nI a))], [vI (nI a), vI (nI 10), vR 8 21], h) rfl ?_
        refine R_add 10 a rfl ?_
        refine R_ld 8 21 (10 + a) 125 rfl rfl (by omega) (by decide) ?_
        refine R_top (s (10 + a)) (M _ (by omega)) ?_
        refine R_s 1 (72, [(4, vI (nI 1)), (3, vI (nI 1)), (0, vR 8 20), (1, vI (nI S)), (2, vI (nI a))], [vI (nI S), vI (s (10 + a))], h) rfl ?_
        refine R_calli mM_ones [vI (nI S)] [vI (s (10 + a))] (nI (pop S)) h rfl (t_M_ones hS) ?_
        refine R_s 1 (cond (if2 .ne (s (10 + a)) (nI (pop S))) 82 78, [(4, vI (nI 1)), (3, vI (nI 1)), (0, vR 8 20), (1, vI (nI S)), (2, vI (nI a))], [], h) rfl ?_
        refine R_bp (¬ (s (10 + a)) = (nI (pop S))) x2_ne (fun c4 => ?_) (fun c4 => ?_)
        · refine R_s 2 (85, [(5, vI (nI 0)), (4, vI (nI 1)), (3, vI (nI 1)), (0, vR 8 20), (1, vI (nI S)), (2, vI (nI a))], [], h) rfl ?_
          refine R_s 5 (90, [(5, vI (nI 0)), (4, vI (nI 1)), (3, vI (nI 1)), (0, vR 8 20), (1, vI (nI S)), (2, vI (nI a))], [vI (((nI S) >>> ((nI a) &&& 31)) &&& (nI 1))], h) rfl ?_
          refine R_top (nI (if S.testBit a then 1 else 0)) (bit_sh S hS a (by omega)) ?_
          refine R_s 1 (cond (if0 .ne (nI (if S.testBit a then 1 else 0))) 111 93, [(5, vI (nI 0)), (4, vI (nI 1)), (3, vI (nI 1)), (0, vR 8 20), (1, vI (nI S)), (2, vI (nI a))], [], h) rfl ?_
          refine R_bp (S.testBit a = true) i0_nb (fun c8 => ?_) (fun c8 => ?_)
          · refine R_s 1 (112, [(5, vI (nI 0)), (4, vI (nI 1)), (3, vI (nI 1)), (0, vR 8 20), (1, vI (nI S)), (2, vI (nI a))], [vI (nI 0)], h) rfl ?_
            exact R_ret (some (vI (nI 0))) h rfl ⟨by rw [c8]; rfl, rfl⟩
          · refine R_s 2 (cond (if0 .eq (nI 0)) 111 98, [(5, vI (nI 0)), (4, vI (nI 1)), (3, vI (nI 1)), (0, vR 8 20), (1, vI (nI S)), (2, vI (nI a))], [], h) rfl ?_
            refine R_bt rfl ?_
            refine R_s 1 (112, [(5, vI (nI 0)), (4, vI (nI 1)), (3, vI (nI 1)), (0, vR 8 20), (1, vI (nI S)), (2, vI (nI a))], [vI (nI 0)], h) rfl ?_
            exact R_ret (some (vI (nI 0))) h rfl ⟨by rw [bool_f c8]; simp [c1, c2, c3, c4, bI, nI_0]; try rfl, rfl⟩
        · have c4 := Classical.not_not.mp c4
          have c4' : nI (pop S) = s (10 + a) := c4.symm
          refine R_s 3 (85, [(5, vI (nI 1)), (4, vI (nI 1)), (3, vI (nI 1)), (0, vR 8 20), (1, vI (nI S)), (2, vI (nI a))], [], h) rfl ?_
          refine R_s 5 (90, [(5, vI (nI 1)), (4, vI (nI 1)), (3, vI (nI 1)), (0, vR 8 20), (1, vI (nI S)), (2, vI (nI a))], [vI (((nI S) >>> ((nI a) &&& 31)) &&& (nI 1))], h) rfl ?_
          refine R_top (nI (if S.testBit a then 1 else 0)) (bit_sh S hS a (by omega)) ?_
          refine R_s 1 (cond (if0 .ne (nI (if S.testBit a then 1 else 0))) 111 93, [(5, vI (nI 1)), (4, vI (nI 1)), (3, vI (nI 1)), (0, vR 8 20), (1, vI (nI S)), (2, vI (nI a))], [], h) rfl ?_
          refine R_bp (S.testBit a = true) i0_nb (fun c8 => ?_) (fun c8 => ?_)
          · refine R_s 1 (112, [(5, vI (nI 1)), (4, vI (nI 1)), (3, vI (nI 1)), (0, vR 8 20), (1, vI (nI S)), (2, vI (nI a))], [vI (nI 0)], h) rfl ?_
            exact R_ret (some (vI (nI 0))) h rfl ⟨by rw [c8]; rfl, rfl⟩
          · refine R_s 2 (cond (if0 .eq (nI 1)) 111 98, [(5, vI (nI 1)), (4, vI (nI 1)), (3, vI (nI 1)), (0, vR 8 20), (1, vI (nI S)), (2, vI (nI a))], [], h) rfl ?_
            refine R_bf rfl ?_
            refine R_s 2 (cond (if0 .eq (nI 1)) 107 102, [(5, vI (nI 1)), (4, vI (nI 1)), (3, vI (nI 1)), (0, vR 8 20), (1, vI (nI S)), (2, vI (nI a))], [], h) rfl ?_
            refine R_bf rfl ?_
            refine R_s 2 (cond (if0 .eq (nI 1)) 111 107, [(5, vI (nI 1)), (4, vI (nI 1)), (3, vI (nI 1)), (0, vR 8 20), (1, vI (nI S)), (2, vI (nI a))], [], h) rfl ?_
            refine R_bf rfl ?_
            refine R_s 2 (112, [(5, vI (nI 1)), (4, vI (nI 1)), (3, vI (nI 1)), (0, vR 8 20), (1, vI (nI S)), (2, vI (nI a))], [vI (nI 1)], h) rfl ?_
            exact R_ret (some (vI (nI 1))) h rfl ⟨by rw [bool_f c8]; simp [c1, c2, c4, bI, nI_0]; try rfl, rfl⟩
/-- the reference's walk along the order: all right so far, the songs so far -/
def alM (z : ST) : Nat → Bool × Nat
  | 0 => (true, 0)
  | j + 1 => ((alM z j).1 && mcm z (alM z j).2 (z.1 (18 + j)).toNatClampNeg, (alM z j).2 ||| 2 ^ (z.1 (18 + j)).toNatClampNeg)
set_option maxRecDepth 100000 in
theorem t_M_isAllowed0 {d n p k : Nat} {h : HP} {s : Nat → Int32} (O : WO s n) (M : MS 21 h s) (F : WF s n p k) : MT (d + 2) mM_isAllowed [vR 8 20] h (fun r h' => r = some (vI (bI (alM (s, n, p, k) n).1)) ∧ h' = h) := by
  have h8 := F.2.1.1
  have h5 := F.2.1.2.1
  have h6 := F.2.1.2.2
  refine R_s 6 (6, [(3, vI (nI 0)), (2, vI (nI 1)), (1, vI (nI 0)), (0, vR 8 20)], [], h) rfl ?_
  refine R_lv (lv' := [(3, vI (nI 0)), (2, vI (bI true)), (1, vI (nI 0)), (0, vR 8 20)]) rfl ?_
  suffices ∀ m (j : Nat) (b : Bool) (S : Nat) (hm : j + m = n) (hS8 : S < 256) (hS : alM (s, n, p, k) j = (b, S)), R (d + 2) mM_isAllowed (6, [(3, vI (nI j)), (2, vI (bI b)), (1, vI (nI S)), (0, vR 8 20)], [], h) _ from this n 0 true 0 (by omega) (by omega) rfl
  intro m
  induction m with
  | zero =>
    intro j b S hm hS8 hS
    refine R_s 4 (12, [(3, vI (nI j)), (2, vI (bI b)), (1, vI (nI S)), (0, vR 8 20)], [vI (nI 0), vR 8 21, vI (nI j)], h) rfl ?_
    refine R_ld 8 21 0 125 rfl rfl (by omega) (by decide) ?_
    refine R_top (nI n) ((M 0 (by decide)).trans F.1.1) ?_
    refine R_s 1 (cond (if2 .ge (nI j) (nI n)) 63 16, [(3, vI (nI j)), (2, vI (bI b)), (1, vI (nI S)), (0, vR 8 20)], [], h) rfl ?_
    refine R_bp (n ≤ j) (i2_ge (by omega) (by omega)) (fun c1 => ?_) (fun c1 => ?_)
    · refine R_s 2 (cond (if0 .eq (bI b)) 71 67, [(3, vI (nI j)), (2, vI (bI b)), (1, vI (nI S)), (0, vR 8 20)], [], h) rfl ?_
      refine R_bp (b = false) (x0_eq.trans bI_eq) (fun c2 => ?_) (fun c2 => ?_)
      · refine R_s 1 (72, [(3, vI (nI j)), (2, vI (bI b)), (1, vI (nI S)), (0, vR 8 20)], [vI (nI 0)], h) rfl ?_
        exact R_ret (some (vI (nI 0))) h rfl ⟨by rw [show j = n by omega] at hS; rw [hS, c2]; rfl, rfl⟩
      · refine R_s 2 (72, [(3, vI (nI j)), (2, vI (bI b)), (1, vI (nI S)), (0, vR 8 20)], [vI (nI 1)], h) rfl ?_
        exact R_ret (some (vI (nI 1))) h rfl ⟨by rw [show j = n by omega] at hS; rw [hS, tf c2]; rfl, rfl⟩
    · exact absurd hm (by omega)
  | succ m ih =>
    intro j b S hm hS8 hS
    refine R_s 4 (12, [(3, vI (nI j)), (2, vI (bI b)), (1, vI (nI S)), (0, vR 8 20)], [vI (nI 0), vR 8 21, vI (nI j)], h) rfl ?_
    refine R_ld 8 21 0 125 rfl rfl (by omega) (by decide) ?_
    refine R_top (nI n) ((M 0 (by decide)).trans F.1.1) ?_
    refine R_s 1 (cond (if2 .ge (nI j) (nI n)) 63 16, [(3, vI (nI j)), (2, vI (bI b)), (1, vI (nI S)), (0, vR 8 20)], [], h) rfl ?_
    refine R_bp (n ≤ j) (i2_ge (by omega) (by omega)) (fun c1 => ?_) (fun c1 => ?_)
    · refine R_s 2 (cond (if0 .eq (bI b)) 71 67, [(3, vI (nI j)), (2, vI (bI b)), (1, vI (nI S)), (0, vR 8 20)], [], h) rfl ?_
      refine R_bp (b = false) (x0_eq.trans bI_eq) (fun c2 => ?_) (fun c2 => ?_)
      · refine R_s 1 (72, [(3, vI (nI j)), (2, vI (bI b)), (1, vI (nI S)), (0, vR 8 20)], [vI (nI 0)], h) rfl ?_
        exact R_ret (some (vI (nI 0))) h rfl ⟨by rw [show j = n by omega] at hS; rw [hS, c2]; rfl, rfl⟩
      · refine R_s 2 (72, [(3, vI (nI j)), (2, vI (bI b)), (1, vI (nI S)), (0, vR 8 20)], [vI (nI 1)], h) rfl ?_
        exact R_ret (some (vI (nI 1))) h rfl ⟨by rw [show j = n by omega] at hS; rw [hS, tf c2]; rfl, rfl⟩
    · obtain ⟨a, ha, ea⟩ := O.2.1 j (by omega)
      have hN : alM (s, n, p, k) (j + 1) = (b && mcm (s, n, p, k) S a, S ||| 2 ^ a) := by show ((alM (s, n, p, k) j).1 && mcm (s, n, p, k) (alM (s, n, p, k) j).2 (s (18 + j)).toNatClampNeg, (alM (s, n, p, k) j).2 ||| 2 ^ (s (18 + j)).toNatClampNeg) = _; rw [hS, ea, nI_cl (by omega)]
      refine R_s 2 (cond (if0 .eq (bI b)) 41 20, [(3, vI (nI j)), (2, vI (bI b)), (1, vI (nI S)), (0, vR 8 20)], [], h) rfl ?_
      refine R_bp (b = false) (x0_eq.trans bI_eq) (fun c2 => ?_) (fun c2 => ?_)
      · refine R_s 8 (52, [(2, vI (nI 0)), (3, vI (nI j)), (1, vI (nI S)), (0, vR 8 20)], [vI (nI j), vI (nI 18), vR 8 21, vI (nI 1), vI (nI S)], h) rfl ?_
        refine R_add 18 j rfl ?_
        refine R_ld 8 21 (18 + j) 125 rfl rfl (by omega) (by decide) ?_
        refine R_top (nI a) ((M _ (by omega)).trans ea) ?_
        refine R_s 2 (56, [(2, vI (nI 0)), (3, vI (nI j)), (1, vI (nI S)), (0, vR 8 20)], [vI ((nI S) ||| ((nI 1) <<< ((nI a) &&& 31)))], h) rfl ?_
        refine R_top (nI (S ||| 2 ^ a)) (bit_or S hS8 a (by omega)) ?_
        refine R_s 2 (60, [(3, vI (nI j + Int32.ofInt 1)), (1, vI (nI (S ||| 2 ^ a))), (2, vI (nI 0)), (0, vR 8 20)], [], h) rfl ?_
        refine R_lv (lv' := [(3, vI (nI (j + 1))), (1, vI (nI (S ||| 2 ^ a))), (2, vI (nI 0)), (0, vR 8 20)]) (by rw [show nI j + Int32.ofInt 1 = nI (j + 1) from nI_add _ _]) ?_
        refine R_s 1 (6, [(3, vI (nI (j + 1))), (1, vI (nI (S ||| 2 ^ a))), (2, vI (nI 0)), (0, vR 8 20)], [], h) rfl ?_
        refine R_lv (lv' := [(3, vI (nI (j + 1))), (1, vI (nI (S ||| 2 ^ a))), (2, vI (bI false)), (0, vR 8 20)]) rfl ?_
        refine R_fg (lv' := [(3, vI (nI (j + 1))), (2, vI (bI false)), (1, vI (nI (S ||| 2 ^ a))), (0, vR 8 20)]) [0, 2, 1, 3] rfl [3, 1, 2, 0] rfl (by decide) ?_
        exact ih (j + 1) false (S ||| 2 ^ a) (by omega) (bit_lt S hS8 a (by omega)) (by rw [hN, c2]; rfl)
      · have c2 := tf c2
        refine R_s 6 (29, [(3, vI (nI j)), (2, vI (bI b)), (1, vI (nI S)), (0, vR 8 20)], [vI (nI j), vI (nI 18), vR 8 21, vI (nI S), vR 8 20], h) rfl ?_
        refine R_add 18 j rfl ?_
        refine R_ld 8 21 (18 + j) 125 rfl rfl (by omega) (by decide) ?_
        refine R_top (nI a) ((M _ (by omega)).trans ea) ?_
        refine R_calli mM_mayCome [vR 8 20, vI (nI S), vI (nI a)] [] (bI (mcm (s, n, p, k) S a)) h rfl (t_M_mayCome hS8 ha M F) ?_
        refine R_s 1 (cond (if0 .eq (bI (mcm (s, n, p, k) S a))) 41 37, [(3, vI (nI j)), (2, vI (bI b)), (1, vI (nI S)), (0, vR 8 20)], [], h) rfl ?_
        refine R_bp (mcm (s, n, p, k) S a = false) (x0_eq.trans bI_eq) (fun c3 => ?_) (fun c3 => ?_)
        · refine R_s 8 (52, [(2, vI (nI 0)), (3, vI (nI j)), (1, vI (nI S)), (0, vR 8 20)], [vI (nI j), vI (nI 18), vR 8 21, vI (nI 1), vI (nI S)], h) rfl ?_
          refine R_add 18 j rfl ?_
          refine R_ld 8 21 (18 + j) 125 rfl rfl (by omega) (by decide) ?_
          refine R_top (nI a) ((M _ (by omega)).trans ea) ?_
          refine R_s 2 (56, [(2, vI (nI 0)), (3, vI (nI j)), (1, vI (nI S)), (0, vR 8 20)], [vI ((nI S) ||| ((nI 1) <<< ((nI a) &&& 31)))], h) rfl ?_
          refine R_top (nI (S ||| 2 ^ a)) (bit_or S hS8 a (by omega)) ?_
          refine R_s 2 (60, [(3, vI (nI j + Int32.ofInt 1)), (1, vI (nI (S ||| 2 ^ a))), (2, vI (nI 0)), (0, vR 8 20)], [], h) rfl ?_
          refine R_lv (lv' := [(3, vI (nI (j + 1))), (1, vI (nI (S ||| 2 ^ a))), (2, vI (nI 0)), (0, vR 8 20)]) (by rw [show nI j + Int32.ofInt 1 = nI (j + 1) from nI_add _ _]) ?_
          refine R_s 1 (6, [(3, vI (nI (j + 1))), (1, vI (nI (S ||| 2 ^ a))), (2, vI (nI 0)), (0, vR 8 20)], [], h) rfl ?_
          refine R_lv (lv' := [(3, vI (nI (j + 1))), (1, vI (nI (S ||| 2 ^ a))), (2, vI (bI false)), (0, vR 8 20)]) rfl ?_
          refine R_fg (lv' := [(3, vI (nI (j + 1))), (2, vI (bI false)), (1, vI (nI (S ||| 2 ^ a))), (0, vR 8 20)]) [0, 2, 1, 3] rfl [3, 1, 2, 0] rfl (by decide) ?_
          exact ih (j + 1) false (S ||| 2 ^ a) (by omega) (bit_lt S hS8 a (by omega)) (by rw [hN, c2, c3]; rfl)
        · have c3 := tf c3
          refine R_s 9 (52, [(2, vI (nI 1)), (3, vI (nI j)), (1, vI (nI S)), (0, vR 8 20)], [vI (nI j), vI (nI 18), vR 8 21, vI (nI 1), vI (nI S)], h) rfl ?_
          refine R_add 18 j rfl ?_
          refine R_ld 8 21 (18 + j) 125 rfl rfl (by omega) (by decide) ?_
          refine R_top (nI a) ((M _ (by omega)).trans ea) ?_
          refine R_s 2 (56, [(2, vI (nI 1)), (3, vI (nI j)), (1, vI (nI S)), (0, vR 8 20)], [vI ((nI S) ||| ((nI 1) <<< ((nI a) &&& 31)))], h) rfl ?_
          refine R_top (nI (S ||| 2 ^ a)) (bit_or S hS8 a (by omega)) ?_
          refine R_s 2 (60, [(3, vI (nI j + Int32.ofInt 1)), (1, vI (nI (S ||| 2 ^ a))), (2, vI (nI 1)), (0, vR 8 20)], [], h) rfl ?_
          refine R_lv (lv' := [(3, vI (nI (j + 1))), (1, vI (nI (S ||| 2 ^ a))), (2, vI (nI 1)), (0, vR 8 20)]) (by rw [show nI j + Int32.ofInt 1 = nI (j + 1) from nI_add _ _]) ?_
          refine R_s 1 (6, [(3, vI (nI (j + 1))), (1, vI (nI (S ||| 2 ^ a))), (2, vI (nI 1)), (0, vR 8 20)], [], h) rfl ?_
          refine R_lv (lv' := [(3, vI (nI (j + 1))), (1, vI (nI (S ||| 2 ^ a))), (2, vI (bI true)), (0, vR 8 20)]) rfl ?_
          refine R_fg (lv' := [(3, vI (nI (j + 1))), (2, vI (bI true)), (1, vI (nI (S ||| 2 ^ a))), (0, vR 8 20)]) [0, 2, 1, 3] rfl [3, 1, 2, 0] rfl (by decide) ?_
          exact ih (j + 1) true (S ||| 2 ^ a) (by omega) (bit_lt S hS8 a (by omega)) (by rw [hN, c2, c3]; rfl)
end
section
/-! GOOD SETS: no encore yet, or all other songs are in -/
theorem pcn_dj {S e : Nat} : ∀ n, (∀ i, i < n → ¬ (S.testBit i = true ∧ e.testBit i = true)) → pcn n S + pcn n e ≤ n ∧ ((∃ i, i < n ∧ S.testBit i = false ∧ e.testBit i = false) → pcn n S + pcn n e < n) := by
  intro n
  induction n with
  | zero => intro _; exact ⟨Nat.le_refl _, fun ⟨i, h, _⟩ => absurd h (Nat.not_lt_zero _)⟩
  | succ n ih =>
    intro h
    obtain ⟨h1, h2⟩ := ih (fun i hi => h i (by omega))
    have h3 := h n (by omega)
    show (pcn n S + (if S.testBit n then 1 else 0)) + (pcn n e + (if e.testBit n then 1 else 0)) ≤ n + 1 ∧ (_ → (pcn n S + (if S.testBit n then 1 else 0)) + (pcn n e + (if e.testBit n then 1 else 0)) < n + 1)
    cases a : S.testBit n with
    | true =>
      cases b : e.testBit n with
      | true => exact absurd ⟨a, b⟩ h3
      | false =>
        refine ⟨by simp; omega, fun ⟨i, hi, x, y⟩ => ?_⟩
        have : i < n := by
          rcases Nat.lt_or_ge i n with q | q
          · exact q
          · rw [show i = n by omega, a] at x; cases x
        have := h2 ⟨i, this, x, y⟩
        simp; omega
    | false =>
      cases b : e.testBit n with
      | true =>
        refine ⟨by simp; omega, fun ⟨i, hi, x, y⟩ => ?_⟩
        have : i < n := by
          rcases Nat.lt_or_ge i n with q | q
          · exact q
          · rw [show i = n by omega, b] at y; cases y
        have := h2 ⟨i, this, x, y⟩
        simp; omega
      | false => exact ⟨by simp; omega, fun _ => by simp; omega⟩
theorem pcn_cv {S e : Nat} : ∀ n, (∀ i, i < n → S.testBit i = true ∨ e.testBit i = true) → n ≤ pcn n S + pcn n e := by
  intro n
  induction n with
  | zero => intro _; exact Nat.zero_le _
  | succ n ih =>
    intro h
    have h1 := ih (fun i hi => h i (by omega))
    show n + 1 ≤ (pcn n S + (if S.testBit n then 1 else 0)) + (pcn n e + (if e.testBit n then 1 else 0))
    rcases h n (by omega) with q | q
    · rw [q]; simp; omega
    · rw [q]; simp; omega
theorem bit_hi {n x i : Nat} (h : x < 2 ^ n) (hi : n ≤ i) : x.testBit i = false := Nat.testBit_lt_two_pow (Nat.lt_of_lt_of_le h (Nat.pow_le_pow_right (by decide) hi))
theorem pcn_up {n x : Nat} (h : x < 2 ^ n) : ∀ j, pcn (n + j) x = pcn n x := by
  intro j
  induction j with
  | zero => rfl
  | succ j ih =>
    show pcn (n + j) x + (if x.testBit (n + j) then 1 else 0) = _
    rw [ih, bit_hi h (by omega)]
    rfl
theorem pop_pcn {n x : Nat} (hn : n ≤ 8) (h : x < 2 ^ n) : pop x = pcn n x := by
  have := pcn_up h (8 - n)
  rw [show n + (8 - n) = 8 by omega] at this
  exact this
theorem sub_bit {n e i : Nat} (he : e < 2 ^ n) : (2 ^ n - 1 - e).testBit i = (decide (i < n) && !(e.testBit i)) := by
  rw [show 2 ^ n - 1 - e = 2 ^ n - (e + 1) by omega, Nat.testBit_two_pow_sub_succ he]
theorem opn_iff {n e S : Nat} (he : e < 2 ^ n) : opn n e S = true ↔ ∀ i, i < n → S.testBit i = true ∨ e.testBit i = true := by
  unfold opn
  rw [decide_eq_true_eq]
  constructor
  · intro h i hi
    cases b : e.testBit i with
    | true => exact Or.inr rfl
    | false =>
      left
      have h1 := congrArg (fun x => x.testBit i) h
      rw [Nat.testBit_and, sub_bit he, b, decide_eq_true hi] at h1
      simpa using h1
  · intro h
    apply Nat.eq_of_testBit_eq
    intro i
    rw [Nat.testBit_and, sub_bit he]
    by_cases hi : i < n
    · rcases h i hi with q | q
      · rw [q, Bool.and_true]
      · rw [q]; simp
    · simp [hi]
/-- no encore is in, or all others are -/
def gd (n e S : Nat) : Prop := (∀ i, i < n → ¬ (S.testBit i = true ∧ e.testBit i = true)) ∨ opn n e S = true
theorem gd_0 {n e : Nat} : gd n e 0 := Or.inl (fun i _ h => by rw [Nat.zero_testBit] at h; cases h.1)
theorem gd_mcl {z : ST} {S a : Nat} (F : WF z.1 z.2.1 z.2.2.1 z.2.2.2) (hS : S < 2 ^ z.2.1) (ha : a < z.2.1) (g : gd z.2.1 (en z) S) : mcm z S a = mCl (zB z) S a := by
  obtain ⟨e1, e2, e3⟩ := en_ok F
  have h8 := F.2.1.1
  have pS := pop_pcn h8 hS
  have pe := pop_pcn h8 e2
  unfold mcm mCl zB msb
  cases hb : S.testBit a with
  | true => rfl
  | false =>
    suffices (!((en z).testBit a) || opn z.2.1 (en z) S) = ((en z).testBit a == decide (z.2.1 - pop (en z) ≤ pop S)) by rw [this]; simp
    by_cases ho : opn z.2.1 (en z) S = true
    · have hc := (opn_iff e2).mp ho
      have h1 := pcn_cv z.2.1 hc
      rw [ho, (hc a ha).resolve_left (by rw [hb]; decide), decide_eq_true (by omega)]
      rfl
    · have hd := g.resolve_right ho
      have hx : ∃ i, i < z.2.1 ∧ S.testBit i = false ∧ (en z).testBit i = false := by
        apply Classical.byContradiction
        intro q
        apply ho
        rw [opn_iff e2]
        intro i hi
        cases a1 : S.testBit i with
        | true => exact Or.inl rfl
        | false =>
          cases a2 : (en z).testBit i with
          | true => exact Or.inr rfl
          | false => exact absurd ⟨i, hi, a1, a2⟩ q
      have h1 := (pcn_dj z.2.1 hd).2 hx
      rw [bool_f ho, decide_eq_false (by omega)]
      cases (en z).testBit a <;> rfl
theorem gd_or {z : ST} {S a : Nat} (F : WF z.1 z.2.1 z.2.2.1 z.2.2.2) (g : gd z.2.1 (en z) S) (m : mcm z S a = true) : gd z.2.1 (en z) (S ||| 2 ^ a) := by
  obtain ⟨e1, e2, e3⟩ := en_ok F
  by_cases ho : opn z.2.1 (en z) S = true
  · right
    rw [opn_iff e2] at ho ⊢
    intro i hi
    rcases ho i hi with q | q
    · left; rw [Nat.testBit_or, q]; rfl
    · exact Or.inr q
  · have hd := g.resolve_right ho
    left
    intro i hi ⟨h1, h2⟩
    rw [Nat.testBit_or, Nat.testBit_two_pow] at h1
    cases hb : S.testBit i with
    | true => exact hd i hi ⟨hb, h2⟩
    | false =>
      rw [hb, Bool.false_or, decide_eq_true_eq] at h1
      unfold mcm at m
      rw [Bool.and_eq_true] at m
      rw [bool_f ho, h1, h2] at m
      cases m.2
/-! the walk along the order -/
theorem alM_set {z : ST} (O : WO z.1 z.2.1) (h8 : z.2.1 ≤ 8) : ∀ j, j ≤ z.2.1 → (alM z j).2 < 2 ^ z.2.1 ∧ pop (alM z j).2 = j ∧ ∀ i, i < z.2.1 → ((alM z j).2.testBit i = true → ∃ q, q < j ∧ z.1 (18 + q) = nI i) := by
  intro j
  induction j with
  | zero => intro _; exact ⟨Nat.pow_pos (by decide), (show pop 0 = 0 by decide), fun i _ h => by rw [show (alM z 0).2 = 0 from rfl, Nat.zero_testBit] at h; cases h⟩
  | succ j ih =>
    intro hj
    obtain ⟨h1, h2, h3⟩ := ih (by omega)
    obtain ⟨a, ha, ea⟩ := O.2.1 j (by omega)
    have e : (alM z (j + 1)).2 = (alM z j).2 ||| 2 ^ a := by
      show (alM z j).2 ||| 2 ^ (z.1 (18 + j)).toNatClampNeg = _
      rw [ea, nI_cl (by omega)]
    have hb : (alM z j).2.testBit a = false := by
      cases q : (alM z j).2.testBit a with
      | false => rfl
      | true =>
        obtain ⟨i, hi, ei⟩ := h3 a ha q
        have := O.2.2 i j (by omega) (by omega) (by rw [ei, ea])
        omega
    rw [e]
    refine ⟨or_lt h1 ha, by rw [or_pop h8 h1 ha hb, h2], fun i hi h => ?_⟩
    rw [Nat.testBit_or, Nat.testBit_two_pow] at h
    cases q : (alM z j).2.testBit i with
    | true =>
      obtain ⟨y, hy, ey⟩ := h3 i hi q
      exact ⟨y, by omega, ey⟩
    | false =>
      rw [q, Bool.false_or, decide_eq_true_eq] at h
      exact ⟨j, by omega, by rw [ea, h]⟩
theorem alM_alw {z : ST} (F : WF z.1 z.2.1 z.2.2.1 z.2.2.2) (O : WO z.1 z.2.1) : ∀ j, j ≤ z.2.1 → (alM z j).1 = alw z j ∧ (alw z j = true → gd z.2.1 (en z) (alM z j).2) := by
  have h8 := F.2.1.1
  intro j
  induction j with
  | zero => intro _; exact ⟨rfl, fun _ => gd_0⟩
  | succ j ih =>
    intro hj
    obtain ⟨h1, h2⟩ := ih (by omega)
    obtain ⟨a, ha, ea⟩ := O.2.1 j (by omega)
    obtain ⟨s1, s2, s3⟩ := alM_set O h8 j (by omega)
    have ec : (z.1 (18 + j)).toNatClampNeg = a := by rw [ea, nI_cl (by omega)]
    have hb : (alM z j).2.testBit a = false := by
      cases q : (alM z j).2.testBit a with
      | false => rfl
      | true =>
        obtain ⟨i, hi, ei⟩ := s3 a ha q
        have := O.2.2 i j (by omega) (by omega) (by rw [ei, ea])
        omega
    have e1 : (alM z (j + 1)).1 = ((alM z j).1 && mcm z (alM z j).2 a) := by
      show ((alM z j).1 && mcm z (alM z j).2 (z.1 (18 + j)).toNatClampNeg) = _
      rw [ec]
    have e2 : alw z (j + 1) = (alw z j && zB z a j) := by
      show (alw z j && zB z (z.1 (18 + j)).toNatClampNeg j) = _
      rw [ec]
    have e3 : (alM z (j + 1)).2 = (alM z j).2 ||| 2 ^ a := by
      show (alM z j).2 ||| 2 ^ (z.1 (18 + j)).toNatClampNeg = _
      rw [ec]
    rw [e1, e2, e3, h1]
    cases q : alw z j with
    | false => exact ⟨rfl, fun w => by cases w⟩
    | true =>
      have g := h2 q
      have m := gd_mcl F s1 ha g
      have m2 : mCl (zB z) (alM z j).2 a = zB z a j := by unfold mCl; rw [hb, s2]; rfl
      rw [m, m2]
      refine ⟨rfl, fun w => gd_or F g ?_⟩
      rw [m, m2]
      exact w
theorem t_M_isAllowed {d : Nat} {h : HP} {A : AS} (V : VA A) (I : MI h A) : MT (d + 2) mM_isAllowed [vR 8 20] h (fun r h' => r = some (vI (oAllowed A)) ∧ MI h' A) := by
  obtain ⟨⟨s, n, p, k⟩, kp, ch, len⟩ := A
  refine (t_M_isAllowed0 V.1.2.1.1 I.1 V.1.1).mono ?_
  rintro r h' ⟨rfl, rfl⟩
  refine ⟨?_, I⟩
  unfold oAllowed
  rw [← (alM_alw (z := (s, n, p, k)) V.1.1 V.1.2.1.1 n (Nat.le_refl _)).1]
end
