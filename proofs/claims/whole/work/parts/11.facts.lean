/-! what a program decides of the tables -/
abbrev CLS : List vw_C := [(RX0, TX0, 12), (RX1, TX1, 4), (RX2, TX2, 3), (RX3, TX3, 5), (RX4, TX4, 6), (RX5, TX5, 12)]
def kT : Nat → u_T
  | 0 => TX0
  | 1 => TX1
  | 2 => TX2
  | 3 => TX3
  | 4 => TX4
  | _ => TX5
def kF : Nat → Nat → FieldType
  | 0 => tyX0
  | 1 => tyX1
  | 2 => tyX2
  | 3 => tyX3
  | 4 => tyX4
  | _ => tyX5
def kN : Nat → Nat
  | 0 => 12
  | 1 => 4
  | 2 => 3
  | 3 => 5
  | 4 => 6
  | _ => 12
def gT : List Cond := lw_tbl.filter goodWord
theorem gT_in {w : Cond} {i : Nat} (h : lw_tbl[i]? = some w) (hg : goodWord w = true) : w ∈ gT := List.mem_filter.mpr ⟨List.mem_of_getElem? h, hg⟩
theorem gT_at {w : Cond} (h : w ∈ gT) : w ∈ lw_tbl := (List.mem_filter.mp h).1
theorem gT_gd {w : Cond} (h : w ∈ gT) : goodWord w = true := (List.mem_filter.mp h).2
theorem cls_at : ∀ ci, ci < 6 → CLS[ci]? = some (cnm ci, kT ci, kN ci)
  | 0, _ => rfl
  | 1, _ => rfl
  | 2, _ => rfl
  | 3, _ => rfl
  | 4, _ => rfl
  | 5, _ => rfl
  | n + 6, h => absurd h (by omega)
theorem kF_ok : ∀ ci, ci < 6 → ∀ k, k < kN ci → parseFieldDescriptor (kT ci k).2.2.1 = some (kF ci k)
  | 0, _ => tyX0_ok
  | 1, _ => tyX1_ok
  | 2, _ => tyX2_ok
  | 3, _ => tyX3_ok
  | 4, _ => tyX4_ok
  | 5, _ => tyX5_ok
  | n + 6, h => absurd h (by omega)
theorem kN_ok : ∀ ci, ci < 6 → ∀ a, a < kN ci → ∀ b, b < kN ci → a ≠ b → (kT ci a).2.1 ≠ (kT ci b).2.1
  | 0, _ => nmX0
  | 1, _ => nmX1
  | 2, _ => nmX2
  | 3, _ => nmX3
  | 4, _ => nmX4
  | 5, _ => nmX5
  | n + 6, h => absurd h (by omega)
theorem uw0 : u_ws (cnm 0) (kT 0) (kN 0) = [99, 101, 103, 105, 107, 109, 111, 113, 115, 117, 119, 121].filterMap (fun i => lw_tbl[i]?) := by decide +kernel
theorem ug0 : (u_ws (cnm 0) (kT 0) (kN 0)).all goodWord = true := by decide +kernel
theorem uw1 : u_ws (cnm 1) (kT 1) (kN 1) = [64, 66, 68, 70].filterMap (fun i => lw_tbl[i]?) := by decide +kernel
theorem ug1 : (u_ws (cnm 1) (kT 1) (kN 1)).all goodWord = true := by decide +kernel
theorem uw2 : u_ws (cnm 2) (kT 2) (kN 2) = [137, 139, 141].filterMap (fun i => lw_tbl[i]?) := by decide +kernel
theorem ug2 : (u_ws (cnm 2) (kT 2) (kN 2)).all goodWord = true := by decide +kernel
theorem uw3 : u_ws (cnm 3) (kT 3) (kN 3) = [155, 157, 159, 161, 163].filterMap (fun i => lw_tbl[i]?) := by decide +kernel
theorem ug3 : (u_ws (cnm 3) (kT 3) (kN 3)).all goodWord = true := by decide +kernel
theorem uw4 : u_ws (cnm 4) (kT 4) (kN 4) = [305, 307, 309, 311, 313, 315].filterMap (fun i => lw_tbl[i]?) := by decide +kernel
theorem ug4 : (u_ws (cnm 4) (kT 4) (kN 4)).all goodWord = true := by decide +kernel
theorem uw5 : u_ws (cnm 5) (kT 5) (kN 5) = [626, 628, 630, 632, 634, 636, 638, 640, 642, 644, 646, 648].filterMap (fun i => lw_tbl[i]?) := by decide +kernel
theorem ug5 : (u_ws (cnm 5) (kT 5) (kN 5)).all goodWord = true := by decide +kernel
theorem uws_of {ws : List Cond} {ix : List Nat} (h : ws = ix.filterMap (fun i => lw_tbl[i]?)) (hg : ws.all goodWord = true) : ∀ w ∈ ws, w ∈ gT := by
  intro w hw
  have h1 := List.all_eq_true.mp hg w hw
  rw [h] at hw
  obtain ⟨i, -, hi⟩ := List.mem_filterMap.mp hw
  exact gT_in hi h1
theorem uws_in : ∀ ci, ci < 6 → ∀ w ∈ u_ws (cnm ci) (kT ci) (kN ci), w ∈ gT
  | 0, _ => uws_of uw0 ug0
  | 1, _ => uws_of uw1 ug1
  | 2, _ => uws_of uw2 ug2
  | 3, _ => uws_of uw3 ug3
  | 4, _ => uws_of uw4 ug4
  | 5, _ => uws_of uw5 ug5
  | n + 6, h => absurd h (by omega)
def fok (c : Nat) (q : Nat × Nat × Nat × Nat) : Bool := decide (lw_tbl[q.2.2.2]? = some (.fieldLink (cnm c) q.1 (kT q.2.1 q.2.2.1).1 (kT q.2.1 q.2.2.1).2.1 (kT q.2.1 q.2.2.1).2.2.1)) && Nat.blt q.2.1 6 && Nat.blt q.2.2.1 (kN q.2.1)
theorem fld_ok0 : (fldT 0).all (fok 0) = true := by decide +kernel
theorem fld_ok1 : (fldT 1).all (fok 1) = true := by decide +kernel
theorem fld_ok2 : (fldT 2).all (fok 2) = true := by decide +kernel
theorem fld_ok3 : (fldT 3).all (fok 3) = true := by decide +kernel
theorem fld_ok4 : (fldT 4).all (fok 4) = true := by decide +kernel
theorem fld_ok5 : (fldT 5).all (fok 5) = true := by decide +kernel
theorem fld_all : ∀ c, (fldT c).all (fok c) = true
  | 0 => fld_ok0
  | 1 => fld_ok1
  | 2 => fld_ok2
  | 3 => fld_ok3
  | 4 => fld_ok4
  | 5 => fld_ok5
  | n + 6 => rfl
theorem fld_ok {c idx ci k w : Nat} (h : (idx, ci, k, w) ∈ fldT c) : Cond.fieldLink (cnm c) idx (kT ci k).1 (kT ci k).2.1 (kT ci k).2.2.1 ∈ gT ∧ ci < 6 ∧ k < kN ci := by
  have h1 := List.all_eq_true.mp (fld_all c) _ h
  simp only [fok, Bool.and_eq_true, decide_eq_true_eq] at h1
  exact ⟨gT_in h1.1.1 rfl, blt_lt h1.1.2, blt_lt h1.2⟩
def lenok : Instr → Nat → Bool
  | .iconst _, n => Nat.beq n 1
  | .bipush _, n => Nat.beq n 2
  | .sipush _, n => Nat.beq n 3
  | .lconst _, n => Nat.beq n 1
  | .ldc _, n => Nat.beq n 2
  | .ldc_w _, n => Nat.beq n 3
  | .ldc2_w _, n => Nat.beq n 3
  | .iload_n _, n => Nat.beq n 1
  | .iload _, n => Nat.beq n 2
  | .lload_n _, n => Nat.beq n 1
  | .lload _, n => Nat.beq n 2
  | .aload_n _, n => Nat.beq n 1
  | .aload _, n => Nat.beq n 2
  | .istore_n _, n => Nat.beq n 1
  | .istore _, n => Nat.beq n 2
  | .astore_n _, n => Nat.beq n 1
  | .iinc _ _, n => Nat.beq n 3
  | .ifCond _ _, n => Nat.beq n 3
  | .if_icmp _ _, n => Nat.beq n 3
  | .goto _, n => Nat.beq n 3
  | .tableswitch _ _ _ _, _ => true
  | .lookupswitch _ _, _ => true
  | .getfield _, n => Nat.beq n 3
  | .putfield _, n => Nat.beq n 3
  | .invokevirtual _, n => Nat.beq n 3
  | .invokestatic _, n => Nat.beq n 3
  | _, n => Nat.beq n 1
def lnk (c : Nat) (q : Nat × MR × List Nat) : Bool :=
  decide (lw_tbl[q.2.2.getD 0 0]? = some (.methodLink (cnm c) q.1 (mN q.2.1))) &&
  decide (lw_tbl[q.2.2.getD 1 0]? = some (.code (mN q.2.1) (mC q.2.1) (mL q.2.1) (mR q.2.1))) &&
  decide (lw_tbl[q.2.2.getD 2 0]? = some (.initialized (mN q.2.1).cls)) &&
  (cond (mS q.2.1) (decide (lw_tbl[q.2.2.getD 3 0]? = some (.static (mN q.2.1))))
    (decide (lw_tbl[q.2.2.getD 3 0]? = some (.instanceMethod (mN q.2.1))) && decide (lw_tbl[q.2.2.getD 4 0]? = some (.selects (mN q.2.1).cls (mN q.2.1) (mN q.2.1)))))
def gmb (M : MR) : Bool := decide ((parseMethodDescriptor (mN M).desc).map (fun d => d.parameters.length) = some (mA M)) && decide ((mN M).cls = cnm (mK M)) && Nat.ble (mL M) 24 && Nat.blt (mK M) 7 && (mI M).all (fun q => lenok q.2.1 q.2.2)
theorem gC_makeEmpty : gmb mC_makeEmpty = true := by decide +kernel
theorem gC_copyFrom : gmb mC_copyFrom = true := by decide +kernel
theorem gC_addSong : gmb mC_addSong = true := by decide +kernel
theorem gC_addPlayer : gmb mC_addPlayer = true := by decide +kernel
theorem gC_addKind : gmb mC_addKind = true := by decide +kernel
theorem gC_addPart : gmb mC_addPart = true := by decide +kernel
theorem gC_addEncore : gmb mC_addEncore = true := by decide +kernel
theorem gC_hasAllSorts : gmb mC_hasAllSorts = true := by decide +kernel
theorem gC_isSong : gmb mC_isSong = true := by decide +kernel
theorem gC_areTwoSongs : gmb mC_areTwoSongs = true := by decide +kernel
theorem gC_isPlayer : gmb mC_isPlayer = true := by decide +kernel
theorem gC_isKind : gmb mC_isKind = true := by decide +kernel
theorem gC_isSide : gmb mC_isSide = true := by decide +kernel
theorem gC_isPart : gmb mC_isPart = true := by decide +kernel
theorem gC_isEncore : gmb mC_isEncore = true := by decide +kernel
theorem gC_kindPlayed : gmb mC_kindPlayed = true := by decide +kernel
theorem gC_tuningPlayed : gmb mC_tuningPlayed = true := by decide +kernel
theorem gC_givePart : gmb mC_givePart = true := by decide +kernel
theorem gC_playersOn : gmb mC_playersOn = true := by decide +kernel
theorem gC_mostPlayersOn : gmb mC_mostPlayersOn = true := by decide +kernel
theorem gC_hasUnitFor : gmb mC_hasUnitFor = true := by decide +kernel
theorem gC_change : gmb mC_change = true := by decide +kernel
theorem gC_costOfChange : gmb mC_costOfChange = true := by decide +kernel
theorem gC_costOfSide : gmb mC_costOfSide = true := by decide +kernel
theorem gC_costOfChangeover : gmb mC_costOfChangeover = true := by decide +kernel
theorem gC_costAfter : gmb mC_costAfter = true := by decide +kernel
theorem gC_shiftOrder : gmb mC_shiftOrder = true := by decide +kernel
theorem gC_songPinnedAt : gmb mC_songPinnedAt = true := by decide +kernel
theorem gC_pinCount : gmb mC_pinCount = true := by decide +kernel
theorem gC_mayStandAt : gmb mC_mayStandAt = true := by decide +kernel
theorem gC_playingTime : gmb mC_playingTime = true := by decide +kernel
theorem gT_add : gmb mT_add = true := by decide +kernel
theorem gT_readInto : gmb mT_readInto = true := by decide +kernel
theorem gT_readNumbers : gmb mT_readNumbers = true := by decide +kernel
theorem gT_state : gmb mT_state = true := by decide +kernel
theorem gH_forget : gmb mH_forget = true := by decide +kernel
theorem gH_keep : gmb mH_keep = true := by decide +kernel
theorem gH_takeBack : gmb mH_takeBack = true := by decide +kernel
theorem gO_load : gmb mO_load = true := by decide +kernel
theorem gO_solve : gmb mO_solve = true := by decide +kernel
theorem gO_settle : gmb mO_settle = true := by decide +kernel
theorem gO_costThrough : gmb mO_costThrough = true := by decide +kernel
theorem gO_cellOf : gmb mO_cellOf = true := by decide +kernel
theorem gO_leastCost : gmb mO_leastCost = true := by decide +kernel
theorem gO_leastCostOrders : gmb mO_leastCostOrders = true := by decide +kernel
theorem gO_leastCostFrom : gmb mO_leastCostFrom = true := by decide +kernel
theorem gO_bestSong : gmb mO_bestSong = true := by decide +kernel
theorem gO_copyBestOrder : gmb mO_copyBestOrder = true := by decide +kernel
theorem gO_bestNext : gmb mO_bestNext = true := by decide +kernel
theorem gS_append : gmb mS_append = true := by decide +kernel
theorem gS_clearText : gmb mS_clearText = true := by decide +kernel
theorem gS_firstError : gmb mS_firstError = true := by decide +kernel
theorem gS_configure : gmb mS_configure = true := by decide +kernel
theorem gS_setPart : gmb mS_setPart = true := by decide +kernel
theorem gS_removePart : gmb mS_removePart = true := by decide +kernel
theorem gS_setUnits : gmb mS_setUnits = true := by decide +kernel
theorem gS_pin : gmb mS_pin = true := by decide +kernel
theorem gS_unpin : gmb mS_unpin = true := by decide +kernel
theorem gS_setEncore : gmb mS_setEncore = true := by decide +kernel
theorem gS_moveSong : gmb mS_moveSong = true := by decide +kernel
theorem gS_adoptBest : gmb mS_adoptBest = true := by decide +kernel
theorem gS_undo : gmb mS_undo = true := by decide +kernel
theorem gS_songCount : gmb mS_songCount = true := by decide +kernel
theorem gS_kindOf : gmb mS_kindOf = true := by decide +kernel
theorem gS_tuningOf : gmb mS_tuningOf = true := by decide +kernel
theorem gS_spareUnits : gmb mS_spareUnits = true := by decide +kernel
theorem gS_changeOf : gmb mS_changeOf = true := by decide +kernel
theorem gS_changeCost : gmb mS_changeCost = true := by decide +kernel
theorem gS_changeoverCost : gmb mS_changeoverCost = true := by decide +kernel
theorem gS_songAt : gmb mS_songAt = true := by decide +kernel
theorem gS_orderCost : gmb mS_orderCost = true := by decide +kernel
theorem gS_isAllowed : gmb mS_isAllowed = true := by decide +kernel
theorem gS_dearestChangeover : gmb mS_dearestChangeover = true := by decide +kernel
theorem gS_bestCost : gmb mS_bestCost = true := by decide +kernel
theorem gS_bestSongAt : gmb mS_bestSongAt = true := by decide +kernel
theorem gS_bestCostFrom : gmb mS_bestCostFrom = true := by decide +kernel
theorem gS_bestOrderCount : gmb mS_bestOrderCount = true := by decide +kernel
theorem gS_savingByUnit : gmb mS_savingByUnit = true := by decide +kernel
theorem gS_encoresWithin : gmb mS_encoresWithin = true := by decide +kernel
theorem gS_beginEdit : gmb mS_beginEdit = true := by decide +kernel
theorem gS_presentTable : gmb mS_presentTable = true := by decide +kernel
theorem gM_in : gmb mM_in = true := by decide +kernel
theorem gM_empty : gmb mM_empty = true := by decide +kernel
theorem gM_at : gmb mM_at = true := by decide +kernel
theorem gM_part : gmb mM_part = true := by decide +kernel
theorem gM_others : gmb mM_others = true := by decide +kernel
theorem gM_append : gmb mM_append = true := by decide +kernel
theorem gM_clearText : gmb mM_clearText = true := by decide +kernel
theorem gM_here : gmb mM_here = true := by decide +kernel
theorem gM_isNumber : gmb mM_isNumber = true := by decide +kernel
theorem gM_partIs : gmb mM_partIs = true := by decide +kernel
theorem gM_statement : gmb mM_statement = true := by decide +kernel
theorem gM_readAll : gmb mM_readAll = true := by decide +kernel
theorem gM_firstError : gmb mM_firstError = true := by decide +kernel
theorem gM_configure : gmb mM_configure = true := by decide +kernel
theorem gM_keeps : gmb mM_keeps = true := by decide +kernel
theorem gM_undo : gmb mM_undo = true := by decide +kernel
theorem gM_isSong : gmb mM_isSong = true := by decide +kernel
theorem gM_isPlayer : gmb mM_isPlayer = true := by decide +kernel
theorem gM_isKind : gmb mM_isKind = true := by decide +kernel
theorem gM_setPart : gmb mM_setPart = true := by decide +kernel
theorem gM_removePart : gmb mM_removePart = true := by decide +kernel
theorem gM_setUnits : gmb mM_setUnits = true := by decide +kernel
theorem gM_isPosition : gmb mM_isPosition = true := by decide +kernel
theorem gM_pin : gmb mM_pin = true := by decide +kernel
theorem gM_unpin : gmb mM_unpin = true := by decide +kernel
theorem gM_setEncore : gmb mM_setEncore = true := by decide +kernel
theorem gM_moveSong : gmb mM_moveSong = true := by decide +kernel
theorem gM_adoptBest : gmb mM_adoptBest = true := by decide +kernel
theorem gM_songCount : gmb mM_songCount = true := by decide +kernel
theorem gM_ofPart : gmb mM_ofPart = true := by decide +kernel
theorem gM_kindOf : gmb mM_kindOf = true := by decide +kernel
theorem gM_tuningOf : gmb mM_tuningOf = true := by decide +kernel
theorem gM_spareUnits : gmb mM_spareUnits = true := by decide +kernel
theorem gM_change : gmb mM_change = true := by decide +kernel
theorem gM_isFar : gmb mM_isFar = true := by decide +kernel
theorem gM_costOf : gmb mM_costOf = true := by decide +kernel
theorem gM_between : gmb mM_between = true := by decide +kernel
theorem gM_areTwo : gmb mM_areTwo = true := by decide +kernel
theorem gM_changeOf : gmb mM_changeOf = true := by decide +kernel
theorem gM_changeCost : gmb mM_changeCost = true := by decide +kernel
theorem gM_changeoverCost : gmb mM_changeoverCost = true := by decide +kernel
theorem gM_songAt : gmb mM_songAt = true := by decide +kernel
theorem gM_step : gmb mM_step = true := by decide +kernel
theorem gM_orderCost : gmb mM_orderCost = true := by decide +kernel
theorem gM_all : gmb mM_all = true := by decide +kernel
theorem gM_ones : gmb mM_ones = true := by decide +kernel
theorem gM_mayCome : gmb mM_mayCome = true := by decide +kernel
theorem gM_isAllowed : gmb mM_isAllowed = true := by decide +kernel
theorem gM_dearestChangeover : gmb mM_dearestChangeover = true := by decide +kernel
theorem gM_layBest : gmb mM_layBest = true := by decide +kernel
theorem gM_takes : gmb mM_takes = true := by decide +kernel
theorem gM_costFrom : gmb mM_costFrom = true := by decide +kernel
theorem gM_layOrder : gmb mM_layOrder = true := by decide +kernel
theorem gM_bestCost : gmb mM_bestCost = true := by decide +kernel
theorem gM_bestSongAt : gmb mM_bestSongAt = true := by decide +kernel
theorem gM_bestCostFrom : gmb mM_bestCostFrom = true := by decide +kernel
theorem gM_bestOrderCount : gmb mM_bestOrderCount = true := by decide +kernel
theorem gM_savingByUnit : gmb mM_savingByUnit = true := by decide +kernel
theorem gM_encoresWithin : gmb mM_encoresWithin = true := by decide +kernel
theorem gI_bitCount : gmb mI_bitCount = true := by decide +kernel
def GM (M : MR) : Prop := gmb M = true ∧ ∀ q ∈ mI M, decode (mC M) q.1 = .ok q.2
theorem kC_makeEmpty : GM mC_makeEmpty := ⟨gC_makeEmpty, iC_makeEmpty_ok⟩
theorem kC_copyFrom : GM mC_copyFrom := ⟨gC_copyFrom, iC_copyFrom_ok⟩
theorem kC_addSong : GM mC_addSong := ⟨gC_addSong, iC_addSong_ok⟩
theorem kC_addPlayer : GM mC_addPlayer := ⟨gC_addPlayer, iC_addPlayer_ok⟩
theorem kC_addKind : GM mC_addKind := ⟨gC_addKind, iC_addKind_ok⟩
theorem kC_addPart : GM mC_addPart := ⟨gC_addPart, iC_addPart_ok⟩
theorem kC_addEncore : GM mC_addEncore := ⟨gC_addEncore, iC_addEncore_ok⟩
theorem kC_hasAllSorts : GM mC_hasAllSorts := ⟨gC_hasAllSorts, iC_hasAllSorts_ok⟩
theorem kC_isSong : GM mC_isSong := ⟨gC_isSong, iC_isSong_ok⟩
theorem kC_areTwoSongs : GM mC_areTwoSongs := ⟨gC_areTwoSongs, iC_areTwoSongs_ok⟩
theorem kC_isPlayer : GM mC_isPlayer := ⟨gC_isPlayer, iC_isPlayer_ok⟩
theorem kC_isKind : GM mC_isKind := ⟨gC_isKind, iC_isKind_ok⟩
theorem kC_isSide : GM mC_isSide := ⟨gC_isSide, iC_isSide_ok⟩
theorem kC_isPart : GM mC_isPart := ⟨gC_isPart, iC_isPart_ok⟩
theorem kC_isEncore : GM mC_isEncore := ⟨gC_isEncore, iC_isEncore_ok⟩
theorem kC_kindPlayed : GM mC_kindPlayed := ⟨gC_kindPlayed, iC_kindPlayed_ok⟩
theorem kC_tuningPlayed : GM mC_tuningPlayed := ⟨gC_tuningPlayed, iC_tuningPlayed_ok⟩
theorem kC_givePart : GM mC_givePart := ⟨gC_givePart, iC_givePart_ok⟩
theorem kC_playersOn : GM mC_playersOn := ⟨gC_playersOn, iC_playersOn_ok⟩
theorem kC_mostPlayersOn : GM mC_mostPlayersOn := ⟨gC_mostPlayersOn, iC_mostPlayersOn_ok⟩
theorem kC_hasUnitFor : GM mC_hasUnitFor := ⟨gC_hasUnitFor, iC_hasUnitFor_ok⟩
theorem kC_change : GM mC_change := ⟨gC_change, iC_change_ok⟩
theorem kC_costOfChange : GM mC_costOfChange := ⟨gC_costOfChange, iC_costOfChange_ok⟩
theorem kC_costOfSide : GM mC_costOfSide := ⟨gC_costOfSide, iC_costOfSide_ok⟩
theorem kC_costOfChangeover : GM mC_costOfChangeover := ⟨gC_costOfChangeover, iC_costOfChangeover_ok⟩
theorem kC_costAfter : GM mC_costAfter := ⟨gC_costAfter, iC_costAfter_ok⟩
theorem kC_shiftOrder : GM mC_shiftOrder := ⟨gC_shiftOrder, iC_shiftOrder_ok⟩
theorem kC_songPinnedAt : GM mC_songPinnedAt := ⟨gC_songPinnedAt, iC_songPinnedAt_ok⟩
theorem kC_pinCount : GM mC_pinCount := ⟨gC_pinCount, iC_pinCount_ok⟩
theorem kC_mayStandAt : GM mC_mayStandAt := ⟨gC_mayStandAt, iC_mayStandAt_ok⟩
theorem kC_playingTime : GM mC_playingTime := ⟨gC_playingTime, iC_playingTime_ok⟩
theorem kT_add : GM mT_add := ⟨gT_add, iT_add_ok⟩
theorem kT_readInto : GM mT_readInto := ⟨gT_readInto, iT_readInto_ok⟩
theorem kT_readNumbers : GM mT_readNumbers := ⟨gT_readNumbers, iT_readNumbers_ok⟩
theorem kT_state : GM mT_state := ⟨gT_state, iT_state_ok⟩
theorem kH_forget : GM mH_forget := ⟨gH_forget, iH_forget_ok⟩
theorem kH_keep : GM mH_keep := ⟨gH_keep, iH_keep_ok⟩
theorem kH_takeBack : GM mH_takeBack := ⟨gH_takeBack, iH_takeBack_ok⟩
theorem kO_load : GM mO_load := ⟨gO_load, iO_load_ok⟩
theorem kO_solve : GM mO_solve := ⟨gO_solve, iO_solve_ok⟩
theorem kO_settle : GM mO_settle := ⟨gO_settle, iO_settle_ok⟩
theorem kO_costThrough : GM mO_costThrough := ⟨gO_costThrough, iO_costThrough_ok⟩
theorem kO_cellOf : GM mO_cellOf := ⟨gO_cellOf, iO_cellOf_ok⟩
theorem kO_leastCost : GM mO_leastCost := ⟨gO_leastCost, iO_leastCost_ok⟩
theorem kO_leastCostOrders : GM mO_leastCostOrders := ⟨gO_leastCostOrders, iO_leastCostOrders_ok⟩
theorem kO_leastCostFrom : GM mO_leastCostFrom := ⟨gO_leastCostFrom, iO_leastCostFrom_ok⟩
theorem kO_bestSong : GM mO_bestSong := ⟨gO_bestSong, iO_bestSong_ok⟩
theorem kO_copyBestOrder : GM mO_copyBestOrder := ⟨gO_copyBestOrder, iO_copyBestOrder_ok⟩
theorem kO_bestNext : GM mO_bestNext := ⟨gO_bestNext, iO_bestNext_ok⟩
theorem kS_append : GM mS_append := ⟨gS_append, iS_append_ok⟩
theorem kS_clearText : GM mS_clearText := ⟨gS_clearText, iS_clearText_ok⟩
theorem kS_firstError : GM mS_firstError := ⟨gS_firstError, iS_firstError_ok⟩
theorem kS_configure : GM mS_configure := ⟨gS_configure, iS_configure_ok⟩
theorem kS_setPart : GM mS_setPart := ⟨gS_setPart, iS_setPart_ok⟩
theorem kS_removePart : GM mS_removePart := ⟨gS_removePart, iS_removePart_ok⟩
theorem kS_setUnits : GM mS_setUnits := ⟨gS_setUnits, iS_setUnits_ok⟩
theorem kS_pin : GM mS_pin := ⟨gS_pin, iS_pin_ok⟩
theorem kS_unpin : GM mS_unpin := ⟨gS_unpin, iS_unpin_ok⟩
theorem kS_setEncore : GM mS_setEncore := ⟨gS_setEncore, iS_setEncore_ok⟩
theorem kS_moveSong : GM mS_moveSong := ⟨gS_moveSong, iS_moveSong_ok⟩
theorem kS_adoptBest : GM mS_adoptBest := ⟨gS_adoptBest, iS_adoptBest_ok⟩
theorem kS_undo : GM mS_undo := ⟨gS_undo, iS_undo_ok⟩
theorem kS_songCount : GM mS_songCount := ⟨gS_songCount, iS_songCount_ok⟩
theorem kS_kindOf : GM mS_kindOf := ⟨gS_kindOf, iS_kindOf_ok⟩
theorem kS_tuningOf : GM mS_tuningOf := ⟨gS_tuningOf, iS_tuningOf_ok⟩
theorem kS_spareUnits : GM mS_spareUnits := ⟨gS_spareUnits, iS_spareUnits_ok⟩
theorem kS_changeOf : GM mS_changeOf := ⟨gS_changeOf, iS_changeOf_ok⟩
theorem kS_changeCost : GM mS_changeCost := ⟨gS_changeCost, iS_changeCost_ok⟩
theorem kS_changeoverCost : GM mS_changeoverCost := ⟨gS_changeoverCost, iS_changeoverCost_ok⟩
theorem kS_songAt : GM mS_songAt := ⟨gS_songAt, iS_songAt_ok⟩
theorem kS_orderCost : GM mS_orderCost := ⟨gS_orderCost, iS_orderCost_ok⟩
theorem kS_isAllowed : GM mS_isAllowed := ⟨gS_isAllowed, iS_isAllowed_ok⟩
theorem kS_dearestChangeover : GM mS_dearestChangeover := ⟨gS_dearestChangeover, iS_dearestChangeover_ok⟩
theorem kS_bestCost : GM mS_bestCost := ⟨gS_bestCost, iS_bestCost_ok⟩
theorem kS_bestSongAt : GM mS_bestSongAt := ⟨gS_bestSongAt, iS_bestSongAt_ok⟩
theorem kS_bestCostFrom : GM mS_bestCostFrom := ⟨gS_bestCostFrom, iS_bestCostFrom_ok⟩
theorem kS_bestOrderCount : GM mS_bestOrderCount := ⟨gS_bestOrderCount, iS_bestOrderCount_ok⟩
theorem kS_savingByUnit : GM mS_savingByUnit := ⟨gS_savingByUnit, iS_savingByUnit_ok⟩
theorem kS_encoresWithin : GM mS_encoresWithin := ⟨gS_encoresWithin, iS_encoresWithin_ok⟩
theorem kS_beginEdit : GM mS_beginEdit := ⟨gS_beginEdit, iS_beginEdit_ok⟩
theorem kS_presentTable : GM mS_presentTable := ⟨gS_presentTable, iS_presentTable_ok⟩
theorem kM_in : GM mM_in := ⟨gM_in, iM_in_ok⟩
theorem kM_empty : GM mM_empty := ⟨gM_empty, iM_empty_ok⟩
theorem kM_at : GM mM_at := ⟨gM_at, iM_at_ok⟩
theorem kM_part : GM mM_part := ⟨gM_part, iM_part_ok⟩
theorem kM_others : GM mM_others := ⟨gM_others, iM_others_ok⟩
theorem kM_append : GM mM_append := ⟨gM_append, iM_append_ok⟩
theorem kM_clearText : GM mM_clearText := ⟨gM_clearText, iM_clearText_ok⟩
theorem kM_here : GM mM_here := ⟨gM_here, iM_here_ok⟩
theorem kM_isNumber : GM mM_isNumber := ⟨gM_isNumber, iM_isNumber_ok⟩
theorem kM_partIs : GM mM_partIs := ⟨gM_partIs, iM_partIs_ok⟩
theorem kM_statement : GM mM_statement := ⟨gM_statement, iM_statement_ok⟩
theorem kM_readAll : GM mM_readAll := ⟨gM_readAll, iM_readAll_ok⟩
theorem kM_firstError : GM mM_firstError := ⟨gM_firstError, iM_firstError_ok⟩
theorem kM_configure : GM mM_configure := ⟨gM_configure, iM_configure_ok⟩
theorem kM_keeps : GM mM_keeps := ⟨gM_keeps, iM_keeps_ok⟩
theorem kM_undo : GM mM_undo := ⟨gM_undo, iM_undo_ok⟩
theorem kM_isSong : GM mM_isSong := ⟨gM_isSong, iM_isSong_ok⟩
theorem kM_isPlayer : GM mM_isPlayer := ⟨gM_isPlayer, iM_isPlayer_ok⟩
theorem kM_isKind : GM mM_isKind := ⟨gM_isKind, iM_isKind_ok⟩
theorem kM_setPart : GM mM_setPart := ⟨gM_setPart, iM_setPart_ok⟩
theorem kM_removePart : GM mM_removePart := ⟨gM_removePart, iM_removePart_ok⟩
theorem kM_setUnits : GM mM_setUnits := ⟨gM_setUnits, iM_setUnits_ok⟩
theorem kM_isPosition : GM mM_isPosition := ⟨gM_isPosition, iM_isPosition_ok⟩
theorem kM_pin : GM mM_pin := ⟨gM_pin, iM_pin_ok⟩
theorem kM_unpin : GM mM_unpin := ⟨gM_unpin, iM_unpin_ok⟩
theorem kM_setEncore : GM mM_setEncore := ⟨gM_setEncore, iM_setEncore_ok⟩
theorem kM_moveSong : GM mM_moveSong := ⟨gM_moveSong, iM_moveSong_ok⟩
theorem kM_adoptBest : GM mM_adoptBest := ⟨gM_adoptBest, iM_adoptBest_ok⟩
theorem kM_songCount : GM mM_songCount := ⟨gM_songCount, iM_songCount_ok⟩
theorem kM_ofPart : GM mM_ofPart := ⟨gM_ofPart, iM_ofPart_ok⟩
theorem kM_kindOf : GM mM_kindOf := ⟨gM_kindOf, iM_kindOf_ok⟩
theorem kM_tuningOf : GM mM_tuningOf := ⟨gM_tuningOf, iM_tuningOf_ok⟩
theorem kM_spareUnits : GM mM_spareUnits := ⟨gM_spareUnits, iM_spareUnits_ok⟩
theorem kM_change : GM mM_change := ⟨gM_change, iM_change_ok⟩
theorem kM_isFar : GM mM_isFar := ⟨gM_isFar, iM_isFar_ok⟩
theorem kM_costOf : GM mM_costOf := ⟨gM_costOf, iM_costOf_ok⟩
theorem kM_between : GM mM_between := ⟨gM_between, iM_between_ok⟩
theorem kM_areTwo : GM mM_areTwo := ⟨gM_areTwo, iM_areTwo_ok⟩
theorem kM_changeOf : GM mM_changeOf := ⟨gM_changeOf, iM_changeOf_ok⟩
theorem kM_changeCost : GM mM_changeCost := ⟨gM_changeCost, iM_changeCost_ok⟩
theorem kM_changeoverCost : GM mM_changeoverCost := ⟨gM_changeoverCost, iM_changeoverCost_ok⟩
theorem kM_songAt : GM mM_songAt := ⟨gM_songAt, iM_songAt_ok⟩
theorem kM_step : GM mM_step := ⟨gM_step, iM_step_ok⟩
theorem kM_orderCost : GM mM_orderCost := ⟨gM_orderCost, iM_orderCost_ok⟩
theorem kM_all : GM mM_all := ⟨gM_all, iM_all_ok⟩
theorem kM_ones : GM mM_ones := ⟨gM_ones, iM_ones_ok⟩
theorem kM_mayCome : GM mM_mayCome := ⟨gM_mayCome, iM_mayCome_ok⟩
theorem kM_isAllowed : GM mM_isAllowed := ⟨gM_isAllowed, iM_isAllowed_ok⟩
theorem kM_dearestChangeover : GM mM_dearestChangeover := ⟨gM_dearestChangeover, iM_dearestChangeover_ok⟩
theorem kM_layBest : GM mM_layBest := ⟨gM_layBest, iM_layBest_ok⟩
theorem kM_takes : GM mM_takes := ⟨gM_takes, iM_takes_ok⟩
theorem kM_costFrom : GM mM_costFrom := ⟨gM_costFrom, iM_costFrom_ok⟩
theorem kM_layOrder : GM mM_layOrder := ⟨gM_layOrder, iM_layOrder_ok⟩
theorem kM_bestCost : GM mM_bestCost := ⟨gM_bestCost, iM_bestCost_ok⟩
theorem kM_bestSongAt : GM mM_bestSongAt := ⟨gM_bestSongAt, iM_bestSongAt_ok⟩
theorem kM_bestCostFrom : GM mM_bestCostFrom := ⟨gM_bestCostFrom, iM_bestCostFrom_ok⟩
theorem kM_bestOrderCount : GM mM_bestOrderCount := ⟨gM_bestOrderCount, iM_bestOrderCount_ok⟩
theorem kM_savingByUnit : GM mM_savingByUnit := ⟨gM_savingByUnit, iM_savingByUnit_ok⟩
theorem kM_encoresWithin : GM mM_encoresWithin := ⟨gM_encoresWithin, iM_encoresWithin_ok⟩
theorem kI_bitCount : GM mI_bitCount := ⟨gI_bitCount, iI_bitCount_ok⟩
theorem cl0_55 : lnk 0 (55, mC_isSide, [244, 247, 34, 245, 246]) = true := by decide +kernel
theorem cl0_59 : lnk 0 (59, mC_isPart, [256, 259, 34, 257, 258]) = true := by decide +kernel
theorem cl0_63 : lnk 0 (63, mC_hasUnitFor, [272, 275, 34, 273, 274]) = true := by decide +kernel
theorem cl0_67 : lnk 0 (67, mC_givePart, [284, 287, 34, 285, 286]) = true := by decide +kernel
theorem cl0_71 : lnk 0 (71, mC_isSong, [260, 263, 34, 261, 262]) = true := by decide +kernel
theorem cl0_74 : lnk 0 (74, mC_isPlayer, [264, 267, 34, 265, 266]) = true := by decide +kernel
theorem cl0_77 : lnk 0 (77, mC_isKind, [268, 271, 34, 269, 270]) = true := by decide +kernel
theorem cl0_80 : lnk 0 (80, mC_playersOn, [280, 283, 34, 281, 282]) = true := by decide +kernel
theorem cl0_89 : lnk 0 (89, mC_kindPlayed, [276, 279, 34, 277, 278]) = true := by decide +kernel
theorem cl0_92 : lnk 0 (92, mC_tuningPlayed, [442, 445, 34, 443, 444]) = true := by decide +kernel
theorem cl0_95 : lnk 0 (95, mC_change, [438, 441, 34, 439, 440]) = true := by decide +kernel
theorem cl0_99 : lnk 0 (99, mC_costOfSide, [446, 449, 34, 447, 448]) = true := by decide +kernel
theorem cl0_106 : lnk 0 (106, mC_costOfChange, [434, 437, 34, 435, 436]) = true := by decide +kernel
theorem cl0_109 : lnk 0 (109, mC_costOfChangeover, [551, 433, 34, 431, 432]) = true := by decide +kernel
theorem cl0_112 : lnk 0 (112, mI_bitCount, [457, 459, 44, 458]) = true := by decide +kernel
theorem cl0_117 : lnk 0 (117, mC_isEncore, [463, 409, 34, 407, 408]) = true := by decide +kernel
theorem cal_l0 : ∀ q ∈ calT 0, lnk 0 q = true := List.forall_mem_cons.mpr ⟨cl0_55, List.forall_mem_cons.mpr ⟨cl0_59, List.forall_mem_cons.mpr ⟨cl0_63, List.forall_mem_cons.mpr ⟨cl0_67, List.forall_mem_cons.mpr ⟨cl0_71, List.forall_mem_cons.mpr ⟨cl0_74, List.forall_mem_cons.mpr ⟨cl0_77, List.forall_mem_cons.mpr ⟨cl0_80, List.forall_mem_cons.mpr ⟨cl0_89, List.forall_mem_cons.mpr ⟨cl0_92, List.forall_mem_cons.mpr ⟨cl0_95, List.forall_mem_cons.mpr ⟨cl0_99, List.forall_mem_cons.mpr ⟨cl0_106, List.forall_mem_cons.mpr ⟨cl0_109, List.forall_mem_cons.mpr ⟨cl0_112, List.forall_mem_cons.mpr ⟨cl0_117, fun _ h => absurd h List.not_mem_nil⟩⟩⟩⟩⟩⟩⟩⟩⟩⟩⟩⟩⟩⟩⟩⟩
theorem cal_g0 : ∀ q ∈ calT 0, GM q.2.1 := List.forall_mem_cons.mpr ⟨kC_isSide, List.forall_mem_cons.mpr ⟨kC_isPart, List.forall_mem_cons.mpr ⟨kC_hasUnitFor, List.forall_mem_cons.mpr ⟨kC_givePart, List.forall_mem_cons.mpr ⟨kC_isSong, List.forall_mem_cons.mpr ⟨kC_isPlayer, List.forall_mem_cons.mpr ⟨kC_isKind, List.forall_mem_cons.mpr ⟨kC_playersOn, List.forall_mem_cons.mpr ⟨kC_kindPlayed, List.forall_mem_cons.mpr ⟨kC_tuningPlayed, List.forall_mem_cons.mpr ⟨kC_change, List.forall_mem_cons.mpr ⟨kC_costOfSide, List.forall_mem_cons.mpr ⟨kC_costOfChange, List.forall_mem_cons.mpr ⟨kC_costOfChangeover, List.forall_mem_cons.mpr ⟨kI_bitCount, List.forall_mem_cons.mpr ⟨kC_isEncore, fun _ h => absurd h List.not_mem_nil⟩⟩⟩⟩⟩⟩⟩⟩⟩⟩⟩⟩⟩⟩⟩⟩
theorem cl1_26 : lnk 1 (26, mC_makeEmpty, [224, 227, 34, 225, 226]) = true := by decide +kernel
theorem cl1_31 : lnk 1 (31, mT_readNumbers, [228, 231, 33, 230, 0]) = true := by decide +kernel
theorem cl1_35 : lnk 1 (35, mT_state, [232, 235, 33, 234, 1]) = true := by decide +kernel
theorem cl1_39 : lnk 1 (39, mC_addSong, [236, 239, 34, 237, 238]) = true := by decide +kernel
theorem cl1_43 : lnk 1 (43, mC_addPlayer, [240, 243, 34, 241, 242]) = true := by decide +kernel
theorem cl1_46 : lnk 1 (46, mC_addKind, [248, 251, 34, 249, 250]) = true := by decide +kernel
theorem cl1_49 : lnk 1 (49, mC_addPart, [252, 255, 34, 253, 254]) = true := by decide +kernel
theorem cl1_53 : lnk 1 (53, mC_addEncore, [288, 291, 34, 289, 290]) = true := by decide +kernel
theorem cal_l1 : ∀ q ∈ calT 1, lnk 1 q = true := List.forall_mem_cons.mpr ⟨cl1_26, List.forall_mem_cons.mpr ⟨cl1_31, List.forall_mem_cons.mpr ⟨cl1_35, List.forall_mem_cons.mpr ⟨cl1_39, List.forall_mem_cons.mpr ⟨cl1_43, List.forall_mem_cons.mpr ⟨cl1_46, List.forall_mem_cons.mpr ⟨cl1_49, List.forall_mem_cons.mpr ⟨cl1_53, fun _ h => absurd h List.not_mem_nil⟩⟩⟩⟩⟩⟩⟩⟩
theorem cal_g1 : ∀ q ∈ calT 1, GM q.2.1 := List.forall_mem_cons.mpr ⟨kC_makeEmpty, List.forall_mem_cons.mpr ⟨kT_readNumbers, List.forall_mem_cons.mpr ⟨kT_state, List.forall_mem_cons.mpr ⟨kC_addSong, List.forall_mem_cons.mpr ⟨kC_addPlayer, List.forall_mem_cons.mpr ⟨kC_addKind, List.forall_mem_cons.mpr ⟨kC_addPart, List.forall_mem_cons.mpr ⟨kC_addEncore, fun _ h => absurd h List.not_mem_nil⟩⟩⟩⟩⟩⟩⟩⟩
theorem cl2_25 : lnk 2 (25, mC_copyFrom, [357, 295, 34, 293, 294]) = true := by decide +kernel
theorem cal_l2 : ∀ q ∈ calT 2, lnk 2 q = true := List.forall_mem_cons.mpr ⟨cl2_25, fun _ h => absurd h List.not_mem_nil⟩
theorem cal_g2 : ∀ q ∈ calT 2, GM q.2.1 := List.forall_mem_cons.mpr ⟨kC_copyFrom, fun _ h => absurd h List.not_mem_nil⟩
theorem cl3_32 : lnk 3 (32, mC_costOfChangeover, [430, 433, 34, 431, 432]) = true := by decide +kernel
theorem cl3_36 : lnk 3 (36, mC_mayStandAt, [453, 456, 34, 454, 455]) = true := by decide +kernel
theorem cl3_40 : lnk 3 (40, mO_cellOf, [468, 471, 36, 470, 4]) = true := by decide +kernel
theorem cl3_43 : lnk 3 (43, mO_settle, [472, 475, 36, 474, 5]) = true := by decide +kernel
theorem cl3_47 : lnk 3 (47, mO_costThrough, [476, 479, 36, 478, 6]) = true := by decide +kernel
theorem cl3_51 : lnk 3 (51, mI_bitCount, [480, 459, 44, 458]) = true := by decide +kernel
theorem cl3_57 : lnk 3 (57, mO_bestNext, [494, 497, 36, 496, 7]) = true := by decide +kernel
theorem cl3_65 : lnk 3 (65, mO_bestSong, [490, 493, 36, 491, 492]) = true := by decide +kernel
theorem cal_l3 : ∀ q ∈ calT 3, lnk 3 q = true := List.forall_mem_cons.mpr ⟨cl3_32, List.forall_mem_cons.mpr ⟨cl3_36, List.forall_mem_cons.mpr ⟨cl3_40, List.forall_mem_cons.mpr ⟨cl3_43, List.forall_mem_cons.mpr ⟨cl3_47, List.forall_mem_cons.mpr ⟨cl3_51, List.forall_mem_cons.mpr ⟨cl3_57, List.forall_mem_cons.mpr ⟨cl3_65, fun _ h => absurd h List.not_mem_nil⟩⟩⟩⟩⟩⟩⟩⟩
theorem cal_g3 : ∀ q ∈ calT 3, GM q.2.1 := List.forall_mem_cons.mpr ⟨kC_costOfChangeover, List.forall_mem_cons.mpr ⟨kC_mayStandAt, List.forall_mem_cons.mpr ⟨kO_cellOf, List.forall_mem_cons.mpr ⟨kO_settle, List.forall_mem_cons.mpr ⟨kO_costThrough, List.forall_mem_cons.mpr ⟨kI_bitCount, List.forall_mem_cons.mpr ⟨kO_bestNext, List.forall_mem_cons.mpr ⟨kO_bestSong, fun _ h => absurd h List.not_mem_nil⟩⟩⟩⟩⟩⟩⟩⟩
theorem cl4_56 : lnk 4 (56, mT_add, [216, 219, 33, 217, 218]) = true := by decide +kernel
theorem cl4_60 : lnk 4 (60, mT_readInto, [220, 223, 33, 221, 222]) = true := by decide +kernel
theorem cl4_64 : lnk 4 (64, mC_copyFrom, [292, 295, 34, 293, 294]) = true := by decide +kernel
theorem cl4_71 : lnk 4 (71, mC_hasAllSorts, [335, 338, 34, 336, 337]) = true := by decide +kernel
theorem cl4_75 : lnk 4 (75, mH_forget, [339, 342, 35, 340, 341]) = true := by decide +kernel
theorem cl4_81 : lnk 4 (81, mC_isPart, [347, 259, 34, 257, 258]) = true := by decide +kernel
theorem cl4_85 : lnk 4 (85, mC_hasUnitFor, [348, 275, 34, 273, 274]) = true := by decide +kernel
theorem cl4_89 : lnk 4 (89, mS_beginEdit, [349, 352, 32, 351, 2]) = true := by decide +kernel
theorem cl4_92 : lnk 4 (92, mC_givePart, [361, 287, 34, 285, 286]) = true := by decide +kernel
theorem cl4_96 : lnk 4 (96, mC_playersOn, [362, 283, 34, 281, 282]) = true := by decide +kernel
theorem cl4_100 : lnk 4 (100, mS_kindOf, [367, 370, 32, 368, 369]) = true := by decide +kernel
theorem cl4_103 : lnk 4 (103, mC_isKind, [378, 271, 34, 269, 270]) = true := by decide +kernel
theorem cl4_107 : lnk 4 (107, mC_mostPlayersOn, [379, 382, 34, 380, 381]) = true := by decide +kernel
theorem cl4_115 : lnk 4 (115, mC_isSong, [371, 263, 34, 261, 262]) = true := by decide +kernel
theorem cl4_118 : lnk 4 (118, mC_songPinnedAt, [390, 393, 34, 391, 392]) = true := by decide +kernel
theorem cl4_124 : lnk 4 (124, mC_pinCount, [394, 397, 34, 395, 396]) = true := by decide +kernel
theorem cl4_127 : lnk 4 (127, mC_isEncore, [406, 409, 34, 407, 408]) = true := by decide +kernel
theorem cl4_133 : lnk 4 (133, mC_shiftOrder, [414, 417, 34, 415, 416]) = true := by decide +kernel
theorem cl4_140 : lnk 4 (140, mS_presentTable, [422, 425, 32, 424, 3]) = true := by decide +kernel
theorem cl4_144 : lnk 4 (144, mO_leastCost, [481, 484, 36, 482, 483]) = true := by decide +kernel
theorem cl4_147 : lnk 4 (147, mO_copyBestOrder, [485, 488, 36, 486, 487]) = true := by decide +kernel
theorem cl4_154 : lnk 4 (154, mH_takeBack, [502, 505, 35, 503, 504]) = true := by decide +kernel
theorem cl4_157 : lnk 4 (157, mC_isPlayer, [372, 267, 34, 265, 266]) = true := by decide +kernel
theorem cl4_160 : lnk 4 (160, mC_kindPlayed, [373, 279, 34, 277, 278]) = true := by decide +kernel
theorem cl4_163 : lnk 4 (163, mC_tuningPlayed, [515, 445, 34, 443, 444]) = true := by decide +kernel
theorem cl4_166 : lnk 4 (166, mC_areTwoSongs, [524, 527, 34, 525, 526]) = true := by decide +kernel
theorem cl4_170 : lnk 4 (170, mC_change, [528, 441, 34, 439, 440]) = true := by decide +kernel
theorem cl4_174 : lnk 4 (174, mC_costOfChange, [533, 437, 34, 435, 436]) = true := by decide +kernel
theorem cl4_177 : lnk 4 (177, mC_costOfChangeover, [538, 433, 34, 431, 432]) = true := by decide +kernel
theorem cl4_180 : lnk 4 (180, mC_costAfter, [547, 550, 34, 548, 549]) = true := by decide +kernel
theorem cl4_183 : lnk 4 (183, mC_mayStandAt, [556, 456, 34, 454, 455]) = true := by decide +kernel
theorem cl4_186 : lnk 4 (186, mO_bestSong, [569, 493, 36, 491, 492]) = true := by decide +kernel
theorem cl4_189 : lnk 4 (189, mO_leastCostFrom, [574, 577, 36, 575, 576]) = true := by decide +kernel
theorem cl4_192 : lnk 4 (192, mO_leastCostOrders, [582, 585, 36, 583, 584]) = true := by decide +kernel
theorem cl4_195 : lnk 4 (195, mO_load, [426, 429, 36, 427, 428]) = true := by decide +kernel
theorem cl4_198 : lnk 4 (198, mO_solve, [464, 467, 36, 465, 466]) = true := by decide +kernel
theorem cl4_201 : lnk 4 (201, mC_playingTime, [594, 597, 34, 595, 596]) = true := by decide +kernel
theorem cl4_204 : lnk 4 (204, mI_bitCount, [598, 459, 44, 458]) = true := by decide +kernel
theorem cl4_209 : lnk 4 (209, mH_keep, [353, 356, 35, 354, 355]) = true := by decide +kernel
theorem cal_l4 : ∀ q ∈ calT 4, lnk 4 q = true := List.forall_mem_cons.mpr ⟨cl4_56, List.forall_mem_cons.mpr ⟨cl4_60, List.forall_mem_cons.mpr ⟨cl4_64, List.forall_mem_cons.mpr ⟨cl4_71, List.forall_mem_cons.mpr ⟨cl4_75, List.forall_mem_cons.mpr ⟨cl4_81, List.forall_mem_cons.mpr ⟨cl4_85, List.forall_mem_cons.mpr ⟨cl4_89, List.forall_mem_cons.mpr ⟨cl4_92, List.forall_mem_cons.mpr ⟨cl4_96, List.forall_mem_cons.mpr ⟨cl4_100, List.forall_mem_cons.mpr ⟨cl4_103, List.forall_mem_cons.mpr ⟨cl4_107, List.forall_mem_cons.mpr ⟨cl4_115, List.forall_mem_cons.mpr ⟨cl4_118, List.forall_mem_cons.mpr ⟨cl4_124, List.forall_mem_cons.mpr ⟨cl4_127, List.forall_mem_cons.mpr ⟨cl4_133, List.forall_mem_cons.mpr ⟨cl4_140, List.forall_mem_cons.mpr ⟨cl4_144, List.forall_mem_cons.mpr ⟨cl4_147, List.forall_mem_cons.mpr ⟨cl4_154, List.forall_mem_cons.mpr ⟨cl4_157, List.forall_mem_cons.mpr ⟨cl4_160, List.forall_mem_cons.mpr ⟨cl4_163, List.forall_mem_cons.mpr ⟨cl4_166, List.forall_mem_cons.mpr ⟨cl4_170, List.forall_mem_cons.mpr ⟨cl4_174, List.forall_mem_cons.mpr ⟨cl4_177, List.forall_mem_cons.mpr ⟨cl4_180, List.forall_mem_cons.mpr ⟨cl4_183, List.forall_mem_cons.mpr ⟨cl4_186, List.forall_mem_cons.mpr ⟨cl4_189, List.forall_mem_cons.mpr ⟨cl4_192, List.forall_mem_cons.mpr ⟨cl4_195, List.forall_mem_cons.mpr ⟨cl4_198, List.forall_mem_cons.mpr ⟨cl4_201, List.forall_mem_cons.mpr ⟨cl4_204, List.forall_mem_cons.mpr ⟨cl4_209, fun _ h => absurd h List.not_mem_nil⟩⟩⟩⟩⟩⟩⟩⟩⟩⟩⟩⟩⟩⟩⟩⟩⟩⟩⟩⟩⟩⟩⟩⟩⟩⟩⟩⟩⟩⟩⟩⟩⟩⟩⟩⟩⟩⟩⟩
theorem cal_g4 : ∀ q ∈ calT 4, GM q.2.1 := List.forall_mem_cons.mpr ⟨kT_add, List.forall_mem_cons.mpr ⟨kT_readInto, List.forall_mem_cons.mpr ⟨kC_copyFrom, List.forall_mem_cons.mpr ⟨kC_hasAllSorts, List.forall_mem_cons.mpr ⟨kH_forget, List.forall_mem_cons.mpr ⟨kC_isPart, List.forall_mem_cons.mpr ⟨kC_hasUnitFor, List.forall_mem_cons.mpr ⟨kS_beginEdit, List.forall_mem_cons.mpr ⟨kC_givePart, List.forall_mem_cons.mpr ⟨kC_playersOn, List.forall_mem_cons.mpr ⟨kS_kindOf, List.forall_mem_cons.mpr ⟨kC_isKind, List.forall_mem_cons.mpr ⟨kC_mostPlayersOn, List.forall_mem_cons.mpr ⟨kC_isSong, List.forall_mem_cons.mpr ⟨kC_songPinnedAt, List.forall_mem_cons.mpr ⟨kC_pinCount, List.forall_mem_cons.mpr ⟨kC_isEncore, List.forall_mem_cons.mpr ⟨kC_shiftOrder, List.forall_mem_cons.mpr ⟨kS_presentTable, List.forall_mem_cons.mpr ⟨kO_leastCost, List.forall_mem_cons.mpr ⟨kO_copyBestOrder, List.forall_mem_cons.mpr ⟨kH_takeBack, List.forall_mem_cons.mpr ⟨kC_isPlayer, List.forall_mem_cons.mpr ⟨kC_kindPlayed, List.forall_mem_cons.mpr ⟨kC_tuningPlayed, List.forall_mem_cons.mpr ⟨kC_areTwoSongs, List.forall_mem_cons.mpr ⟨kC_change, List.forall_mem_cons.mpr ⟨kC_costOfChange, List.forall_mem_cons.mpr ⟨kC_costOfChangeover, List.forall_mem_cons.mpr ⟨kC_costAfter, List.forall_mem_cons.mpr ⟨kC_mayStandAt, List.forall_mem_cons.mpr ⟨kO_bestSong, List.forall_mem_cons.mpr ⟨kO_leastCostFrom, List.forall_mem_cons.mpr ⟨kO_leastCostOrders, List.forall_mem_cons.mpr ⟨kO_load, List.forall_mem_cons.mpr ⟨kO_solve, List.forall_mem_cons.mpr ⟨kC_playingTime, List.forall_mem_cons.mpr ⟨kI_bitCount, List.forall_mem_cons.mpr ⟨kH_keep, fun _ h => absurd h List.not_mem_nil⟩⟩⟩⟩⟩⟩⟩⟩⟩⟩⟩⟩⟩⟩⟩⟩⟩⟩⟩⟩⟩⟩⟩⟩⟩⟩⟩⟩⟩⟩⟩⟩⟩⟩⟩⟩⟩⟩⟩
theorem cl5_34 : lnk 5 (34, mM_empty, [605, 607, 42, 606]) = true := by decide +kernel
theorem cl5_38 : lnk 5 (38, mM_part, [608, 610, 42, 609]) = true := by decide +kernel
theorem cl5_42 : lnk 5 (42, mM_at, [611, 613, 42, 612]) = true := by decide +kernel
theorem cl5_50 : lnk 5 (50, mM_in, [657, 659, 42, 658]) = true := by decide +kernel
theorem cl5_64 : lnk 5 (64, mM_here, [676, 679, 42, 678, 10]) = true := by decide +kernel
theorem cl5_72 : lnk 5 (72, mM_isNumber, [680, 683, 42, 682, 11]) = true := by decide +kernel
theorem cl5_76 : lnk 5 (76, mM_others, [690, 692, 42, 691]) = true := by decide +kernel
theorem cl5_80 : lnk 5 (80, mM_partIs, [686, 689, 42, 688, 12]) = true := by decide +kernel
theorem cl5_84 : lnk 5 (84, mM_statement, [672, 675, 42, 674, 9]) = true := by decide +kernel
theorem cl5_87 : lnk 5 (87, mM_readAll, [668, 671, 42, 670, 8]) = true := by decide +kernel
theorem cl5_93 : lnk 5 (93, mM_isSong, [705, 708, 42, 707, 13]) = true := by decide +kernel
theorem cl5_97 : lnk 5 (97, mM_isPlayer, [709, 712, 42, 711, 14]) = true := by decide +kernel
theorem cl5_100 : lnk 5 (100, mM_isKind, [713, 716, 42, 715, 15]) = true := by decide +kernel
theorem cl5_105 : lnk 5 (105, mM_keeps, [718, 721, 42, 720, 16]) = true := by decide +kernel
theorem cl5_108 : lnk 5 (108, mM_isPosition, [734, 737, 42, 736, 17]) = true := by decide +kernel
theorem cl5_111 : lnk 5 (111, mM_layBest, [754, 757, 42, 756, 18]) = true := by decide +kernel
theorem cl5_116 : lnk 5 (116, mM_layOrder, [794, 797, 42, 796, 27]) = true := by decide +kernel
theorem cl5_120 : lnk 5 (120, mM_ofPart, [806, 809, 42, 808, 28]) = true := by decide +kernel
theorem cl5_124 : lnk 5 (124, mM_change, [766, 769, 42, 768, 21]) = true := by decide +kernel
theorem cl5_128 : lnk 5 (128, mM_isFar, [770, 773, 42, 772, 22]) = true := by decide +kernel
theorem cl5_132 : lnk 5 (132, mM_costOf, [762, 765, 42, 764, 20]) = true := by decide +kernel
theorem cl5_135 : lnk 5 (135, mM_areTwo, [822, 825, 42, 824, 29]) = true := by decide +kernel
theorem cl5_138 : lnk 5 (138, mM_between, [758, 761, 42, 760, 19]) = true := by decide +kernel
theorem cl5_141 : lnk 5 (141, mM_step, [842, 845, 42, 844, 30]) = true := by decide +kernel
theorem cl5_144 : lnk 5 (144, mM_all, [774, 777, 42, 776, 23]) = true := by decide +kernel
theorem cl5_147 : lnk 5 (147, mM_ones, [783, 785, 42, 784]) = true := by decide +kernel
theorem cl5_150 : lnk 5 (150, mM_mayCome, [779, 782, 42, 781, 24]) = true := by decide +kernel
theorem cl5_153 : lnk 5 (153, mM_takes, [786, 789, 42, 788, 25]) = true := by decide +kernel
theorem cl5_157 : lnk 5 (157, mM_costFrom, [790, 793, 42, 792, 26]) = true := by decide +kernel
theorem cal_l5 : ∀ q ∈ calT 5, lnk 5 q = true := List.forall_mem_cons.mpr ⟨cl5_34, List.forall_mem_cons.mpr ⟨cl5_38, List.forall_mem_cons.mpr ⟨cl5_42, List.forall_mem_cons.mpr ⟨cl5_50, List.forall_mem_cons.mpr ⟨cl5_64, List.forall_mem_cons.mpr ⟨cl5_72, List.forall_mem_cons.mpr ⟨cl5_76, List.forall_mem_cons.mpr ⟨cl5_80, List.forall_mem_cons.mpr ⟨cl5_84, List.forall_mem_cons.mpr ⟨cl5_87, List.forall_mem_cons.mpr ⟨cl5_93, List.forall_mem_cons.mpr ⟨cl5_97, List.forall_mem_cons.mpr ⟨cl5_100, List.forall_mem_cons.mpr ⟨cl5_105, List.forall_mem_cons.mpr ⟨cl5_108, List.forall_mem_cons.mpr ⟨cl5_111, List.forall_mem_cons.mpr ⟨cl5_116, List.forall_mem_cons.mpr ⟨cl5_120, List.forall_mem_cons.mpr ⟨cl5_124, List.forall_mem_cons.mpr ⟨cl5_128, List.forall_mem_cons.mpr ⟨cl5_132, List.forall_mem_cons.mpr ⟨cl5_135, List.forall_mem_cons.mpr ⟨cl5_138, List.forall_mem_cons.mpr ⟨cl5_141, List.forall_mem_cons.mpr ⟨cl5_144, List.forall_mem_cons.mpr ⟨cl5_147, List.forall_mem_cons.mpr ⟨cl5_150, List.forall_mem_cons.mpr ⟨cl5_153, List.forall_mem_cons.mpr ⟨cl5_157, fun _ h => absurd h List.not_mem_nil⟩⟩⟩⟩⟩⟩⟩⟩⟩⟩⟩⟩⟩⟩⟩⟩⟩⟩⟩⟩⟩⟩⟩⟩⟩⟩⟩⟩⟩
theorem cal_g5 : ∀ q ∈ calT 5, GM q.2.1 := List.forall_mem_cons.mpr ⟨kM_empty, List.forall_mem_cons.mpr ⟨kM_part, List.forall_mem_cons.mpr ⟨kM_at, List.forall_mem_cons.mpr ⟨kM_in, List.forall_mem_cons.mpr ⟨kM_here, List.forall_mem_cons.mpr ⟨kM_isNumber, List.forall_mem_cons.mpr ⟨kM_others, List.forall_mem_cons.mpr ⟨kM_partIs, List.forall_mem_cons.mpr ⟨kM_statement, List.forall_mem_cons.mpr ⟨kM_readAll, List.forall_mem_cons.mpr ⟨kM_isSong, List.forall_mem_cons.mpr ⟨kM_isPlayer, List.forall_mem_cons.mpr ⟨kM_isKind, List.forall_mem_cons.mpr ⟨kM_keeps, List.forall_mem_cons.mpr ⟨kM_isPosition, List.forall_mem_cons.mpr ⟨kM_layBest, List.forall_mem_cons.mpr ⟨kM_layOrder, List.forall_mem_cons.mpr ⟨kM_ofPart, List.forall_mem_cons.mpr ⟨kM_change, List.forall_mem_cons.mpr ⟨kM_isFar, List.forall_mem_cons.mpr ⟨kM_costOf, List.forall_mem_cons.mpr ⟨kM_areTwo, List.forall_mem_cons.mpr ⟨kM_between, List.forall_mem_cons.mpr ⟨kM_step, List.forall_mem_cons.mpr ⟨kM_all, List.forall_mem_cons.mpr ⟨kM_ones, List.forall_mem_cons.mpr ⟨kM_mayCome, List.forall_mem_cons.mpr ⟨kM_takes, List.forall_mem_cons.mpr ⟨kM_costFrom, fun _ h => absurd h List.not_mem_nil⟩⟩⟩⟩⟩⟩⟩⟩⟩⟩⟩⟩⟩⟩⟩⟩⟩⟩⟩⟩⟩⟩⟩⟩⟩⟩⟩⟩⟩
theorem cal_l6 : ∀ q ∈ calT 6, lnk 6 q = true := fun _ h => absurd h List.not_mem_nil
theorem cal_g6 : ∀ q ∈ calT 6, GM q.2.1 := fun _ h => absurd h List.not_mem_nil
theorem cal_l7 : ∀ q ∈ calT 7, lnk 7 q = true := fun _ h => absurd h List.not_mem_nil
theorem cal_g7 : ∀ q ∈ calT 7, GM q.2.1 := fun _ h => absurd h List.not_mem_nil
