/-! THE LAW'S LOOP -/
theorem and31 (z : Int32) : ∃ t, t < 32 ∧ z &&& 31 = nI t := by
  refine ⟨(z.toBitVec &&& 31#32).toNat, ?_, ?_⟩
  · rw [BitVec.toNat_and]
    exact Nat.lt_of_le_of_lt Nat.and_le_right (by decide)
  · apply Int32.toBitVec_inj.mp
    show z.toBitVec &&& 31#32 = BitVec.ofNat 32 _
    rw [BitVec.ofNat_toNat, BitVec.setWidth_eq]
theorem gt5 {L i : Nat} (hL : L ≤ 2560) (hi : i ≤ 2570) : nI L - nI 5 < nI i ↔ L < i + 5 := by
  rw [Int32.lt_iff_toInt_lt, pk_sub_toInt (by omega) (by omega), nI_toInt (by omega)]
  omega
set_option maxHeartbeats 4000000 in
theorem Lloop {p : Program} {l : Launch} {e : Env} {s : State} {m : MethodId} {below : List Frame} {meth : Method} {c : Code} {D : va_G} {ty : Nat → ClassId} {b L : Nat} {xs : Nat → Int32} (X : LX p s m c b L xs D ty) (hr : meth.sig.returnType = ret) (hlocks : meth.locks = false) {adS adN : Nat → Nat → Nat} (J : LJ s ty adS adN) : ∀ (n i : Nat) (A : AS) (H : Heap) (locs : List Loc) (ls : Array Slot), L ≤ i + n → i ≤ L + 5 → VK A → LW D ty adS adN A H → lv_has ls 4 [(3, .int (nI i)), (2, .ref (adN 8 20)), (1, .ref (adS 7 9)), (0, .ref b)] → va_S (AL s) s.heap H locs → W p l e room_1 s m #[Value.ref b] below meth c H locs 83 10837 (lw_Z below #[Value.ref b] s) (F0 m 18 ls []) := by
  obtain ⟨hx, hb, hml, hown, hts, hX, hbl, hK, hL⟩ := id X
  have hbA : ¬ AL s b := fun z => absurd hbl (Nat.not_lt.mpr z)
  intro n
  induction n with
  | zero =>
    intro i A H locs ls hn hi V hW hl hS
    refine lv_iload_n hx hb dL_18 rfl (lv_at hl 0 rfl) ?_
    refine lv_aload_n hx hb dL_19 rfl (lv_at hl 3 rfl) ?_
    refine va_slen hx hb hX hbl hbA hS dL_20 ?_
    refine lv_iconst (v := nI 5) hx hb dL_21 (by decide) ?_
    refine lv_isub hx hb dL_22 ?_
    refine lv_icmp_gt (tgt := 914) hx hb dL_23 (by decide) (fun _ => ?_) (fun c1 => absurd ((gt5 hL (by omega)).mpr (by omega)) c1)
    refine lv_iconst (v := 1) hx hb dL_914 (by decide) ?_
    refine va_forget hS.2.2 ?_
    refine W.widen (k := 600000) (n := 7302250) (Nat.le_of_ble_eq_true rfl) (Nat.le_of_ble_eq_true rfl) ?_
    exact lw_ret hx hb hr hlocks dL_915
  | succ n ih =>
    intro i A H locs ls hn hi V hW hl hS
    refine lv_iload_n hx hb dL_18 rfl (lv_at hl 0 rfl) ?_
    refine lv_aload_n hx hb dL_19 rfl (lv_at hl 3 rfl) ?_
    refine va_slen hx hb hX hbl hbA hS dL_20 ?_
    refine lv_iconst (v := nI 5) hx hb dL_21 (by decide) ?_
    refine lv_isub hx hb dL_22 ?_
    refine lv_icmp_gt (tgt := 914) hx hb dL_23 (by decide) (fun _ => ?_) (fun c1 => ?_)
    · refine lv_iconst (v := 1) hx hb dL_914 (by decide) ?_
      refine va_forget hS.2.2 ?_
      refine W.widen (k := 600000) (n := 7302250) (Nat.le_of_ble_eq_true rfl) (Nat.le_of_ble_eq_true rfl) ?_
      exact lw_ret hx hb hr hlocks dL_915
    · have hiL : i + 5 ≤ L := by
        have h9 : ¬ L < i + 5 := fun q => c1 ((gt5 hL (by omega)).mpr q)
        omega
      have next : ∀ (A' : AS) (H1 : Heap) (locs1 : List Loc), VK A' → LW D ty adS adN A' H1 → va_S (AL s) s.heap H1 locs1 → W p l e room_1 s m #[Value.ref b] below meth c H1 locs1 83 10837 (lw_Z below #[Value.ref b] s) (F0 m 908 ls []) := by
        intro A' H1 locs1 V1 W1 S1
        refine lv_iinc (v := nI (i + 5)) (lv' := [(3, .int (nI (i + 5))), (2, .ref (adN 8 20)), (1, .ref (adS 7 9)), (0, .ref b)]) hx hb dL_908 hl (k := 0) rfl (nI_add i 5) (by decide) rfl (fun ls hl => ?_)
        refine lv_goto (tgt := 18) hx hb dL_911 (by decide) ?_
        exact ih (i + 5) A' H1 locs1 ls (by omega) (by omega) V1 W1 hl S1
      refine lv_aload_n hx hb dL_26 rfl (lv_at hl 3 rfl) ?_
      refine lv_iload_n hx hb dL_27 rfl (lv_at hl 0 rfl) ?_
      refine va_sld hx hb hX hbl hbA hS (vp_in_nI (by omega) (by omega)) dL_28 ?_
      rw [nI_cl (by omega)]
      refine lv_bipush (v := 31) hx hb dL_29 (by decide) ?_
      refine lv_iand hx hb dL_31 ?_
      obtain ⟨t, ht, e9⟩ := and31 (xs i)
      rw [e9]
      rcases (show t = 0 ∨ t = 1 ∨ t = 2 ∨ t = 3 ∨ t = 4 ∨ t = 5 ∨ t = 6 ∨ t = 7 ∨ t = 8 ∨ t = 9 ∨ t = 10 ∨ t = 11 ∨ t = 12 ∨ t = 13 ∨ t = 14 ∨ t = 15 ∨ t = 16 ∨ t = 17 ∨ t = 18 ∨ t = 19 ∨ t = 20 ∨ t = 21 ∨ t = 22 ∨ t = 23 ∨ t = 24 ∨ t = 25 ∨ t = 26 ∨ t = 27 ∨ t = 28 ∨ t = 29 ∨ t = 30 ∨ t = 31 by omega) with rfl | rfl | rfl | rfl | rfl | rfl | rfl | rfl | rfl | rfl | rfl | rfl | rfl | rfl | rfl | rfl | rfl | rfl | rfl | rfl | rfl | rfl | rfl | rfl | rfl | rfl | rfl | rfl | rfl | rfl | rfl | rfl
      · refine lv_tableIn (tgt := 168) hx hb dL_32 (by decide) (by decide) rfl (by decide) ?_
        exact Lcase (n := 1) (x := (oAppend A (xs (i + 1))).1) (A' := (oAppend A (xs (i + 1))).2) X J iL_0_ok (by decide +kernel) kS_append kM_append zL_S0 zL_M0 rfl rfl rfl rfl (by decide) (by decide) (by decide) hiL (fun h I => t_S_append (d := 5) (x := xs (i + 1)) V.1 I) (fun h I => t_M_append (d := 5) (x := xs (i + 1)) V.1 I) (Nat.le_of_ble_eq_true rfl) (Nat.le_of_ble_eq_true rfl) hl hW hS (fun H1 locs1 g1 g2 => next _ H1 locs1 (k_append V) g1 g2)
      · refine lv_tableIn (tgt := 191) hx hb dL_32 (by decide) (by decide) rfl (by decide) ?_
        exact Lcase (n := 0) (x := (oClear A).1) (A' := (oClear A).2) X J iL_1_ok (by decide +kernel) kS_clearText kM_clearText zL_S1 zL_M1 rfl rfl rfl rfl (by decide) (by decide) (by decide) hiL (fun h I => t_S_clearText (d := 6)  V.1 I) (fun h I => t_M_clearText (d := 6)  V.1 I) (Nat.le_of_ble_eq_true rfl) (Nat.le_of_ble_eq_true rfl) hl hW hS (fun H1 locs1 g1 g2 => next _ H1 locs1 (k_clear V) g1 g2)
      · refine lv_tableIn (tgt := 204) hx hb dL_32 (by decide) (by decide) rfl (by decide) ?_
        exact Lcase (n := 0) (x := (oFirst A).1) (A' := (oFirst A).2) X J iL_2_ok (by decide +kernel) kS_firstError kM_firstError zL_S2 zL_M2 rfl rfl rfl rfl (by decide) (by decide) (by decide) hiL (fun h I => t_S_firstError (d := 1)  V.1 I) (fun h I => t_M_firstError (d := 1)  V.1 I) (Nat.le_of_ble_eq_true rfl) (Nat.le_of_ble_eq_true rfl) hl hW hS (fun H1 locs1 g1 g2 => next _ H1 locs1 (k_first V) g1 g2)
      · refine lv_tableIn (tgt := 217) hx hb dL_32 (by decide) (by decide) rfl (by decide) ?_
        exact Lcase (n := 0) (x := (oConf A).1) (A' := (oConf A).2) X J iL_3_ok (by decide +kernel) kS_configure kM_configure zL_S3 zL_M3 rfl rfl rfl rfl (by decide) (by decide) (by decide) hiL (fun h I => t_S_configure (d := 1)  V.1 I) (fun h I => t_M_configure (d := 1)  V.1 I) (Nat.le_of_ble_eq_true rfl) (Nat.le_of_ble_eq_true rfl) hl hW hS (fun H1 locs1 g1 g2 => next _ H1 locs1 (k_conf V) g1 g2)
      · refine lv_tableIn (tgt := 230) hx hb dL_32 (by decide) (by decide) rfl (by decide) ?_
        exact Lcase (n := 4) (x := (oSetPart A (xs (i + 1)) (xs (i + 1 + 1)) (xs (i + 1 + 1 + 1)) (xs (i + 1 + 1 + 1 + 1))).1) (A' := (oSetPart A (xs (i + 1)) (xs (i + 1 + 1)) (xs (i + 1 + 1 + 1)) (xs (i + 1 + 1 + 1 + 1))).2) X J iL_4_ok (by decide +kernel) kS_setPart kM_setPart zL_S4 zL_M4 rfl rfl rfl rfl (by decide) (by decide) (by decide) hiL (fun h I => t_S_setPart (d := 2) (x := xs (i + 1)) (y := xs (i + 1 + 1)) (w := xs (i + 1 + 1 + 1)) (t := xs (i + 1 + 1 + 1 + 1)) V.1 I) (fun h I => t_M_setPart (d := 4) (x := xs (i + 1)) (y := xs (i + 1 + 1)) (w := xs (i + 1 + 1 + 1)) (t := xs (i + 1 + 1 + 1 + 1)) V.1 I) (Nat.le_of_ble_eq_true rfl) (Nat.le_of_ble_eq_true rfl) hl hW hS (fun H1 locs1 g1 g2 => next _ H1 locs1 (k_setPart V) g1 g2)
      · refine lv_tableIn (tgt := 283) hx hb dL_32 (by decide) (by decide) rfl (by decide) ?_
        exact Lcase (n := 2) (x := (oRemove A (xs (i + 1)) (xs (i + 1 + 1))).1) (A' := (oRemove A (xs (i + 1)) (xs (i + 1 + 1))).2) X J iL_5_ok (by decide +kernel) kS_removePart kM_removePart zL_S5 zL_M5 rfl rfl rfl rfl (by decide) (by decide) (by decide) hiL (fun h I => t_S_removePart (d := 2) (x := xs (i + 1)) (y := xs (i + 1 + 1)) V.1 I) (fun h I => t_M_removePart (d := 4) (x := xs (i + 1)) (y := xs (i + 1 + 1)) V.1 I) (Nat.le_of_ble_eq_true rfl) (Nat.le_of_ble_eq_true rfl) hl hW hS (fun H1 locs1 g1 g2 => next _ H1 locs1 (k_remove V) g1 g2)
      · refine lv_tableIn (tgt := 316) hx hb dL_32 (by decide) (by decide) rfl (by decide) ?_
        exact Lcase (n := 2) (x := (oUnits A (xs (i + 1)) (xs (i + 1 + 1))).1) (A' := (oUnits A (xs (i + 1)) (xs (i + 1 + 1))).2) X J iL_6_ok (by decide +kernel) kS_setUnits kM_setUnits zL_S6 zL_M6 rfl rfl rfl rfl (by decide) (by decide) (by decide) hiL (fun h I => t_S_setUnits (d := 2) (x := xs (i + 1)) (y := xs (i + 1 + 1)) V.1 I) (fun h I => t_M_setUnits (d := 4) (x := xs (i + 1)) (y := xs (i + 1 + 1)) V.1 I) (Nat.le_of_ble_eq_true rfl) (Nat.le_of_ble_eq_true rfl) hl hW hS (fun H1 locs1 g1 g2 => next _ H1 locs1 (k_units V) g1 g2)
      · refine lv_tableIn (tgt := 349) hx hb dL_32 (by decide) (by decide) rfl (by decide) ?_
        exact Lcase (n := 2) (x := (oPin A (xs (i + 1)) (xs (i + 1 + 1))).1) (A' := (oPin A (xs (i + 1)) (xs (i + 1 + 1))).2) X J iL_7_ok (by decide +kernel) kS_pin kM_pin zL_S7 zL_M7 rfl rfl rfl rfl (by decide) (by decide) (by decide) hiL (fun h I => t_S_pin (d := 2) (x := xs (i + 1)) (y := xs (i + 1 + 1)) V.1 I) (fun h I => t_M_pin (d := 4) (x := xs (i + 1)) (y := xs (i + 1 + 1)) V.1 I) (Nat.le_of_ble_eq_true rfl) (Nat.le_of_ble_eq_true rfl) hl hW hS (fun H1 locs1 g1 g2 => next _ H1 locs1 (k_pin V) g1 g2)
      · refine lv_tableIn (tgt := 382) hx hb dL_32 (by decide) (by decide) rfl (by decide) ?_
        exact Lcase (n := 1) (x := (oUnpin A (xs (i + 1))).1) (A' := (oUnpin A (xs (i + 1))).2) X J iL_8_ok (by decide +kernel) kS_unpin kM_unpin zL_S8 zL_M8 rfl rfl rfl rfl (by decide) (by decide) (by decide) hiL (fun h I => t_S_unpin (d := 2) (x := xs (i + 1)) V.1 I) (fun h I => t_M_unpin (d := 4) (x := xs (i + 1)) V.1 I) (Nat.le_of_ble_eq_true rfl) (Nat.le_of_ble_eq_true rfl) hl hW hS (fun H1 locs1 g1 g2 => next _ H1 locs1 (k_unpin V) g1 g2)
      · refine lv_tableIn (tgt := 405) hx hb dL_32 (by decide) (by decide) rfl (by decide) ?_
        exact Lcase (n := 2) (x := (oEnc A (xs (i + 1)) (xs (i + 1 + 1))).1) (A' := (oEnc A (xs (i + 1)) (xs (i + 1 + 1))).2) X J iL_9_ok (by decide +kernel) kS_setEncore kM_setEncore zL_S9 zL_M9 rfl rfl rfl rfl (by decide) (by decide) (by decide) hiL (fun h I => t_S_setEncore (d := 2) (x := xs (i + 1)) (y := xs (i + 1 + 1)) V.1 I) (fun h I => t_M_setEncore (d := 4) (x := xs (i + 1)) (y := xs (i + 1 + 1)) V.1 I) (Nat.le_of_ble_eq_true rfl) (Nat.le_of_ble_eq_true rfl) hl hW hS (fun H1 locs1 g1 g2 => next _ H1 locs1 (k_enc V) g1 g2)
      · refine lv_tableIn (tgt := 438) hx hb dL_32 (by decide) (by decide) rfl (by decide) ?_
        exact Lcase (n := 2) (x := (oMove A (xs (i + 1)) (xs (i + 1 + 1))).1) (A' := (oMove A (xs (i + 1)) (xs (i + 1 + 1))).2) X J iL_10_ok (by decide +kernel) kS_moveSong kM_moveSong zL_S10 zL_M10 rfl rfl rfl rfl (by decide) (by decide) (by decide) hiL (fun h I => t_S_moveSong (d := 2) (x := xs (i + 1)) (y := xs (i + 1 + 1)) V.1 I) (fun h I => t_M_moveSong (d := 4) (x := xs (i + 1)) (y := xs (i + 1 + 1)) V.1 I) (Nat.le_of_ble_eq_true rfl) (Nat.le_of_ble_eq_true rfl) hl hW hS (fun H1 locs1 g1 g2 => next _ H1 locs1 (k_move V) g1 g2)
      · refine lv_tableIn (tgt := 471) hx hb dL_32 (by decide) (by decide) rfl (by decide) ?_
        exact Lcase (n := 0) (x := (oAdopt A).1) (A' := (oAdopt A).2) X J iL_11_ok (by decide +kernel) kS_adoptBest kM_adoptBest zL_S11 zL_M11 rfl rfl rfl rfl (by decide) (by decide) (by decide) hiL (fun h I => t_S_adoptBest (d := 0)  V.1 I) (fun h I => t_M_adoptBest (d := 0)  V.1 I) (Nat.le_of_ble_eq_true rfl) (Nat.le_of_ble_eq_true rfl) hl hW hS (fun H1 locs1 g1 g2 => next _ H1 locs1 (k_adopt V) g1 g2)
      · refine lv_tableIn (tgt := 484) hx hb dL_32 (by decide) (by decide) rfl (by decide) ?_
        exact Lcase (n := 0) (x := (oUndo A).1) (A' := (oUndo A).2) X J iL_12_ok (by decide +kernel) kS_undo kM_undo zL_S12 zL_M12 rfl rfl rfl rfl (by decide) (by decide) (by decide) hiL (fun h I => t_S_undo (d := 3)  V.1 I) (fun h I => t_M_undo (d := 6)  V.1 I) (Nat.le_of_ble_eq_true rfl) (Nat.le_of_ble_eq_true rfl) hl hW hS (fun H1 locs1 g1 g2 => next _ H1 locs1 (k_undo V) g1 g2)
      · refine lv_tableIn (tgt := 497) hx hb dL_32 (by decide) (by decide) rfl (by decide) ?_
        exact Lcase (n := 0) (x := (oCount A)) (A' := A) X J iL_13_ok (by decide +kernel) kS_songCount kM_songCount zL_S13 zL_M13 rfl rfl rfl rfl (by decide) (by decide) (by decide) hiL (fun h I => t_S_songCount (d := 6)  V.1 I) (fun h I => t_M_songCount (d := 6)  V.1 I) (Nat.le_of_ble_eq_true rfl) (Nat.le_of_ble_eq_true rfl) hl hW hS (fun H1 locs1 g1 g2 => next _ H1 locs1 (V) g1 g2)
      · refine lv_tableIn (tgt := 510) hx hb dL_32 (by decide) (by decide) rfl (by decide) ?_
        exact Lcase (n := 2) (x := (oKind A (xs (i + 1)) (xs (i + 1 + 1)))) (A' := A) X J iL_14_ok (by decide +kernel) kS_kindOf kM_kindOf zL_S14 zL_M14 rfl rfl rfl rfl (by decide) (by decide) (by decide) hiL (fun h I => t_S_kindOf (d := 5) (x := xs (i + 1)) (y := xs (i + 1 + 1)) V.1 I) (fun h I => t_M_kindOf (d := 3) (x := xs (i + 1)) (y := xs (i + 1 + 1)) V.1 I) (Nat.le_of_ble_eq_true rfl) (Nat.le_of_ble_eq_true rfl) hl hW hS (fun H1 locs1 g1 g2 => next _ H1 locs1 (V) g1 g2)
      · refine lv_tableIn (tgt := 543) hx hb dL_32 (by decide) (by decide) rfl (by decide) ?_
        exact Lcase (n := 2) (x := (oTun A (xs (i + 1)) (xs (i + 1 + 1)))) (A' := A) X J iL_15_ok (by decide +kernel) kS_tuningOf kM_tuningOf zL_S15 zL_M15 rfl rfl rfl rfl (by decide) (by decide) (by decide) hiL (fun h I => t_S_tuningOf (d := 4) (x := xs (i + 1)) (y := xs (i + 1 + 1)) V.1 I) (fun h I => t_M_tuningOf (d := 3) (x := xs (i + 1)) (y := xs (i + 1 + 1)) V.1 I) (Nat.le_of_ble_eq_true rfl) (Nat.le_of_ble_eq_true rfl) hl hW hS (fun H1 locs1 g1 g2 => next _ H1 locs1 (V) g1 g2)
      · refine lv_tableIn (tgt := 576) hx hb dL_32 (by decide) (by decide) rfl (by decide) ?_
        exact Lcase (n := 2) (x := (oSpare A (xs (i + 1)) (xs (i + 1 + 1)))) (A' := A) X J iL_16_ok (by decide +kernel) kS_spareUnits kM_spareUnits zL_S16 zL_M16 rfl rfl rfl rfl (by decide) (by decide) (by decide) hiL (fun h I => t_S_spareUnits (d := 5) (x := xs (i + 1)) (y := xs (i + 1 + 1)) V.1 I) (fun h I => t_M_spareUnits (d := 4) (x := xs (i + 1)) (y := xs (i + 1 + 1)) V.1 I) (Nat.le_of_ble_eq_true rfl) (Nat.le_of_ble_eq_true rfl) hl hW hS (fun H1 locs1 g1 g2 => next _ H1 locs1 (V) g1 g2)
      · refine lv_tableIn (tgt := 609) hx hb dL_32 (by decide) (by decide) rfl (by decide) ?_
        exact Lcase (n := 3) (x := (oChange A (xs (i + 1)) (xs (i + 1 + 1)) (xs (i + 1 + 1 + 1)))) (A' := A) X J iL_17_ok (by decide +kernel) kS_changeOf kM_changeOf zL_S17 zL_M17 rfl rfl rfl rfl (by decide) (by decide) (by decide) hiL (fun h I => t_S_changeOf (d := 4) (q := xs (i + 1)) (x := xs (i + 1 + 1)) (y := xs (i + 1 + 1 + 1)) V.1 I) (fun h I => t_M_changeOf (d := 3) (q := xs (i + 1)) (x := xs (i + 1 + 1)) (y := xs (i + 1 + 1 + 1)) V.1 I) (Nat.le_of_ble_eq_true rfl) (Nat.le_of_ble_eq_true rfl) hl hW hS (fun H1 locs1 g1 g2 => next _ H1 locs1 (V) g1 g2)
      · refine lv_tableIn (tgt := 652) hx hb dL_32 (by decide) (by decide) rfl (by decide) ?_
        exact Lcase (n := 3) (x := (oCost A (xs (i + 1)) (xs (i + 1 + 1)) (xs (i + 1 + 1 + 1)))) (A' := A) X J iL_18_ok (by decide +kernel) kS_changeCost kM_changeCost zL_S18 zL_M18 rfl rfl rfl rfl (by decide) (by decide) (by decide) hiL (fun h I => t_S_changeCost (d := 3) (q := xs (i + 1)) (x := xs (i + 1 + 1)) (y := xs (i + 1 + 1 + 1)) V.1 I) (fun h I => t_M_changeCost (d := 2) (q := xs (i + 1)) (x := xs (i + 1 + 1)) (y := xs (i + 1 + 1 + 1)) V.1 I) (Nat.le_of_ble_eq_true rfl) (Nat.le_of_ble_eq_true rfl) hl hW hS (fun H1 locs1 g1 g2 => next _ H1 locs1 (V) g1 g2)
      · refine lv_tableIn (tgt := 695) hx hb dL_32 (by decide) (by decide) rfl (by decide) ?_
        exact Lcase (n := 2) (x := (oOver A (xs (i + 1)) (xs (i + 1 + 1)))) (A' := A) X J iL_19_ok (by decide +kernel) kS_changeoverCost kM_changeoverCost zL_S19 zL_M19 rfl rfl rfl rfl (by decide) (by decide) (by decide) hiL (fun h I => t_S_changeoverCost (d := 2) (x := xs (i + 1)) (y := xs (i + 1 + 1)) V.1 I) (fun h I => t_M_changeoverCost (d := 1) (x := xs (i + 1)) (y := xs (i + 1 + 1)) V.1 I) (Nat.le_of_ble_eq_true rfl) (Nat.le_of_ble_eq_true rfl) hl hW hS (fun H1 locs1 g1 g2 => next _ H1 locs1 (V) g1 g2)
      · refine lv_tableIn (tgt := 728) hx hb dL_32 (by decide) (by decide) rfl (by decide) ?_
        exact Lcase (n := 1) (x := (oSongAt A (xs (i + 1)))) (A' := A) X J iL_20_ok (by decide +kernel) kS_songAt kM_songAt zL_S20 zL_M20 rfl rfl rfl rfl (by decide) (by decide) (by decide) hiL (fun h I => t_S_songAt (d := 5) (x := xs (i + 1)) V.1 I) (fun h I => t_M_songAt (d := 4) (x := xs (i + 1)) V.1 I) (Nat.le_of_ble_eq_true rfl) (Nat.le_of_ble_eq_true rfl) hl hW hS (fun H1 locs1 g1 g2 => next _ H1 locs1 (V) g1 g2)
      · refine lv_tableIn (tgt := 751) hx hb dL_32 (by decide) (by decide) rfl (by decide) ?_
        exact Lcase (n := 0) (x := (oOrder A)) (A' := A) X J iL_21_ok (by decide +kernel) kS_orderCost kM_orderCost zL_S21 zL_M21 rfl rfl rfl rfl (by decide) (by decide) (by decide) hiL (fun h I => t_S_orderCost (d := 1)  V.1 I) (fun h I => t_M_orderCost (d := 0)  V.1 I) (Nat.le_of_ble_eq_true rfl) (Nat.le_of_ble_eq_true rfl) hl hW hS (fun H1 locs1 g1 g2 => next _ H1 locs1 (V) g1 g2)
      · refine lv_tableIn (tgt := 764) hx hb dL_32 (by decide) (by decide) rfl (by decide) ?_
        exact Lcase (n := 0) (x := (oAllowed A)) (A' := A) X J iL_22_ok (by decide +kernel) kS_isAllowed kM_isAllowed zL_S22 zL_M22 rfl rfl rfl rfl (by decide) (by decide) (by decide) hiL (fun h I => t_S_isAllowed (d := 4)  V.1 I) (fun h I => t_M_isAllowed (d := 4)  V.1 I) (Nat.le_of_ble_eq_true rfl) (Nat.le_of_ble_eq_true rfl) hl hW hS (fun H1 locs1 g1 g2 => next _ H1 locs1 (V) g1 g2)
      · refine lv_tableIn (tgt := 777) hx hb dL_32 (by decide) (by decide) rfl (by decide) ?_
        exact Lcase (n := 0) (x := (oDear A)) (A' := A) X J iL_23_ok (by decide +kernel) kS_dearestChangeover kM_dearestChangeover zL_S23 zL_M23 rfl rfl rfl rfl (by decide) (by decide) (by decide) hiL (fun h I => t_S_dearestChangeover (d := 1)  V.1 I) (fun h I => t_M_dearestChangeover (d := 0)  V.1 I) (Nat.le_of_ble_eq_true rfl) (Nat.le_of_ble_eq_true rfl) hl hW hS (fun H1 locs1 g1 g2 => next _ H1 locs1 (V) g1 g2)
      · refine lv_tableIn (tgt := 790) hx hb dL_32 (by decide) (by decide) rfl (by decide) ?_
        exact Lcase (n := 0) (x := (oBest A)) (A' := A) X J iL_24_ok (by decide +kernel) kS_bestCost kM_bestCost zL_S24 zL_M24 rfl rfl rfl rfl (by decide) (by decide) (by decide) hiL (fun h I => t_S_bestCost (d := 0)  V.1 I) (fun h I => t_M_bestCost (d := 0)  V.1 I) (Nat.le_of_ble_eq_true rfl) (Nat.le_of_ble_eq_true rfl) hl hW hS (fun H1 locs1 g1 g2 => next _ H1 locs1 (V) g1 g2)
      · refine lv_tableIn (tgt := 803) hx hb dL_32 (by decide) (by decide) rfl (by decide) ?_
        exact Lcase (n := 1) (x := (oBestAt A (xs (i + 1)))) (A' := A) X J iL_25_ok (by decide +kernel) kS_bestSongAt kM_bestSongAt zL_S25 zL_M25 rfl rfl rfl rfl (by decide) (by decide) (by decide) hiL (fun h I => t_S_bestSongAt (d := 0) (x := xs (i + 1)) V.1 I) (fun h I => t_M_bestSongAt (d := 0) (x := xs (i + 1)) V.1 I) (Nat.le_of_ble_eq_true rfl) (Nat.le_of_ble_eq_true rfl) hl hW hS (fun H1 locs1 g1 g2 => next _ H1 locs1 (V) g1 g2)
      · refine lv_tableIn (tgt := 826) hx hb dL_32 (by decide) (by decide) rfl (by decide) ?_
        exact Lcase (n := 1) (x := (oBestFrom A (xs (i + 1)))) (A' := A) X J iL_26_ok (by decide +kernel) kS_bestCostFrom kM_bestCostFrom zL_S26 zL_M26 rfl rfl rfl rfl (by decide) (by decide) (by decide) hiL (fun h I => t_S_bestCostFrom (d := 0) (x := xs (i + 1)) V.1 I) (fun h I => t_M_bestCostFrom (d := 0) (x := xs (i + 1)) V.1 I) (Nat.le_of_ble_eq_true rfl) (Nat.le_of_ble_eq_true rfl) hl hW hS (fun H1 locs1 g1 g2 => next _ H1 locs1 (V) g1 g2)
      · refine lv_tableIn (tgt := 849) hx hb dL_32 (by decide) (by decide) rfl (by decide) ?_
        exact Lcase (n := 0) (x := (oBestN A)) (A' := A) X J iL_27_ok (by decide +kernel) kS_bestOrderCount kM_bestOrderCount zL_S27 zL_M27 rfl rfl rfl rfl (by decide) (by decide) (by decide) hiL (fun h I => t_S_bestOrderCount (d := 0)  V.1 I) (fun h I => t_M_bestOrderCount (d := 0)  V.1 I) (Nat.le_of_ble_eq_true rfl) (Nat.le_of_ble_eq_true rfl) hl hW hS (fun H1 locs1 g1 g2 => next _ H1 locs1 (V) g1 g2)
      · refine lv_tableIn (tgt := 862) hx hb dL_32 (by decide) (by decide) rfl (by decide) ?_
        exact Lcase (n := 1) (x := (oSave A (xs (i + 1)))) (A' := A) X J iL_28_ok (by decide +kernel) kS_savingByUnit kM_savingByUnit zL_S28 zL_M28 rfl rfl rfl rfl (by decide) (by decide) (by decide) hiL (fun h I => t_S_savingByUnit (d := 0) (x := xs (i + 1)) V.1 V.2.1 I) (fun h I => t_M_savingByUnit (d := 0) (x := xs (i + 1)) V.1 I) (Nat.le_of_ble_eq_true rfl) (Nat.le_of_ble_eq_true rfl) hl hW hS (fun H1 locs1 g1 g2 => next _ H1 locs1 (V) g1 g2)
      · refine lv_tableIn (tgt := 885) hx hb dL_32 (by decide) (by decide) rfl (by decide) ?_
        exact Lcase (n := 1) (x := (oWithin A (xs (i + 1)))) (A' := A) X J iL_29_ok (by decide +kernel) kS_encoresWithin kM_encoresWithin zL_S29 zL_M29 rfl rfl rfl rfl (by decide) (by decide) (by decide) hiL (fun h I => t_S_encoresWithin (d := 5) (x := xs (i + 1)) V.1 I) (fun h I => t_M_encoresWithin (d := 5) (x := xs (i + 1)) V.1 I) (Nat.le_of_ble_eq_true rfl) (Nat.le_of_ble_eq_true rfl) hl hW hS (fun H1 locs1 g1 g2 => next _ H1 locs1 (V) g1 g2)
      · refine lv_tableOut (tgt := 908) hx hb dL_32 (Or.inr (by decide)) (by decide) ?_
        exact next A H locs V hW hS
      · refine lv_tableOut (tgt := 908) hx hb dL_32 (Or.inr (by decide)) (by decide) ?_
        exact next A H locs V hW hS
