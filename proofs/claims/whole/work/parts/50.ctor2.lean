theorem pmd : parseMethodDescriptor "()V" = some ⟨[], none⟩ := by decide +kernel
theorem goodI {w0 : Cond} (h : w0 ∈ gT) : GoodIn gT (w0 :: gT) := by
  intro w hw
  rcases List.mem_cons.mp hw with e | e
  · rw [e]; exact ⟨h, good_of_word (gT_gd h)⟩
  · exact ⟨e, good_of_word (gT_gd e)⟩
set_option maxHeartbeats 1000000 in
/-- new, dup, the constructor, a nest mate's -/
theorem i_mkN {p : Program} {l : Launch} {e : Env} {R : Room} {s : State} {m : MethodId} {args : Array Value} {below : List Frame} {meth : Method} {c : Code} {H H0 : Heap} {locs : List Loc} {cells slots : Nat} {Q : State → Prop} {cc : ByteArray} {pc : Nat} {ls : Array Slot} {D : va_G} {ty : Nat → ClassId} {A : Nat → Prop} {nl : Nat} {own : String} {S : Type} {cj idx ix nL mc ms : Nat} {bytes : ByteArray} {rm : Room} {N : State → Prop} {post : Nat → S → Prop} {wd : S → va_W} {fs : List Value} {ws : va_W} {rest : List Value}
    (hx : p.tables.exec = Jvm.exec) (hb : c.code = cc) (hml : c.maxLocals = nl) (hown : s.vm.findClass own = some m.cls) (hts : ∀ w ∈ gT, w.before args s = true) (hK : va_K D CLS (tyL ty) s) (hcj : cj < 6) (hM : ∀ h0 sz, Met l (yI cj) (.code (yI cj) bytes nL none :: gT) rm (PcI D ty cj h0 fs sz N) (QcI D ty h0 sz (post h0) wd) mc ms (AI h0 sz))
    (hP : va_P D CLS ws H) (hD : va_D A ws) (hS : va_S A H0 H locs) (hA : ∀ q, H0.size ≤ q → A q) (hcl : Cond.classLink own idx (cnm cj) ∈ gT) (hinst : Cond.instantiable (cnm cj) (kN cj) ∈ gT) (hini : Cond.initialized (cnm cj) ∈ gT) (him : Cond.instanceMethod (yI cj) ∈ gT) (hcd : Cond.code (yI cj) bytes nL none ∈ gT) (hnl : va_Nw (.methodLinkNest own ix (yI cj) RX4) s)
    (hfs : ∀ j, j < kN cj → defaultValue (kF cj j) = vp_V fs j) (hNb : ∀ (U : State) (g : JFrame) (mk : MethodId) (a : Array Value), N U → N (U.calling g mk a)) (hNw : ∀ U : State, s.WarmedH U.vm → N U) (hrc : rm.cells = mc) (hrs : rm.slots = ms) (hfr : rm.frames + 1 ≤ R.frames) (hlo : 8 + (nL + 11) + rm.locals ≤ R.locals) (hcells : cells + 1 + mc ≤ R.cells) (hslots : slots + kN cj + ms ≤ R.slots) (hsz : ls.size = nl) (hroom : (rest.map fun v => v.category).sum ≤ 7) (d1 : decode cc pc = .ok (.new idx, 3)) (d2 : decode cc (pc + 3) = .ok (.dup, 1)) (d3 : decode cc (pc + 4) = .ok (.invokespecial ix, 3))
    (kk : ∀ (u : S) (q : Nat) (H1 : Heap) (locs1 : List Loc), post q u → va_P D CLS (ws ++ wd u) H1 → va_D A (ws ++ wd u) → va_S A H0 H1 locs1 → W p l e R s m args below meth c H1 locs1 (cells + 1 + mc) (slots + kN cj + ms) Q (F0 m (pc + 7) ls (.ref q :: rest))) : W p l e R s m args below meth c H locs cells slots Q (F0 m pc ls rest) := by
  refine va_new (ci := cj) (fs := fs) (C := cnm cj) (T := kT cj) (N := kN cj) hx hb hts (uws_in cj hcj) (kF cj) (kF_ok cj hcj) hown (hts _ hcl) (hts _ hinst) (hts _ hini) hK hP hD hS hA (cls_at cj hcj) hfs (by omega) (by omega) d1 (fun q H hP hD hS => ?_)
  refine lv_dup hx hb d2 rfl ?_
  have hPc := (va_Pl hP).2
  have hDc := (va_Dl hD).2.1
  have hFc : ∀ x, AI q H.size x → A x := by
    rintro x (rfl | h9)
    · exact hDc.2 0 _ rfl
    · exact hA x (Nat.le_trans hS.1 h9)
  obtain ⟨p1, p2, p3⟩ := pn cj (by omega)
  refine va_callv (A1 := AI q H.size) (va_runIN (As := []) (rest := .ref q :: rest) ⟨hx, hb, hml, hown, hts⟩ (hM q H.size) ⟨⟨⟨hrc, hrs, hfr, hlo, pay_in hts (goodI hcd), List.mem_cons_self⟩, hts _ hcd, hts _ hini, ⟨p2, p3⟩, fun sig h9 => by rw [show parseMethodDescriptor (yI cj).desc = some ⟨[], none⟩ from pmd] at h9; cases h9; rfl, va_Nw.use rfl hnl⟩, rfl, hts _ him⟩ ⟨fun a U g mk z => ?_, fun U hU hW => ⟨rfl, by rw [hU], by rw [hU]; exact hPc, va_K.moved hW.alike hK, hDc.weaken (fun _ _ _ _ => trivial), hNw U hW⟩⟩ rfl rfl hsz rfl ?_ d3 ⟨by omega, by omega⟩) hS (fun x _ h => hFc x h) hFc (fun u t H1 locs ht hvm hw hB hz1 hk1 hS => ?_)
  · obtain ⟨q0, q1, qP, qK, qD, qN⟩ := z
    exact ⟨q0, q1, qP, va_K.moved (u := U) (U := U.calling g mk a) (Vm.Alike.refl U.vm) qK, qD, hNb U g mk a qN⟩
  · show 2 * 0 + (1 + (rest.map fun v => v.category).sum) ≤ 8
    omega
  · obtain ⟨hP1, hK1, hD1⟩ := hB
    rw [ht] at hP1
    obtain ⟨g1, g2⟩ := joinI hP hD hk1 hFc hP1 hD1
    exact kk u q H1 locs hw g1 g2 hS
set_option maxHeartbeats 1000000 in
/-- new, dup, the constructor -/
theorem i_mkI {p : Program} {l : Launch} {e : Env} {R : Room} {s : State} {m : MethodId} {args : Array Value} {below : List Frame} {meth : Method} {c : Code} {H H0 : Heap} {locs : List Loc} {cells slots : Nat} {Q : State → Prop} {cc : ByteArray} {pc : Nat} {ls : Array Slot} {D : va_G} {ty : Nat → ClassId} {A : Nat → Prop} {nl : Nat} {own : String} {S : Type} {cj idx ix nL mc ms : Nat} {bytes : ByteArray} {rm : Room} {N : State → Prop} {post : Nat → S → Prop} {wd : S → va_W} {fs : List Value} {ws : va_W} {rest : List Value}
    (hx : p.tables.exec = Jvm.exec) (hb : c.code = cc) (hml : c.maxLocals = nl) (hown : s.vm.findClass own = some m.cls) (hts : ∀ w ∈ gT, w.before args s = true) (hK : va_K D CLS (tyL ty) s) (hcj : cj < 6) (hM : ∀ h0 sz, Met l (yI cj) (.code (yI cj) bytes nL none :: gT) rm (PcI D ty cj h0 fs sz N) (QcI D ty h0 sz (post h0) wd) mc ms (AI h0 sz))
    (hP : va_P D CLS ws H) (hD : va_D A ws) (hS : va_S A H0 H locs) (hA : ∀ q, H0.size ≤ q → A q) (hcl : Cond.classLink own idx (cnm cj) ∈ gT) (hinst : Cond.instantiable (cnm cj) (kN cj) ∈ gT) (hini : Cond.initialized (cnm cj) ∈ gT) (him : Cond.instanceMethod (yI cj) ∈ gT) (hcd : Cond.code (yI cj) bytes nL none ∈ gT) (hnl : Cond.methodLink own ix (yI cj) ∈ gT)
    (hfs : ∀ j, j < kN cj → defaultValue (kF cj j) = vp_V fs j) (hNb : ∀ (U : State) (g : JFrame) (mk : MethodId) (a : Array Value), N U → N (U.calling g mk a)) (hNw : ∀ U : State, s.WarmedH U.vm → N U) (hrc : rm.cells = mc) (hrs : rm.slots = ms) (hfr : rm.frames + 1 ≤ R.frames) (hlo : 8 + (nL + 11) + rm.locals ≤ R.locals) (hcells : cells + 1 + mc ≤ R.cells) (hslots : slots + kN cj + ms ≤ R.slots) (hsz : ls.size = nl) (hroom : (rest.map fun v => v.category).sum ≤ 7) (d1 : decode cc pc = .ok (.new idx, 3)) (d2 : decode cc (pc + 3) = .ok (.dup, 1)) (d3 : decode cc (pc + 4) = .ok (.invokespecial ix, 3))
    (kk : ∀ (u : S) (q : Nat) (H1 : Heap) (locs1 : List Loc), post q u → va_P D CLS (ws ++ wd u) H1 → va_D A (ws ++ wd u) → va_S A H0 H1 locs1 → W p l e R s m args below meth c H1 locs1 (cells + 1 + mc) (slots + kN cj + ms) Q (F0 m (pc + 7) ls (.ref q :: rest))) : W p l e R s m args below meth c H locs cells slots Q (F0 m pc ls rest) := by
  refine va_new (ci := cj) (fs := fs) (C := cnm cj) (T := kT cj) (N := kN cj) hx hb hts (uws_in cj hcj) (kF cj) (kF_ok cj hcj) hown (hts _ hcl) (hts _ hinst) (hts _ hini) hK hP hD hS hA (cls_at cj hcj) hfs (by omega) (by omega) d1 (fun q H hP hD hS => ?_)
  refine lv_dup hx hb d2 rfl ?_
  have hPc := (va_Pl hP).2
  have hDc := (va_Dl hD).2.1
  have hFc : ∀ x, AI q H.size x → A x := by
    rintro x (rfl | h9)
    · exact hDc.2 0 _ rfl
    · exact hA x (Nat.le_trans hS.1 h9)
  obtain ⟨p1, p2, p3⟩ := pn cj (by omega)
  refine va_callv (A1 := AI q H.size) (va_runI (As := []) (rest := .ref q :: rest) ⟨hx, hb, hml, hown, hts⟩ (hM q H.size) ⟨⟨hrc, hrs, hfr, hlo, pay_in hts (goodI hcd), List.mem_cons_self, hts _ hcd, hts _ hini, ⟨p2, p3⟩, fun sig h9 => by rw [show parseMethodDescriptor (yI cj).desc = some ⟨[], none⟩ from pmd] at h9; cases h9; rfl, hts _ hnl⟩, rfl, hts _ him⟩ ⟨fun a U g mk z => ?_, fun U hU hW => ⟨rfl, by rw [hU], by rw [hU]; exact hPc, va_K.moved hW.alike hK, hDc.weaken (fun _ _ _ _ => trivial), hNw U hW⟩⟩ rfl rfl hsz rfl ?_ d3 ⟨by omega, by omega⟩) hS (fun x _ h => hFc x h) hFc (fun u t H1 locs ht hvm hw hB hz1 hk1 hS => ?_)
  · obtain ⟨q0, q1, qP, qK, qD, qN⟩ := z
    exact ⟨q0, q1, qP, va_K.moved (u := U) (U := U.calling g mk a) (Vm.Alike.refl U.vm) qK, qD, hNb U g mk a qN⟩
  · show 2 * 0 + (1 + (rest.map fun v => v.category).sum) ≤ 8
    omega
  · obtain ⟨hP1, hK1, hD1⟩ := hB
    rw [ht] at hP1
    obtain ⟨g1, g2⟩ := joinI hP hD hk1 hFc hP1 hD1
    exact kk u q H1 locs hw g1 g2 hS
theorem wq_76 : Cond.instantiable (cnm 0) (kN 0) ∈ gT := gT_in (i := 76) (by decide +kernel) rfl
theorem wq_34 : Cond.initialized (cnm 0) ∈ gT := gT_in (i := 34) (by decide +kernel) rfl
theorem wq_78 : Cond.instanceMethod (yI 0) ∈ gT := gT_in (i := 78) (by decide +kernel) rfl
theorem wq_79 : Cond.code (yI 0) prog_2_method_1_code 1 none ∈ gT := gT_in (i := 79) (by decide +kernel) rfl
theorem wq_54 : Cond.instantiable (cnm 1) (kN 1) ∈ gT := gT_in (i := 54) (by decide +kernel) rfl
theorem wq_33 : Cond.initialized (cnm 1) ∈ gT := gT_in (i := 33) (by decide +kernel) rfl
theorem wq_56 : Cond.instanceMethod (yI 1) ∈ gT := gT_in (i := 56) (by decide +kernel) rfl
theorem wq_57 : Cond.code (yI 1) prog_3_method_1_code 1 none ∈ gT := gT_in (i := 57) (by decide +kernel) rfl
theorem wq_125 : Cond.instantiable (cnm 2) (kN 2) ∈ gT := gT_in (i := 125) (by decide +kernel) rfl
theorem wq_35 : Cond.initialized (cnm 2) ∈ gT := gT_in (i := 35) (by decide +kernel) rfl
theorem wq_127 : Cond.instanceMethod (yI 2) ∈ gT := gT_in (i := 127) (by decide +kernel) rfl
theorem wq_128 : Cond.code (yI 2) prog_4_method_1_code 2 none ∈ gT := gT_in (i := 128) (by decide +kernel) rfl
theorem wq_145 : Cond.instantiable (cnm 3) (kN 3) ∈ gT := gT_in (i := 145) (by decide +kernel) rfl
theorem wq_36 : Cond.initialized (cnm 3) ∈ gT := gT_in (i := 36) (by decide +kernel) rfl
theorem wq_147 : Cond.instanceMethod (yI 3) ∈ gT := gT_in (i := 147) (by decide +kernel) rfl
theorem wq_148 : Cond.code (yI 3) prog_5_method_1_code 1 none ∈ gT := gT_in (i := 148) (by decide +kernel) rfl
theorem wq_46 : Cond.instantiable (cnm 4) (kN 4) ∈ gT := gT_in (i := 46) (by decide +kernel) rfl
theorem wq_32 : Cond.initialized (cnm 4) ∈ gT := gT_in (i := 32) (by decide +kernel) rfl
theorem wq_48 : Cond.instanceMethod (yI 4) ∈ gT := gT_in (i := 48) (by decide +kernel) rfl
theorem wq_49 : Cond.code (yI 4) prog_1_method_1_code 2 none ∈ gT := gT_in (i := 49) (by decide +kernel) rfl
theorem wq_600 : Cond.instantiable (cnm 5) (kN 5) ∈ gT := gT_in (i := 600) (by decide +kernel) rfl
theorem wq_42 : Cond.initialized (cnm 5) ∈ gT := gT_in (i := 42) (by decide +kernel) rfl
theorem wq_602 : Cond.instanceMethod (yI 5) ∈ gT := gT_in (i := 602) (by decide +kernel) rfl
theorem wq_603 : Cond.code (yI 5) prog_7_method_1_code 1 none ∈ gT := gT_in (i := 603) (by decide +kernel) rfl
def NH (U : State) : Prop := va_AO RX0 U ∧ va_Nw (.methodLinkNest (cnm 2) 24 (yI 0) RX4) U
theorem NH.b {U : State} {g : JFrame} {mk : MethodId} {a : Array Value} (h : NH U) : NH (U.calling g mk a) := ⟨va_AO.moved (u := U) (U := U.calling g mk a) (Vm.Alike.refl U.vm) h.1, va_Nw.same rfl rfl h.2⟩
theorem NH.w {s U : State} (h : NH s) (hW : s.WarmedH U.vm) : NH U := ⟨va_AO.moved hW.alike h.1, va_Nw.warmM hW h.2⟩
def ccH : List (Nat × Nat) := [(7, 13), (7, 14)] ++ (cc9 2 ++ (cc9 3 ++ (cc9 4 ++ (cc9 5 ++ cc9 6))))
theorem arrV_eq {cA : ClassId} {n : Nat} {f g : Nat → Value} (h : ∀ i, i < n → f i = g i) : arrV cA n f = arrV cA n g := by
  unfold arrV
  congr 2
  funext j
  exact h j.val j.isLt
theorem def0 : ∀ j, j < kN 0 → defaultValue (kF 0 j) = vp_V [.int 0, .int 0, .int 0, .int 0, .null, .null, .null, .null, .null, .null, .null, .null] j := by
  intro j hj
  have hj : j < 12 := hj
  rcases (show j = 0 ∨ j = 1 ∨ j = 2 ∨ j = 3 ∨ j = 4 ∨ j = 5 ∨ j = 6 ∨ j = 7 ∨ j = 8 ∨ j = 9 ∨ j = 10 ∨ j = 11 by omega) with rfl | rfl | rfl | rfl | rfl | rfl | rfl | rfl | rfl | rfl | rfl | rfl <;> rfl
theorem dI2_0 : decode prog_4_method_1_code 0 = .ok (.aload_n 0, 1) := by decide +kernel
theorem dI2_1 : decode prog_4_method_1_code 1 = .ok (.invokespecial 3, 3) := by decide +kernel
theorem dI2_4 : decode prog_4_method_1_code 4 = .ok (.aload_n 0, 1) := by decide +kernel
theorem dI2_5 : decode prog_4_method_1_code 5 = .ok (.iconst 5, 1) := by decide +kernel
theorem dI2_6 : decode prog_4_method_1_code 6 = .ok (.anewarray 9, 3) := by decide +kernel
theorem dI2_9 : decode prog_4_method_1_code 9 = .ok (.putfield 11, 3) := by decide +kernel
theorem dI2_12 : decode prog_4_method_1_code 12 = .ok (.aload_n 0, 1) := by decide +kernel
theorem dI2_13 : decode prog_4_method_1_code 13 = .ok (.iconst 0, 1) := by decide +kernel
theorem dI2_14 : decode prog_4_method_1_code 14 = .ok (.putfield 17, 3) := by decide +kernel
theorem dI2_17 : decode prog_4_method_1_code 17 = .ok (.aload_n 0, 1) := by decide +kernel
theorem dI2_18 : decode prog_4_method_1_code 18 = .ok (.iconst 0, 1) := by decide +kernel
theorem dI2_19 : decode prog_4_method_1_code 19 = .ok (.putfield 21, 3) := by decide +kernel
theorem dI2_22 : decode prog_4_method_1_code 22 = .ok (.iconst 0, 1) := by decide +kernel
theorem dI2_23 : decode prog_4_method_1_code 23 = .ok (.istore_n 1, 1) := by decide +kernel
theorem dI2_24 : decode prog_4_method_1_code 24 = .ok (.iload_n 1, 1) := by decide +kernel
theorem dI2_25 : decode prog_4_method_1_code 25 = .ok (.iconst 5, 1) := by decide +kernel
theorem dI2_26 : decode prog_4_method_1_code 26 = .ok (.if_icmp .ge 22, 3) := by decide +kernel
theorem dI2_29 : decode prog_4_method_1_code 29 = .ok (.aload_n 0, 1) := by decide +kernel
theorem dI2_30 : decode prog_4_method_1_code 30 = .ok (.getfield 11, 3) := by decide +kernel
theorem dI2_33 : decode prog_4_method_1_code 33 = .ok (.iload_n 1, 1) := by decide +kernel
theorem dI2_34 : decode prog_4_method_1_code 34 = .ok (.new 9, 3) := by decide +kernel
theorem dI2_37 : decode prog_4_method_1_code 37 = .ok (.dup, 1) := by decide +kernel
theorem dI2_38 : decode prog_4_method_1_code 38 = .ok (.invokespecial 24, 3) := by decide +kernel
theorem dI2_41 : decode prog_4_method_1_code 41 = .ok (.aastore, 1) := by decide +kernel
theorem dI2_42 : decode prog_4_method_1_code 42 = .ok (.iinc 1 1, 3) := by decide +kernel
theorem dI2_45 : decode prog_4_method_1_code 45 = .ok (.goto (-21), 3) := by decide +kernel
theorem dI2_48 : decode prog_4_method_1_code 48 = .ok (.return_, 1) := by decide +kernel
theorem wq_133 : Cond.fieldLink (cnm 2) 11 (cnm 2) (kT 2 0).2.1 (kT 2 0).2.2.1 ∈ gT := gT_in (i := 133) (by decide +kernel) rfl
theorem wq_134 : Cond.fieldLink (cnm 2) 17 (cnm 2) (kT 2 1).2.1 (kT 2 1).2.2.1 ∈ gT := gT_in (i := 134) (by decide +kernel) rfl
theorem wq_135 : Cond.fieldLink (cnm 2) 21 (cnm 2) (kT 2 2).2.1 (kT 2 2).2.2.1 ∈ gT := gT_in (i := 135) (by decide +kernel) rfl
theorem wq_129 : Cond.methodLink (cnm 2) 3 objectInit ∈ gT := gT_in (i := 129) (by decide +kernel) rfl
theorem wq_130 : Cond.classLink (cnm 2) 9 (cnm 0) ∈ gT := gT_in (i := 130) (by decide +kernel) rfl
set_option maxHeartbeats 4000000 in
set_option maxRecDepth 100000 in
theorem c_init2 (l : Launch) (D : va_G) (ty : Nat → ClassId) (h0 sz : Nat) : Met l (yI 2) (.code (yI 2) prog_4_method_1_code 2 none :: gT) { frames := 2, cells := 46, slots := 670, locals := 40 } (PcI D ty 2 h0 [.null, .int 0, .int 0] sz NH) (QcI (S := Nat → Nat → Nat) D ty h0 sz (fun ad : Nat → Nat → Nat => ad 7 13 = h0) (fun ad => wl ad ty ccH hz)) 46 670 (AI h0 sz) := by
  refine Met.ofW (cc := prog_4_method_1_code) (maxL := 2) (ret := none) (ws' := gT) (pn 2 (by decide)).1 rfl ?_
  intro p e s m args below meth c s₁ B hml hv
  obtain ⟨rfl, hsz, hP, hK, hD0, hN⟩ := hv
  have hts0 := atoms_spec (ws := .code (yI 2) prog_4_method_1_code 2 none :: gT) B.pre
  have hown : s.vm.findClass (cnm 2) = some m.cls := findClass_of_methodNamed B.named
  have hin : meth.name = "<init>" := (name_of_methodNamed B.named B.method).1
  have hx := B.exec
  have hb := B.bytes
  have hr := B.returns
  have hlocks := B.notSynchronized
  have hts : ∀ w ∈ gT, w.before ([Value.ref h0] : List Value).toArray s = true := fun w h9 => hts0 w (List.mem_cons_of_mem _ h9)
  have X : IX p s m ([Value.ref h0] : List Value).toArray meth c D ty 2 prog_4_method_1_code 2 := ⟨hx, hb, hr, hml, hown, hts, hlocks, hK, hin⟩
  subst hsz
  have hD := D_one (sz := s.heap.size) hD0
  have hS : va_S (AI h0 s.heap.size) s.heap s.heap [] := va_S.rf
  have hA : ∀ q, s.heap.size ≤ q → AI h0 s.heap.size q := fun q h => Or.inr h
  have hP : va_P D CLS [(h0, .inr (2, [.null, .int 0, .int 0]))] s.heap := hP
  have hl := lv_entry ([.ref h0]) (n := 2) (Nat.le_of_ble_eq_true rfl)
  rw [lg_entry_eq]
  generalize (lg_sl ([.ref h0]) ++ List.replicate (2 - (lg_sl ([.ref h0])).length) Slot.unset).toArray = ls at hl ⊢
  have hl : lv_has ls 2 [(0, .ref h0)] := hl
  refine lv_aload_n hx hb dI2_0 rfl (lv_at hl 0 rfl) ?_
  refine W.objInit hx hb hown (hts _ wq_129) (hts _ wq_51) (hts _ wq_obj) rfl (by rw [hml]; exact hl.1) rfl dI2_1 (Nat.le_of_ble_eq_true rfl) (Nat.le_of_ble_eq_true rfl) ?_
  refine W.eq (g2 := F0 m 4 ls []) rfl ?_
  refine lv_aload_n hx hb dI2_4 rfl (lv_at hl 0 rfl) ?_
  refine lv_iconst (v := nI 5) hx hb dI2_5 (by decide) ?_
  refine va_newq (N' := 5) (C := cnm 0) hx hb hown (hts _ wq_130) hN.1 hK hP hD hS hA (by decide) (by decide) (Nat.le_of_ble_eq_true rfl) (Nat.le_of_ble_eq_true rfl) (Nat.le_of_ble_eq_true rfl) dI2_6 (fun qa cA H k1 hP hD hS => ?_)
  rw [ty_one (t := 3) k1 rfl] at hP hD
  refine i_putF (q0 := 0) (k := 0) X (by decide) (fty := .int) hP hD hS rfl (by decide) (Nat.le_of_ble_eq_true rfl) wq_133 rfl rfl rfl rfl dI2_9 (fun H locs hP hD hS => ?_)
  have hP : va_P D CLS ([(h0, .inr (2, [.ref qa, .int 0, .int 0])), (qa, .inl (ty 3, 5, .inr (.inr (.inr (.inr (fun _ => none))))))]) H := hP
  have hD : va_D (AI h0 s.heap.size) ([(h0, .inr (2, [.ref qa, .int 0, .int 0])), (qa, .inl (ty 3, 5, .inr (.inr (.inr (.inr (fun _ => none))))))]) := hD
  refine lv_aload_n hx hb dI2_12 rfl (lv_at hl 0 rfl) ?_
  refine lv_iconst (v := nI 0) hx hb dI2_13 (by decide) ?_
  refine i_putI (q0 := 0) (k := 1) X (by decide) hP hD hS rfl (by decide) (Nat.le_of_ble_eq_true rfl) wq_134 rfl rfl rfl rfl dI2_14 (fun H locs hP hD hS => ?_)
  have hP : va_P D CLS ([(h0, .inr (2, [.ref qa, .int 0, .int 0])), (qa, .inl (ty 3, 5, .inr (.inr (.inr (.inr (fun _ => none))))))]) H := hP
  have hD : va_D (AI h0 s.heap.size) ([(h0, .inr (2, [.ref qa, .int 0, .int 0])), (qa, .inl (ty 3, 5, .inr (.inr (.inr (.inr (fun _ => none))))))]) := hD
  refine lv_aload_n hx hb dI2_17 rfl (lv_at hl 0 rfl) ?_
  refine lv_iconst (v := nI 0) hx hb dI2_18 (by decide) ?_
  refine i_putI (q0 := 0) (k := 2) X (by decide) hP hD hS rfl (by decide) (Nat.le_of_ble_eq_true rfl) wq_135 rfl rfl rfl rfl dI2_19 (fun H locs hP hD hS => ?_)
  have hP : va_P D CLS ([(h0, .inr (2, [.ref qa, .int 0, .int 0])), (qa, .inl (ty 3, 5, .inr (.inr (.inr (.inr (fun _ => none))))))]) H := hP
  have hD : va_D (AI h0 s.heap.size) ([(h0, .inr (2, [.ref qa, .int 0, .int 0])), (qa, .inl (ty 3, 5, .inr (.inr (.inr (.inr (fun _ => none))))))]) := hD
  refine lv_iconst (v := nI 0) hx hb dI2_22 (by decide) ?_
  refine lv_istore_n (lv' := [(1, .int (nI 0)), (0, .ref h0)]) hx hb dI2_23 rfl hl (by decide) rfl (fun ls hl => ?_)
  refine lv_iload_n hx hb dI2_24 rfl (lv_at hl 0 rfl) ?_
  refine lv_iconst (v := nI 5) hx hb dI2_25 (by decide) ?_
  refine lv_icmp_ge (tgt := 48) hx hb dI2_26 (by decide) (fun c9 => absurd c9 (by decide)) (fun _ => ?_)
  refine lv_aload_n hx hb dI2_29 rfl (lv_at hl 1 rfl) ?_
  refine va_get (q0 := 0) (ci := 2) (k := 0) hx hb hts (uws_in 2 (by decide)) hown hK hP rfl (cls_at 2 (by decide)) (by decide) (hts _ wq_133) (fun x h => h) rfl dI2_30 ?_
  refine lv_iload_n hx hb dI2_33 rfl (lv_at hl 0 rfl) ?_
  refine i_mkN (wd := fun a => wl (fun _ => a) ty (cc9 2) hz) (rest := [.int (nI 0), .ref qa]) hx hb hml hown hts hK (cj := 0) (by decide) (fun a b => c_init0 l D ty 2 a b) hP hD hS hA wq_130 wq_76 wq_34 wq_78 wq_79 hN.2 def0 (fun _ _ _ _ h => h) (fun _ _ => trivial) rfl rfl (Nat.le_of_ble_eq_true rfl) (Nat.le_of_ble_eq_true rfl) (Nat.le_of_ble_eq_true rfl) (Nat.le_of_ble_eq_true rfl) hl.1 (Nat.le_of_ble_eq_true rfl) dI2_34 dI2_37 dI2_38 (fun b0 q0 H locs hb0 hP hD hS => ?_)
  have hP : va_P D CLS ([(h0, .inr (2, [.ref qa, .int 0, .int 0])), (qa, .inl (ty 3, 5, .inr (.inr (.inr (.inr (fun _ => none))))))] ++ wl (fun _ => b0) ty (cc9 2) hz) H := hP
  have hD : va_D (AI h0 s.heap.size) ([(h0, .inr (2, [.ref qa, .int 0, .int 0])), (qa, .inl (ty 3, 5, .inr (.inr (.inr (.inr (fun _ => none))))))] ++ wl (fun _ => b0) ty (cc9 2) hz) := hD
  rw [← hb0]
  refine va_astq (q0 := 1) (t0 := 3) (qk := 2) (ci := 0) (r := (cnm 0, kT 0, kN 0)) hx hb hK hP hD hS rfl rfl rfl rfl (vp_in_nI (by decide) (by decide)) dI2_41 (fun H locs hP hD hS => ?_)
  have hP : va_P D CLS ([(h0, .inr (2, [.ref qa, .int 0, .int 0])), (qa, .inl (ty 3, 5, .inr (.inr (.inr (.inr (va_up (fun _ => none) (nI 0).toNatClampNeg (some (b0 0))))))))] ++ wl (fun _ => b0) ty (cc9 2) hz) H := hP
  have hD : va_D (AI h0 s.heap.size) ([(h0, .inr (2, [.ref qa, .int 0, .int 0])), (qa, .inl (ty 3, 5, .inr (.inr (.inr (.inr (va_up (fun _ => none) (nI 0).toNatClampNeg (some (b0 0))))))))] ++ wl (fun _ => b0) ty (cc9 2) hz) := hD
  refine lv_iinc (v := nI 1) (lv' := [(1, .int (nI 1)), (0, .ref h0)]) hx hb dI2_42 hl (k := 0) rfl (by decide) (by decide) rfl (fun ls hl => ?_)
  refine lv_goto (tgt := 24) hx hb dI2_45 (by decide) ?_
  refine lv_iload_n hx hb dI2_24 rfl (lv_at hl 0 rfl) ?_
  refine lv_iconst (v := nI 5) hx hb dI2_25 (by decide) ?_
  refine lv_icmp_ge (tgt := 48) hx hb dI2_26 (by decide) (fun c9 => absurd c9 (by decide)) (fun _ => ?_)
  refine lv_aload_n hx hb dI2_29 rfl (lv_at hl 1 rfl) ?_
  refine va_get (q0 := 0) (ci := 2) (k := 0) hx hb hts (uws_in 2 (by decide)) hown hK hP rfl (cls_at 2 (by decide)) (by decide) (hts _ wq_133) (fun x h => h) rfl dI2_30 ?_
  refine lv_iload_n hx hb dI2_33 rfl (lv_at hl 0 rfl) ?_
  refine i_mkN (wd := fun a => wl (fun _ => a) ty (cc9 3) hz) (rest := [.int (nI 1), .ref qa]) hx hb hml hown hts hK (cj := 0) (by decide) (fun a b => c_init0 l D ty 3 a b) hP hD hS hA wq_130 wq_76 wq_34 wq_78 wq_79 hN.2 def0 (fun _ _ _ _ h => h) (fun _ _ => trivial) rfl rfl (Nat.le_of_ble_eq_true rfl) (Nat.le_of_ble_eq_true rfl) (Nat.le_of_ble_eq_true rfl) (Nat.le_of_ble_eq_true rfl) hl.1 (Nat.le_of_ble_eq_true rfl) dI2_34 dI2_37 dI2_38 (fun b1 q1 H locs hb1 hP hD hS => ?_)
  have hP : va_P D CLS ([(h0, .inr (2, [.ref qa, .int 0, .int 0])), (qa, .inl (ty 3, 5, .inr (.inr (.inr (.inr (va_up (fun _ => none) (nI 0).toNatClampNeg (some (b0 0))))))))] ++ wl (fun _ => b0) ty (cc9 2) hz ++ wl (fun _ => b1) ty (cc9 3) hz) H := hP
  have hD : va_D (AI h0 s.heap.size) ([(h0, .inr (2, [.ref qa, .int 0, .int 0])), (qa, .inl (ty 3, 5, .inr (.inr (.inr (.inr (va_up (fun _ => none) (nI 0).toNatClampNeg (some (b0 0))))))))] ++ wl (fun _ => b0) ty (cc9 2) hz ++ wl (fun _ => b1) ty (cc9 3) hz) := hD
  rw [← hb1]
  refine va_astq (q0 := 1) (t0 := 3) (qk := 11) (ci := 0) (r := (cnm 0, kT 0, kN 0)) hx hb hK hP hD hS rfl rfl rfl rfl (vp_in_nI (by decide) (by decide)) dI2_41 (fun H locs hP hD hS => ?_)
  have hP : va_P D CLS ([(h0, .inr (2, [.ref qa, .int 0, .int 0])), (qa, .inl (ty 3, 5, .inr (.inr (.inr (.inr (va_up (va_up (fun _ => none) (nI 0).toNatClampNeg (some (b0 0))) (nI 1).toNatClampNeg (some (b1 0))))))))] ++ wl (fun _ => b0) ty (cc9 2) hz ++ wl (fun _ => b1) ty (cc9 3) hz) H := hP
  have hD : va_D (AI h0 s.heap.size) ([(h0, .inr (2, [.ref qa, .int 0, .int 0])), (qa, .inl (ty 3, 5, .inr (.inr (.inr (.inr (va_up (va_up (fun _ => none) (nI 0).toNatClampNeg (some (b0 0))) (nI 1).toNatClampNeg (some (b1 0))))))))] ++ wl (fun _ => b0) ty (cc9 2) hz ++ wl (fun _ => b1) ty (cc9 3) hz) := hD
  refine lv_iinc (v := nI 2) (lv' := [(1, .int (nI 2)), (0, .ref h0)]) hx hb dI2_42 hl (k := 0) rfl (by decide) (by decide) rfl (fun ls hl => ?_)
  refine lv_goto (tgt := 24) hx hb dI2_45 (by decide) ?_
  refine lv_iload_n hx hb dI2_24 rfl (lv_at hl 0 rfl) ?_
  refine lv_iconst (v := nI 5) hx hb dI2_25 (by decide) ?_
  refine lv_icmp_ge (tgt := 48) hx hb dI2_26 (by decide) (fun c9 => absurd c9 (by decide)) (fun _ => ?_)
  refine lv_aload_n hx hb dI2_29 rfl (lv_at hl 1 rfl) ?_
  refine va_get (q0 := 0) (ci := 2) (k := 0) hx hb hts (uws_in 2 (by decide)) hown hK hP rfl (cls_at 2 (by decide)) (by decide) (hts _ wq_133) (fun x h => h) rfl dI2_30 ?_
  refine lv_iload_n hx hb dI2_33 rfl (lv_at hl 0 rfl) ?_
  refine i_mkN (wd := fun a => wl (fun _ => a) ty (cc9 4) hz) (rest := [.int (nI 2), .ref qa]) hx hb hml hown hts hK (cj := 0) (by decide) (fun a b => c_init0 l D ty 4 a b) hP hD hS hA wq_130 wq_76 wq_34 wq_78 wq_79 hN.2 def0 (fun _ _ _ _ h => h) (fun _ _ => trivial) rfl rfl (Nat.le_of_ble_eq_true rfl) (Nat.le_of_ble_eq_true rfl) (Nat.le_of_ble_eq_true rfl) (Nat.le_of_ble_eq_true rfl) hl.1 (Nat.le_of_ble_eq_true rfl) dI2_34 dI2_37 dI2_38 (fun b2 q2 H locs hb2 hP hD hS => ?_)
  have hP : va_P D CLS ([(h0, .inr (2, [.ref qa, .int 0, .int 0])), (qa, .inl (ty 3, 5, .inr (.inr (.inr (.inr (va_up (va_up (fun _ => none) (nI 0).toNatClampNeg (some (b0 0))) (nI 1).toNatClampNeg (some (b1 0))))))))] ++ wl (fun _ => b0) ty (cc9 2) hz ++ wl (fun _ => b1) ty (cc9 3) hz ++ wl (fun _ => b2) ty (cc9 4) hz) H := hP
  have hD : va_D (AI h0 s.heap.size) ([(h0, .inr (2, [.ref qa, .int 0, .int 0])), (qa, .inl (ty 3, 5, .inr (.inr (.inr (.inr (va_up (va_up (fun _ => none) (nI 0).toNatClampNeg (some (b0 0))) (nI 1).toNatClampNeg (some (b1 0))))))))] ++ wl (fun _ => b0) ty (cc9 2) hz ++ wl (fun _ => b1) ty (cc9 3) hz ++ wl (fun _ => b2) ty (cc9 4) hz) := hD
  rw [← hb2]
  refine va_astq (q0 := 1) (t0 := 3) (qk := 20) (ci := 0) (r := (cnm 0, kT 0, kN 0)) hx hb hK hP hD hS rfl rfl rfl rfl (vp_in_nI (by decide) (by decide)) dI2_41 (fun H locs hP hD hS => ?_)
  have hP : va_P D CLS ([(h0, .inr (2, [.ref qa, .int 0, .int 0])), (qa, .inl (ty 3, 5, .inr (.inr (.inr (.inr (va_up (va_up (va_up (fun _ => none) (nI 0).toNatClampNeg (some (b0 0))) (nI 1).toNatClampNeg (some (b1 0))) (nI 2).toNatClampNeg (some (b2 0))))))))] ++ wl (fun _ => b0) ty (cc9 2) hz ++ wl (fun _ => b1) ty (cc9 3) hz ++ wl (fun _ => b2) ty (cc9 4) hz) H := hP
  have hD : va_D (AI h0 s.heap.size) ([(h0, .inr (2, [.ref qa, .int 0, .int 0])), (qa, .inl (ty 3, 5, .inr (.inr (.inr (.inr (va_up (va_up (va_up (fun _ => none) (nI 0).toNatClampNeg (some (b0 0))) (nI 1).toNatClampNeg (some (b1 0))) (nI 2).toNatClampNeg (some (b2 0))))))))] ++ wl (fun _ => b0) ty (cc9 2) hz ++ wl (fun _ => b1) ty (cc9 3) hz ++ wl (fun _ => b2) ty (cc9 4) hz) := hD
  refine lv_iinc (v := nI 3) (lv' := [(1, .int (nI 3)), (0, .ref h0)]) hx hb dI2_42 hl (k := 0) rfl (by decide) (by decide) rfl (fun ls hl => ?_)
  refine lv_goto (tgt := 24) hx hb dI2_45 (by decide) ?_
  refine lv_iload_n hx hb dI2_24 rfl (lv_at hl 0 rfl) ?_
  refine lv_iconst (v := nI 5) hx hb dI2_25 (by decide) ?_
  refine lv_icmp_ge (tgt := 48) hx hb dI2_26 (by decide) (fun c9 => absurd c9 (by decide)) (fun _ => ?_)
  refine lv_aload_n hx hb dI2_29 rfl (lv_at hl 1 rfl) ?_
  refine va_get (q0 := 0) (ci := 2) (k := 0) hx hb hts (uws_in 2 (by decide)) hown hK hP rfl (cls_at 2 (by decide)) (by decide) (hts _ wq_133) (fun x h => h) rfl dI2_30 ?_
  refine lv_iload_n hx hb dI2_33 rfl (lv_at hl 0 rfl) ?_
  refine i_mkN (wd := fun a => wl (fun _ => a) ty (cc9 5) hz) (rest := [.int (nI 3), .ref qa]) hx hb hml hown hts hK (cj := 0) (by decide) (fun a b => c_init0 l D ty 5 a b) hP hD hS hA wq_130 wq_76 wq_34 wq_78 wq_79 hN.2 def0 (fun _ _ _ _ h => h) (fun _ _ => trivial) rfl rfl (Nat.le_of_ble_eq_true rfl) (Nat.le_of_ble_eq_true rfl) (Nat.le_of_ble_eq_true rfl) (Nat.le_of_ble_eq_true rfl) hl.1 (Nat.le_of_ble_eq_true rfl) dI2_34 dI2_37 dI2_38 (fun b3 q3 H locs hb3 hP hD hS => ?_)
  have hP : va_P D CLS ([(h0, .inr (2, [.ref qa, .int 0, .int 0])), (qa, .inl (ty 3, 5, .inr (.inr (.inr (.inr (va_up (va_up (va_up (fun _ => none) (nI 0).toNatClampNeg (some (b0 0))) (nI 1).toNatClampNeg (some (b1 0))) (nI 2).toNatClampNeg (some (b2 0))))))))] ++ wl (fun _ => b0) ty (cc9 2) hz ++ wl (fun _ => b1) ty (cc9 3) hz ++ wl (fun _ => b2) ty (cc9 4) hz ++ wl (fun _ => b3) ty (cc9 5) hz) H := hP
  have hD : va_D (AI h0 s.heap.size) ([(h0, .inr (2, [.ref qa, .int 0, .int 0])), (qa, .inl (ty 3, 5, .inr (.inr (.inr (.inr (va_up (va_up (va_up (fun _ => none) (nI 0).toNatClampNeg (some (b0 0))) (nI 1).toNatClampNeg (some (b1 0))) (nI 2).toNatClampNeg (some (b2 0))))))))] ++ wl (fun _ => b0) ty (cc9 2) hz ++ wl (fun _ => b1) ty (cc9 3) hz ++ wl (fun _ => b2) ty (cc9 4) hz ++ wl (fun _ => b3) ty (cc9 5) hz) := hD
  rw [← hb3]
  refine va_astq (q0 := 1) (t0 := 3) (qk := 29) (ci := 0) (r := (cnm 0, kT 0, kN 0)) hx hb hK hP hD hS rfl rfl rfl rfl (vp_in_nI (by decide) (by decide)) dI2_41 (fun H locs hP hD hS => ?_)
  have hP : va_P D CLS ([(h0, .inr (2, [.ref qa, .int 0, .int 0])), (qa, .inl (ty 3, 5, .inr (.inr (.inr (.inr (va_up (va_up (va_up (va_up (fun _ => none) (nI 0).toNatClampNeg (some (b0 0))) (nI 1).toNatClampNeg (some (b1 0))) (nI 2).toNatClampNeg (some (b2 0))) (nI 3).toNatClampNeg (some (b3 0))))))))] ++ wl (fun _ => b0) ty (cc9 2) hz ++ wl (fun _ => b1) ty (cc9 3) hz ++ wl (fun _ => b2) ty (cc9 4) hz ++ wl (fun _ => b3) ty (cc9 5) hz) H := hP
  have hD : va_D (AI h0 s.heap.size) ([(h0, .inr (2, [.ref qa, .int 0, .int 0])), (qa, .inl (ty 3, 5, .inr (.inr (.inr (.inr (va_up (va_up (va_up (va_up (fun _ => none) (nI 0).toNatClampNeg (some (b0 0))) (nI 1).toNatClampNeg (some (b1 0))) (nI 2).toNatClampNeg (some (b2 0))) (nI 3).toNatClampNeg (some (b3 0))))))))] ++ wl (fun _ => b0) ty (cc9 2) hz ++ wl (fun _ => b1) ty (cc9 3) hz ++ wl (fun _ => b2) ty (cc9 4) hz ++ wl (fun _ => b3) ty (cc9 5) hz) := hD
  refine lv_iinc (v := nI 4) (lv' := [(1, .int (nI 4)), (0, .ref h0)]) hx hb dI2_42 hl (k := 0) rfl (by decide) (by decide) rfl (fun ls hl => ?_)
  refine lv_goto (tgt := 24) hx hb dI2_45 (by decide) ?_
  refine lv_iload_n hx hb dI2_24 rfl (lv_at hl 0 rfl) ?_
  refine lv_iconst (v := nI 5) hx hb dI2_25 (by decide) ?_
  refine lv_icmp_ge (tgt := 48) hx hb dI2_26 (by decide) (fun c9 => absurd c9 (by decide)) (fun _ => ?_)
  refine lv_aload_n hx hb dI2_29 rfl (lv_at hl 1 rfl) ?_
  refine va_get (q0 := 0) (ci := 2) (k := 0) hx hb hts (uws_in 2 (by decide)) hown hK hP rfl (cls_at 2 (by decide)) (by decide) (hts _ wq_133) (fun x h => h) rfl dI2_30 ?_
  refine lv_iload_n hx hb dI2_33 rfl (lv_at hl 0 rfl) ?_
  refine i_mkN (wd := fun a => wl (fun _ => a) ty (cc9 6) hz) (rest := [.int (nI 4), .ref qa]) hx hb hml hown hts hK (cj := 0) (by decide) (fun a b => c_init0 l D ty 6 a b) hP hD hS hA wq_130 wq_76 wq_34 wq_78 wq_79 hN.2 def0 (fun _ _ _ _ h => h) (fun _ _ => trivial) rfl rfl (Nat.le_of_ble_eq_true rfl) (Nat.le_of_ble_eq_true rfl) (Nat.le_of_ble_eq_true rfl) (Nat.le_of_ble_eq_true rfl) hl.1 (Nat.le_of_ble_eq_true rfl) dI2_34 dI2_37 dI2_38 (fun b4 q4 H locs hb4 hP hD hS => ?_)
  have hP : va_P D CLS ([(h0, .inr (2, [.ref qa, .int 0, .int 0])), (qa, .inl (ty 3, 5, .inr (.inr (.inr (.inr (va_up (va_up (va_up (va_up (fun _ => none) (nI 0).toNatClampNeg (some (b0 0))) (nI 1).toNatClampNeg (some (b1 0))) (nI 2).toNatClampNeg (some (b2 0))) (nI 3).toNatClampNeg (some (b3 0))))))))] ++ wl (fun _ => b0) ty (cc9 2) hz ++ wl (fun _ => b1) ty (cc9 3) hz ++ wl (fun _ => b2) ty (cc9 4) hz ++ wl (fun _ => b3) ty (cc9 5) hz ++ wl (fun _ => b4) ty (cc9 6) hz) H := hP
  have hD : va_D (AI h0 s.heap.size) ([(h0, .inr (2, [.ref qa, .int 0, .int 0])), (qa, .inl (ty 3, 5, .inr (.inr (.inr (.inr (va_up (va_up (va_up (va_up (fun _ => none) (nI 0).toNatClampNeg (some (b0 0))) (nI 1).toNatClampNeg (some (b1 0))) (nI 2).toNatClampNeg (some (b2 0))) (nI 3).toNatClampNeg (some (b3 0))))))))] ++ wl (fun _ => b0) ty (cc9 2) hz ++ wl (fun _ => b1) ty (cc9 3) hz ++ wl (fun _ => b2) ty (cc9 4) hz ++ wl (fun _ => b3) ty (cc9 5) hz ++ wl (fun _ => b4) ty (cc9 6) hz) := hD
  rw [← hb4]
  refine va_astq (q0 := 1) (t0 := 3) (qk := 38) (ci := 0) (r := (cnm 0, kT 0, kN 0)) hx hb hK hP hD hS rfl rfl rfl rfl (vp_in_nI (by decide) (by decide)) dI2_41 (fun H locs hP hD hS => ?_)
  have hP : va_P D CLS ([(h0, .inr (2, [.ref qa, .int 0, .int 0])), (qa, .inl (ty 3, 5, .inr (.inr (.inr (.inr (va_up (va_up (va_up (va_up (va_up (fun _ => none) (nI 0).toNatClampNeg (some (b0 0))) (nI 1).toNatClampNeg (some (b1 0))) (nI 2).toNatClampNeg (some (b2 0))) (nI 3).toNatClampNeg (some (b3 0))) (nI 4).toNatClampNeg (some (b4 0))))))))] ++ wl (fun _ => b0) ty (cc9 2) hz ++ wl (fun _ => b1) ty (cc9 3) hz ++ wl (fun _ => b2) ty (cc9 4) hz ++ wl (fun _ => b3) ty (cc9 5) hz ++ wl (fun _ => b4) ty (cc9 6) hz) H := hP
  have hD : va_D (AI h0 s.heap.size) ([(h0, .inr (2, [.ref qa, .int 0, .int 0])), (qa, .inl (ty 3, 5, .inr (.inr (.inr (.inr (va_up (va_up (va_up (va_up (va_up (fun _ => none) (nI 0).toNatClampNeg (some (b0 0))) (nI 1).toNatClampNeg (some (b1 0))) (nI 2).toNatClampNeg (some (b2 0))) (nI 3).toNatClampNeg (some (b3 0))) (nI 4).toNatClampNeg (some (b4 0))))))))] ++ wl (fun _ => b0) ty (cc9 2) hz ++ wl (fun _ => b1) ty (cc9 3) hz ++ wl (fun _ => b2) ty (cc9 4) hz ++ wl (fun _ => b3) ty (cc9 5) hz ++ wl (fun _ => b4) ty (cc9 6) hz) := hD
  refine lv_iinc (v := nI 5) (lv' := [(1, .int (nI 5)), (0, .ref h0)]) hx hb dI2_42 hl (k := 0) rfl (by decide) (by decide) rfl (fun ls hl => ?_)
  refine lv_goto (tgt := 24) hx hb dI2_45 (by decide) ?_
  refine lv_iload_n hx hb dI2_24 rfl (lv_at hl 0 rfl) ?_
  refine lv_iconst (v := nI 5) hx hb dI2_25 (by decide) ?_
  refine lv_icmp_ge (tgt := 48) hx hb dI2_26 (by decide) (fun _ => ?_) (fun c9 => absurd (by decide) c9)
  refine W.widen (k := 46) (n := 670) (by decide) (by decide) ?_
  have eH : va_P D CLS (wl (fun g j => match g, j with
    | 7, 13 => h0
    | 7, _ => qa
    | 2, j => b0 j
    | 3, j => b1 j
    | 4, j => b2 j
    | 5, j => b3 j
    | _, j => b4 j) ty ccH hz) H := by
    intro k q hk
    cases k with
    | zero => exact hP 0 q hk
    | succ k =>
      cases k with
      | zero =>
        cases hk
        have h9 := hP 1 _ rfl
        show H[qa]? = some (vp_cell (ty 3) (5, .inr (.inr (.inr (.inr _)))))
        rw [show H[qa]? = some (vp_cell (ty 3) (5, .inr (.inr (.inr (.inr (va_up (va_up (va_up (va_up (va_up (fun _ => none) (nI 0).toNatClampNeg (some (b0 0))) (nI 1).toNatClampNeg (some (b1 0))) (nI 2).toNatClampNeg (some (b2 0))) (nI 3).toNatClampNeg (some (b3 0))) (nI 4).toNatClampNeg (some (b4 0)))))))) from h9, vp_cell_q, vp_cell_q, arrV_eq]
        intro i hi
        rcases (show i = 0 ∨ i = 1 ∨ i = 2 ∨ i = 3 ∨ i = 4 by omega) with rfl | rfl | rfl | rfl | rfl <;> rfl
      | succ k => exact hP (k + 2) q hk
  have eD : va_D (AI h0 s.heap.size) (wl (fun g j => match g, j with
    | 7, 13 => h0
    | 7, _ => qa
    | 2, j => b0 j
    | 3, j => b1 j
    | 4, j => b2 j
    | 5, j => b3 j
    | _, j => b4 j) ty ccH hz) := by
    have key : ∀ (k : Nat) (q : Nat × va_E), (wl (fun g j => match g, j with
    | 7, 13 => h0
    | 7, _ => qa
    | 2, j => b0 j
    | 3, j => b1 j
    | 4, j => b2 j
    | 5, j => b3 j
    | _, j => b4 j) ty ccH hz)[k]? = some q → ∃ e, ([(h0, .inr (2, [.ref qa, .int 0, .int 0])), (qa, .inl (ty 3, 5, .inr (.inr (.inr (.inr (va_up (va_up (va_up (va_up (va_up (fun _ => none) (nI 0).toNatClampNeg (some (b0 0))) (nI 1).toNatClampNeg (some (b1 0))) (nI 2).toNatClampNeg (some (b2 0))) (nI 3).toNatClampNeg (some (b3 0))) (nI 4).toNatClampNeg (some (b4 0))))))))] ++ wl (fun _ => b0) ty (cc9 2) hz ++ wl (fun _ => b1) ty (cc9 3) hz ++ wl (fun _ => b2) ty (cc9 4) hz ++ wl (fun _ => b3) ty (cc9 5) hz ++ wl (fun _ => b4) ty (cc9 6) hz)[k]? = some (q.1, e) := by
      intro k q hk
      cases k with
      | zero => exact ⟨_, hk⟩
      | succ k =>
        cases k with
        | zero => cases hk; exact ⟨_, rfl⟩
        | succ k => exact ⟨_, hk⟩
    refine ⟨fun i j p q hi hj e => ?_, fun k q hk => ?_⟩
    · obtain ⟨e1, h1⟩ := key i p hi
      obtain ⟨e2, h2⟩ := key j q hj
      exact hD.1 i j _ _ h1 h2 e
    · obtain ⟨e1, h1⟩ := key k q hk
      exact hD.2 k (q.1, e1) h1
  exact W.vret hx hb hr (fun t ht hW => ⟨⟨_, rfl, rfl, by rw [ht]; exact eH, va_K.moved hW.alike hK, eD⟩, hS.F ht⟩) hS.2.2 dI2_48 hlocks
