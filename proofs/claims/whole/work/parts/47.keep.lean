/-! WHAT EVERY CALL KEEPS -/
def WY (z : ST) : Prop := WX z ∧ WK z
def VK (A : AS) : Prop := VA A ∧ WK A.1 ∧ ∀ z ∈ A.2.1, WK z
theorem VK.ed {A : AS} {z : ST} (V : VK A) (X : WX z) (K : WK z) : VK (ed A z) := by
  refine ⟨ed_VA V.1 X, K, fun w hw => ?_⟩
  have := List.mem_of_mem_take hw
  rcases List.mem_cons.mp this with e | e
  · rw [e]; exact V.2.1
  · exact V.2.2 w e
theorem VK.txt {A : AS} {ch : Nat → Nat} {len : Nat} (V : VK A) : VK (A.1, A.2.1, ch, len) := ⟨V.1, V.2⟩
theorem sel1_K {x : Int32} {n : Nat} {f : Nat → Int32 × AS} {e : Int32 × AS} (h1 : ∀ a, a < n → VK (f a).2) (h2 : VK e.2) (hn : n < 2147483648) : VK (sel1 x n f e).2 := by
  cases hx : inb x n with
  | false => rw [sel1_f hx]; exact h2
  | true =>
    obtain ⟨a, ha, rfl⟩ := inb_ex hn hx
    rw [sel1_t ha hn]
    exact h1 a ha
theorem WK.up {s : Nat → Int32} {n p k i : Nat} {v : Int32} (K : WK (s, n, p, k)) (h6 : k ≤ 6) (hi : i < 33 ∨ 39 ≤ i) : WK (upd s i v, n, p, k) := by
  intro c hc u hu h
  have hc : c < k := hc
  have hu : upd s i v (33 + c) = nI u := hu
  rw [up_ne (by omega)] at hu
  exact K c hc u hu h
theorem WO.up {s : Nat → Int32} {n i : Nat} {v : Int32} (O : WO s n) (h8 : n ≤ 8) (hi : i < 10 ∨ 26 ≤ i) : WO (upd s i v) n := by
  refine ⟨fun a ha => ?_, fun j hj => ?_, fun a b ha hb e => ?_⟩
  · rw [up_ne (by omega)]; exact O.1 a ha
  · rw [up_ne (by omega)]; exact O.2.1 j hj
  · rw [up_ne (by omega), up_ne (by omega)] at e; exact O.2.2 a b ha hb e
theorem WU.up {s : Nat → Int32} {n i : Nat} {v : Int32} (U : WU s n) (h8 : n ≤ 8) (hi : i < 10 ∨ 18 ≤ i) : WU (upd s i v) n := by
  intro a b ha hb e h
  rw [up_ne (by omega), up_ne (by omega)] at e
  rw [up_ne (by omega)] at h
  exact U a b ha hb e h
theorem k_append {A : AS} {x : Int32} (V : VK A) : VK (oAppend A x).2 := by
  unfold oAppend
  refine sel1_K (fun c hc => ?_) V (by decide)
  split
  · exact V
  · split
    · exact V
    · exact V.txt
theorem k_clear {A : AS} (V : VK A) : VK (oClear A).2 := V.txt
theorem k_first {A : AS} (V : VK A) : VK (oFirst A).2 := V
theorem k_undo {A : AS} (V : VK A) : VK (oUndo A).2 := by
  obtain ⟨z, kp, ch, len⟩ := A
  cases kp with
  | nil => exact V
  | cons z0 kp =>
    refine ⟨⟨V.1.2.1 z0 List.mem_cons_self, fun w hw => V.1.2.1 w (List.mem_cons_of_mem _ hw), ?_⟩, V.2.2 z0 List.mem_cons_self, fun w hw => V.2.2 w (List.mem_cons_of_mem _ hw)⟩
    have : kp.length + 1 ≤ 5 := V.1.2.2
    show kp.length ≤ 5
    omega
/-! reading -/
theorem apl_WK {c : Nat} {ns : List Nat} {z z' : ST} (D : DW z) (K : WK z) (h : apl c ns z = some z') : WK z' := by
  obtain ⟨s, n, p, k⟩ := z
  have h6 : k ≤ 6 := D.1.2.1.2.2
  have h8 : n ≤ 8 := D.1.2.1.1
  have h5 : p ≤ 5 := D.1.2.1.2.1
  unfold apl at h
  split at h
  · dsimp only at h
    split at h
    · split at h
      · rename_i q; cases h; exact (K.up h6 (by omega)).up h6 (by omega)
      · cases h
    · split at h
      · split at h
        · rename_i q; cases h; exact (K.up h6 (by omega)).up h6 (by omega)
        · cases h
      · split at h
        · split at h
          · cases h; exact K.up h6 (by omega)
          · cases h
        · cases h
  · rename_i u v
    dsimp only at h
    split at h
    · rename_i q
      cases h
      intro c hc w hw hwl
      have hc : c < k + 1 := hc
      have hw : upd (upd (upd s (33 + k) (nI u)) (39 + k) (nI v)) 32 (nI (k + 1)) (33 + c) = nI w := hw
      rw [up_ne (by omega), up_ne (by omega)] at hw
      by_cases e : c = k
      · rw [e, up_same] at hw
        have := (nI_eq (by omega) hwl).mp hw
        omega
      · rw [up_ne (by omega)] at hw
        exact K c (show c < k by omega) w hw hwl
    · cases h
  · dsimp only at h
    split at h
    · cases h; exact (K.up h6 (by omega)).up h6 (by omega)
    · cases h
  · cases h
theorem pC_DK {ch : Nat → Nat} {len : Nat} : ∀ m i a z, DW z → WK z → DW (pC ch len m i a z).2 ∧ WK (pC ch len m i a z).2 := by
  intro m
  induction m with
  | zero => intro i a z D K; exact ⟨D, K⟩
  | succ m ih =>
    intro i a z D K
    by_cases e : ch i = 59
    · cases hs : stC ch a i z with
      | none => rw [pC_b e hs]; exact ⟨D, K⟩
      | some z' =>
        rw [pC_g e hs]
        refine ih _ _ z' (stC_DW D hs) ?_
        unfold stC at hs
        split at hs
        · cases hs
        · exact apl_WK D K hs
    · rw [pC_n e]; exact ih _ _ z D K
theorem rd_DK (ch : Nat → Nat) (len : Nat) : DW (rd ch len).2 ∧ WK (rd ch len).2 := pC_DK len 0 0 z0 z0_DW (fun c hc => absurd hc (Nat.not_lt_zero _))
theorem DW_WX {z : ST} (D : DW z) (h1 : 0 < z.2.1) (h2 : 0 < z.2.2.1) (h3 : 0 < z.2.2.2) : WX z := by
  have h8 := D.1.2.1.1
  refine ⟨D.1, ⟨⟨fun a ha => Or.inl (D.2.1.1 a ha), fun j hj => ⟨j, hj, D.2.1.2 j (by omega)⟩, fun i j hi hj e => ?_⟩, fun a b ha hb _ h => absurd (D.2.1.1 a (by omega)) h⟩, h1, h2, h3⟩
  rw [D.2.1.2 i (by omega), D.2.1.2 j (by omega)] at e
  exact (nI_eq (by omega) (by omega)).mp e
theorem k_conf {A : AS} (V : VK A) : VK (oConf A).2 := by
  unfold oConf
  split
  · rename_i q
    exact ⟨⟨DW_WX (rd_DK _ _).1 q.2.1 q.2.2.1 q.2.2.2, fun w hw => (by cases hw), Nat.zero_le _⟩, (rd_DK _ _).2, fun w hw => (by cases hw)⟩
  · exact V
/-! editing -/
theorem k_setPart {A : AS} {x y w t : Int32} (V : VK A) : VK (oSetPart A x y w t).2 := by
  obtain ⟨⟨s, n, p, k⟩, kp, ch, len⟩ := A
  have F : WF s n p k := V.1.1.1
  have h8 := F.2.1.1
  have h5 := F.2.1.2.1
  have h6 := F.2.1.2.2
  unfold oSetPart
  dsimp only
  refine sel1_K (fun a ha => ?_) V (by omega)
  refine sel1_K (fun b hb => ?_) V (by omega)
  refine sel1_K (fun c hc => ?_) V (by omega)
  refine sel1_K (fun e he => ?_) V (by omega)
  split
  · rename_i q
    obtain ⟨u, hu, hu6⟩ := F.2.2.2.2.1 c hc
    rw [hu, nI_cl (by omega)] at q
    exact V.ed ⟨wf_part F ha hb hc (by omega) hu hu6 q, ⟨(V.1.1.2.1.1.up h8 (by omega)).up h8 (by omega), (V.1.1.2.1.2.up h8 (by omega)).up h8 (by omega)⟩, V.1.1.2.2⟩ ((V.2.1.up h6 (by omega)).up h6 (by omega))
  · exact V
theorem k_remove {A : AS} {x y : Int32} (V : VK A) : VK (oRemove A x y).2 := by
  obtain ⟨⟨s, n, p, k⟩, kp, ch, len⟩ := A
  have F : WF s n p k := V.1.1.1
  have h8 := F.2.1.1
  have h5 := F.2.1.2.1
  have h6 := F.2.1.2.2
  unfold oRemove
  dsimp only
  refine sel1_K (fun a ha => ?_) V (by omega)
  refine sel1_K (fun b hb => ?_) V (by omega)
  split
  · exact V
  · exact V.ed ⟨wf_unpart F, ⟨V.1.1.2.1.1.up h8 (by omega), V.1.1.2.1.2.up h8 (by omega)⟩, V.1.1.2.2⟩ (V.2.1.up h6 (by omega))
theorem cn_mx {s : Nat → Int32} {y : Int32} {p a : Nat} : ∀ n, a < n → cn s a y p ≤ mx s y p n := by
  intro n
  induction n with
  | zero => intro h; omega
  | succ n ih =>
    intro h
    show cn s a y p ≤ (if mx s y p n < cn s n y p then cn s n y p else mx s y p n)
    by_cases e : a = n
    · rw [e]; split <;> omega
    · have := ih (by omega)
      split <;> omega
theorem k_units {A : AS} {x y : Int32} (V : VK A) : VK (oUnits A x y).2 := by
  obtain ⟨⟨s, n, p, k⟩, kp, ch, len⟩ := A
  have F : WF s n p k := V.1.1.1
  have h8 := F.2.1.1
  have h6 := F.2.1.2.2
  unfold oUnits
  dsimp only
  refine sel1_K (fun c hc => ?_) V (by omega)
  refine sel1_K (fun u hu => ?_) V (by omega)
  split
  · exact V
  · split
    · exact V
    · rename_i q1 q2
      refine V.ed ⟨wf_unit F hc (by omega) (fun a ha => ?_), ⟨V.1.1.2.1.1.up h8 (by omega), V.1.1.2.1.2.up h8 (by omega)⟩, V.1.1.2.2⟩ ?_
      · have h9 : cn s a (nI c) p ≤ mx s (nI c) p n := cn_mx n ha
        show cn s a (nI c) p ≤ u
        omega
      · intro c2 hc2 w hw hwl
        have hc2 : c2 < k := hc2
        have hw : upd s (33 + c) (nI u) (33 + c2) = nI w := hw
        by_cases e : c2 = c
        · rw [e, up_same] at hw
          have := (nI_eq (by omega) hwl).mp hw
          omega
        · rw [up_ne (by omega)] at hw
          exact V.2.1 c2 hc2 w hw hwl
theorem pbo_no {s : Nat → Int32} {a b : Nat} {y : Int32} : ∀ n, pbo s a y n = false → b < n → ¬ b = a → ¬ s (10 + b) = y := by
  intro n
  induction n with
  | zero => intro _ h; omega
  | succ n ih =>
    intro h hb hne e
    have h2 : (pbo s a y n || (!(decide (n = a)) && decide (s (10 + n) = y))) = false := h
    rw [Bool.or_eq_false_iff] at h2
    by_cases q : b = n
    · rw [← q, decide_eq_false hne, decide_eq_true e] at h2
      cases h2.2
    · exact ih h2.1 (by omega) hne e
theorem WOp {s : Nat → Int32} {n a : Nat} {v : Int32} (O : WO s n) (h8 : n ≤ 8) (ha : a < 8) (hv : v = -1 ∨ ∃ q, q < n ∧ v = nI q) : WO (upd s (10 + a) v) n := by
  refine ⟨fun b hb => ?_, fun j hj => ?_, fun i j hi hj e => ?_⟩
  · by_cases q : b = a
    · rw [q, up_same]; exact hv
    · rw [up_ne (by omega)]; exact O.1 b hb
  · rw [up_ne (by omega)]; exact O.2.1 j hj
  · rw [up_ne (by omega), up_ne (by omega)] at e; exact O.2.2 i j hi hj e
theorem k_pin {A : AS} {x y : Int32} (V : VK A) : VK (oPin A x y).2 := by
  obtain ⟨⟨s, n, p, k⟩, kp, ch, len⟩ := A
  have F : WF s n p k := V.1.1.1
  have h8 := F.2.1.1
  have h6 := F.2.1.2.2
  unfold oPin
  dsimp only
  refine sel1_K (fun a ha => ?_) V (by omega)
  refine sel1_K (fun j hj => ?_) V (by omega)
  split
  · exact V
  · rename_i q
    have hno : ∀ b, b < n → ¬ b = a → ¬ s (10 + b) = nI j := fun b hb hne => pbo_no n (bool_f q) hb hne
    refine V.ed ⟨wf_low F (by omega), ⟨WOp V.1.1.2.1.1 h8 (by omega) (Or.inr ⟨j, hj, rfl⟩), fun b c hb hc e h => ?_⟩, V.1.1.2.2⟩ (V.2.1.up h6 (by omega))
    have hb : b < n := hb
    have hc : c < n := hc
    have e : upd s (10 + a) (nI j) (10 + b) = upd s (10 + a) (nI j) (10 + c) := e
    have h : ¬ upd s (10 + a) (nI j) (10 + b) = -1 := h
    by_cases q1 : b = a
    · by_cases q2 : c = a
      · omega
      · rw [q1, up_same, up_ne (by omega)] at e
        exact absurd e.symm (hno c hc q2)
    · rw [up_ne (by omega)] at e h
      by_cases q2 : c = a
      · rw [q2, up_same] at e
        exact absurd e (hno b hb q1)
      · rw [up_ne (by omega)] at e
        exact V.1.1.2.1.2 b c hb hc e h
theorem k_unpin {A : AS} {x : Int32} (V : VK A) : VK (oUnpin A x).2 := by
  obtain ⟨⟨s, n, p, k⟩, kp, ch, len⟩ := A
  have F : WF s n p k := V.1.1.1
  have h8 := F.2.1.1
  have h6 := F.2.1.2.2
  unfold oUnpin
  dsimp only
  refine sel1_K (fun a ha => ?_) V (by omega)
  split
  · exact V
  · refine V.ed ⟨wf_low F (by omega), ⟨WOp V.1.1.2.1.1 h8 (by omega) (Or.inl rfl), fun b c hb hc e h => ?_⟩, V.1.1.2.2⟩ (V.2.1.up h6 (by omega))
    have hb : b < n := hb
    have hc : c < n := hc
    have e : upd s (10 + a) (-1) (10 + b) = upd s (10 + a) (-1) (10 + c) := e
    have h : ¬ upd s (10 + a) (-1) (10 + b) = -1 := h
    by_cases q1 : b = a
    · rw [q1, up_same] at h; exact absurd rfl h
    · by_cases q2 : c = a
      · rw [q2, up_same] at e; exact absurd e h
      · rw [up_ne (by omega), up_ne (by omega)] at e
        rw [up_ne (by omega)] at h
        exact V.1.1.2.1.2 b c hb hc e h
theorem sbt_lt : ∀ n, n < 9 → ∀ e, e < 2 ^ n → ∀ a, a < n → ∀ v, v < 2 → sbt e a v < 2 ^ n := by decide +kernel
theorem k_enc {A : AS} {x y : Int32} (V : VK A) : VK (oEnc A x y).2 := by
  obtain ⟨⟨s, n, p, k⟩, kp, ch, len⟩ := A
  have F : WF s n p k := V.1.1.1
  have h8 := F.2.1.1
  have h6 := F.2.1.2.2
  unfold oEnc
  dsimp only
  refine sel1_K (fun a ha => ?_) V (by omega)
  refine sel1_K (fun v hv => ?_) V (by omega)
  obtain ⟨e1, e2, e3⟩ := en_ok (z := (s, n, p, k)) F
  exact V.ed ⟨wf_enc F (sbt_lt n (by omega) _ e2 a ha v hv), ⟨V.1.1.2.1.1.up h8 (by omega), V.1.1.2.1.2.up h8 (by omega)⟩, V.1.1.2.2⟩ (V.2.1.up h6 (by omega))
/-! a new order -/
theorem ord_lo {s o : Nat → Int32} {i : Nat} (h : i < 18 ∨ 26 ≤ i) : ord s o i = s i := by unfold ord; rw [if_neg (by omega)]
theorem ord_in {s o : Nat → Int32} {j : Nat} (h : j < 8) : ord s o (18 + j) = o j := by unfold ord; rw [if_pos (by omega), show 18 + j - 18 = j by omega]
theorem WX_ord {s o : Nat → Int32} {n p k : Nat} (X : WX (s, n, p, k)) (h1 : ∀ j, j < n → ∃ q, q < n ∧ o j = nI q) (h2 : ∀ i j, i < n → j < n → o i = o j → i = j) : WX (ord s o, n, p, k) := by
  have F : WF s n p k := X.1
  have h8 := F.2.1.1
  have O : WO s n := X.2.1.1
  have U : WU s n := X.2.1.2
  refine ⟨wf_ord F, ⟨⟨fun a ha => ?_, fun j hj => ?_, fun i j hi hj e => ?_⟩, fun a b ha hb e h => ?_⟩, X.2.2⟩
  · show ord s o (10 + a) = -1 ∨ ∃ q, q < n ∧ ord s o (10 + a) = nI q
    rw [ord_lo (by omega)]; exact O.1 a ha
  · have hj : j < n := hj
    show ∃ q, q < n ∧ ord s o (18 + j) = nI q
    rw [ord_in (by omega)]; exact h1 j hj
  · have hi : i < n := hi
    have hj : j < n := hj
    have e : ord s o (18 + i) = ord s o (18 + j) := e
    rw [ord_in (by omega), ord_in (by omega)] at e
    exact h2 i j hi hj e
  · have ha : a < n := ha
    have hb : b < n := hb
    have e : ord s o (10 + a) = ord s o (10 + b) := e
    have h : ¬ ord s o (10 + a) = -1 := h
    rw [ord_lo (by omega), ord_lo (by omega)] at e
    rw [ord_lo (by omega)] at h
    exact U a b ha hb e h
theorem WK_ord {s o : Nat → Int32} {n p k : Nat} (K : WK (s, n, p, k)) : WK (ord s o, n, p, k) := by
  intro c hc u hu h
  have hu : ord s o (33 + c) = nI u := hu
  rw [ord_lo (by omega)] at hu
  exact K c hc u hu h
def mvp (f t j : Nat) : Nat := if j = t then f else if f ≤ j ∧ j < t then j + 1 else if t < j ∧ j ≤ f then j - 1 else j
theorem mvo_p {o : Nat → Int32} {f t j : Nat} : mvo o f t j = o (mvp f t j) := by
  unfold mvo mvp
  split
  · rfl
  · split
    · rfl
    · split <;> rfl
theorem mvp_lt {f t j n : Nat} (hf : f < n) (ht : t < n) (hj : j < n) : mvp f t j < n := by
  unfold mvp
  split
  · exact hf
  · split
    · omega
    · split <;> omega
theorem mvp_inj {f t i j : Nat} (h : mvp f t i = mvp f t j) : i = j := by
  unfold mvp at h
  repeat' split at h
  all_goals omega
theorem k_move {A : AS} {x y : Int32} (V : VK A) : VK (oMove A x y).2 := by
  obtain ⟨⟨s, n, p, k⟩, kp, ch, len⟩ := A
  have F : WF s n p k := V.1.1.1
  have h8 := F.2.1.1
  have O : WO s n := V.1.1.2.1.1
  unfold oMove
  dsimp only
  refine sel1_K (fun f hf => ?_) V (by omega)
  refine sel1_K (fun t ht => ?_) V (by omega)
  refine V.ed (WX_ord V.1.1 (fun j hj => ?_) (fun i j hi hj e => ?_)) (WK_ord V.2.1)
  · rw [mvo_p]; exact O.2.1 _ (mvp_lt hf ht hj)
  · rw [mvo_p, mvo_p] at e
    exact mvp_inj (O.2.2 _ _ (mvp_lt hf ht hi) (mvp_lt hf ht hj) e)
/-- where a best order is, each of its places has a song -/
theorem bch_all {n : Nat} {W : Nat → Nat → Nat} {may : Nat → Nat → Bool} {c : Nat} (hn : n ≤ 8) (hm : ∀ S x, may S x = true → S.testBit x = false) (h : (GT n W may 0 0).1 = some c) : ∀ i, i ≤ n → ∃ S l v, bch n W may i = some (S, l) ∧ (GT n W may S l).1 = some v ∧ ∀ j, j < i → ∃ x, bsg n W may j = some x ∧ x < n ∧ S.testBit x = true := by
  intro i
  induction i with
  | zero => intro _; exact ⟨0, 0, c, rfl, h, fun j hj => absurd hj (Nat.not_lt_zero _)⟩
  | succ i ih =>
    intro hi
    obtain ⟨S, l, v, b, g, k⟩ := ih (by omega)
    obtain ⟨b1, b2, b3⟩ := bch_ok hn hm i (by omega) (S, l) b
    dsimp only at b1 b2 b3
    have hG : (fd (cand W may (GT n W may) S l) n).1 = some v := by rw [← GT_step hn hm b1 (by omega)]; exact g
    obtain ⟨x0, hx0, ex0⟩ := fd_at n hG
    obtain ⟨y, hy⟩ := fs_ex (f := fun x => (cand W may (GT n W may) S l x).1) (c := v) n 0 ⟨x0, Nat.zero_le _, by omega, ex0⟩
    have hnx : nxt n W may S l = some y := by unfold nxt; rw [g]; exact hy
    obtain ⟨y1, y2⟩ := nxt_ok hnx
    have B2 : bch n W may (i + 1) = some (S ||| 2 ^ y, y) := by rw [bch_s b, hnx]; rfl
    have q := (fs_lt _ _ _ hy).2.2.2
    unfold cand at q
    rw [if_pos y2] at q
    cases hu : (GT n W may (S ||| 2 ^ y) y).1 with
    | none => rw [hu] at q; cases q
    | some u =>
      refine ⟨S ||| 2 ^ y, y, u, B2, hu, fun j hj => ?_⟩
      by_cases e : j = i
      · refine ⟨y, ?_, y1, or_self⟩
        rw [e]
        unfold bsg
        rw [B2]
        rfl
      · obtain ⟨x, x1, x2, x3⟩ := k j (by omega)
        exact ⟨x, x1, x2, by rw [Nat.testBit_or, x3]; rfl⟩
theorem bsg_inj {n : Nat} {W : Nat → Nat → Nat} {may : Nat → Nat → Bool} {c : Nat} (hn : n ≤ 8) (hm : ∀ S x, may S x = true → S.testBit x = false) (h : (GT n W may 0 0).1 = some c) {i j : Nat} (hi : i < n) (hj : j < i) : ¬ bsg n W may i = bsg n W may j := by
  intro e
  obtain ⟨S, l, v, b, -, k⟩ := bch_all hn hm h i (by omega)
  obtain ⟨x, x1, x2, x3⟩ := k j hj
  rw [x1] at e
  unfold bsg at e
  rw [bch_s b] at e
  cases q : nxt n W may S l with
  | none => rw [q] at e; cases e
  | some y =>
    rw [q] at e
    have e2 : y = x := Option.some.inj e
    have := hm S y (nxt_ok q).2
    rw [e2, x3] at this
    cases this
theorem k_adopt {A : AS} (V : VK A) : VK (oAdopt A).2 := by
  obtain ⟨⟨s, n, p, k⟩, kp, ch, len⟩ := A
  have F : WF s n p k := V.1.1.1
  have h8 := F.2.1.1
  unfold oAdopt
  dsimp only
  cases hz : (zG (s, n, p, k)).1 with
  | none => exact V
  | some c =>
    dsimp only
    have key : ∀ j, j < n → ∃ x, zS (s, n, p, k) j = some x ∧ x < n := by
      intro j hj
      obtain ⟨S, l, v, -, -, q⟩ := bch_all h8 mCl_bit hz n (Nat.le_refl _)
      obtain ⟨x, x1, x2, -⟩ := q j hj
      exact ⟨x, x1, x2⟩
    refine V.ed (WX_ord V.1.1 (fun j hj => ?_) (fun i j hi hj e => ?_)) (WK_ord V.2.1)
    · obtain ⟨x, x1, x2⟩ := key j hj
      exact ⟨x, x2, by rw [if_pos hj, x1]; rfl⟩
    · rw [if_pos hi, if_pos hj] at e
      obtain ⟨x, x1, x2⟩ := key i hi
      obtain ⟨y, y1, y2⟩ := key j hj
      rw [x1, y1] at e
      have e2 : x = y := (nI_eq (by omega) (by omega)).mp e
      rcases Nat.lt_trichotomy i j with q | q | q
      · exact absurd (show zS (s, n, p, k) j = zS (s, n, p, k) i by rw [x1, y1, e2]) (bsg_inj h8 mCl_bit hz hj q)
      · exact q
      · exact absurd (show zS (s, n, p, k) i = zS (s, n, p, k) j by rw [x1, y1, e2]) (bsg_inj h8 mCl_bit hz hi q)
