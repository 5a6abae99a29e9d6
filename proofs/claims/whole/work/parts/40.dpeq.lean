/-! THE TWO TABLES ARE ONE: on good sets -/
theorem cand_congr {W : Nat → Nat → Nat} {may may' : Nat → Nat → Bool} {g g' : Nat → Nat → Option Nat × Nat} {S l x : Nat} (h1 : may S x = may' S x) (h2 : may S x = true → g (S ||| 2 ^ x) x = g' (S ||| 2 ^ x) x) : cand W may g S l x = cand W may' g' S l x := by
  unfold cand
  rw [← h1]
  by_cases h : may S x = true
  · rw [if_pos h, if_pos h, h2 h]
  · rw [if_neg h, if_neg h]
theorem G_gd {z : ST} (F : WF z.1 z.2.1 z.2.2.1 z.2.2.2) (W : Nat → Nat → Nat) : ∀ m S l, S < 2 ^ z.2.1 → gd z.2.1 (en z) S → G z.2.1 W (mcm z) m S l = G z.2.1 W (mCl (zB z)) m S l := by
  intro m
  induction m with
  | zero => intro S l _ _; rfl
  | succ m ih =>
    intro S l hS g
    refine fd_congr z.2.1 (fun x hx => cand_congr (gd_mcl F hS hx g) (fun hm => ih _ _ (or_lt hS hx) (gd_or F g hm)))
theorem GT_gd {z : ST} (F : WF z.1 z.2.1 z.2.2.1 z.2.2.2) (W : Nat → Nat → Nat) {S : Nat} (l : Nat) (hS : S < 2 ^ z.2.1) (g : gd z.2.1 (en z) S) : GT z.2.1 W (mcm z) S l = GT z.2.1 W (mCl (zB z)) S l := G_gd F W _ _ _ hS g
theorem cand_gd {z : ST} (F : WF z.1 z.2.1 z.2.2.1 z.2.2.2) (W : Nat → Nat → Nat) {S x : Nat} (l : Nat) (hS : S < 2 ^ z.2.1) (hx : x < z.2.1) (g : gd z.2.1 (en z) S) : cand W (mcm z) (GT z.2.1 W (mcm z)) S l x = cand W (mCl (zB z)) (GT z.2.1 W (mCl (zB z))) S l x := cand_congr (gd_mcl F hS hx g) (fun hm => GT_gd F W _ (or_lt hS hx) (gd_or F g hm))
theorem fs_congr {f f' : Nat → Option Nat} {v : Option Nat} : ∀ m x, (∀ y, x ≤ y → y < x + m → f y = f' y) → fs f v m x = fs f' v m x := by
  intro m
  induction m with
  | zero => intro x _; rfl
  | succ m ih =>
    intro x h
    unfold fs
    rw [h x (Nat.le_refl _) (by omega), ih (x + 1) (fun y h1 h2 => h y (by omega) (by omega))]
theorem nxt_gd {z : ST} (F : WF z.1 z.2.1 z.2.2.1 z.2.2.2) (W : Nat → Nat → Nat) {S : Nat} (l : Nat) (hS : S < 2 ^ z.2.1) (g : gd z.2.1 (en z) S) : nxt z.2.1 W (mcm z) S l = nxt z.2.1 W (mCl (zB z)) S l := by
  unfold nxt
  rw [GT_gd F W l hS g]
  exact fs_congr _ _ (fun y _ hy => by rw [cand_gd F W l hS (by omega) g])
theorem bch_gd {z : ST} (F : WF z.1 z.2.1 z.2.2.1 z.2.2.2) (W : Nat → Nat → Nat) : ∀ i, bch z.2.1 W (mcm z) i = bch z.2.1 W (mCl (zB z)) i ∧ ∀ q, bch z.2.1 W (mcm z) i = some q → q.1 < 2 ^ z.2.1 ∧ gd z.2.1 (en z) q.1 := by
  intro i
  induction i with
  | zero => exact ⟨rfl, fun q h => by cases h; exact ⟨Nat.pow_pos (by decide), gd_0⟩⟩
  | succ i ih =>
    obtain ⟨h1, h2⟩ := ih
    cases hb : bch z.2.1 W (mcm z) i with
    | none =>
      rw [bch, bch, ← h1, hb]
      exact ⟨rfl, fun q h => by cases h⟩
    | some q =>
      obtain ⟨a1, a2⟩ := h2 q hb
      rw [bch, bch, ← h1, hb]
      dsimp only
      rw [← nxt_gd F W q.2 a1 a2]
      refine ⟨rfl, fun q' h => ?_⟩
      cases hx : nxt z.2.1 W (mcm z) q.1 q.2 with
      | none => rw [hx] at h; cases h
      | some x =>
        rw [hx] at h
        cases h
        obtain ⟨b1, b2⟩ := nxt_ok hx
        exact ⟨or_lt a1 b1, gd_or F a2 b2⟩
theorem bsg_gd {z : ST} (F : WF z.1 z.2.1 z.2.2.1 z.2.2.2) (W : Nat → Nat → Nat) (j : Nat) : bsg z.2.1 W (mcm z) j = bsg z.2.1 W (mCl (zB z)) j := by
  unfold bsg
  rw [(bch_gd F W (j + 1)).1]
/-! the least is attained; the ways are summed -/
theorem fd_at {f : Nat → Option Nat × Nat} {c : Nat} : ∀ n, (fd f n).1 = some c → ∃ x, x < n ∧ (f x).1 = some c := by
  intro n
  induction n with
  | zero => intro h; cases h
  | succ n ih =>
    intro h
    have h2 : (comb (fd f n) (f n)).1 = some c := h
    unfold comb at h2
    cases hb : (f n).1 with
    | none =>
      rw [hb] at h2
      obtain ⟨x, hx, e⟩ := ih h2
      exact ⟨x, by omega, e⟩
    | some v =>
      rw [hb] at h2
      cases ha : (fd f n).1 with
      | none => rw [ha] at h2; cases h2; exact ⟨n, by omega, hb⟩
      | some l =>
        rw [ha] at h2
        dsimp only at h2
        split at h2
        · cases h2; exact ⟨n, by omega, hb⟩
        · split at h2
          · cases h2
            obtain ⟨x, hx, e⟩ := ih ha
            exact ⟨x, by omega, e⟩
          · obtain ⟨x, hx, e⟩ := ih h2
            exact ⟨x, by omega, e⟩
theorem fd_min {f : Nat → Option Nat × Nat} {x v : Nat} : ∀ n, x < n → (f x).1 = some v → ∃ c, (fd f n).1 = some c ∧ c ≤ v := by
  intro n
  induction n with
  | zero => intro h; omega
  | succ n ih =>
    intro hx hv
    show ∃ c, (comb (fd f n) (f n)).1 = some c ∧ c ≤ v
    unfold comb
    by_cases e : x = n
    · rw [← e, hv]
      cases ha : (fd f x).1 with
      | none => exact ⟨v, rfl, Nat.le_refl _⟩
      | some l =>
        dsimp only
        by_cases h1 : v < l
        · rw [if_pos h1]; exact ⟨v, rfl, Nat.le_refl _⟩
        · rw [if_neg h1]
          by_cases h2 : v = l
          · rw [if_pos h2]; exact ⟨l, rfl, by omega⟩
          · rw [if_neg h2]; exact ⟨l, ha, by omega⟩
    · obtain ⟨c, hc, hle⟩ := ih (by omega) hv
      cases hb : (f n).1 with
      | none => exact ⟨c, hc, hle⟩
      | some w =>
        rw [hc]
        dsimp only
        by_cases h1 : w < c
        · rw [if_pos h1]; exact ⟨w, rfl, by omega⟩
        · rw [if_neg h1]
          by_cases h2 : w = c
          · rw [if_pos h2]; exact ⟨c, rfl, hle⟩
          · rw [if_neg h2]; exact ⟨c, hc, hle⟩
theorem comb_s {a b : Option Nat × Nat} {v l : Nat} (hb : b.1 = some v) (ha : a.1 = some l) : comb a b = if v < l then (some v, b.2) else if v = l then (some l, a.2 + b.2) else a := by
  unfold comb
  rw [hb, ha]
def smw (f : Nat → Option Nat × Nat) (c : Nat) : Nat → Nat
  | 0 => 0
  | i + 1 => smw f c i + (if (f i).1 = some c then (f i).2 else 0)
theorem fd_sum {f : Nat → Option Nat × Nat} {c : Nat} : ∀ n, (∀ x v, x < n → (f x).1 = some v → c ≤ v) → smw f c n = (if (fd f n).1 = some c then (fd f n).2 else 0) := by
  intro n
  induction n with
  | zero => intro _; rfl
  | succ n ih =>
    intro h
    have h1 := ih (fun x v hx => h x v (by omega))
    show smw f c n + (if (f n).1 = some c then (f n).2 else 0) = (if (comb (fd f n) (f n)).1 = some c then (comb (fd f n) (f n)).2 else 0)
    rw [h1]
    cases hb : (f n).1 with
    | none =>
      rw [comb_none hb, if_neg (show ¬ (none : Option Nat) = some c from fun q => by cases q)]
      rfl
    | some v =>
      have hv := h n v (by omega) hb
      cases ha : (fd f n).1 with
      | none =>
        rw [show comb (fd f n) (f n) = (some v, (f n).2) by unfold comb; rw [hb, ha]]
        rw [if_neg (show ¬ (none : Option Nat) = some c from fun q => by cases q), Nat.zero_add]
      | some l =>
        have hl : c ≤ l := by
          obtain ⟨x, hx, e⟩ := fd_at n ha
          exact h x l (by omega) e
        by_cases h2 : v < l
        · rw [show comb (fd f n) (f n) = (some v, (f n).2) by rw [comb_s hb ha, if_pos h2], if_neg (show ¬ (some l : Option Nat) = some c from fun q => by cases q; omega), Nat.zero_add]
        · by_cases h3 : v = l
          · rw [show comb (fd f n) (f n) = (some l, (fd f n).2 + (f n).2) by rw [comb_s hb ha, if_neg h2, if_pos h3], h3]
            by_cases h4 : l = c
            · rw [h4, if_pos rfl, if_pos rfl, if_pos rfl]
            · rw [if_neg (fun q => h4 (Option.some.inj q)), if_neg (fun q => h4 (Option.some.inj q)), if_neg (fun q => h4 (Option.some.inj q))]
          · rw [show comb (fd f n) (f n) = fd f n by rw [comb_s hb ha, if_neg h2, if_neg h3], ha, if_neg (show ¬ (some v : Option Nat) = some c from fun q => by cases q; omega), Nat.add_zero]
theorem fd_none {f : Nat → Option Nat × Nat} : ∀ n, (fd f n).1 = none → (fd f n).2 = 0 := by
  intro n
  induction n with
  | zero => intro _; rfl
  | succ n ih =>
    intro h
    have h2 : (comb (fd f n) (f n)).1 = none := h
    show (comb (fd f n) (f n)).2 = 0
    cases hb : (f n).1 with
    | none => rw [comb_none hb] at h2 ⊢; exact ih h2
    | some v =>
      unfold comb at h2
      rw [hb] at h2
      cases ha : (fd f n).1 with
      | none => rw [ha] at h2; cases h2
      | some l =>
        rw [ha] at h2
        dsimp only at h2
        split at h2
        · cases h2
        · split at h2
          · cases h2
          · rw [ha] at h2; cases h2
/-- whether an order exists does not hang on the costs -/
theorem fd_some {f g : Nat → Option Nat × Nat} : ∀ n, (∀ x, x < n → (f x).1.isSome = (g x).1.isSome) → (fd f n).1.isSome = (fd g n).1.isSome := by
  intro n h
  cases hf : (fd f n).1 with
  | none =>
    cases hg : (fd g n).1 with
    | none => rfl
    | some c =>
      obtain ⟨x, hx, e⟩ := fd_at n hg
      have h1 := h x hx
      rw [e] at h1
      cases hx2 : (f x).1 with
      | none => rw [hx2] at h1; cases h1
      | some v =>
        obtain ⟨c2, e2, -⟩ := fd_min n hx hx2
        rw [hf] at e2
        cases e2
  | some c =>
    obtain ⟨x, hx, e⟩ := fd_at n hf
    have h1 := h x hx
    rw [e] at h1
    cases hx2 : (g x).1 with
    | none => rw [hx2] at h1; cases h1
    | some v =>
      obtain ⟨c2, e2, -⟩ := fd_min n hx hx2
      rw [e2]
      rfl
theorem G_some {n : Nat} {W W' : Nat → Nat → Nat} {may : Nat → Nat → Bool} : ∀ m S l, (G n W may m S l).1.isSome = (G n W' may m S l).1.isSome := by
  intro m
  induction m with
  | zero => intro S l; rfl
  | succ m ih =>
    intro S l
    refine fd_some n (fun x hx => ?_)
    unfold cand
    by_cases h : may S x = true
    · rw [if_pos h, if_pos h]
      show ((G n W may m (S ||| 2 ^ x) x).1.map _).isSome = ((G n W' may m (S ||| 2 ^ x) x).1.map _).isSome
      rw [Option.isSome_map, Option.isSome_map]
      exact ih _ _
    · rw [if_neg h, if_neg h]
/-! one unit more -/
theorem chg_zm {s : Nat → Int32} {n p k a b q c : Nat} (F : WF s n p k) (ha : a < 8) (hb : b < 8) (hq : q < 5) (hc : c < k) : chg (upd s (33 + c) (s (33 + c) + 1)) (-1) p a b q = chg s (nI c) p a b q := by
  have h6 := F.2.1.2.2
  unfold chg
  rw [kd_upd (by omega), kd_upd (by omega), tn_upd (by omega), tn_upd (by omega), cn_upd (by omega)]
  by_cases h1 : kd s b q = -1
  · simp only [h1, if_true]
  · obtain ⟨e, he, ee⟩ := ((F.2.2.2.2.2.1 b hb q hq).resolve_left h1).1
    have hu : un (upd s (33 + c) (s (33 + c) + 1)) (-1) (kd s b q) = un s (nI c) (kd s b q) := by
      unfold un
      rw [ee, nI_cl (by omega), if_neg (nI_ne_m1 (by omega))]
      by_cases h2 : e = c
      · rw [h2, up_same, if_pos rfl]
        exact Int32.add_zero _
      · rw [up_ne (by omega), if_neg (fun q => h2 ((nI_eq (by omega) (by omega)).mp q))]
    rw [hu]
theorem cof_zm {s : Nat → Int32} {n p k a b q c : Nat} (F : WF s n p k) (ha : a < 8) (hb : b < 8) (hq : q < 5) (hc : c < k) : cof (upd s (33 + c) (s (33 + c) + 1)) (-1) p a b q = cof s (nI c) p a b q := by
  have h6 := F.2.1.2.2
  have hf : ∀ x, (x = kd s a q ∨ x = kd s b q) → ¬ x = -1 → far (upd s (33 + c) (s (33 + c) + 1)) q x = far s q x := by
    intro x hx h1
    obtain ⟨e, he, ee⟩ : ∃ e, e < k ∧ x = nI e := by
      rcases hx with rfl | rfl
      · exact ((F.2.2.2.2.2.1 a ha q hq).resolve_left h1).1
      · exact ((F.2.2.2.2.2.1 b hb q hq).resolve_left h1).1
    unfold far
    rw [ee, nI_cl (by omega), up_ne (by omega), up_ne (by omega)]
  unfold cof
  rw [chg_zm F ha hb hq hc, kd_upd (by omega), kd_upd (by omega), tn_upd (by omega), tn_upd (by omega)]
  have key := chg_kd s (nI c) p a b q
  have hle := chg_le s (nI c) p a b q
  generalize chg s (nI c) p a b q = z at key hle
  rcases (show z = 0 ∨ z = 1 ∨ z = 2 ∨ z = 3 ∨ z = 4 ∨ z = 5 by omega) with rfl | rfl | rfl | rfl | rfl | rfl
  · rfl
  · show 1 + _ = 1 + _; rw [hf _ (Or.inr rfl) key]
  · show 1 + _ = 1 + _; rw [hf _ (Or.inl rfl) key]
  · show 3 + _ + _ = 3 + _ + _; rw [hf _ (Or.inl rfl) key.1, hf _ (Or.inr rfl) key.2]
  · show 2 + _ = 2 + _; rw [hf _ (Or.inr rfl) key.2]
  · rfl
theorem btw_zm {s : Nat → Int32} {n p k a b c : Nat} (F : WF s n p k) (ha : a < 8) (hb : b < 8) (hc : c < k) : ∀ q, q ≤ 5 → btw (upd s (33 + c) (s (33 + c) + 1)) (-1) p a b q = btw s (nI c) p a b q := by
  intro q
  induction q with
  | zero => intro _; rfl
  | succ q ih =>
    intro hq
    show btw _ (-1) p a b q + cof _ (-1) p a b q = btw s (nI c) p a b q + cof s (nI c) p a b q
    rw [ih (by omega), cof_zm F ha hb (by omega) hc]
theorem Wc_zm {s : Nat → Int32} {n p k c : Nat} (F : WF s n p k) (hc : c < k) : Wc (upd s (33 + c) (s (33 + c) + 1)) (-1) p = Wc s (nI c) p := by
  funext a b
  unfold Wc
  by_cases h : a < 8 ∧ b < 8 ∧ ¬ a = b
  · rw [if_pos h, if_pos h, btw_zm F h.1 h.2.1 hc p F.2.1.2.1]
  · rw [if_neg h, if_neg h]
theorem G_may {n : Nat} {W : Nat → Nat → Nat} {may may' : Nat → Nat → Bool} (h : ∀ S x, x < n → may S x = may' S x) : ∀ m S l, G n W may m S l = G n W may' m S l := by
  intro m
  induction m with
  | zero => intro S l; rfl
  | succ m ih =>
    intro S l
    exact fd_congr n (fun x hx => cand_congr (h S x hx) (fun _ => ih _ _))
theorem zG_zm {s : Nat → Int32} {n p k c : Nat} (F : WF s n p k) (hc : c < k) : zG (zm (s, n, p, k) c) = GT n (Wc s (nI c) p) (mCl (zB (s, n, p, k))) 0 0 := by
  have h6 := F.2.1.2.2
  have e1 : zW (zm (s, n, p, k) c) = Wc s (nI c) p := Wc_zm F hc
  have e3 : en (zm (s, n, p, k) c) = en (s, n, p, k) := by
    unfold en zm
    dsimp only
    rw [up_ne (by omega)]
  have e2 : ∀ S x, x < n → mCl (zB (zm (s, n, p, k) c)) S x = mCl (zB (s, n, p, k)) S x := by
    intro S x hx
    have h8 := F.2.1.1
    have ex : (zm (s, n, p, k) c).1 (10 + x) = (s, n, p, k).1 (10 + x) := up_ne (by omega)
    unfold mCl zB msb
    rw [e3, ex]
    rfl
  unfold zG
  rw [e1]
  exact G_may e2 _ _ _
