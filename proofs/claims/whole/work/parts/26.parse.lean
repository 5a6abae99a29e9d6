/-! THE READING OF A TEXT: characters ch 0 .. ch (len - 1) as numbers -/
abbrev ST : Type := (Nat → Int32) × Nat × Nat × Nat
def DW (z : ST) : Prop := WF z.1 z.2.1 z.2.2.1 z.2.2.2 ∧ WD z.1 ∧ WP z.1 z.2.1 z.2.2.1
/-- numbers by a walk over m characters from i on: the value and the digits so far, the numbers so far -/
def rn (ch : Nat → Nat) : Nat → Nat → Nat → Nat → List Nat → Option (List Nat)
  | 0, _, _, _, ns => some ns
  | m + 1, i, v, dg, ns => if 48 ≤ ch i ∧ ch i ≤ 57 then rn ch m (i + 1) (v * 10 + (ch i - 48)) (dg + 1) ns
      else if (ch i = 44 ∨ ch i = 59) ∧ (1 ≤ dg ∧ dg ≤ 2) ∧ ns.length < 4 then rn ch m (i + 1) 0 0 (ns ++ [v]) else none
/-- what a statement does: its letter, its numbers -/
def apl (c : Nat) (ns : List Nat) (z : ST) : Option ST := match ns with
  | [v] => if c = 115 then (if z.2.1 < 8 ∧ 1 ≤ v ∧ v ≤ 20 then some (upd (upd z.1 (1 + z.2.1) (nI v)) 0 (nI (z.2.1 + 1)), z.2.1 + 1, z.2.2.1, z.2.2.2) else none)
      else if c = 112 then (if z.2.2.1 < 5 ∧ v ≤ 1 then some (upd (upd z.1 (27 + z.2.2.1) (nI v)) 26 (nI (z.2.2.1 + 1)), z.2.1, z.2.2.1 + 1, z.2.2.2) else none)
      else if c = 101 then (if v < z.2.1 then some (upd z.1 9 (nI ((z.1 9).toNatClampNeg ||| 2 ^ v)), z.2) else none) else none
  | [u, v] => if c = 107 ∧ z.2.2.2 < 6 ∧ 1 ≤ u ∧ u ≤ 5 ∧ v ≤ 1 then some (upd (upd (upd z.1 (33 + z.2.2.2) (nI u)) (39 + z.2.2.2) (nI v)) 32 (nI (z.2.2.2 + 1)), z.2.1, z.2.2.1, z.2.2.2 + 1) else none
  | [a, b, e, t] => if c = 117 ∧ a < z.2.1 ∧ b < z.2.2.1 ∧ e < z.2.2.2 ∧ t ≤ 5 ∧ oth z.1 a (nI e) b z.2.2.1 < (z.1 (33 + e)).toNatClampNeg then some (upd (upd z.1 (45 + 2 * (a * 5 + b)) (nI e)) (46 + 2 * (a * 5 + b)) (nI t), z.2) else none
  | _ => none
def stC (ch : Nat → Nat) (a i : Nat) (z : ST) : Option ST := match rn ch (i - a) (a + 1) 0 0 [] with
  | none => none
  | some ns => apl (ch a) ns z
def pC (ch : Nat → Nat) (len : Nat) : Nat → Nat → Nat → ST → Option Nat × ST
  | 0, _, a, z => (if a < len then some a else none, z)
  | m + 1, i, a, z => if ch i = 59 then (match stC ch a i z with
      | none => (some a, z)
      | some z' => pC ch len m (i + 1) (i + 1) z') else pC ch len m (i + 1) a z
/-- a part that may be stated: seen from the class, from the reference -/
theorem may_part {s : Nat → Int32} {n p k a b c u : Nat} (F : WF s n p k) (ha : a < n) (hb : b < p) (hc : c < k) (hu : s (33 + c) = nI u) (hu6 : u ≤ 6) : (kd s a b = nI c ∨ cn s a (nI c) p < u) ↔ oth s a (nI c) b p < u := by
  have h1 := oth_cn s a (nI c) b p
  have h2 := F.2.2.2.2.2.2 a ha c hc
  have h3 := cn_le s a (nI c) p
  have h5 := F.2.1.2.1
  rw [hu] at h2
  have h4 := (nI_leI (by omega) (by omega)).mp h2
  by_cases e : kd s a b = nI c
  · rw [if_pos ⟨hb, e⟩] at h1
    exact ⟨fun _ => by omega, fun _ => Or.inl e⟩
  · rw [if_neg (fun q => e q.2)] at h1
    exact ⟨fun q => q.elim (fun z => absurd z e) (fun z => by omega), fun q => Or.inr (by omega)⟩
theorem wd_hi {s : Nat → Int32} {i : Nat} {v : Int32} (h : 26 ≤ i) (D : WD s) : WD (upd s i v) := wd_upd (Or.inr h) D
theorem apl_DW {c : Nat} {ns : List Nat} {z z' : ST} (D : DW z) (h : apl c ns z = some z') : DW z' := by
  obtain ⟨s, n, p, k⟩ := z
  obtain ⟨F, D1, P⟩ := D
  dsimp only at F D1 P
  have b8 := F.2.1.1
  have b5 := F.2.1.2.1
  have b6 := F.2.1.2.2
  unfold apl at h
  split at h
  · rename_i v
    dsimp only at h
    split at h
    · split at h
      · rename_i q
        cases h
        exact ⟨wf_song F P q.1 q.2.1 q.2.2, wd_upd (by omega) (wd_upd (by omega) D1), wp_upd (by omega) (Nat.le_refl _) (Nat.le_refl _) (wp_upd (by omega) (Nat.le_succ _) (Nat.le_refl _) P)⟩
      · cases h
    · split at h
      · split at h
        · rename_i q
          cases h
          exact ⟨wf_player F P q.1, wd_upd (by omega) (wd_upd (by omega) D1), wp_upd (by omega) (Nat.le_refl _) (Nat.le_refl _) (wp_upd (by omega) (Nat.le_refl _) (Nat.le_succ _) P)⟩
        · cases h
      · split at h
        · split at h
          · rename_i q
            cases h
            obtain ⟨e, e1, e2⟩ := F.2.2.1
            have he : (s 9).toNatClampNeg = e := by rw [e1, nI_cl (Nat.lt_of_lt_of_le e2 (Nat.le_trans (pw_le b8) (by decide)))]
            refine ⟨wf_enc F ?_, wd_upd (by omega) D1, wp_upd (by omega) (Nat.le_refl _) (Nat.le_refl _) P⟩
            rw [he]
            exact or_lt e2 q
          · cases h
        · cases h
  · rename_i u v
    dsimp only at h
    split at h
    · rename_i q
      cases h
      exact ⟨wf_kind F q.2.1 (by omega), wd_upd (by omega) (wd_upd (by omega) (wd_upd (by omega) D1)), wp_upd (by omega) (Nat.le_refl _) (Nat.le_refl _) (wp_upd (by omega) (Nat.le_refl _) (Nat.le_refl _) (wp_upd (by omega) (Nat.le_refl _) (Nat.le_refl _) P))⟩
    · cases h
  · rename_i a b e t
    dsimp only at h
    split at h
    · rename_i q
      cases h
      obtain ⟨q1, q2, q3, q4, q5, q6⟩ := q
      obtain ⟨u, hu, hu6⟩ := F.2.2.2.2.1 e q4
      rw [hu, nI_cl (by omega)] at q6
      exact ⟨wf_part F q2 q3 q4 q5 hu hu6 q6, wd_hi (by omega) (wd_hi (by omega) D1), wp_part P q2 q3 b5⟩
    · cases h
  · cases h
theorem rn_lt {ch : Nat → Nat} : ∀ m i v dg ns L, (∀ x ∈ ns, x < 100) → (dg = 0 → v = 0) → (dg = 1 → v < 10) → (dg = 2 → v < 100) → rn ch m i v dg ns = some L → ∀ x ∈ L, x < 100 := by
  intro m
  induction m with
  | zero => intro i v dg ns L h _ _ _ e; cases e; exact h
  | succ m ih =>
    intro i v dg ns L h h0 h1 h2 e
    unfold rn at e
    split at e
    · rename_i q
      exact ih _ _ _ _ _ h (by omega) (fun z => by have := h0 (by omega); omega) (fun z => by have := h1 (by omega); omega) e
    · split at e
      · rename_i q
        refine ih _ _ _ _ _ ?_ (fun _ => rfl) (fun z => by omega) (fun z => by omega) e
        intro x hx
        rcases List.mem_append.mp hx with h9 | h9
        · exact h x h9
        · rw [List.mem_singleton.mp h9]
          rcases (show dg = 1 ∨ dg = 2 by omega) with z | z
          · have := h1 z; omega
          · exact h2 z
      · cases e
theorem rn_len {ch : Nat → Nat} : ∀ m i v dg ns L, ns.length ≤ 4 → rn ch m i v dg ns = some L → L.length ≤ 4 := by
  intro m
  induction m with
  | zero => intro i v dg ns L h e; cases e; exact h
  | succ m ih =>
    intro i v dg ns L h e
    unfold rn at e
    split at e
    · exact ih _ _ _ _ _ h e
    · split at e
      · rename_i q
        refine ih _ _ _ _ _ ?_ e
        rw [List.length_append, List.length_singleton]
        omega
      · cases e
