/-! what updates do to a concert's cells and to its row -/
theorem co_frame {h h' : HP} {g n p k : Nat} {s : Nat → Int32} (C : CO h g s n p k) (e : ∀ j, h' g j = h g j) : CO h' g s n p k := by
  unfold CO at C ⊢
  simp only [e]
  exact C
theorem co_ext {h : HP} {g n p k : Nat} {s s' : Nat → Int32} (hn : n ≤ 8) (hp : p ≤ 5) (hk : k ≤ 6) (C : CO h g s n p k) (e : ∀ i, i < 125 → s' i = s i) : CO h g s' n p k := by
  obtain ⟨⟨c1, c2, c3, c4⟩, c5, c6, c7, c8, c9, c10⟩ := C
  exact ⟨⟨c1, c2, c3, by rw [e 9 (by omega)]; exact c4⟩, fun j hj => by rw [e _ (by omega)]; exact c5 j hj, fun j hj => by rw [e _ (by omega)]; exact c6 j hj, fun j hj => ⟨by rw [e _ (by omega)]; exact (c7 j hj).1, by rw [e _ (by omega)]; exact (c7 j hj).2⟩, fun j hj => by rw [e _ (by omega)]; exact c8 j hj, fun j hj hx => by rw [e _ (by omega)] at hx ⊢; exact c9 j hj hx, fun j hj => ⟨by rw [e _ (by omega)]; exact (c10 j hj).1, by rw [e _ (by omega)]; exact (c10 j hj).2⟩⟩
theorem co_song {h : HP} {g n p k : Nat} {s : Nat → Int32} {v : Int32} (hn : n ≤ 8) (hp : p ≤ 5) (hk : k ≤ 6) (h8 : n < 8) (C : CO h g s n p k) : CO (hset (hset h g 1 n v) g 0 0 (nI (n + 1))) g (upd (upd s (1 + n) v) 0 (nI (n + 1))) (n + 1) p k := by
  obtain ⟨⟨c1, c2, c3, c4⟩, c5, c6, c7, c8, c9, c10⟩ := C
  refine ⟨⟨?_, ?_, ?_, ?_⟩, fun j hj => ?_, fun j hj => ?_, fun j hj => ⟨?_, ?_⟩, fun j hj => ?_, fun j hj hx => ?_, fun j hj => ⟨?_, ?_⟩⟩
  · (try simp [hset, hrow, upd]) <;> (try (repeat' split)) <;> (first | rfl | exact c1 | (exfalso; omega) | (simp_all; done))
  · (try simp [hset, hrow, upd]) <;> (try (repeat' split)) <;> (first | rfl | exact c2 | (exfalso; omega) | (simp_all; done))
  · (try simp [hset, hrow, upd]) <;> (try (repeat' split)) <;> (first | rfl | exact c3 | (exfalso; omega) | (simp_all; done))
  · (try simp [hset, hrow, upd]) <;> (try (repeat' split)) <;> (first | rfl | exact c4 | (exfalso; omega) | (simp_all; done))
  · (try simp [hset, hrow, upd]) <;> (try (repeat' split)) <;> (first | rfl | exact c5 j (by omega) | (exfalso; omega) | (simp_all; done))
  · (try simp [hset, hrow, upd]) <;> (try (repeat' split)) <;> (first | rfl | exact c6 j (by omega) | (exfalso; omega) | (simp_all; done))
  · (try simp [hset, hrow, upd]) <;> (try (repeat' split)) <;> (first | rfl | exact (c7 j (by omega)).1 | (exfalso; omega) | (simp_all; done))
  · (try simp [hset, hrow, upd]) <;> (try (repeat' split)) <;> (first | rfl | exact (c7 j (by omega)).2 | (exfalso; omega) | (simp_all; done))
  · (try simp [hset, hrow, upd]) <;> (try (repeat' split)) <;> (first | rfl | exact c8 j (by omega) | (exfalso; omega) | (simp_all; done))
  · have c9 := c9 j (by omega)
    revert hx
    (try simp [hset, hrow, upd]) <;> (try (repeat' split)) <;> (try intro hx) <;> (first | rfl | exact c9 hx | (exfalso; omega) | (exact absurd rfl hx) | (simp_all; done))
  · (try simp [hset, hrow, upd]) <;> (try (repeat' split)) <;> (first | rfl | exact (c10 j (by omega)).1 | (exfalso; omega) | (simp_all; done))
  · (try simp [hset, hrow, upd]) <;> (try (repeat' split)) <;> (first | rfl | exact (c10 j (by omega)).2 | (exfalso; omega) | (simp_all; done))
theorem co_player {h : HP} {g n p k : Nat} {s : Nat → Int32} {v : Int32} (hn : n ≤ 8) (hp : p ≤ 5) (hk : k ≤ 6) (h5 : p < 5) (C : CO h g s n p k) : CO (hset (hset h g 2 p v) g 0 1 (nI (p + 1))) g (upd (upd s (27 + p) v) 26 (nI (p + 1))) n (p + 1) k := by
  obtain ⟨⟨c1, c2, c3, c4⟩, c5, c6, c7, c8, c9, c10⟩ := C
  refine ⟨⟨?_, ?_, ?_, ?_⟩, fun j hj => ?_, fun j hj => ?_, fun j hj => ⟨?_, ?_⟩, fun j hj => ?_, fun j hj hx => ?_, fun j hj => ⟨?_, ?_⟩⟩
  · (try simp [hset, hrow, upd]) <;> (try (repeat' split)) <;> (first | rfl | exact c1 | (exfalso; omega) | (simp_all; done))
  · (try simp [hset, hrow, upd]) <;> (try (repeat' split)) <;> (first | rfl | exact c2 | (exfalso; omega) | (simp_all; done))
  · (try simp [hset, hrow, upd]) <;> (try (repeat' split)) <;> (first | rfl | exact c3 | (exfalso; omega) | (simp_all; done))
  · (try simp [hset, hrow, upd]) <;> (try (repeat' split)) <;> (first | rfl | exact c4 | (exfalso; omega) | (simp_all; done))
  · (try simp [hset, hrow, upd]) <;> (try (repeat' split)) <;> (first | rfl | exact c5 j (by omega) | (exfalso; omega) | (simp_all; done))
  · (try simp [hset, hrow, upd]) <;> (try (repeat' split)) <;> (first | rfl | exact c6 j (by omega) | (exfalso; omega) | (simp_all; done))
  · (try simp [hset, hrow, upd]) <;> (try (repeat' split)) <;> (first | rfl | exact (c7 j (by omega)).1 | (exfalso; omega) | (simp_all; done))
  · (try simp [hset, hrow, upd]) <;> (try (repeat' split)) <;> (first | rfl | exact (c7 j (by omega)).2 | (exfalso; omega) | (simp_all; done))
  · (try simp [hset, hrow, upd]) <;> (try (repeat' split)) <;> (first | rfl | exact c8 j (by omega) | (exfalso; omega) | (simp_all; done))
  · have c9 := c9 j (by omega)
    revert hx
    (try simp [hset, hrow, upd]) <;> (try (repeat' split)) <;> (try intro hx) <;> (first | rfl | exact c9 hx | (exfalso; omega) | (exact absurd rfl hx) | (simp_all; done))
  · (try simp [hset, hrow, upd]) <;> (try (repeat' split)) <;> (first | rfl | exact (c10 j (by omega)).1 | (exfalso; omega) | (simp_all; done))
  · (try simp [hset, hrow, upd]) <;> (try (repeat' split)) <;> (first | rfl | exact (c10 j (by omega)).2 | (exfalso; omega) | (simp_all; done))
theorem co_kind {h : HP} {g n p k : Nat} {s : Nat → Int32} {u v : Int32} (hn : n ≤ 8) (hp : p ≤ 5) (hk : k ≤ 6) (h6 : k < 6) (C : CO h g s n p k) : CO (hset (hset (hset h g 3 k u) g 4 k v) g 0 2 (nI (k + 1))) g (upd (upd (upd s (33 + k) u) (39 + k) v) 32 (nI (k + 1))) n p (k + 1) := by
  obtain ⟨⟨c1, c2, c3, c4⟩, c5, c6, c7, c8, c9, c10⟩ := C
  refine ⟨⟨?_, ?_, ?_, ?_⟩, fun j hj => ?_, fun j hj => ?_, fun j hj => ⟨?_, ?_⟩, fun j hj => ?_, fun j hj hx => ?_, fun j hj => ⟨?_, ?_⟩⟩
  · (try simp [hset, hrow, upd]) <;> (try (repeat' split)) <;> (first | rfl | exact c1 | (exfalso; omega) | (simp_all; done))
  · (try simp [hset, hrow, upd]) <;> (try (repeat' split)) <;> (first | rfl | exact c2 | (exfalso; omega) | (simp_all; done))
  · (try simp [hset, hrow, upd]) <;> (try (repeat' split)) <;> (first | rfl | exact c3 | (exfalso; omega) | (simp_all; done))
  · (try simp [hset, hrow, upd]) <;> (try (repeat' split)) <;> (first | rfl | exact c4 | (exfalso; omega) | (simp_all; done))
  · (try simp [hset, hrow, upd]) <;> (try (repeat' split)) <;> (first | rfl | exact c5 j (by omega) | (exfalso; omega) | (simp_all; done))
  · (try simp [hset, hrow, upd]) <;> (try (repeat' split)) <;> (first | rfl | exact c6 j (by omega) | (exfalso; omega) | (simp_all; done))
  · (try simp [hset, hrow, upd]) <;> (try (repeat' split)) <;> (first | rfl | exact (c7 j (by omega)).1 | (exfalso; omega) | (simp_all; done))
  · (try simp [hset, hrow, upd]) <;> (try (repeat' split)) <;> (first | rfl | exact (c7 j (by omega)).2 | (exfalso; omega) | (simp_all; done))
  · (try simp [hset, hrow, upd]) <;> (try (repeat' split)) <;> (first | rfl | exact c8 j (by omega) | (exfalso; omega) | (simp_all; done))
  · have c9 := c9 j (by omega)
    revert hx
    (try simp [hset, hrow, upd]) <;> (try (repeat' split)) <;> (try intro hx) <;> (first | rfl | exact c9 hx | (exfalso; omega) | (exact absurd rfl hx) | (simp_all; done))
  · (try simp [hset, hrow, upd]) <;> (try (repeat' split)) <;> (first | rfl | exact (c10 j (by omega)).1 | (exfalso; omega) | (simp_all; done))
  · (try simp [hset, hrow, upd]) <;> (try (repeat' split)) <;> (first | rfl | exact (c10 j (by omega)).2 | (exfalso; omega) | (simp_all; done))
theorem co_part {h : HP} {g n p k : Nat} {s : Nat → Int32} {i : Nat} {u v : Int32} (hn : n ≤ 8) (hp : p ≤ 5) (hk : k ≤ 6) (hi : i < 40) (C : CO h g s n p k) : CO (hset (hset h g 5 i u) g 6 i v) g (upd (upd s (45 + 2 * i) u) (46 + 2 * i) v) n p k := by
  obtain ⟨⟨c1, c2, c3, c4⟩, c5, c6, c7, c8, c9, c10⟩ := C
  refine ⟨⟨?_, ?_, ?_, ?_⟩, fun j hj => ?_, fun j hj => ?_, fun j hj => ⟨?_, ?_⟩, fun j hj => ?_, fun j hj hx => ?_, fun j hj => ⟨?_, ?_⟩⟩
  · (try simp [hset, hrow, upd]) <;> (try (repeat' split)) <;> (first | rfl | exact c1 | (exfalso; omega) | (simp_all; done))
  · (try simp [hset, hrow, upd]) <;> (try (repeat' split)) <;> (first | rfl | exact c2 | (exfalso; omega) | (simp_all; done))
  · (try simp [hset, hrow, upd]) <;> (try (repeat' split)) <;> (first | rfl | exact c3 | (exfalso; omega) | (simp_all; done))
  · (try simp [hset, hrow, upd]) <;> (try (repeat' split)) <;> (first | rfl | exact c4 | (exfalso; omega) | (simp_all; done))
  · (try simp [hset, hrow, upd]) <;> (try (repeat' split)) <;> (first | rfl | exact c5 j (by omega) | (exfalso; omega) | (simp_all; done))
  · (try simp [hset, hrow, upd]) <;> (try (repeat' split)) <;> (first | rfl | exact c6 j (by omega) | (exfalso; omega) | (simp_all; done))
  · (try simp [hset, hrow, upd]) <;> (try (repeat' split)) <;> (first | rfl | exact (c7 j (by omega)).1 | (exfalso; omega) | (simp_all; done))
  · (try simp [hset, hrow, upd]) <;> (try (repeat' split)) <;> (first | rfl | exact (c7 j (by omega)).2 | (exfalso; omega) | (simp_all; done))
  · (try simp [hset, hrow, upd]) <;> (try (repeat' split)) <;> (first | rfl | exact c8 j (by omega) | (exfalso; omega) | (simp_all; done))
  · have c9 := c9 j (by omega)
    revert hx
    (try simp [hset, hrow, upd]) <;> (try (repeat' split)) <;> (try intro hx) <;> (first | rfl | exact c9 hx | (exfalso; omega) | (exact absurd rfl hx) | (simp_all; done))
  · (try simp [hset, hrow, upd]) <;> (try (repeat' split)) <;> (first | rfl | exact (c10 j (by omega)).1 | (exfalso; omega) | (simp_all; done))
  · (try simp [hset, hrow, upd]) <;> (try (repeat' split)) <;> (first | rfl | exact (c10 j (by omega)).2 | (exfalso; omega) | (simp_all; done))
theorem co_unpart {h : HP} {g n p k : Nat} {s : Nat → Int32} {i : Nat} {v : Int32} (hn : n ≤ 8) (hp : p ≤ 5) (hk : k ≤ 6) (hi : i < 40) (C : CO h g s n p k) : CO (hset (hset h g 5 i (-1)) g 6 i v) g (upd s (45 + 2 * i) (-1)) n p k := by
  obtain ⟨⟨c1, c2, c3, c4⟩, c5, c6, c7, c8, c9, c10⟩ := C
  refine ⟨⟨?_, ?_, ?_, ?_⟩, fun j hj => ?_, fun j hj => ?_, fun j hj => ⟨?_, ?_⟩, fun j hj => ?_, fun j hj hx => ?_, fun j hj => ⟨?_, ?_⟩⟩
  · (try simp [hset, hrow, upd]) <;> (try (repeat' split)) <;> (first | rfl | exact c1 | (exfalso; omega) | (simp_all; done))
  · (try simp [hset, hrow, upd]) <;> (try (repeat' split)) <;> (first | rfl | exact c2 | (exfalso; omega) | (simp_all; done))
  · (try simp [hset, hrow, upd]) <;> (try (repeat' split)) <;> (first | rfl | exact c3 | (exfalso; omega) | (simp_all; done))
  · (try simp [hset, hrow, upd]) <;> (try (repeat' split)) <;> (first | rfl | exact c4 | (exfalso; omega) | (simp_all; done))
  · (try simp [hset, hrow, upd]) <;> (try (repeat' split)) <;> (first | rfl | exact c5 j (by omega) | (exfalso; omega) | (simp_all; done))
  · (try simp [hset, hrow, upd]) <;> (try (repeat' split)) <;> (first | rfl | exact c6 j (by omega) | (exfalso; omega) | (simp_all; done))
  · (try simp [hset, hrow, upd]) <;> (try (repeat' split)) <;> (first | rfl | exact (c7 j (by omega)).1 | (exfalso; omega) | (simp_all; done))
  · (try simp [hset, hrow, upd]) <;> (try (repeat' split)) <;> (first | rfl | exact (c7 j (by omega)).2 | (exfalso; omega) | (simp_all; done))
  · (try simp [hset, hrow, upd]) <;> (try (repeat' split)) <;> (first | rfl | exact c8 j (by omega) | (exfalso; omega) | (simp_all; done))
  · have c9 := c9 j (by omega)
    revert hx
    (try simp [hset, hrow, upd]) <;> (try (repeat' split)) <;> (try intro hx) <;> (first | rfl | exact c9 hx | (exfalso; omega) | (exact absurd rfl hx) | (simp_all; done))
  · (try simp [hset, hrow, upd]) <;> (try (repeat' split)) <;> (first | rfl | exact (c10 j (by omega)).1 | (exfalso; omega) | (simp_all; done))
  · (try simp [hset, hrow, upd]) <;> (try (repeat' split)) <;> (first | rfl | exact (c10 j (by omega)).2 | (exfalso; omega) | (simp_all; done))
theorem co_enc {h : HP} {g n p k : Nat} {s : Nat → Int32} {v : Int32} (hn : n ≤ 8) (hp : p ≤ 5) (hk : k ≤ 6) (C : CO h g s n p k) : CO (hset h g 0 3 v) g (upd s 9 v) n p k := by
  obtain ⟨⟨c1, c2, c3, c4⟩, c5, c6, c7, c8, c9, c10⟩ := C
  refine ⟨⟨?_, ?_, ?_, ?_⟩, fun j hj => ?_, fun j hj => ?_, fun j hj => ⟨?_, ?_⟩, fun j hj => ?_, fun j hj hx => ?_, fun j hj => ⟨?_, ?_⟩⟩
  · (try simp [hset, hrow, upd]) <;> (try (repeat' split)) <;> (first | rfl | exact c1 | (exfalso; omega) | (simp_all; done))
  · (try simp [hset, hrow, upd]) <;> (try (repeat' split)) <;> (first | rfl | exact c2 | (exfalso; omega) | (simp_all; done))
  · (try simp [hset, hrow, upd]) <;> (try (repeat' split)) <;> (first | rfl | exact c3 | (exfalso; omega) | (simp_all; done))
  · (try simp [hset, hrow, upd]) <;> (try (repeat' split)) <;> (first | rfl | exact c4 | (exfalso; omega) | (simp_all; done))
  · (try simp [hset, hrow, upd]) <;> (try (repeat' split)) <;> (first | rfl | exact c5 j (by omega) | (exfalso; omega) | (simp_all; done))
  · (try simp [hset, hrow, upd]) <;> (try (repeat' split)) <;> (first | rfl | exact c6 j (by omega) | (exfalso; omega) | (simp_all; done))
  · (try simp [hset, hrow, upd]) <;> (try (repeat' split)) <;> (first | rfl | exact (c7 j (by omega)).1 | (exfalso; omega) | (simp_all; done))
  · (try simp [hset, hrow, upd]) <;> (try (repeat' split)) <;> (first | rfl | exact (c7 j (by omega)).2 | (exfalso; omega) | (simp_all; done))
  · (try simp [hset, hrow, upd]) <;> (try (repeat' split)) <;> (first | rfl | exact c8 j (by omega) | (exfalso; omega) | (simp_all; done))
  · have c9 := c9 j (by omega)
    revert hx
    (try simp [hset, hrow, upd]) <;> (try (repeat' split)) <;> (try intro hx) <;> (first | rfl | exact c9 hx | (exfalso; omega) | (exact absurd rfl hx) | (simp_all; done))
  · (try simp [hset, hrow, upd]) <;> (try (repeat' split)) <;> (first | rfl | exact (c10 j (by omega)).1 | (exfalso; omega) | (simp_all; done))
  · (try simp [hset, hrow, upd]) <;> (try (repeat' split)) <;> (first | rfl | exact (c10 j (by omega)).2 | (exfalso; omega) | (simp_all; done))
theorem co_unit {h : HP} {g n p k : Nat} {s : Nat → Int32} {c : Nat} {v : Int32} (hn : n ≤ 8) (hp : p ≤ 5) (hk : k ≤ 6) (hc : c < 6) (C : CO h g s n p k) : CO (hset h g 3 c v) g (upd s (33 + c) v) n p k := by
  obtain ⟨⟨c1, c2, c3, c4⟩, c5, c6, c7, c8, c9, c10⟩ := C
  refine ⟨⟨?_, ?_, ?_, ?_⟩, fun j hj => ?_, fun j hj => ?_, fun j hj => ⟨?_, ?_⟩, fun j hj => ?_, fun j hj hx => ?_, fun j hj => ⟨?_, ?_⟩⟩
  · (try simp [hset, hrow, upd]) <;> (try (repeat' split)) <;> (first | rfl | exact c1 | (exfalso; omega) | (simp_all; done))
  · (try simp [hset, hrow, upd]) <;> (try (repeat' split)) <;> (first | rfl | exact c2 | (exfalso; omega) | (simp_all; done))
  · (try simp [hset, hrow, upd]) <;> (try (repeat' split)) <;> (first | rfl | exact c3 | (exfalso; omega) | (simp_all; done))
  · (try simp [hset, hrow, upd]) <;> (try (repeat' split)) <;> (first | rfl | exact c4 | (exfalso; omega) | (simp_all; done))
  · (try simp [hset, hrow, upd]) <;> (try (repeat' split)) <;> (first | rfl | exact c5 j (by omega) | (exfalso; omega) | (simp_all; done))
  · (try simp [hset, hrow, upd]) <;> (try (repeat' split)) <;> (first | rfl | exact c6 j (by omega) | (exfalso; omega) | (simp_all; done))
  · (try simp [hset, hrow, upd]) <;> (try (repeat' split)) <;> (first | rfl | exact (c7 j (by omega)).1 | (exfalso; omega) | (simp_all; done))
  · (try simp [hset, hrow, upd]) <;> (try (repeat' split)) <;> (first | rfl | exact (c7 j (by omega)).2 | (exfalso; omega) | (simp_all; done))
  · (try simp [hset, hrow, upd]) <;> (try (repeat' split)) <;> (first | rfl | exact c8 j (by omega) | (exfalso; omega) | (simp_all; done))
  · have c9 := c9 j (by omega)
    revert hx
    (try simp [hset, hrow, upd]) <;> (try (repeat' split)) <;> (try intro hx) <;> (first | rfl | exact c9 hx | (exfalso; omega) | (exact absurd rfl hx) | (simp_all; done))
  · (try simp [hset, hrow, upd]) <;> (try (repeat' split)) <;> (first | rfl | exact (c10 j (by omega)).1 | (exfalso; omega) | (simp_all; done))
  · (try simp [hset, hrow, upd]) <;> (try (repeat' split)) <;> (first | rfl | exact (c10 j (by omega)).2 | (exfalso; omega) | (simp_all; done))
theorem co_pin {h : HP} {g n p k : Nat} {s : Nat → Int32} {a : Nat} {v : Int32} (hn : n ≤ 8) (hp : p ≤ 5) (hk : k ≤ 6) (ha : a < 8) (C : CO h g s n p k) : CO (hset h g 7 a v) g (upd s (10 + a) v) n p k := by
  obtain ⟨⟨c1, c2, c3, c4⟩, c5, c6, c7, c8, c9, c10⟩ := C
  refine ⟨⟨?_, ?_, ?_, ?_⟩, fun j hj => ?_, fun j hj => ?_, fun j hj => ⟨?_, ?_⟩, fun j hj => ?_, fun j hj hx => ?_, fun j hj => ⟨?_, ?_⟩⟩
  · (try simp [hset, hrow, upd]) <;> (try (repeat' split)) <;> (first | rfl | exact c1 | (exfalso; omega) | (simp_all; done))
  · (try simp [hset, hrow, upd]) <;> (try (repeat' split)) <;> (first | rfl | exact c2 | (exfalso; omega) | (simp_all; done))
  · (try simp [hset, hrow, upd]) <;> (try (repeat' split)) <;> (first | rfl | exact c3 | (exfalso; omega) | (simp_all; done))
  · (try simp [hset, hrow, upd]) <;> (try (repeat' split)) <;> (first | rfl | exact c4 | (exfalso; omega) | (simp_all; done))
  · (try simp [hset, hrow, upd]) <;> (try (repeat' split)) <;> (first | rfl | exact c5 j (by omega) | (exfalso; omega) | (simp_all; done))
  · (try simp [hset, hrow, upd]) <;> (try (repeat' split)) <;> (first | rfl | exact c6 j (by omega) | (exfalso; omega) | (simp_all; done))
  · (try simp [hset, hrow, upd]) <;> (try (repeat' split)) <;> (first | rfl | exact (c7 j (by omega)).1 | (exfalso; omega) | (simp_all; done))
  · (try simp [hset, hrow, upd]) <;> (try (repeat' split)) <;> (first | rfl | exact (c7 j (by omega)).2 | (exfalso; omega) | (simp_all; done))
  · (try simp [hset, hrow, upd]) <;> (try (repeat' split)) <;> (first | rfl | exact c8 j (by omega) | (exfalso; omega) | (simp_all; done))
  · have c9 := c9 j (by omega)
    revert hx
    (try simp [hset, hrow, upd]) <;> (try (repeat' split)) <;> (try intro hx) <;> (first | rfl | exact c9 hx | (exfalso; omega) | (exact absurd rfl hx) | (simp_all; done))
  · (try simp [hset, hrow, upd]) <;> (try (repeat' split)) <;> (first | rfl | exact (c10 j (by omega)).1 | (exfalso; omega) | (simp_all; done))
  · (try simp [hset, hrow, upd]) <;> (try (repeat' split)) <;> (first | rfl | exact (c10 j (by omega)).2 | (exfalso; omega) | (simp_all; done))
/-- another order -/
def ord (s o : Nat → Int32) : Nat → Int32 := fun i => if 18 ≤ i ∧ i < 26 then o (i - 18) else s i
theorem co_ord {h h' : HP} {g n p k : Nat} {s o : Nat → Int32} (hn : n ≤ 8) (hp : p ≤ 5) (hk : k ≤ 6) (C : CO h g s n p k) (e : ∀ j, ¬ j = 8 → h' g j = h g j) (eo : ∀ j, j < 8 → h' g 8 j = o j) : CO h' g (ord s o) n p k := by
  obtain ⟨⟨c1, c2, c3, c4⟩, c5, c6, c7, c8, c9, c10⟩ := C
  have q : ∀ i, ¬ (18 ≤ i ∧ i < 26) → ord s o i = s i := fun i hi => if_neg hi
  refine ⟨⟨by rw [e 0 (by omega)]; exact c1, by rw [e 0 (by omega)]; exact c2, by rw [e 0 (by omega)]; exact c3, by rw [e 0 (by omega), q 9 (by omega)]; exact c4⟩, fun j hj => ?_, fun j hj => ?_, fun j hj => ⟨?_, ?_⟩, fun j hj => ?_, fun j hj hx => ?_, fun j hj => ⟨?_, ?_⟩⟩
  · rw [e 1 (by omega), q _ (by omega)]; exact c5 j hj
  · rw [e 2 (by omega), q _ (by omega)]; exact c6 j hj
  · rw [e 3 (by omega), q _ (by omega)]; exact (c7 j hj).1
  · rw [e 4 (by omega), q _ (by omega)]; exact (c7 j hj).2
  · rw [e 5 (by omega), q _ (by omega)]; exact c8 j hj
  · rw [q _ (by omega)] at hx; rw [e 6 (by omega), q _ (by omega)]; exact c9 j hj hx
  · rw [e 7 (by omega), q _ (by omega)]; exact (c10 j hj).1
  · rw [eo j hj]
    show o j = if 18 ≤ 18 + j ∧ 18 + j < 26 then o (18 + j - 18) else s (18 + j)
    rw [if_pos (by omega), Nat.add_sub_cancel_left]
/-- the empty row -/
def emp : Nat → Int32 := fun i => if 10 ≤ i ∧ i < 18 then -1 else if 18 ≤ i ∧ i < 26 then nI (i - 18) else if 45 ≤ i ∧ i < 125 ∧ (i - 45) % 2 = 0 then -1 else 0
def WP (s : Nat → Int32) (n p : Nat) : Prop := ∀ a, a < 8 → ∀ q, q < 5 → ¬ (a < n ∧ q < p) → kd s a q = -1
theorem emp_WF : WF emp 0 0 0 := by
  refine ⟨⟨rfl, rfl, rfl⟩, ⟨by decide, by decide, by decide⟩, ⟨0, rfl, by decide⟩, fun j hj => by omega, fun j hj => by omega, fun a ha q hq => Or.inl ?_, fun a ha => by omega⟩
  unfold kd emp
  rw [if_neg (by omega), if_neg (by omega), if_pos (by omega)]
theorem emp_WD : WD emp := by
  refine ⟨fun a ha => ?_, fun j hj => ?_⟩
  · unfold emp
    rw [if_pos (by omega)]
  · unfold emp
    rw [if_neg (by omega), if_pos (by omega), Nat.add_sub_cancel_left]
theorem emp_WP : WP emp 0 0 := by
  intro a ha q hq _
  unfold kd emp
  rw [if_neg (by omega), if_neg (by omega), if_pos (by omega)]
theorem cn_congr {s s' : Nat → Int32} {a : Nat} {y : Int32} : ∀ q, (∀ i, i < q → kd s' a i = kd s a i) → cn s' a y q = cn s a y q := by
  intro q
  induction q with
  | zero => intro _; rfl
  | succ q ih =>
    intro h
    show cn s' a y q + (if kd s' a q = y then 1 else 0) = cn s a y q + (if kd s a q = y then 1 else 0)
    rw [ih (fun i hi => h i (by omega)), h q (by omega)]
theorem cn_zero {s : Nat → Int32} {a : Nat} {y : Int32} : ∀ q, (∀ i, i < q → ¬ kd s a i = y) → cn s a y q = 0 := by
  intro q
  induction q with
  | zero => intro _; rfl
  | succ q ih =>
    intro h
    show cn s a y q + (if kd s a q = y then 1 else 0) = 0
    rw [ih (fun i hi => h i (by omega)), if_neg (h q (by omega))]
theorem kd_upd {s : Nat → Int32} {i : Nat} {v : Int32} (h : i < 45) (a q : Nat) : kd (upd s i v) a q = kd s a q := by
  unfold kd
  exact up_ne (by omega)
theorem tn_upd {s : Nat → Int32} {i : Nat} {v : Int32} (h : i < 45) (a q : Nat) : tn (upd s i v) a q = tn s a q := by
  unfold tn
  exact up_ne (by omega)
theorem cn_upd {s : Nat → Int32} {i : Nat} {v y : Int32} (h : i < 45) (a q : Nat) : cn (upd s i v) a y q = cn s a y q := cn_congr q (fun j _ => kd_upd h a j)
theorem pw_lt {n e : Nat} (h : e < 2 ^ n) : e < 2 ^ (n + 1) := Nat.lt_trans h (Nat.pow_lt_pow_right (by decide) (by omega))
theorem wf_song {s : Nat → Int32} {n p k v : Nat} (F : WF s n p k) (P : WP s n p) (h8 : n < 8) (h1 : 1 ≤ v) (h20 : v ≤ 20) : WF (upd (upd s (1 + n) (nI v)) 0 (nI (n + 1))) (n + 1) p k := by
  obtain ⟨⟨a1, a2, a3⟩, ⟨b1, b2, b3⟩, ⟨e, e1, e2⟩, ft, fu, fk, fc⟩ := F
  refine ⟨⟨up_same, ?_, ?_⟩, ⟨by omega, b2, b3⟩, ⟨e, ?_, pw_lt e2⟩, fun j hj => ?_, fun j hj => ?_, fun a ha q hq => ?_, fun a ha c hc => ?_⟩
  · rw [up_ne (by omega), up_ne (by omega)]; exact a2
  · rw [up_ne (by omega), up_ne (by omega)]; exact a3
  · rw [up_ne (by omega), up_ne (by omega)]; exact e1
  · rw [up_ne (by omega)]
    by_cases q : j = n
    · rw [q, up_same]; exact ⟨v, rfl, h1, h20⟩
    · rw [up_ne (by omega)]; exact ft j (by omega)
  · rw [up_ne (by omega), up_ne (by omega)]; exact fu j hj
  · rw [kd_upd (by omega), kd_upd (by omega), tn_upd (by omega), tn_upd (by omega)]; exact fk a ha q hq
  · rw [cn_upd (by omega), cn_upd (by omega), up_ne (by omega), up_ne (by omega)]
    by_cases q : a = n
    · rw [cn_zero p (fun i hi => by rw [P a (by omega) i (by omega) (by omega)]; exact fun z => nI_ne_m1 (show c < 2147483648 by omega) z.symm)]
      obtain ⟨u, hu, hu6⟩ := fu c hc
      rw [hu]
      exact nI_le (Nat.zero_le _) (by omega)
    · exact fc a (by omega) c hc
theorem wp_upd {s : Nat → Int32} {n p n' p' i : Nat} {v : Int32} (h : i < 45) (hn : n ≤ n') (hp : p ≤ p') (P : WP s n p) : WP (upd s i v) n' p' := by
  intro a ha q hq hx
  rw [kd_upd h]
  exact P a ha q hq (by omega)
theorem wd_upd {s : Nat → Int32} {i : Nat} {v : Int32} (h : i < 10 ∨ 26 ≤ i) (D : WD s) : WD (upd s i v) := by
  refine ⟨fun a ha => ?_, fun j hj => ?_⟩
  · rw [up_ne (by omega)]; exact D.1 a ha
  · rw [up_ne (by omega)]; exact D.2 j hj
theorem wf_player {s : Nat → Int32} {n p k : Nat} {v : Int32} (F : WF s n p k) (P : WP s n p) (h5 : p < 5) : WF (upd (upd s (27 + p) v) 26 (nI (p + 1))) n (p + 1) k := by
  obtain ⟨⟨a1, a2, a3⟩, ⟨b1, b2, b3⟩, ⟨e, e1, e2⟩, ft, fu, fk, fc⟩ := F
  refine ⟨⟨?_, up_same, ?_⟩, ⟨b1, by omega, b3⟩, ⟨e, ?_, e2⟩, fun j hj => ?_, fun j hj => ?_, fun a ha q hq => ?_, fun a ha c hc => ?_⟩
  · rw [up_ne (by omega), up_ne (by omega)]; exact a1
  · rw [up_ne (by omega), up_ne (by omega)]; exact a3
  · rw [up_ne (by omega), up_ne (by omega)]; exact e1
  · rw [up_ne (by omega), up_ne (by omega)]; exact ft j hj
  · rw [up_ne (by omega), up_ne (by omega)]; exact fu j hj
  · rw [kd_upd (by omega), kd_upd (by omega), tn_upd (by omega), tn_upd (by omega)]; exact fk a ha q hq
  · rw [cn_upd (by omega), cn_upd (by omega), up_ne (by omega), up_ne (by omega)]
    show nI (cn s a (nI c) p + (if kd s a p = nI c then 1 else 0)) ≤ _
    rw [if_neg (by rw [P a (by omega) p (by omega) (by omega)]; exact fun z => nI_ne_m1 (show c < 2147483648 by omega) z.symm)]
    exact fc a ha c hc
theorem wf_kind {s : Nat → Int32} {n p k u : Nat} {v : Int32} (F : WF s n p k) (h6 : k < 6) (hu : u ≤ 6) : WF (upd (upd (upd s (33 + k) (nI u)) (39 + k) v) 32 (nI (k + 1))) n p (k + 1) := by
  obtain ⟨⟨a1, a2, a3⟩, ⟨b1, b2, b3⟩, ⟨e, e1, e2⟩, ft, fu, fk, fc⟩ := F
  refine ⟨⟨?_, ?_, up_same⟩, ⟨b1, b2, by omega⟩, ⟨e, ?_, e2⟩, fun j hj => ?_, fun j hj => ?_, fun a ha q hq => ?_, fun a ha c hc => ?_⟩
  · rw [up_ne (by omega), up_ne (by omega), up_ne (by omega)]; exact a1
  · rw [up_ne (by omega), up_ne (by omega), up_ne (by omega)]; exact a2
  · rw [up_ne (by omega), up_ne (by omega), up_ne (by omega)]; exact e1
  · rw [up_ne (by omega), up_ne (by omega), up_ne (by omega)]; exact ft j hj
  · rw [up_ne (by omega), up_ne (by omega)]
    by_cases q : j = k
    · rw [q, up_same]; exact ⟨u, rfl, hu⟩
    · rw [up_ne (by omega)]; exact fu j (by omega)
  · rw [kd_upd (by omega), kd_upd (by omega), kd_upd (by omega), tn_upd (by omega), tn_upd (by omega), tn_upd (by omega)]
    rcases fk a ha q hq with z | ⟨⟨c, c1, c2⟩, z⟩
    · exact Or.inl z
    · exact Or.inr ⟨⟨c, by omega, c2⟩, z⟩
  · rw [cn_upd (by omega), cn_upd (by omega), cn_upd (by omega), up_ne (by omega), up_ne (by omega)]
    by_cases q : c = k
    · subst q
      rw [up_same, cn_zero p (fun i hi => ?_)]
      · exact nI_le (Nat.zero_le _) (by omega)
      · rcases fk a (by omega) i (by omega) with z | ⟨⟨c', d1, d2⟩, -⟩
        · rw [z]; exact fun y => nI_ne_m1 (show c < 2147483648 by omega) y.symm
        · rw [d2]; exact fun y => absurd ((nI_eq (by omega) (by omega)).mp y) (by omega)
    · rw [up_ne (by omega)]; exact fc a ha c (by omega)
theorem wf_enc {s : Nat → Int32} {n p k e : Nat} (F : WF s n p k) (he : e < 2 ^ n) : WF (upd s 9 (nI e)) n p k := by
  obtain ⟨⟨a1, a2, a3⟩, ⟨b1, b2, b3⟩, -, ft, fu, fk, fc⟩ := F
  refine ⟨⟨?_, ?_, ?_⟩, ⟨b1, b2, b3⟩, ⟨e, up_same, he⟩, fun j hj => ?_, fun j hj => ?_, fun a ha q hq => ?_, fun a ha c hc => ?_⟩
  · rw [up_ne (by omega)]; exact a1
  · rw [up_ne (by omega)]; exact a2
  · rw [up_ne (by omega)]; exact a3
  · rw [up_ne (by omega)]; exact ft j hj
  · rw [up_ne (by omega)]; exact fu j hj
  · rw [kd_upd (by omega), tn_upd (by omega)]; exact fk a ha q hq
  · rw [cn_upd (by omega), up_ne (by omega)]; exact fc a ha c hc
theorem wf_unit {s : Nat → Int32} {n p k c u : Nat} (F : WF s n p k) (hc : c < k) (hu : u ≤ 6) (hx : ∀ a, a < n → cn s a (nI c) p ≤ u) : WF (upd s (33 + c) (nI u)) n p k := by
  obtain ⟨⟨a1, a2, a3⟩, ⟨b1, b2, b3⟩, ⟨e, e1, e2⟩, ft, fu, fk, fc⟩ := F
  refine ⟨⟨?_, ?_, ?_⟩, ⟨b1, b2, b3⟩, ⟨e, ?_, e2⟩, fun j hj => ?_, fun j hj => ?_, fun a ha q hq => ?_, fun a ha d hd => ?_⟩
  · rw [up_ne (by omega)]; exact a1
  · rw [up_ne (by omega)]; exact a2
  · rw [up_ne (by omega)]; exact a3
  · rw [up_ne (by omega)]; exact e1
  · rw [up_ne (by omega)]; exact ft j hj
  · by_cases q : j = c
    · rw [q, up_same]; exact ⟨u, rfl, hu⟩
    · rw [up_ne (by omega)]; exact fu j hj
  · rw [kd_upd (by omega), tn_upd (by omega)]; exact fk a ha q hq
  · rw [cn_upd (by omega)]
    by_cases q : d = c
    · rw [q, up_same]; exact nI_le (hx a ha) (by omega)
    · rw [up_ne (by omega)]; exact fc a ha d hd
theorem wf_low {s : Nat → Int32} {n p k i : Nat} {v : Int32} (F : WF s n p k) (hi : 10 ≤ i ∧ i < 26) : WF (upd s i v) n p k := by
  obtain ⟨⟨a1, a2, a3⟩, ⟨b1, b2, b3⟩, ⟨e, e1, e2⟩, ft, fu, fk, fc⟩ := F
  refine ⟨⟨?_, ?_, ?_⟩, ⟨b1, b2, b3⟩, ⟨e, ?_, e2⟩, fun j hj => ?_, fun j hj => ?_, fun a ha q hq => ?_, fun a ha d hd => ?_⟩
  · rw [up_ne (by omega)]; exact a1
  · rw [up_ne (by omega)]; exact a2
  · rw [up_ne (by omega)]; exact a3
  · rw [up_ne (by omega)]; exact e1
  · rw [up_ne (by omega)]; exact ft j hj
  · rw [up_ne (by omega)]; exact fu j hj
  · rw [kd_upd (by omega), tn_upd (by omega)]; exact fk a ha q hq
  · rw [cn_upd (by omega), up_ne (by omega)]; exact fc a ha d hd
theorem wf_ord {s o : Nat → Int32} {n p k : Nat} (F : WF s n p k) : WF (ord s o) n p k := by
  have q : ∀ i, ¬ (18 ≤ i ∧ i < 26) → ord s o i = s i := fun i hi => if_neg hi
  have qk : ∀ a b, kd (ord s o) a b = kd s a b := fun a b => q _ (by omega)
  have qt : ∀ a b, tn (ord s o) a b = tn s a b := fun a b => q _ (by omega)
  obtain ⟨⟨a1, a2, a3⟩, ⟨b1, b2, b3⟩, ⟨e, e1, e2⟩, ft, fu, fk, fc⟩ := F
  refine ⟨⟨by rw [q _ (by omega)]; exact a1, by rw [q _ (by omega)]; exact a2, by rw [q _ (by omega)]; exact a3⟩, ⟨b1, b2, b3⟩, ⟨e, by rw [q _ (by omega)]; exact e1, e2⟩, fun j hj => by rw [q _ (by omega)]; exact ft j hj, fun j hj => by rw [q _ (by omega)]; exact fu j hj, fun a ha b hb => by rw [qk, qt]; exact fk a ha b hb, fun a ha d hd => by rw [cn_congr p (fun i _ => qk a i), q _ (by omega)]; exact fc a ha d hd⟩
theorem kd_part {s : Nat → Int32} {i : Nat} {u v : Int32} (a q : Nat) : kd (upd (upd s (45 + 2 * i) u) (46 + 2 * i) v) a q = if a * 5 + q = i then u else kd s a q := by
  unfold kd
  rw [up_ne (by omega)]
  by_cases e : a * 5 + q = i
  · rw [if_pos e, e, up_same]
  · rw [if_neg e, up_ne (by omega)]
theorem tn_part {s : Nat → Int32} {i : Nat} {u v : Int32} (a q : Nat) : tn (upd (upd s (45 + 2 * i) u) (46 + 2 * i) v) a q = if a * 5 + q = i then v else tn s a q := by
  unfold tn
  by_cases e : a * 5 + q = i
  · rw [if_pos e, e, up_same]
  · rw [if_neg e, up_ne (by omega), up_ne (by omega)]
/-- the players but one who play a kind -/
def oth (s : Nat → Int32) (a : Nat) (y : Int32) (b : Nat) : Nat → Nat
  | 0 => 0
  | q + 1 => oth s a y b q + (if ¬ q = b ∧ kd s a q = y then 1 else 0)
theorem oth_le (s : Nat → Int32) (a : Nat) (y : Int32) (b : Nat) : ∀ q, oth s a y b q ≤ q := by
  intro q
  induction q with
  | zero => exact Nat.le_refl _
  | succ q ih =>
    show oth s a y b q + (if ¬ q = b ∧ kd s a q = y then 1 else 0) ≤ q + 1
    split <;> omega
theorem oth_cn (s : Nat → Int32) (a : Nat) (y : Int32) (b : Nat) : ∀ q, cn s a y q = oth s a y b q + (if b < q ∧ kd s a b = y then 1 else 0) := by
  intro q
  induction q with
  | zero => rfl
  | succ q ih =>
    show cn s a y q + (if kd s a q = y then 1 else 0) = oth s a y b q + (if ¬ q = b ∧ kd s a q = y then 1 else 0) + (if b < q + 1 ∧ kd s a b = y then 1 else 0)
    rw [ih]
    by_cases e : q = b
    · subst e
      rw [if_neg (by omega : ¬ (q < q ∧ kd s a q = y)), if_neg (show ¬ (¬ q = q ∧ kd s a q = y) from fun z => z.1 rfl)]
      by_cases f : kd s a q = y
      · rw [if_pos f, if_pos ⟨by omega, f⟩]
      · rw [if_neg f, if_neg (fun z => f z.2)]
    · have e2 : (b < q + 1 ∧ kd s a b = y) ↔ (b < q ∧ kd s a b = y) := ⟨fun z => ⟨by omega, z.2⟩, fun z => ⟨by omega, z.2⟩⟩
      have e3 : (¬ q = b ∧ kd s a q = y) ↔ kd s a q = y := ⟨And.right, fun z => ⟨e, z⟩⟩
      simp only [e2, e3]
      exact Nat.add_right_comm _ _ _
theorem oth_congr {s s' : Nat → Int32} {a b : Nat} {y : Int32} : ∀ q, (∀ i, i < q → ¬ i = b → kd s' a i = kd s a i) → oth s' a y b q = oth s a y b q := by
  intro q
  induction q with
  | zero => intro _; rfl
  | succ q ih =>
    intro h
    show oth s' a y b q + (if ¬ q = b ∧ kd s' a q = y then 1 else 0) = oth s a y b q + (if ¬ q = b ∧ kd s a q = y then 1 else 0)
    rw [ih (fun i hi => h i (by omega))]
    by_cases e : q = b
    · rw [if_neg (fun z => z.1 e), if_neg (fun z => z.1 e)]
    · rw [h q (by omega) e]
theorem wf_part {s : Nat → Int32} {n p k a b c t u : Nat} (F : WF s n p k) (ha : a < n) (hb : b < p) (hc : c < k) (ht : t ≤ 5) (hu : s (33 + c) = nI u) (hu6 : u ≤ 6) (hx : oth s a (nI c) b p < u) : WF (upd (upd s (45 + 2 * (a * 5 + b)) (nI c)) (46 + 2 * (a * 5 + b)) (nI t)) n p k := by
  obtain ⟨⟨a1, a2, a3⟩, ⟨b1, b2, b3⟩, ⟨e, e1, e2⟩, ft, fu, fk, fc⟩ := F
  refine ⟨⟨?_, ?_, ?_⟩, ⟨b1, b2, b3⟩, ⟨e, ?_, e2⟩, fun j hj => ?_, fun j hj => ?_, fun x hx2 q hq => ?_, fun x hx2 d hd => ?_⟩
  · rw [up_ne (by omega), up_ne (by omega)]; exact a1
  · rw [up_ne (by omega), up_ne (by omega)]; exact a2
  · rw [up_ne (by omega), up_ne (by omega)]; exact a3
  · rw [up_ne (by omega), up_ne (by omega)]; exact e1
  · rw [up_ne (by omega), up_ne (by omega)]; exact ft j hj
  · rw [up_ne (by omega), up_ne (by omega)]; exact fu j hj
  · rw [kd_part, tn_part]
    by_cases z : x * 5 + q = a * 5 + b
    · rw [if_pos z, if_pos z]; exact Or.inr ⟨⟨c, hc, rfl⟩, t, ht, rfl⟩
    · rw [if_neg z, if_neg z]; exact fk x hx2 q hq
  · rw [up_ne (by omega), up_ne (by omega)]
    by_cases z : x = a
    · subst z
      have o1 := oth_cn (upd (upd s (45 + 2 * (x * 5 + b)) (nI c)) (46 + 2 * (x * 5 + b)) (nI t)) x (nI d) b p
      rw [oth_congr (s := s) p (fun i _ hib => by rw [kd_part, if_neg (by omega)]), kd_part, if_pos rfl] at o1
      rw [o1]
      by_cases y : d = c
      · subst y
        rw [if_pos ⟨hb, rfl⟩, hu]
        exact nI_le (by omega) (by omega)
      · rw [if_neg (fun z => y ((nI_eq (by omega) (by omega)).mp z.2).symm)]
        have o2 := oth_cn s x (nI d) b p
        have o3 := fc x hx2 d hd
        obtain ⟨w, hw, hw6⟩ := fu d hd
        have o4 := cn_le s x (nI d) p
        rw [hw] at o3 ⊢
        have o5 := (nI_leI (by omega) (by omega)).mp o3
        exact nI_le (by omega) (by omega)
    · rw [cn_congr (s := s) p (fun i hi => by rw [kd_part, if_neg (by omega)])]
      exact fc x hx2 d hd
theorem wp_part {s : Nat → Int32} {n p a b : Nat} {u v : Int32} (P : WP s n p) (ha : a < n) (hb : b < p) (h5 : p ≤ 5) : WP (upd (upd s (45 + 2 * (a * 5 + b)) u) (46 + 2 * (a * 5 + b)) v) n p := by
  intro x hx q hq hz
  rw [kd_part, if_neg (by omega)]
  exact P x hx q hq hz
theorem kd_un {s : Nat → Int32} {i : Nat} {u : Int32} (a q : Nat) : kd (upd s (45 + 2 * i) u) a q = if a * 5 + q = i then u else kd s a q := by
  unfold kd
  by_cases e : a * 5 + q = i
  · rw [if_pos e, e, up_same]
  · rw [if_neg e, up_ne (by omega)]
theorem tn_un {s : Nat → Int32} {i : Nat} {u : Int32} (a q : Nat) : tn (upd s (45 + 2 * i) u) a q = tn s a q := by
  unfold tn
  exact up_ne (by omega)
theorem cn_un {s : Nat → Int32} {i a : Nat} {y : Int32} (hy : ¬ (-1 : Int32) = y) : ∀ q, cn (upd s (45 + 2 * i) (-1)) a y q ≤ cn s a y q := by
  intro q
  induction q with
  | zero => exact Nat.le_refl _
  | succ q ih =>
    show cn (upd s (45 + 2 * i) (-1)) a y q + (if kd (upd s (45 + 2 * i) (-1)) a q = y then 1 else 0) ≤ cn s a y q + (if kd s a q = y then 1 else 0)
    rw [kd_un]
    by_cases e : a * 5 + q = i
    · rw [if_pos e, if_neg hy]; omega
    · rw [if_neg e]; omega
theorem wf_unpart {s : Nat → Int32} {n p k i : Nat} (F : WF s n p k) : WF (upd s (45 + 2 * i) (-1)) n p k := by
  obtain ⟨⟨a1, a2, a3⟩, ⟨b1, b2, b3⟩, ⟨e, e1, e2⟩, ft, fu, fk, fc⟩ := F
  refine ⟨⟨?_, ?_, ?_⟩, ⟨b1, b2, b3⟩, ⟨e, ?_, e2⟩, fun j hj => ?_, fun j hj => ?_, fun x hx2 q hq => ?_, fun x hx2 d hd => ?_⟩
  · rw [up_ne (by omega)]; exact a1
  · rw [up_ne (by omega)]; exact a2
  · rw [up_ne (by omega)]; exact a3
  · rw [up_ne (by omega)]; exact e1
  · rw [up_ne (by omega)]; exact ft j hj
  · rw [up_ne (by omega)]; exact fu j hj
  · rw [kd_un, tn_un]
    by_cases z : x * 5 + q = i
    · rw [if_pos z]; exact Or.inl rfl
    · rw [if_neg z]; exact fk x hx2 q hq
  · rw [up_ne (by omega)]
    obtain ⟨w, hw, hw6⟩ := fu d hd
    have o3 := fc x hx2 d hd
    have o4 := cn_le s x (nI d) p
    have o6 := cn_un (s := s) (i := i) (a := x) (y := nI d) (fun z => nI_ne_m1 (show d < 2147483648 by omega) z.symm) p
    rw [hw] at o3 ⊢
    have o5 := (nI_leI (by omega) (by omega)).mp o3
    exact nI_le (by omega) (by omega)
