/-- cells that name none of the moved arrays stay as they are -/
theorem kE_keep {D : va_G} {gc : Nat → ClassId} {M M' : KM} {c cs : Nat} (hcc : (c = 39 ∧ cs = 38) ∨ (c = 40 ∧ cs = 38) ∨ (c = 41 ∧ cs = 36)) (ha : ∀ j, j ≠ c → M'.1 j = M.1 j) (hl : ∀ j, j ≠ c → M'.2.1 j = M.2.1 j) (hi : ∀ j, j ≠ c → M'.2.2.1 j = M.2.2.1 j) (hv : ∀ j, j ≠ c → M'.2.2.2 j = M.2.2.2 j) : ∀ j, j < 42 → j ≠ c → j ≠ cs → ∀ (x : Nat) (H : Heap), va_at D vwCl (x, kE gc M.1 M.2.1 (M.2.2.1 j) (M.2.2.2 j) j) H → va_at D vwCl (x, kE gc M'.1 M'.2.1 (M'.2.2.1 j) (M'.2.2.2 j) j) H := by
  intro j hj hjc hjs x H h
  rw [hi j hjc, hv j hjc]
  generalize M.2.2.1 j = r at h ⊢
  generalize M.2.2.2 j = lr at h ⊢
  have e : ∀ k, k < 39 → M'.1 k = M.1 k := fun k hk => ha k (by omega)
  rcases (show j = 0 ∨ j = 1 ∨ j = 2 ∨ j = 3 ∨ j = 4 ∨ j = 5 ∨ j = 6 ∨ j = 7 ∨ j = 8 ∨ j = 9 ∨ j = 10 ∨ j = 11 ∨ j = 12 ∨ j = 13 ∨ j = 14 ∨ j = 15 ∨ j = 16 ∨ j = 17 ∨ j = 18 ∨ j = 19 ∨ j = 20 ∨ j = 21 ∨ j = 22 ∨ j = 23 ∨ j = 24 ∨ j = 25 ∨ j = 26 ∨ j = 27 ∨ j = 28 ∨ j = 29 ∨ j = 30 ∨ j = 31 ∨ j = 32 ∨ j = 33 ∨ j = 34 ∨ j = 35 ∨ j = 36 ∨ j = 37 ∨ j = 38 ∨ j = 39 ∨ j = 40 ∨ j = 41 by omega) with rfl | rfl | rfl | rfl | rfl | rfl | rfl | rfl | rfl | rfl | rfl | rfl | rfl | rfl | rfl | rfl | rfl | rfl | rfl | rfl | rfl | rfl | rfl | rfl | rfl | rfl | rfl | rfl | rfl | rfl | rfl | rfl | rfl | rfl | rfl | rfl | rfl | rfl | rfl | rfl | rfl | rfl
  · show va_at D vwCl (x, .inr (6, [.ref (M'.1 (1)), .ref (M'.1 (14)), .ref (M'.1 (36)), .int (r 3)])) H; rw [e 1 (by decide), e 14 (by decide), e 36 (by decide)]; exact h
  · exact (show H[x]? = some (vp_cell _ _) from h).trans (congrArg some (vq_congr (fun k hk => by show some (M.1 (2 + k)) = some (M'.1 (2 + k)); rw [e _ (by omega)])))
  · show va_at D vwCl (x, .inr (2, [.ref (M'.1 (6)), .ref (M'.1 (10)), .int (r 2)])) H; rw [e 6 (by decide), e 10 (by decide)]; exact h
  · show va_at D vwCl (x, .inr (2, [.ref (M'.1 (7)), .ref (M'.1 (11)), .int (r 2)])) H; rw [e 7 (by decide), e 11 (by decide)]; exact h
  · show va_at D vwCl (x, .inr (2, [.ref (M'.1 (8)), .ref (M'.1 (12)), .int (r 2)])) H; rw [e 8 (by decide), e 12 (by decide)]; exact h
  · show va_at D vwCl (x, .inr (2, [.ref (M'.1 (9)), .ref (M'.1 (13)), .int (r 2)])) H; rw [e 9 (by decide), e 13 (by decide)]; exact h
  · exact h
  · exact h
  · exact h
  · exact h
  · exact h
  · exact h
  · exact h
  · exact h
  · show va_at D vwCl (x, .inr (0, [.ref (M'.1 (16)), .ref (M'.1 (18)), .int (r 2)])) H; rw [e 16 (by decide), e 18 (by decide)]; exact h
  · show va_at D vwCl (x, .inr (0, [.ref (M'.1 (17)), .ref (M'.1 (19)), .int (r 2)])) H; rw [e 17 (by decide), e 19 (by decide)]; exact h
  · exact (show H[x]? = some (vp_cell _ _) from h).trans (congrArg some (vq_congr (fun k hk => by show some (M.1 (20 + 4 * 0 + k)) = some (M'.1 (20 + 4 * 0 + k)); rw [e _ (by omega)])))
  · exact (show H[x]? = some (vp_cell _ _) from h).trans (congrArg some (vq_congr (fun k hk => by show some (M.1 (20 + 4 * 1 + k)) = some (M'.1 (20 + 4 * 1 + k)); rw [e _ (by omega)])))
  · exact (show H[x]? = some (vp_cell _ _) from h).trans (congrArg some (vq_congr (fun k hk => by show some (M.1 (28 + 2 * 0 + k)) = some (M'.1 (28 + 2 * 0 + k)); rw [e _ (by omega)])))
  · exact (show H[x]? = some (vp_cell _ _) from h).trans (congrArg some (vq_congr (fun k hk => by show some (M.1 (28 + 2 * 1 + k)) = some (M'.1 (28 + 2 * 1 + k)); rw [e _ (by omega)])))
  · show va_at D vwCl (x, .inr (5, [.int (r 0), .int (r 1), .int (r 2), .int (r 3), .int (r 4), .int (r 5), .ref (M'.1 (2)), .int (r 7)])) H; rw [e 2 (by decide)]; exact h
  · show va_at D vwCl (x, .inr (5, [.int (r 0), .int (r 1), .int (r 2), .int (r 3), .int (r 4), .int (r 5), .ref (M'.1 (3)), .int (r 7)])) H; rw [e 3 (by decide)]; exact h
  · show va_at D vwCl (x, .inr (5, [.int (r 0), .int (r 1), .int (r 2), .int (r 3), .int (r 4), .int (r 5), .ref (M'.1 (4)), .int (r 7)])) H; rw [e 4 (by decide)]; exact h
  · show va_at D vwCl (x, .inr (5, [.int (r 0), .int (r 1), .int (r 2), .int (r 3), .int (r 4), .int (r 5), .ref (M'.1 (5)), .int (r 7)])) H; rw [e 5 (by decide)]; exact h
  · show va_at D vwCl (x, .inr (5, [.int (r 0), .int (r 1), .int (r 2), .int (r 3), .int (r 4), .int (r 5), .ref (M'.1 (2)), .int (r 7)])) H; rw [e 2 (by decide)]; exact h
  · show va_at D vwCl (x, .inr (5, [.int (r 0), .int (r 1), .int (r 2), .int (r 3), .int (r 4), .int (r 5), .ref (M'.1 (3)), .int (r 7)])) H; rw [e 3 (by decide)]; exact h
  · show va_at D vwCl (x, .inr (5, [.int (r 0), .int (r 1), .int (r 2), .int (r 3), .int (r 4), .int (r 5), .ref (M'.1 (4)), .int (r 7)])) H; rw [e 4 (by decide)]; exact h
  · show va_at D vwCl (x, .inr (5, [.int (r 0), .int (r 1), .int (r 2), .int (r 3), .int (r 4), .int (r 5), .ref (M'.1 (5)), .int (r 7)])) H; rw [e 5 (by decide)]; exact h
  · show va_at D vwCl (x, .inr (1, [.int (r 0), .int (r 1), .int (r 2), .ref (M'.1 (32))])) H; rw [e 32 (by decide)]; exact h
  · show va_at D vwCl (x, .inr (1, [.int (r 0), .int (r 1), .int (r 2), .ref (M'.1 (33))])) H; rw [e 33 (by decide)]; exact h
  · show va_at D vwCl (x, .inr (1, [.int (r 0), .int (r 1), .int (r 2), .ref (M'.1 (34))])) H; rw [e 34 (by decide)]; exact h
  · show va_at D vwCl (x, .inr (1, [.int (r 0), .int (r 1), .int (r 2), .ref (M'.1 (35))])) H; rw [e 35 (by decide)]; exact h
  · exact h
  · exact h
  · exact h
  · exact h
  · show va_at D vwCl (x, .inr (3, [.ref (M'.1 (37)), .int (r 1), .int (r 2), .int (r 3), .int (r 4), .int (r 5), .int (r 6), .ref (M'.1 (15)), .ref (M'.1 (38)), .ref (M'.1 (41)), .int (r 10)])) H; rw [ha 37 (by omega), ha 15 (by omega), ha 38 (by omega), ha 41 (by omega)]; exact h
  · exact h
  · show va_at D vwCl (x, .inr (4, [.int (r 0), .ref (M'.1 (39)), .ref (M'.1 (40))])) H; rw [ha 39 (by omega), ha 40 (by omega)]; exact h
  · show va_at D vwCl (x, .inl (gc 2, M'.2.1 39, .inr (.inl lr))) H; rw [hl 39 (by omega)]; exact h
  · show va_at D vwCl (x, .inl (gc 0, M'.2.1 40, .inl r)) H; rw [hl 40 (by omega)]; exact h
  · show va_at D vwCl (x, .inl (gc 2, M'.2.1 41, .inr (.inl lr))) H; rw [hl 41 (by omega)]; exact h
