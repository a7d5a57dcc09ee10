/-! The relation moves where its places stay -/
theorem Rc.cg {s b : Nat} {m m2 S S2 : gm_Mem} (h : Rc s b 0 m S) (f1 : ∀ p, p ≠ 0 → p < 33 → m2 p = m p) (f2 : ∀ k, k < 51 → m2 0 k = m 0 k) (f3 : ∀ p, p ≠ 0 → p < 59 → S2 p = S p) : Rc s b 0 m2 S2 := by
  have hn : r_net s b 0 (m 30) (m 0 45) (S 26) (S 27) S2 := h.2.2.1.cg (fun p h1 h2 => f3 p (by omega) (by omega))
  obtain ⟨hs, hl, -, ht, hr, h0, g0, g1⟩ := h
  refine ⟨?_, ?_, ?_, ?_, ?_, ?_, ⟨?_, ?_, ?_, ?_⟩, ?_, ?_, ?_, ?_⟩
  · rw [f2 0 (by decide), f2 1 (by decide), f2 2 (by decide), f2 3 (by decide), f2 4 (by decide), f2 5 (by decide), f2 6 (by decide), f2 7 (by decide), f2 8 (by decide), f3 1 (by decide) (by decide)]
    exact hs
  · rw [f1 29 (by decide) (by decide), f2 42 (by decide), f3 55 (by decide) (by decide), f3 56 (by decide) (by decide), f3 57 (by decide) (by decide), f3 58 (by decide) (by decide)]
    exact hl
  · rw [f1 30 (by decide) (by decide), f2 45 (by decide), f3 26 (by decide) (by decide), f3 27 (by decide) (by decide)]
    exact hn
  · rw [f2 38 (by decide), f1 27 (by decide) (by decide), f1 28 (by decide) (by decide), f3 52 (by decide) (by decide), f3 53 (by decide) (by decide), f3 54 (by decide) (by decide)]
    exact ht
  · rw [f1 32 (by decide) (by decide), f3 3 (by decide) (by decide), f3 15 (by decide) (by decide)]
    exact hr
  · rw [f1 3 (by decide) (by decide), f2 35 (by decide), f2 36 (by decide), f2 37 (by decide), f3 2 (by decide) (by decide)]
    exact h0
  · rw [f1 1 (by decide) (by decide), f1 2 (by decide) (by decide), f1 4 (by decide) (by decide), f3 (2 + 12 * 0) (by decide) (by decide)]
    exact g0.1
  · rw [f2 4 (by decide), f1 14 (by decide) (by decide), f1 15 (by decide) (by decide), f1 18 (by decide) (by decide), f1 20 (by decide) (by decide), f1 21 (by decide) (by decide), f1 22 (by decide) (by decide), f1 23 (by decide) (by decide), f3 (4 + 12 * 0) (by decide) (by decide), f3 (5 + 12 * 0) (by decide) (by decide), f3 (6 + 12 * 0) (by decide) (by decide)]
    exact g0.2.1
  · rw [f1 13 (by decide) (by decide), f1 16 (by decide) (by decide), f1 17 (by decide) (by decide), f1 19 (by decide) (by decide), f1 24 (by decide) (by decide), f1 25 (by decide) (by decide), f1 26 (by decide) (by decide), f3 (7 + 12 * 0) (by decide) (by decide), f3 (8 + 12 * 0) (by decide) (by decide), f3 (9 + 12 * 0) (by decide) (by decide), f3 (10 + 12 * 0) (by decide) (by decide), f3 (11 + 12 * 0) (by decide) (by decide)]
    exact g0.2.2.1
  · rw [f1 5 (by decide) (by decide), f1 6 (by decide) (by decide), f1 7 (by decide) (by decide), f1 8 (by decide) (by decide), f1 9 (by decide) (by decide), f1 10 (by decide) (by decide), f1 11 (by decide) (by decide), f1 12 (by decide) (by decide), f3 (2 + 12 * 0) (by decide) (by decide), f3 (12 + 12 * 0) (by decide) (by decide), f3 (13 + 12 * 0) (by decide) (by decide)]
    exact g0.2.2.2
  · rw [f1 1 (by decide) (by decide), f1 2 (by decide) (by decide), f1 4 (by decide) (by decide), f3 (2 + 12 * 1) (by decide) (by decide)]
    exact g1.1
  · rw [f2 4 (by decide), f1 14 (by decide) (by decide), f1 15 (by decide) (by decide), f1 18 (by decide) (by decide), f1 20 (by decide) (by decide), f1 21 (by decide) (by decide), f1 22 (by decide) (by decide), f1 23 (by decide) (by decide), f3 (4 + 12 * 1) (by decide) (by decide), f3 (5 + 12 * 1) (by decide) (by decide), f3 (6 + 12 * 1) (by decide) (by decide)]
    exact g1.2.1
  · rw [f1 13 (by decide) (by decide), f1 16 (by decide) (by decide), f1 17 (by decide) (by decide), f1 19 (by decide) (by decide), f1 24 (by decide) (by decide), f1 25 (by decide) (by decide), f1 26 (by decide) (by decide), f3 (7 + 12 * 1) (by decide) (by decide), f3 (8 + 12 * 1) (by decide) (by decide), f3 (9 + 12 * 1) (by decide) (by decide), f3 (10 + 12 * 1) (by decide) (by decide), f3 (11 + 12 * 1) (by decide) (by decide)]
    exact g1.2.2.1
  · rw [f1 5 (by decide) (by decide), f1 6 (by decide) (by decide), f1 7 (by decide) (by decide), f1 8 (by decide) (by decide), f1 9 (by decide) (by decide), f1 10 (by decide) (by decide), f1 11 (by decide) (by decide), f1 12 (by decide) (by decide), f3 (2 + 12 * 1) (by decide) (by decide), f3 (12 + 12 * 1) (by decide) (by decide), f3 (13 + 12 * 1) (by decide) (by decide)]
    exact g1.2.2.2
