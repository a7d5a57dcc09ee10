/-! save and restore -/
def vw (O : Nat) (S : gm_Mem) : gm_Mem := fun p => S (O + p)
theorem vw_0 (S : gm_Mem) : vw 0 S = S := by
  funext p
  show S (0 + p) = S p
  rw [Nat.zero_add]
theorem fit_b {x : Int32} (h : x = 0 ∨ x = 1) : gm_fit .boolean x := by
  rcases h with rfl | rfl
  · exact gm_fit_0
  · exact gm_fit_1
theorem Rc.bo {s b o O : Nat} {m S : gm_Mem} (h : Rc s b o m (vw O S)) : boS O S := by
  obtain ⟨-, -, -, ht, -, -, h0, h1⟩ := h
  obtain ⟨-, -, i0, w0⟩ := h0
  obtain ⟨-, -, i1, w1⟩ := h1
  obtain ⟨_, _, -, -, -, -, -, -, -, -, -, j0, -, -⟩ := i0
  obtain ⟨_, _, -, -, -, -, -, -, -, -, -, j1, -, -⟩ := i1
  obtain ⟨_, -, -, -, -, t0, -⟩ := ht
  refine ⟨fun a ha => ?_, fun j hj => fit_b (t0 j hj)⟩
  rcases ha with rfl | rfl
  · exact ⟨fun j hj => fit_b (j0 j hj).2.1, fun j hj => fit_b (j0 j hj).2.2.1, fit_b (w0.2.2.2.2.2.2.2.elim (fun q => Or.inl q.1) (fun q => Or.inr q.1))⟩
  · exact ⟨fun j hj => fit_b (j1 j hj).2.1, fun j hj => fit_b (j1 j hj).2.2.1, fit_b (w1.2.2.2.2.2.2.2.elim (fun q => Or.inl q.1) (fun q => Or.inr q.1))⟩
def pmS (P : Nat) (S : gm_Mem) : Prop := ∃ pd : Nat → Nat, (∀ i, i < 24 → 28 ≤ pd i ∧ pd i < 52 ∧ S (P + 27) i = nI (P + pd i)) ∧ ∀ i j, i < 24 → j < 24 → pd i = pd j → i = j
theorem Rc.copy {s b P O : Nat} {m m2 S : gm_Mem} (h : Rc s b O m (vw O S)) (hs : s ≤ 512) (hp : poS P O) (n0 : S (P + 2) 0 = 0) (n1 : S (P + 14) 0 = 1) (hpm : pmS P S) (f1 : ∀ p j, 1 ≤ p → p < 31 → j < lenM p → m2 p j = m p j) (f32 : ∀ j, j < 18 → m2 32 j = m 32 j) (f2 : ∀ k, fldM k → m2 0 k = m 0 k) : ∃ S2, gm_run gC 3 YX9_copyFrom 0 [some (.ref (P + 1)), some (.ref (O + 1))] [] S none S2 ∧ Rc s b P m2 (vw P S2) ∧ (∀ q, q < P + 1 ∨ P + 59 ≤ q → S2 q = S q) ∧ S2 (P + 2) 0 = 0 ∧ S2 (P + 14) 0 = 1 ∧ S2 (P + 27) = S (P + 27) := by
  have hb := h.bo
  obtain ⟨pd, d1, d2⟩ := hpm
  obtain ⟨n, pi, a1, a2, a3, a4, a5, a6, a7⟩ := h.2.2.1
  obtain ⟨S2, e, c, g⟩ := c_world (pd := pd) (ps := pi) hp hb (fun i hi => ⟨(d1 i hi).1, (d1 i hi).2.1⟩) (fun i hi => ⟨(a4 i hi).1, (a4 i hi).2.1⟩) d2 (fun t ht => (d1 t ht).2.2) (fun t ht => (a4 t ht).2.2)
  obtain ⟨c1, c2, c3, c4, c5⟩ := c
  refine ⟨S2, e, ?_, fun q hq => c1 q (by omega), c3.trans n0, c4.trans n1, c5⟩
  have hn : r_net s b P (m 30) (m 0 45) (vw P S2 26) (vw P S2 27) (vw P S2) := by
    refine ⟨n, pd, a1, a2, ?_, fun i hi => ⟨(d1 i hi).1, (d1 i hi).2.1, ?_⟩, d2, fun i hi k hk => ?_, a7⟩
    · exact (c2 26 1 (by decide) (by decide) (by decide)).trans a3
    · show S2 (P + 27) i = _
      rw [c5]
      exact (d1 i hi).2.2
    · exact (g i k (by omega) hk).trans (a6 i hi k hk)
  refine h.len hs f1 f32 f2 (fun p j h1 h2 hu => ?_) (hn.len (f2 45 (by unfold fldM; omega)) (fun j hj => f1 30 j (by decide) (by decide) hj) rfl (fun _ _ => rfl) (fun _ _ _ _ _ => rfl))
  have hx0 : S (O + 2) 0 = 0 := h.2.2.2.2.2.2.1.1.2.2.2.2
  have hx1 : S (O + 14) 0 = 1 := h.2.2.2.2.2.2.2.1.2.2.2.2
  by_cases h0 : (p = 2 ∨ p = 14) ∧ j = 0
  · obtain ⟨rfl | rfl, rfl⟩ := h0
    · exact (c3.trans n0).trans hx0.symm
    · exact (c4.trans n1).trans hx1.symm
  · refine c2 p j h1 (by omega) ?_
    unfold usN
    by_cases hp2 : p = 2 ∨ p = 14
    · have hj0 : j ≠ 0 := fun q => h0 ⟨hp2, q⟩
      rcases hp2 with rfl | rfl <;> simpa [usC, hj0] using hu
    · rw [if_neg (by simpa using hp2)]
      exact hu
/-- the invariant of the two whole memories; the script apart -/
def Iv (s b : Nat) (m S : gm_Mem) : Prop := Rc s b 0 m S ∧ S 60 0 = 0 ∧ S 72 0 = 1 ∧ pmS 58 S ∧ ((m 0 55 = 0 ∧ S 0 4 = 0) ∨ (m 0 55 = 1 ∧ S 0 4 = 1 ∧ Rc s b 58 (mD (m 37)) (vw 58 S)))
theorem Rc.vg {s b o : Nat} {m S S2 : gm_Mem} (h : Rc s b o m (vw 58 S)) (f : ∀ p, 59 ≤ p → p < 117 → S2 p = S p) : Rc s b o m (vw 58 S2) := by
  have e : ∀ p, 1 ≤ p → p < 59 → vw 58 S2 p = vw 58 S p := fun p h1 h2 => f (58 + p) (by omega) (by omega)
  have h' := h
  obtain ⟨hsc, hl, hn, ht, hr, h0, r0, r1⟩ := h
  refine ⟨?_, ?_, ?_, ?_, ?_, ?_, ?_, ?_⟩
  · rw [e 1 (by decide) (by decide)]
    exact hsc
  · rw [e 55 (by decide) (by decide), e 56 (by decide) (by decide), e 57 (by decide) (by decide), e 58 (by decide) (by decide)]
    exact hl
  · rw [e 26 (by decide) (by decide), e 27 (by decide) (by decide)]
    exact hn.cg (fun p h1 h2 => e p (by omega) (by omega))
  · rw [e 52 (by decide) (by decide), e 53 (by decide) (by decide), e 54 (by decide) (by decide)]
    exact ht
  · rw [e 3 (by decide) (by decide), e 15 (by decide) (by decide)]
    exact hr
  · rw [e 2 (by decide) (by decide)]
    exact h0
  · unfold RE
    rw [e (2 + 12 * 0) (by decide) (by decide), e (4 + 12 * 0) (by decide) (by decide), e (5 + 12 * 0) (by decide) (by decide), e (6 + 12 * 0) (by decide) (by decide), e (7 + 12 * 0) (by decide) (by decide), e (8 + 12 * 0) (by decide) (by decide), e (9 + 12 * 0) (by decide) (by decide), e (10 + 12 * 0) (by decide) (by decide), e (11 + 12 * 0) (by decide) (by decide), e (12 + 12 * 0) (by decide) (by decide), e (13 + 12 * 0) (by decide) (by decide)]
    exact r0
  · unfold RE
    rw [e (2 + 12 * 1) (by decide) (by decide), e (4 + 12 * 1) (by decide) (by decide), e (5 + 12 * 1) (by decide) (by decide), e (6 + 12 * 1) (by decide) (by decide), e (7 + 12 * 1) (by decide) (by decide), e (8 + 12 * 1) (by decide) (by decide), e (9 + 12 * 1) (by decide) (by decide), e (10 + 12 * 1) (by decide) (by decide), e (11 + 12 * 1) (by decide) (by decide), e (12 + 12 * 1) (by decide) (by decide), e (13 + 12 * 1) (by decide) (by decide)]
    exact r1
theorem pmS.cg {P : Nat} {S S2 : gm_Mem} (h : pmS P S) (f : S2 (P + 27) = S (P + 27)) : pmS P S2 := by
  obtain ⟨pd, d1, d2⟩ := h
  exact ⟨pd, fun i hi => by rw [f]; exact d1 i hi, d2⟩
/-- a call that keeps the snapshot keeps the invariant -/
theorem Iv.of {s b s2 b2 : Nat} {m S m2 S2 : gm_Mem} (h : Iv s b m S) (hr : Rc s2 b2 0 m2 S2) (hs : s ≤ s2) (hb : b ≤ b2) (f37 : m2 37 = m 37) (f55 : m2 0 55 = m 0 55) (f : ∀ p, 59 ≤ p → p < 117 → S2 p = S p) (f0 : S2 0 = S 0) : Iv s2 b2 m2 S2 := by
  obtain ⟨-, h1, h2, h3, h4⟩ := h
  refine ⟨hr, by rw [f 60 (by decide) (by decide)]; exact h1, by rw [f 72 (by decide) (by decide)]; exact h2, h3.cg (f 85 (by decide) (by decide)), ?_⟩
  rw [f55, f37, f0]
  exact h4.imp_right (fun q => ⟨q.1, q.2.1, (q.2.2.le hs hb).vg f⟩)
theorem rowM_of {p : Nat} (h : (1 ≤ p ∧ p < 31) ∨ p = 32) : rowM p = true := by simp [rowM]; omega
theorem r_save {s b : Nat} {m S : gm_Mem} (hs : s ≤ 512) (h : Iv s b m S) : ∃ (r : Int32) (m2 S2 : gm_Mem), gm_run gM 3 YX11_save 0 [some (.ref 0)] [] m (some (.int r)) m2 ∧ gm_run gC 4 YX10_save 0 [some (.ref 0)] [] S (some (.int r)) S2 ∧ Iv s b m2 S2 ∧ (m2 33 = m 33 ∧ m2 0 51 = m 0 51) ∧ (∀ p, 117 ≤ p → S2 p = S p) := by
  obtain ⟨hr, h60, h72, hpm, -⟩ := h
  obtain ⟨m2, e, i1, i2, i3, i4, i5⟩ := iK.all (gm_u m 0 55 1)
  have g0 : ∀ q, q ≠ 0 → gm_u (gm_u (gm_u m 0 55 1) 0 56 1) 0 57 0 q = m q := fun q hq => by simp [gm_u, hq]
  have gf : ∀ k, k ≠ 55 → k ≠ 56 → k ≠ 57 → gm_u (gm_u (gm_u m 0 55 1) 0 56 1) 0 57 0 0 k = m 0 k := fun k h1 h2 h3 => by simp [gm_u, h1, h2, h3]
  have kp : ∀ q, q ≠ 0 → q ≠ 37 → m2 q = m q := fun q h1 h2 => (i1 q h1 h2).trans (g0 q h1)
  have kf : ∀ k, k ≠ 55 → k ≠ 56 → k ≠ 57 → m2 0 k = m 0 k := fun k h1 h2 h3 => (i2 k h3).trans (gf k h1 h2 h3)
  have kl : ∀ k, fldM k → m2 0 k = m 0 k := fun k hk => by unfold fldM at hk; exact kf k (by omega) (by omega) (by omega)
  have dv : ∀ p j, (1 ≤ p ∧ p < 31) ∨ p = 32 → j < lenM p → mD (m2 37) p j = m p j := by
    intro p j hp hj
    have q1 := rowM_of hp
    have q2 := (rowM_all p (by omega) q1).2
    have q3 := i4 p j q1 hj (by omega)
    rw [g0 p (by omega)] at q3
    unfold mD
    rw [if_neg (by omega)]
    exact q3
  have hr0 : Rc s b 0 m (vw 0 S) := by rw [vw_0]; exact hr
  obtain ⟨S1, c, r1, q1, q2, q3, q4⟩ := hr0.copy (P := 58) (m2 := mD (m2 37)) hs (Or.inr ⟨rfl, rfl⟩) h60 h72 hpm (fun p j h1 h2 hj => dv p j (Or.inl ⟨h1, h2⟩) hj) (fun j hj => dv 32 j (Or.inr rfl) hj) (fun k hk => by
    have f1 := i5 k hk (by have := fix_lt hk; omega)
    have f2 : gm_u (gm_u (gm_u m 0 55 1) 0 56 1) 0 57 0 0 k = m 0 k := by
      unfold fldM at hk
      exact gf k (by omega) (by omega) (by omega)
    exact f1.trans f2)
  have ev : m2 0 45 = S1 26 1 := by
    rw [kf 45 (by decide) (by decide) (by decide), q1 26 (by decide)]
    obtain ⟨n, pi, a1, a2, a3, -⟩ := hr.2.2.1
    rw [a2, a3]
  refine ⟨m2 0 45, m2, _, PX11_save_1 e, by rw [ev]; exact PX10_save_1 c, ⟨?_, ?_, ?_, ?_, Or.inr ⟨?_, ?_, ?_⟩⟩, ⟨kp 33 (by decide) (by decide), kf 51 (by decide) (by decide) (by decide)⟩, fun p hp => ?_⟩
  · refine hr.cg (fun p h1 h2 => kp p h1 (by omega)) (fun k hk => kf k (by omega) (by omega) (by omega)) (fun p h1 h2 => ?_)
    rw [show gm_u S1 0 4 1 p = S1 p by simp only [gm_u]; exact if_neg h1]
    exact q1 p (by omega)
  · rw [gm_rp (by decide)]
    exact q2
  · rw [gm_rp (by decide)]
    exact q3
  · exact hpm.cg ((by simp [gm_u] : gm_u S1 0 4 1 (58 + 27) = S1 (58 + 27)).trans q4)
  · rw [i2 55 (by decide)]
    simp [gm_u]
  · simp [gm_u]
  · exact r1.vg (fun p h1 h2 => by simp only [gm_u]; exact if_neg (by omega))
  · rw [show gm_u S1 0 4 1 p = S1 p by simp only [gm_u]; exact if_neg (by omega)]
    exact q1 p (by omega)
theorem r_restore {s b : Nat} {m S : gm_Mem} (hs : s ≤ 512) (h : Iv s b m S) : ∃ (r : Int32) (m2 S2 : gm_Mem), gm_run gM 3 YX11_restore 0 [some (.ref 0)] [] m (some (.int r)) m2 ∧ gm_run gC 4 YX10_restore 0 [some (.ref 0)] [] S (some (.int r)) S2 ∧ Iv s b m2 S2 ∧ (m2 33 = m 33 ∧ m2 0 51 = m 0 51) ∧ (∀ p, 117 ≤ p → S2 p = S p) := by
  have hI := h
  obtain ⟨hr, h60, h72, hpm, hc⟩ := h
  rcases hc with ⟨c1, c2⟩ | ⟨c1, c2, hv⟩
  · exact ⟨_, m, S, PX11_restore_1 c1, PX10_restore_1 c2, hI, ⟨rfl, rfl⟩, fun _ _ => rfl⟩
  · obtain ⟨m2, e, i1, i2, i3, i4, i5⟩ := iR.all m
    have g0 : ∀ q, q ≠ 0 → gm_u (gm_u m 0 56 0) 0 57 0 q = m q := fun q hq => by simp [gm_u, hq]
    have kp : ∀ q, q ≠ 0 → rowM q = false → m2 q = m q := fun q h1 h2 => (i1 q h1 h2).trans (g0 q h1)
    have kf : ∀ k, k ≠ 56 → k ≠ 57 → ¬ fldM k → m2 0 k = m 0 k := fun k h2 h3 h4 => (i2 k h3 h4).trans (by simp [gm_u, h2, h3])
    have e37 : m2 37 = m 37 := kp 37 (by decide) (by decide)
    have dv : ∀ p j, (1 ≤ p ∧ p < 31) ∨ p = 32 → j < lenM p → m2 p j = mD (m 37) p j := by
      intro p j hp hj
      have q1 := rowM_of hp
      have q2 := (rowM_all p (by omega) q1).2
      have q3 := i4 p j q1 hj (by omega)
      rw [g0 37 (by decide)] at q3
      unfold mD
      rw [if_neg (by omega)]
      exact q3
    have x0 : S (0 + 2) 0 = 0 := hr.2.2.2.2.2.2.1.1.2.2.2.2
    have x1 : S (0 + 14) 0 = 1 := hr.2.2.2.2.2.2.2.1.2.2.2.2
    have pm0 : pmS 0 S := by
      obtain ⟨n, pi, -, -, -, a4, a5, -⟩ := hr.2.2.1
      exact ⟨pi, a4, a5⟩
    obtain ⟨S1, c, r1, q1, q2, q3, q4⟩ := hv.copy (P := 0) (m2 := m2) hs (Or.inl ⟨rfl, rfl⟩) x0 x1 pm0 (fun p j h1 h2 hj => dv p j (Or.inl ⟨h1, h2⟩) hj) (fun j hj => dv 32 j (Or.inr rfl) hj) (fun k hk => by
      have f1 := i5 k hk (by have := fix_lt hk; omega)
      rw [g0 37 (by decide)] at f1
      exact f1)
    rw [vw_0] at r1
    have ev : m2 0 45 = S1 26 1 := by
      obtain ⟨n, pi, a1, a2, a3, -⟩ := r1.2.2.1
      rw [a2, a3]
    have n55 : ¬ m 0 55 = 0 := by rw [c1]; decide
    have n4 : ¬ S 0 4 = 0 := by rw [c2]; decide
    exact ⟨m2 0 45, m2, S1, PX11_restore_2 n55 e, by rw [ev]; exact PX10_restore_2 n4 c, hI.of r1 (Nat.le_refl _) (Nat.le_refl _) e37 (kf 55 (by decide) (by decide) (by unfold fldM; omega)) (fun p h1 h2 => q1 p (by omega)) (q1 0 (by decide)), ⟨kp 33 (by decide) (by decide), kf 51 (by decide) (by decide) (by unfold fldM; omega)⟩, fun p hp => q1 p (by omega)⟩
