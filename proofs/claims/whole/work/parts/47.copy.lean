/-! The class's copies: a world's block of places 1..58, from O to P -/
abbrev poS (P O : Nat) : Prop := (P = 0 ∧ O = 58) ∨ (P = 58 ∧ O = 0)
def usN (q j : Nat) : Bool := if q = 2 || q = 14 then 6 ≤ j && j < 18 else usC q j
def cpS (a n P O : Nat) (S S2 : gm_Mem) : Prop := (∀ q, q < P + a ∨ P + a + n ≤ q → S2 q = S q) ∧ (∀ q j, a ≤ q → q < a + n → usN q j = true → S2 (P + q) j = S (O + q) j) ∧ S2 (P + 2) 0 = S (P + 2) 0 ∧ S2 (P + 14) 0 = S (P + 14) 0 ∧ S2 (P + 27) = S (P + 27)
theorem cpS.seq {a n k P O : Nat} {S T S2 : gm_Mem} (h : cpS a n P O S T) (g : cpS (a + n) k P O T S2) (hp : poS P O) (ha : 1 ≤ a) (hn : a + n + k ≤ 59) : cpS a (n + k) P O S S2 := by
  obtain ⟨h1, h2, h3, h4, h5⟩ := h
  obtain ⟨g1, g2, g3, g4, g5⟩ := g
  refine ⟨fun q hq => (g1 q (by omega)).trans (h1 q (by omega)), fun q j q1 q2 hu => ?_, g3.trans h3, g4.trans h4, g5.trans h5⟩
  by_cases hq : q < a + n
  · rw [g1 (P + q) (by omega)]
    exact h2 q j q1 hq hu
  · rw [g2 q j (by omega) (by omega) hu, h1 (O + q) (by unfold poS at hp; omega)]
theorem cpS.head {a n P O : Nat} {S T S2 : gm_Mem} (h : cpS (a + 1) n P O S T) (g : cpS a 1 P O T S2) (hp : poS P O) (ha : 1 ≤ a) (hn : a + 1 + n ≤ 59) : cpS a (n + 1) P O S S2 := by
  obtain ⟨h1, h2, h3, h4, h5⟩ := h
  obtain ⟨g1, g2, g3, g4, g5⟩ := g
  refine ⟨fun q hq => (g1 q (by omega)).trans (h1 q (by omega)), fun q j q1 q2 hu => ?_, g3.trans h3, g4.trans h4, g5.trans h5⟩
  by_cases hq : q = a
  · rw [g2 q j (by omega) (by omega) hu, h1 (O + q) (by unfold poS at hp; omega)]
  · rw [g1 (P + q) (by omega)]
    exact h2 q j (by omega) (by omega) hu
theorem c_win {P O a : Nat} {S : gm_Mem} (hp : poS P O) (ha : a = 12 ∨ a = 13 ∨ a = 24 ∨ a = 25) : ∃ S2, gm_run gC 0 YX8_copyFrom 0 [some (.ref (P + a)), some (.ref (O + a))] [] S none S2 ∧ cpS a 1 P O S S2 := by
  refine ⟨_, PX8_copyFrom_1 (by unfold poS at hp; omega) (by unfold poS at hp; omega) (by unfold poS at hp; omega), fun q hq => ?_, fun q j q1 q2 hu => ?_, ?_, ?_, ?_⟩
  · simp only [gm_u]
    rw [if_neg (by omega), if_neg (by omega)]
  · obtain rfl : q = a := by omega
    have hj : j < 2 := by rcases ha with rfl | rfl | rfl | rfl <;> simpa [usN, usC] using hu
    obtain rfl | rfl : j = 0 ∨ j = 1 := by omega
    · rw [gm_rk (by decide)]
      simp [gm_u]
    · simp [gm_u]
  all_goals
    simp only [gm_u]
    rw [if_neg (by omega), if_neg (by omega)]
theorem c_res {P O a : Nat} {S : gm_Mem} (hp : poS P O) (ha : a = 3 ∨ a = 15) : cpS a 1 P O S (gm_cpy S (P + a) (O + a) 9) := by
  refine ⟨fun q hq => ?_, fun q j q1 q2 hu => ?_, ?_, ?_, ?_⟩
  · simp only [gm_cpy]
    rw [if_neg (by omega)]
  · obtain rfl : q = a := by omega
    have hj : j < 9 := by rcases ha with rfl | rfl <;> simpa [usN, usC, lenC] using hu
    simp [gm_cpy, hj]
  all_goals
    simp only [gm_cpy]
    rw [if_neg (by omega)]
theorem c_out {P O a : Nat} {S : gm_Mem} (hp : poS P O) (ha : a = 4 ∨ a = 16) : ∃ S2, gm_run gC 1 YX4_copyFrom 0 [some (.ref (P + a)), some (.ref (O + a))] [] S none S2 ∧ cpS a 3 P O S S2 := by
  refine ⟨_, PX4_copyFrom_1 (by unfold poS at hp; omega) (by unfold poS at hp; omega) (by unfold poS at hp; omega), fun q hq => ?_, fun q j q1 q2 hu => ?_, ?_, ?_, ?_⟩
  · simp only [gm_u, gm_cpy]
    rw [if_neg (by omega), if_neg (by omega), if_neg (by omega), if_neg (by omega), if_neg (by omega)]
  · have hq : q = a ∨ q = a + 1 ∨ q = a + 2 := by omega
    rcases hp with ⟨rfl, rfl⟩ | ⟨rfl, rfl⟩ <;> rcases ha with rfl | rfl <;> rcases hq with rfl | rfl | rfl <;> simp [usN, usC, lenC] at hu <;> first | (simp [gm_u, gm_cpy, hu]; done) | ((obtain rfl | rfl | rfl : j = 2 ∨ j = 3 ∨ j = 4 := by omega) <;> rfl)
  all_goals
    simp only [gm_u, gm_cpy]
    rw [if_neg (by omega), if_neg (by omega), if_neg (by omega), if_neg (by omega), if_neg (by omega)]
theorem c_in {P O a : Nat} {S : gm_Mem} (hp : poS P O) (ha : a = 7 ∨ a = 19) (w1 : ∀ j, j < 4 → gm_fit .boolean (S (O + a + 2) j)) (w2 : ∀ j, j < 4 → gm_fit .boolean (S (O + a + 3) j)) : ∃ S2, gm_run gC 1 YX1_copyFrom 0 [some (.ref (P + a)), some (.ref (O + a))] [] S none S2 ∧ cpS a 5 P O S S2 := by
  refine ⟨_, PX1_copyFrom_1 (by unfold poS at hp; omega) (by unfold poS at hp; omega) (by unfold poS at hp; omega) (fun j hj => ?_) (fun j hj => ?_), fun q hq => ?_, fun q j q1 q2 hu => ?_, ?_, ?_, ?_⟩
  · rw [gm_cq (by unfold poS at hp; omega)]
    exact w1 j hj
  · rw [gm_cq (by unfold poS at hp; omega), gm_cq (by unfold poS at hp; omega)]
    exact w2 j hj
  · simp only [gm_u, gm_cpy]
    rw [if_neg (by omega), if_neg (by omega), if_neg (by omega), if_neg (by omega), if_neg (by omega), if_neg (by omega), if_neg (by omega)]
  · have hq : q = a ∨ q = a + 1 ∨ q = a + 2 ∨ q = a + 3 ∨ q = a + 4 := by omega
    rcases hp with ⟨rfl, rfl⟩ | ⟨rfl, rfl⟩ <;> rcases ha with rfl | rfl <;> rcases hq with rfl | rfl | rfl | rfl | rfl <;> simp [usN, usC, lenC] at hu <;> first | (simp [gm_u, gm_cpy, hu]; done) | ((obtain rfl | rfl | rfl : j = 4 ∨ j = 5 ∨ j = 6 := by omega) <;> rfl)
  all_goals
    simp only [gm_u, gm_cpy]
    rw [if_neg (by omega), if_neg (by omega), if_neg (by omega), if_neg (by omega), if_neg (by omega), if_neg (by omega), if_neg (by omega)]
theorem c_tick {P O : Nat} {S : gm_Mem} (hp : poS P O) (w1 : ∀ j, j < 16 → gm_fit .boolean (S (O + 54) j)) : ∃ S2, gm_run gC 1 YX7_copyFrom 0 [some (.ref (P + 52)), some (.ref (O + 52))] [] S none S2 ∧ cpS 52 3 P O S S2 := by
  refine ⟨_, PX7_copyFrom_1 (by unfold poS at hp; omega) (by unfold poS at hp; omega) (by unfold poS at hp; omega) (fun j hj => ?_), fun q hq => ?_, fun q j q1 q2 hu => ?_, ?_, ?_, ?_⟩
  · rw [gm_cq (by unfold poS at hp; omega)]
    exact w1 j hj
  · simp only [gm_u, gm_cpy]
    rw [if_neg (by omega), if_neg (by omega), if_neg (by omega)]
  · have hq : q = 52 ∨ q = 53 ∨ q = 54 := by omega
    rcases hp with ⟨rfl, rfl⟩ | ⟨rfl, rfl⟩ <;> rcases hq with rfl | rfl | rfl <;> simp [usN, usC, lenC] at hu <;> first | (simp [gm_u, gm_cpy, hu]; done) | (subst hu; rfl)
  all_goals
    simp only [gm_u, gm_cpy]
    rw [if_neg (by omega), if_neg (by omega), if_neg (by omega)]
theorem c_log {P O : Nat} {S : gm_Mem} (hp : poS P O) : ∃ S2, gm_run gC 1 YX2_copyFrom 0 [some (.ref (P + 55)), some (.ref (O + 55))] [] S none S2 ∧ cpS 55 4 P O S S2 := by
  refine ⟨_, PX2_copyFrom_1 (by unfold poS at hp; omega) (by unfold poS at hp; omega) (by unfold poS at hp; omega), fun q hq => ?_, fun q j q1 q2 hu => ?_, ?_, ?_, ?_⟩
  · simp only [gm_u, gm_cpy]
    rw [if_neg (by omega), if_neg (by omega), if_neg (by omega), if_neg (by omega), if_neg (by omega)]
  · have hq : q = 55 ∨ q = 56 ∨ q = 57 ∨ q = 58 := by omega
    rcases hp with ⟨rfl, rfl⟩ | ⟨rfl, rfl⟩ <;> rcases hq with rfl | rfl | rfl | rfl <;> simp [usN, usC, lenC] at hu <;> first | (simp [gm_u, gm_cpy, hu]; done) | ((obtain rfl | rfl : j = 3 ∨ j = 4 := by omega) <;> rfl)
  all_goals
    simp only [gm_u, gm_cpy]
    rw [if_neg (by omega), if_neg (by omega), if_neg (by omega), if_neg (by omega), if_neg (by omega)]
theorem c_end {P O a : Nat} {S : gm_Mem} (hp : poS P O) (ha : a = 2 ∨ a = 14) (w1 : ∀ j, j < 4 → gm_fit .boolean (S (O + a + 7) j)) (w2 : ∀ j, j < 4 → gm_fit .boolean (S (O + a + 8) j)) (w3 : gm_fit .boolean (S (O + a) 6)) : ∃ S2, gm_run gC 2 YX0_copyFrom 0 [some (.ref (P + a)), some (.ref (O + a))] [] S none S2 ∧ cpS a 12 P O S S2 := by
  have i1 : cpS (a + 1) 1 P O S (gm_cpy S (P + (a + 1)) (O + (a + 1)) 9) := c_res hp (by omega)
  obtain ⟨T1, e1, d1⟩ := c_out (S := gm_cpy S (P + (a + 1)) (O + (a + 1)) 9) (a := a + 2) hp (by omega)
  have i2 := i1.seq d1 hp (by omega) (by omega)
  have fO : ∀ q, O + 1 ≤ q → q < O + 59 → T1 q = S q := fun q q1 q2 => i2.1 q (by unfold poS at hp; omega)
  obtain ⟨T2, e2, d2⟩ := c_in (S := T1) (a := a + 5) hp (by omega) (fun j hj => by rw [fO _ (by omega) (by omega)]; exact w1 j hj) (fun j hj => by rw [fO _ (by omega) (by omega)]; exact w2 j hj)
  have i3 := i2.seq d2 hp (by omega) (by omega)
  obtain ⟨T3, e3, d3⟩ := c_win (S := T2) (a := a + 10) hp (by omega)
  have i4 := i3.seq d3 hp (by omega) (by omega)
  obtain ⟨T4, e4, d4⟩ := c_win (S := T3) (a := a + 11) hp (by omega)
  have i5 := i4.seq d4 hp (by omega) (by omega)
  have f4 : T4 (O + a) = S (O + a) := i5.1 _ (by unfold poS at hp; omega)
  refine ⟨_, PX0_copyFrom_1 (by unfold poS at hp; omega) (by unfold poS at hp; omega) (by unfold poS at hp; omega) e1 e2 e3 e4 (by rw [f4]; exact w3), i5.head ⟨fun q hq => ?_, fun q j q1 q2 hu => ?_, ?_, ?_, ?_⟩ hp (by omega) (by omega)⟩
  · simp only [gm_u]
    repeat rw [if_neg (by omega)]
  · obtain rfl : q = a := by omega
    have hj : 6 ≤ j ∧ j < 18 := by rcases ha with rfl | rfl <;> simpa [usN] using hu
    obtain ⟨h6, h18⟩ := hj
    obtain rfl | rfl | rfl | rfl | rfl | rfl | rfl | rfl | rfl | rfl | rfl | rfl : j = 6 ∨ j = 7 ∨ j = 8 ∨ j = 9 ∨ j = 10 ∨ j = 11 ∨ j = 12 ∨ j = 13 ∨ j = 14 ∨ j = 15 ∨ j = 16 ∨ j = 17 := by omega
    all_goals simp [gm_u]
  · by_cases h : P + 2 = P + a
    · rw [h]
      simp [gm_u]
    · simp only [gm_u, if_neg h]
  · by_cases h : P + 14 = P + a
    · rw [h]
      simp [gm_u]
    · simp only [gm_u, if_neg h]
  · simp only [gm_u]
    repeat rw [if_neg (by omega)]
