/-! The class's copies: a world's block of places 1..58, from O to P -/
abbrev poS (P O : Nat) : Prop := (P = 0 ∧ O = 58) ∨ (P = 58 ∧ O = 0)
def usN (q j : Nat) : Bool := if q = 2 || q = 14 then 6 ≤ j && j < 18 else usC q j
def cpS (a n P O : Nat) (S S2 : gm_Mem) : Prop := (∀ q, q < P + a ∨ P + a + n ≤ q → S2 q = S q) ∧ (∀ q j, a ≤ q → q < a + n → usN q j = true → S2 (P + q) j = S (O + q) j) ∧ S2 (P + 2) 0 = S (P + 2) 0 ∧ S2 (P + 14) 0 = S (P + 14) 0 ∧ S2 (P + 27) = S (P + 27)
theorem cpS.seq {a n k P O : Nat} {S T S2 : gm_Mem} (h : cpS a n P O S T) (g : cpS (a + n) k P O T S2) (hp : poS P O) (ha : 1 ≤ a) (hn : a + n + k ≤ 59) : cpS a (n + k) P O S S2 := by
  obtain ⟨h1, h2, h3, h4, h5⟩ := h
  obtain ⟨g1, g2, g3, g4, g5⟩ := g
  refine ⟨fun q hq => (g1 q (by omega)).trans (h1 q (by omega)), fun q j q1 q2 hu => ?_, g3.trans h3, g4.trans h4, g5.trans h5⟩
  by_cases hq : q < a + n
  · rw [g1 (P + q) (by omega)]
    exact h2 q j q1 hq hu
  · rw [g2 q j (by omega) (by omega) hu, h1 (O + q) (by unfold poS at hp; omega)]
theorem cpS.head {a n P O : Nat} {S T S2 : gm_Mem} (h : cpS (a + 1) n P O S T) (g : cpS a 1 P O T S2) (hp : poS P O) (ha : 1 ≤ a) (hn : a + 1 + n ≤ 59) : cpS a (n + 1) P O S S2 := by
  obtain ⟨h1, h2, h3, h4, h5⟩ := h
  obtain ⟨g1, g2, g3, g4, g5⟩ := g
  refine ⟨fun q hq => (g1 q (by omega)).trans (h1 q (by omega)), fun q j q1 q2 hu => ?_, g3.trans h3, g4.trans h4, g5.trans h5⟩
  by_cases hq : q = a
  · rw [g2 q j (by omega) (by omega) hu, h1 (O + q) (by unfold poS at hp; omega)]
  · rw [g1 (P + q) (by omega)]
    exact h2 q j (by omega) (by omega) hu
theorem c_win {P O a : Nat} {S : gm_Mem} (hp : poS P O) (ha : a = 12 ∨ a = 13 ∨ a = 24 ∨ a = 25) : ∃ S2, gm_run gC 0 YX8_copyFrom 0 [some (.ref (P + a)), some (.ref (O + a))] [] S none S2 ∧ cpS a 1 P O S S2 := by
  refine ⟨_, PX8_copyFrom_1 (by unfold poS at hp; omega) (by unfold poS at hp; omega) (by unfold poS at hp; omega), fun q hq => ?_, fun q j q1 q2 hu => ?_, ?_, ?_, ?_⟩
  · simp only [gm_u]
    rw [if_neg (by omega), if_neg (by omega)]
  · obtain rfl : q = a := by omega
    have hj : j < 2 := by rcases ha with rfl | rfl | rfl | rfl <;> simpa [usN, usC] using hu
    obtain rfl | rfl : j = 0 ∨ j = 1 := by omega
    · rw [gm_rk (by decide)]
      simp [gm_u]
    · simp [gm_u]
  all_goals
    simp only [gm_u]
    rw [if_neg (by omega), if_neg (by omega)]
theorem c_res {P O a : Nat} {S : gm_Mem} (hp : poS P O) (ha : a = 3 ∨ a = 15) : cpS a 1 P O S (gm_cpy S (P + a) (O + a) 9) := by
  refine ⟨fun q hq => ?_, fun q j q1 q2 hu => ?_, ?_, ?_, ?_⟩
  · simp only [gm_cpy]
    rw [if_neg (by omega)]
  · obtain rfl : q = a := by omega
    have hj : j < 9 := by rcases ha with rfl | rfl <;> simpa [usN, usC, lenC] using hu
    simp [gm_cpy, hj]
  all_goals
    simp only [gm_cpy]
    rw [if_neg (by omega)]
theorem c_out {P O a : Nat} {S : gm_Mem} (hp : poS P O) (ha : a = 4 ∨ a = 16) : ∃ S2, gm_run gC 1 YX4_copyFrom 0 [some (.ref (P + a)), some (.ref (O + a))] [] S none S2 ∧ cpS a 3 P O S S2 := by
  refine ⟨_, PX4_copyFrom_1 (by unfold poS at hp; omega) (by unfold poS at hp; omega) (by unfold poS at hp; omega), fun q hq => ?_, fun q j q1 q2 hu => ?_, ?_, ?_, ?_⟩
  · simp only [gm_u, gm_cpy]
    rw [if_neg (by omega), if_neg (by omega), if_neg (by omega), if_neg (by omega), if_neg (by omega)]
  · have hq : q = a ∨ q = a + 1 ∨ q = a + 2 := by omega
    rcases hp with ⟨rfl, rfl⟩ | ⟨rfl, rfl⟩ <;> rcases ha with rfl | rfl <;> rcases hq with rfl | rfl | rfl <;> simp [usN, usC, lenC] at hu <;> first | (simp [gm_u, gm_cpy, hu]; done) | ((obtain rfl | rfl | rfl : j = 2 ∨ j = 3 ∨ j = 4 := by omega) <;> rfl)
  all_goals
    simp only [gm_u, gm_cpy]
    rw [if_neg (by omega), if_neg (by omega), if_neg (by omega), if_neg (by omega), if_neg (by omega)]
theorem c_inT (S : gm_Mem) (p o i : Nat) : (∀ q, q < p + 2 ∨ p + 5 ≤ q → (gm_u (gm_u (gm_u S (p + 2) i (S (o + 2) i)) (p + 3) i (S (o + 3) i)) (p + 4) i (S (o + 4) i)) q = S q) ∧ ∀ c t, 2 ≤ c → c < 5 → (gm_u (gm_u (gm_u S (p + 2) i (S (o + 2) i)) (p + 3) i (S (o + 3) i)) (p + 4) i (S (o + 4) i)) (p + c) t = if t = i then S (o + c) i else S (p + c) t := by
  refine ⟨fun q hq => ?_, fun c t h1 h2 => ?_⟩
  · simp only [gm_u]
    rw [if_neg (by omega), if_neg (by omega), if_neg (by omega)]
  · obtain rfl | rfl | rfl : c = 2 ∨ c = 3 ∨ c = 4 := by omega
    all_goals simp [gm_u]
theorem c_inL {P O a : Nat} (hp : poS P O) (ha : a = 7 ∨ a = 19) : ∀ d i (S : gm_Mem), i + d = 4 → (∀ j, j < 4 → gm_fit .boolean (S (O + a + 2) j)) → (∀ j, j < 4 → gm_fit .boolean (S (O + a + 3) j)) → ∃ S2, gm_run gC 1 YX1_copyFrom 18 [some (.ref (P + a)), some (.ref (O + a)), some (.int (nI i))] [] S none S2 ∧ (∀ q, q ≠ P + a → (q < P + a + 2 ∨ P + a + 5 ≤ q) → S2 q = S q) ∧ (∀ k, k = 4 ∨ k = 5 ∨ k = 6 → S2 (P + a) k = S (O + a) k) ∧ (∀ c t, 2 ≤ c → c < 5 → t < i → S2 (P + a + c) t = S (P + a + c) t) ∧ ∀ c t, 2 ≤ c → c < 5 → i ≤ t → t < 4 → S2 (P + a + c) t = S (O + a + c) t := by
  intro d
  induction d with
  | zero =>
    intro i S hi w1 w2
    obtain rfl : i = 4 := by omega
    refine ⟨_, PX1_copyFrom_3 (by unfold poS at hp; omega) (by unfold poS at hp; omega) (by unfold poS at hp; omega) (by show ¬ nI 4 < 4; decide), fun q h1 h2 => ?_, fun k hk => ?_, fun c t h1 h2 h3 => ?_, fun c t h1 h2 h3 h4 => absurd h4 (by omega)⟩
    · simp only [gm_u, if_neg h1]
    · obtain rfl | rfl | rfl := hk
      all_goals simp [gm_u]
    · rw [gm_rp (by omega), gm_rp (by omega), gm_rp (by omega)]
  | succ d ih =>
    intro i S hi w1 w2
    have hi4 : i < 4 := by omega
    obtain ⟨t1, t2⟩ := c_inT S (P + a) (O + a) i
    obtain ⟨S2, r, f1, f2, f3, f4⟩ := ih (i + 1) (gm_u (gm_u (gm_u S (P + a + 2) i (S (O + a + 2) i)) (P + a + 3) i (S (O + a + 3) i)) (P + a + 4) i (S (O + a + 4) i)) (by omega) (fun j hj => by rw [t1 (O + a + 2) (by unfold poS at hp; omega)]; exact w1 j hj) (fun j hj => by rw [t1 (O + a + 3) (by unfold poS at hp; omega)]; exact w2 j hj)
    refine ⟨S2, PX1_copyFrom_2 (j2 := i) (by unfold poS at hp; omega) (by unfold poS at hp; omega) (by unfold poS at hp; omega) ((nI_ltI (by omega) (by decide)).mpr hi4) (ix_n hi4 (by decide)) (w1 i hi4) (w2 i hi4) (by rw [nI_1]; exact r), fun q h1 h2 => (f1 q h1 h2).trans (t1 q h2), fun k hk => ?_, fun c t h1 h2 h3 => ?_, fun c t h1 h2 h3 h4 => ?_⟩
    · rw [f2 k hk, t1 (O + a) (by unfold poS at hp; omega)]
    · rw [f3 c t h1 h2 (by omega), t2 c t h1 h2, if_neg (by omega)]
    · by_cases hti : t = i
      · subst hti
        rw [f3 c t h1 h2 (by omega), t2 c t h1 h2, if_pos rfl]
      · rw [f4 c t h1 h2 (by omega) h4, t1 (O + a + c) (by unfold poS at hp; omega)]
theorem c_in {P O a : Nat} {S : gm_Mem} (hp : poS P O) (ha : a = 7 ∨ a = 19) (w1 : ∀ j, j < 4 → gm_fit .boolean (S (O + a + 2) j)) (w2 : ∀ j, j < 4 → gm_fit .boolean (S (O + a + 3) j)) : ∃ S2, gm_run gC 1 YX1_copyFrom 0 [some (.ref (P + a)), some (.ref (O + a)), none] [] S none S2 ∧ cpS a 5 P O S S2 := by
  obtain ⟨S2, r, f1, f2, f3, f4⟩ := c_inL hp ha 4 0 (gm_cpy S (P + a + 1) (O + a + 1) 512) (by decide) (fun j hj => by rw [gm_cq (by unfold poS at hp; omega)]; exact w1 j hj) (fun j hj => by rw [gm_cq (by unfold poS at hp; omega)]; exact w2 j hj)
  refine ⟨S2, PX1_copyFrom_1 (by unfold poS at hp; omega) (by unfold poS at hp; omega) (by unfold poS at hp; omega) r, fun q hq => ?_, fun q j q1 q2 hu => ?_, ?_, ?_, ?_⟩
  · rw [f1 q (by omega) (by omega)]
    simp only [gm_cpy]
    exact if_neg (by omega)
  · have hu2 : (q = a ∧ (j = 4 ∨ j = 5 ∨ j = 6)) ∨ (q = a + 1 ∧ j < 512) ∨ (a + 2 ≤ q ∧ j < 4) := by
      have hq : q = a ∨ q = a + 1 ∨ q = a + 2 ∨ q = a + 3 ∨ q = a + 4 := by omega
      rcases ha with rfl | rfl <;> rcases hq with rfl | rfl | rfl | rfl | rfl <;> simp [usN, usC, lenC] at hu <;> omega
    rcases hu2 with ⟨rfl, hj⟩ | ⟨rfl, hj⟩ | ⟨h2, hj⟩
    · exact (f2 j hj).trans (gm_cq (by omega))
    · rw [f1 (P + (a + 1)) (by omega) (by omega)]
      simp [gm_cpy, hj, Nat.add_assoc]
    · obtain ⟨c, rfl⟩ : ∃ c, q = a + c := ⟨q - a, by omega⟩
      rw [← Nat.add_assoc P a c, ← Nat.add_assoc O a c, f4 c j (by omega) (by omega) (Nat.zero_le _) hj]
      exact gm_cq (by unfold poS at hp; omega)
  · rw [f1 (P + 2) (by omega) (by omega)]
    exact gm_cq (by omega)
  · rw [f1 (P + 14) (by omega) (by omega)]
    exact gm_cq (by omega)
  · rw [f1 (P + 27) (by omega) (by omega)]
    simp only [gm_cpy]
    exact if_neg (by omega)
theorem c_tickT (S : gm_Mem) (p o i : Nat) : (∀ q, q < p + 1 ∨ p + 3 ≤ q → (gm_u (gm_u S (p + 1) i (S (o + 1) i)) (p + 2) i (S (o + 2) i)) q = S q) ∧ ∀ c t, 1 ≤ c → c < 3 → (gm_u (gm_u S (p + 1) i (S (o + 1) i)) (p + 2) i (S (o + 2) i)) (p + c) t = if t = i then S (o + c) i else S (p + c) t := by
  refine ⟨fun q hq => ?_, fun c t h1 h2 => ?_⟩
  · simp only [gm_u]
    rw [if_neg (by omega), if_neg (by omega)]
  · obtain rfl | rfl : c = 1 ∨ c = 2 := by omega
    all_goals simp [gm_u]
theorem c_tickL {P O : Nat} (hp : poS P O) : ∀ d i (S : gm_Mem), i + d = 16 → (∀ j, j < 16 → gm_fit .boolean (S (O + 52 + 2) j)) → ∃ S2, gm_run gC 0 YX7_copyFrom 2 [some (.ref (P + 52)), some (.ref (O + 52)), some (.int (nI i))] [] S none S2 ∧ (∀ q, q < P + 52 ∨ P + 52 + 3 ≤ q → S2 q = S q) ∧ S2 (P + 52) 2 = S (O + 52) 2 ∧ (∀ c t, 1 ≤ c → c < 3 → t < i → S2 (P + 52 + c) t = S (P + 52 + c) t) ∧ ∀ c t, 1 ≤ c → c < 3 → i ≤ t → t < 16 → S2 (P + 52 + c) t = S (O + 52 + c) t := by
  intro d
  induction d with
  | zero =>
    intro i S hi w1
    obtain rfl : i = 16 := by omega
    refine ⟨_, PX7_copyFrom_3 (by unfold poS at hp; omega) (by unfold poS at hp; omega) (by unfold poS at hp; omega) (by show ¬ nI 16 < 16; decide), fun q h1 => ?_, ?_, fun c t h1 h2 h3 => ?_, fun c t h1 h2 h3 h4 => absurd h4 (by omega)⟩
    · simp only [gm_u]
      exact if_neg (by omega)
    · exact gm_rS _ _ _ _
    · exact gm_rp (by omega)
  | succ d ih =>
    intro i S hi w1
    have hi4 : i < 16 := by omega
    obtain ⟨t1, t2⟩ := c_tickT S (P + 52) (O + 52) i
    obtain ⟨S2, r, f1, f2, f3, f4⟩ := ih (i + 1) (gm_u (gm_u S (P + 52 + 1) i (S (O + 52 + 1) i)) (P + 52 + 2) i (S (O + 52 + 2) i)) (by omega) (fun j hj => by rw [t1 (O + 52 + 2) (by unfold poS at hp; omega)]; exact w1 j hj)
    refine ⟨S2, PX7_copyFrom_2 (j2 := i) (by unfold poS at hp; omega) (by unfold poS at hp; omega) (by unfold poS at hp; omega) ((nI_ltI (by omega) (by decide)).mpr hi4) (ix_n hi4 (by decide)) (w1 i hi4) (by rw [nI_1]; exact r), fun q h1 => (f1 q h1).trans (t1 q (by omega)), ?_, fun c t h1 h2 h3 => ?_, fun c t h1 h2 h3 h4 => ?_⟩
    · rw [f2, t1 (O + 52) (by unfold poS at hp; omega)]
    · rw [f3 c t h1 h2 (by omega), t2 c t h1 h2, if_neg (by omega)]
    · by_cases hti : t = i
      · subst hti
        rw [f3 c t h1 h2 (by omega), t2 c t h1 h2, if_pos rfl]
      · rw [f4 c t h1 h2 (by omega) h4, t1 (O + 52 + c) (by unfold poS at hp; omega)]
theorem c_tick {P O : Nat} {S : gm_Mem} (hp : poS P O) (w1 : ∀ j, j < 16 → gm_fit .boolean (S (O + 54) j)) : ∃ S2, gm_run gC 0 YX7_copyFrom 0 [some (.ref (P + 52)), some (.ref (O + 52)), none] [] S none S2 ∧ cpS 52 3 P O S S2 := by
  obtain ⟨S2, r, f1, f2, f3, f4⟩ := c_tickL hp 16 0 S (by decide) w1
  refine ⟨S2, PX7_copyFrom_1 (by unfold poS at hp; omega) (by unfold poS at hp; omega) (by unfold poS at hp; omega) r, fun q hq => f1 q (by omega), fun q j q1 q2 hu => ?_, ?_, ?_, f1 (P + 27) (by omega)⟩
  · have hu2 : (q = 52 ∧ j = 2) ∨ (53 ≤ q ∧ j < 16) := by
      have hq : q = 52 ∨ q = 53 ∨ q = 54 := by omega
      rcases hq with rfl | rfl | rfl <;> simp [usN, usC, lenC] at hu <;> omega
    rcases hu2 with ⟨rfl, rfl⟩ | ⟨h2, hj⟩
    · exact f2
    · obtain ⟨c, rfl⟩ : ∃ c, q = 52 + c := ⟨q - 52, by omega⟩
      rw [← Nat.add_assoc P 52 c, ← Nat.add_assoc O 52 c]
      exact f4 c j (by omega) (by omega) (Nat.zero_le _) hj
  · rw [f1 (P + 2) (by omega)]
  · rw [f1 (P + 14) (by omega)]
theorem c_log {P O : Nat} {S : gm_Mem} (hp : poS P O) : ∃ S2, gm_run gC 1 YX2_copyFrom 0 [some (.ref (P + 55)), some (.ref (O + 55))] [] S none S2 ∧ cpS 55 4 P O S S2 := by
  refine ⟨_, PX2_copyFrom_1 (by unfold poS at hp; omega) (by unfold poS at hp; omega) (by unfold poS at hp; omega), fun q hq => ?_, fun q j q1 q2 hu => ?_, ?_, ?_, ?_⟩
  · simp only [gm_u, gm_cpy]
    rw [if_neg (by omega), if_neg (by omega), if_neg (by omega), if_neg (by omega), if_neg (by omega)]
  · have hq : q = 55 ∨ q = 56 ∨ q = 57 ∨ q = 58 := by omega
    rcases hp with ⟨rfl, rfl⟩ | ⟨rfl, rfl⟩ <;> rcases hq with rfl | rfl | rfl | rfl <;> simp [usN, usC, lenC] at hu <;> first | (simp [gm_u, gm_cpy, hu]; done) | ((obtain rfl | rfl : j = 3 ∨ j = 4 := by omega) <;> rfl)
  all_goals
    simp only [gm_u, gm_cpy]
    rw [if_neg (by omega), if_neg (by omega), if_neg (by omega), if_neg (by omega), if_neg (by omega)]
theorem c_end {P O a : Nat} {S : gm_Mem} (hp : poS P O) (ha : a = 2 ∨ a = 14) (w1 : ∀ j, j < 4 → gm_fit .boolean (S (O + a + 7) j)) (w2 : ∀ j, j < 4 → gm_fit .boolean (S (O + a + 8) j)) (w3 : gm_fit .boolean (S (O + a) 6)) : ∃ S2, gm_run gC 2 YX0_copyFrom 0 [some (.ref (P + a)), some (.ref (O + a))] [] S none S2 ∧ cpS a 12 P O S S2 := by
  have i1 : cpS (a + 1) 1 P O S (gm_cpy S (P + (a + 1)) (O + (a + 1)) 9) := c_res hp (by omega)
  obtain ⟨T1, e1, d1⟩ := c_out (S := gm_cpy S (P + (a + 1)) (O + (a + 1)) 9) (a := a + 2) hp (by omega)
  have i2 := i1.seq d1 hp (by omega) (by omega)
  have fO : ∀ q, O + 1 ≤ q → q < O + 59 → T1 q = S q := fun q q1 q2 => i2.1 q (by unfold poS at hp; omega)
  obtain ⟨T2, e2, d2⟩ := c_in (S := T1) (a := a + 5) hp (by omega) (fun j hj => by rw [fO _ (by omega) (by omega)]; exact w1 j hj) (fun j hj => by rw [fO _ (by omega) (by omega)]; exact w2 j hj)
  have i3 := i2.seq d2 hp (by omega) (by omega)
  obtain ⟨T3, e3, d3⟩ := c_win (S := T2) (a := a + 10) hp (by omega)
  have i4 := i3.seq d3 hp (by omega) (by omega)
  obtain ⟨T4, e4, d4⟩ := c_win (S := T3) (a := a + 11) hp (by omega)
  have i5 := i4.seq d4 hp (by omega) (by omega)
  have f4 : T4 (O + a) = S (O + a) := i5.1 _ (by unfold poS at hp; omega)
  refine ⟨_, PX0_copyFrom_1 (by unfold poS at hp; omega) (by unfold poS at hp; omega) (by unfold poS at hp; omega) e1 e2 e3 e4 (by rw [f4]; exact w3), i5.head ⟨fun q hq => ?_, fun q j q1 q2 hu => ?_, ?_, ?_, ?_⟩ hp (by omega) (by omega)⟩
  · simp only [gm_u]
    repeat rw [if_neg (by omega)]
  · obtain rfl : q = a := by omega
    have hj : 6 ≤ j ∧ j < 18 := by rcases ha with rfl | rfl <;> simpa [usN] using hu
    obtain ⟨h6, h18⟩ := hj
    obtain rfl | rfl | rfl | rfl | rfl | rfl | rfl | rfl | rfl | rfl | rfl | rfl : j = 6 ∨ j = 7 ∨ j = 8 ∨ j = 9 ∨ j = 10 ∨ j = 11 ∨ j = 12 ∨ j = 13 ∨ j = 14 ∨ j = 15 ∨ j = 16 ∨ j = 17 := by omega
    all_goals simp [gm_u]
  · by_cases h : P + 2 = P + a
    · rw [h]
      simp [gm_u]
    · simp only [gm_u, if_neg h]
  · by_cases h : P + 14 = P + a
    · rw [h]
      simp [gm_u]
    · simp only [gm_u, if_neg h]
  · simp only [gm_u]
    repeat rw [if_neg (by omega)]
