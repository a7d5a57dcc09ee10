/-! The class's network and world copied -/
theorem c_pk {p o : Nat} {S : gm_Mem} (kp : (28 ≤ p ∧ p < 52) ∨ (86 ≤ p ∧ p < 110) ∨ p = 122) (ko : (28 ≤ o ∧ o < 52) ∨ (86 ≤ o ∧ o < 110) ∨ o = 122) (kne : p ≠ o) : ∃ T, gm_run gC 0 YX5_copyFrom 0 [some (.ref p), some (.ref o)] [] S none T ∧ (∀ q, q ≠ p → T q = S q) ∧ ∀ k, k < 9 → T p k = S o k := by
  refine ⟨_, PX5_copyFrom_1 kp ko kne, fun q hq => ?_, fun k hk => ?_⟩
  · simp only [gm_u, if_neg hq]
  · obtain rfl | rfl | rfl | rfl | rfl | rfl | rfl | rfl | rfl : k = 0 ∨ k = 1 ∨ k = 2 ∨ k = 3 ∨ k = 4 ∨ k = 5 ∨ k = 6 ∨ k = 7 ∨ k = 8 := by omega
    all_goals simp [gm_u]
theorem c_netL {P O : Nat} {pd ps : Nat → Nat} (hp : poS P O) (hd : ∀ i, i < 24 → 28 ≤ pd i ∧ pd i < 52) (hs : ∀ i, i < 24 → 28 ≤ ps i ∧ ps i < 52) (inj : ∀ i j, i < 24 → j < 24 → pd i = pd j → i = j) : ∀ d i (S : gm_Mem), i + d = 24 → (∀ t, t < 24 → S (P + 27) t = nI (P + pd t)) → (∀ t, t < 24 → S (O + 27) t = nI (O + ps t)) → ∃ S2, gm_run gC 1 YX3_copyFrom 10 [some (.ref (P + 26)), some (.ref (O + 26)), some (.int (nI i))] [] S none S2 ∧ (∀ q, q < P + 28 ∨ P + 52 ≤ q → S2 q = S q) ∧ (∀ t, t < i → S2 (P + pd t) = S (P + pd t)) ∧ ∀ t k, i ≤ t → t < 24 → k < 9 → S2 (P + pd t) k = S (O + ps t) k := by
  intro d
  induction d with
  | zero =>
    intro i S hi a1 a2
    obtain rfl : i = 24 := by omega
    exact ⟨S, PX3_copyFrom_3 (by unfold poS at hp; omega) (by unfold poS at hp; omega) (by unfold poS at hp; omega) (by show ¬ nI 24 < 24; decide), fun _ _ => rfl, fun _ _ => rfl, fun t k h1 h2 => absurd h2 (by omega)⟩
  | succ d ih =>
    intro i S hi a1 a2
    have hi24 : i < 24 := by omega
    have bd := hd i hi24
    have bs := hs i hi24
    have ne : P + pd i ≠ O + ps i := by unfold poS at hp; omega
    obtain ⟨T, e, t1, t2⟩ := c_pk (p := P + pd i) (o := O + ps i) (S := S) (by unfold poS at hp; omega) (by unfold poS at hp; omega) ne
    obtain ⟨S2, r, f1, f2, f3⟩ := ih (i + 1) T (by omega) (fun t ht => by rw [t1 _ (by omega)]; exact a1 t ht) (fun t ht => by rw [t1 _ (by unfold poS at hp; omega)]; exact a2 t ht)
    refine ⟨S2, PX3_copyFrom_2 (j2 := i) (q3 := P + pd i) (q4 := O + ps i) (by unfold poS at hp; omega) (by unfold poS at hp; omega) (by unfold poS at hp; omega) ((nI_ltI (by omega) (by decide)).mpr hi24) (ix_n hi24 (by decide)) ?_ (by unfold poS at hp; omega) ?_ (by unfold poS at hp; omega) e (by rw [nI_1]; exact r), fun q hq => (f1 q hq).trans (t1 q (by omega)), fun t ht => (f2 t (by omega)).trans (t1 _ ?_), fun t k h1 h2 hk => ?_⟩
    · show (S (P + 27) i).toNatClampNeg = _
      rw [a1 i hi24, nI_clamp (by unfold poS at hp; omega)]
    · show (S (O + 27) i).toNatClampNeg = _
      rw [a2 i hi24, nI_clamp (by unfold poS at hp; omega)]
    · intro h
      have := inj t i (by omega) hi24 (by omega)
      omega
    · by_cases hti : t = i
      · subst hti
        rw [f2 t (by omega)]
        exact t2 k hk
      · rw [f3 t k (by omega) h2 hk]
        have := hs t h2
        rw [t1 _ (by unfold poS at hp; omega)]
def boS (O : Nat) (S : gm_Mem) : Prop := (∀ a, a = 2 ∨ a = 14 → (∀ j, j < 4 → gm_fit .boolean (S (O + a + 7) j)) ∧ (∀ j, j < 4 → gm_fit .boolean (S (O + a + 8) j)) ∧ gm_fit .boolean (S (O + a) 6)) ∧ ∀ j, j < 16 → gm_fit .boolean (S (O + 54) j)
theorem boS.cg {O : Nat} {S T : gm_Mem} (h : boS O S) (f : ∀ q, O + 1 ≤ q → q < O + 59 → T q = S q) : boS O T := by
  refine ⟨fun a ha => ?_, fun j hj => ?_⟩
  · rw [f (O + a + 7) (by omega) (by omega), f (O + a + 8) (by omega) (by omega), f (O + a) (by omega) (by omega)]
    exact h.1 a ha
  · rw [f _ (by omega) (by omega)]
    exact h.2 j hj
theorem c_world {P O : Nat} {pd ps : Nat → Nat} {S : gm_Mem} (hp : poS P O) (hb : boS O S) (hd : ∀ i, i < 24 → 28 ≤ pd i ∧ pd i < 52) (hs : ∀ i, i < 24 → 28 ≤ ps i ∧ ps i < 52) (inj : ∀ i j, i < 24 → j < 24 → pd i = pd j → i = j) (a1 : ∀ t, t < 24 → S (P + 27) t = nI (P + pd t)) (a2 : ∀ t, t < 24 → S (O + 27) t = nI (O + ps t)) : ∃ S2, gm_run gC 3 YX9_copyFrom 0 [some (.ref (P + 1)), some (.ref (O + 1))] [] S none S2 ∧ cpS 1 58 P O S S2 ∧ ∀ t k, t < 24 → k < 9 → S2 (P + pd t) k = S (O + ps t) k := by
  have fr {a n : Nat} {T : gm_Mem} (h : cpS a n P O S T) (h1 : 1 ≤ a) (h2 : a + n ≤ 59) : ∀ q, O + 1 ≤ q → q < O + 59 → T q = S q := fun q q1 q2 => h.1 q (by unfold poS at hp; omega)
  obtain ⟨T1, e1, i1⟩ := c_end (S := S) (a := 2) hp (Or.inl rfl) (hb.1 2 (Or.inl rfl)).1 (hb.1 2 (Or.inl rfl)).2.1 (hb.1 2 (Or.inl rfl)).2.2
  have b1 := hb.cg (fr i1 (by decide) (by decide))
  obtain ⟨T2, e2, d2⟩ := c_end (S := T1) (a := 14) hp (Or.inr rfl) (b1.1 14 (Or.inr rfl)).1 (b1.1 14 (Or.inr rfl)).2.1 (b1.1 14 (Or.inr rfl)).2.2
  have i2 : cpS 2 24 P O S T2 := i1.seq d2 hp (by omega) (by omega)
  have f2 := fr i2 (by decide) (by decide)
  obtain ⟨T3, e3, g1, g2, g3⟩ := c_netL (pd := pd) (ps := ps) hp hd hs inj 24 0 (gm_u T2 (P + 26) 1 (T2 (O + 26) 1)) (by decide) (fun t ht => by rw [gm_rp (by omega), i2.2.2.2.2]; exact a1 t ht) (fun t ht => by rw [gm_rp (by unfold poS at hp; omega), f2 _ (by omega) (by omega)]; exact a2 t ht)
  have d3 : cpS 26 26 P O T2 T3 := by
    refine ⟨fun q hq => ?_, fun q j q1 q2 hu => ?_, ?_, ?_, ?_⟩
    · rw [g1 q (by omega)]
      simp only [gm_u]
      exact if_neg (by omega)
    · by_cases h26 : q = 26
      · subst h26
        obtain rfl : j = 1 := by simpa [usN, usC] using hu
        rw [g1 _ (by omega)]
        simp [gm_u]
      · exfalso
        have : usN q j = false := by simp [usN, usC, show ¬ q = 2 by omega, show ¬ q = 14 by omega, show 27 ≤ q by omega, show q < 52 by omega]
        rw [this] at hu
        exact absurd hu (by decide)
    · rw [g1 _ (by omega), gm_rp (by omega)]
    · rw [g1 _ (by omega), gm_rp (by omega)]
    · rw [g1 _ (by omega)]
      simp only [gm_u]
      exact if_neg (by omega)
  have i3 : cpS 2 50 P O S T3 := i2.seq d3 hp (by omega) (by omega)
  have b3 := hb.cg (fr i3 (by decide) (by decide))
  obtain ⟨T4, e4, d4⟩ := c_tick (S := T3) hp b3.2
  have i4 : cpS 2 53 P O S T4 := i3.seq d4 hp (by omega) (by omega)
  obtain ⟨T5, e5, d5⟩ := c_log (S := T4) hp
  have i5 : cpS 2 57 P O S T5 := i4.seq d5 hp (by omega) (by omega)
  have e3' := PX3_copyFrom_1 (p := P + 26) (o := O + 26) (S := T2) (by unfold poS at hp; omega) (by unfold poS at hp; omega) (by unfold poS at hp; omega) e3
  refine ⟨_, PX9_copyFrom_1 (by unfold poS at hp; omega) (by unfold poS at hp; omega) (by unfold poS at hp; omega) e1 e2 e3' e4 e5, i5.head ⟨fun q hq => ?_, fun q j q1 q2 hu => ?_, ?_, ?_, ?_⟩ hp (by omega) (by omega), fun t k ht hk => ?_⟩
  · simp only [gm_u]
    repeat rw [if_neg (by omega)]
  · obtain rfl : q = 1 := by omega
    have hj : 5 ≤ j ∧ j < 14 := by simpa [usN, usC] using hu
    obtain ⟨h6, h18⟩ := hj
    obtain rfl | rfl | rfl | rfl | rfl | rfl | rfl | rfl | rfl : j = 5 ∨ j = 6 ∨ j = 7 ∨ j = 8 ∨ j = 9 ∨ j = 10 ∨ j = 11 ∨ j = 12 ∨ j = 13 := by omega
    all_goals simp [gm_u]
  · simp only [gm_u]
    repeat rw [if_neg (by omega)]
  · simp only [gm_u]
    repeat rw [if_neg (by omega)]
  · simp only [gm_u]
    repeat rw [if_neg (by omega)]
  · have hdt := hd t ht
    have hst := hs t ht
    have f1 : ∀ x : gm_Mem, (x = T5) → x (P + pd t) k = S (O + ps t) k := by
      rintro x rfl
      rw [d5.1 _ (by omega), d4.1 _ (by omega), g3 t k (by omega) ht hk, gm_rp (by unfold poS at hp; omega), f2 _ (by omega) (by omega)]
    rw [← f1 T5 rfl]
    simp only [gm_u]
    repeat rw [if_neg (by omega)]
