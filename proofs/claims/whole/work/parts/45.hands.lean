/-! save / restore: the reference's rows handed one by one -/
theorem p_handsK {p n : Nat} (kp : 1 ≤ p ∧ p < 37) (hs : gM[p]? = some (.inr (0, n))) (hn : n ≤ 3400) : ∀ d x c (m : gm_Mem), x + d = n → m 0 57 = nI c → c + d ≤ 3400 → ¬ m 0 56 = 0 → ∃ r37 : Nat → Int32, gm_run gM 0 YX11_hands 2 [some (.ref 0), some (.ref p), some (.int (nI x))] [] m none (gm_u (va_up m 37 r37) 0 57 (nI (c + d))) ∧ (∀ k, k < d → r37 (c + k) = m p (x + k)) ∧ ∀ i, i < c ∨ c + d ≤ i → r37 i = m 37 i := by
  intro d
  induction d with
  | zero =>
    intro x c m hx h57 hc h56
    have xn : x = n := by omega
    subst xn
    refine ⟨m 37, ?_, fun k hk => absurd hk (by omega), fun _ _ => rfl⟩
    rw [r_up_self, Nat.add_zero, ← h57, r_u_self]
    exact PX11_hands_4 kp hs (by show ¬ nI x < nI x; rw [nI_ltI (by omega) (by omega)]; omega)
  | succ d ih =>
    intro x c m hx h57 hc h56
    obtain ⟨r37, q1, q2, q3⟩ := ih (x + 1) (c + 1) (gm_u (gm_u m 37 c (m p x)) 0 57 (nI (c + 1))) (by omega) (by simp [gm_u]) (by omega) h56
    have hu : gm_u (va_up (gm_u (gm_u m 37 c (m p x)) 0 57 (nI (c + 1))) 37 r37) 0 57 (nI (c + 1 + d)) = gm_u (va_up m 37 r37) 0 57 (nI (c + (d + 1))) := by
      rw [show c + 1 + d = c + (d + 1) by omega]
      funext q
      by_cases h0 : q = 0
      · subst h0
        funext k
        by_cases hk : k = 57
        · simp [gm_u, hk]
        · simp [gm_u, va_up, hk]
      · by_cases h7 : q = 37
        · simp [gm_u, va_up, h7]
        · simp [gm_u, va_up, h0, h7]
    rw [hu] at q1
    have hp : (gm_u (gm_u m 37 c (m p x)) 0 57 (nI (c + 1))) p = m p := by simp [gm_u, show p ≠ 0 by omega, show p ≠ 37 by omega]
    rw [hp] at q2
    refine ⟨r37, PX11_hands_2 (j3 := x) (j4 := c) kp hs ((nI_ltI (by omega) (by omega)).mpr (by omega)) h56 (ix_n (by omega) (by omega)) (ix_c h57 (by omega) (by decide)) (by rw [h57, nI_1, nI_1]; exact q1), fun k hk => ?_, fun i hi => ?_⟩
    · by_cases hk0 : k = 0
      · subst hk0
        rw [Nat.add_zero, Nat.add_zero, q3 c (by omega), gm_rp (by decide)]
        simp [gm_u]
      · have := q2 (k - 1) (by omega)
        rw [show c + 1 + (k - 1) = c + k by omega, show x + 1 + (k - 1) = x + k by omega] at this
        exact this
    · rw [q3 i (by omega), gm_rp (by decide)]
      exact gm_rk (by omega)
theorem p_handsR {p n : Nat} (kp : 1 ≤ p ∧ p < 37) (hs : gM[p]? = some (.inr (0, n))) (hn : n ≤ 3400) : ∀ d x c (m : gm_Mem), x + d = n → m 0 57 = nI c → c + d ≤ 3400 → m 0 56 = 0 → ∃ rp : Nat → Int32, gm_run gM 0 YX11_hands 2 [some (.ref 0), some (.ref p), some (.int (nI x))] [] m none (gm_u (va_up m p rp) 0 57 (nI (c + d))) ∧ (∀ k, k < d → rp (x + k) = m 37 (c + k)) ∧ ∀ i, i < x ∨ n ≤ i → rp i = m p i := by
  have p0 : p ≠ 0 := by omega
  have p37 : p ≠ 37 := by omega
  have q0 : (0 : Nat) ≠ p := by omega
  have q37 : (37 : Nat) ≠ p := by omega
  intro d
  induction d with
  | zero =>
    intro x c m hx h57 hc h56
    have xn : x = n := by omega
    subst xn
    refine ⟨m p, ?_, fun k hk => absurd hk (by omega), fun _ _ => rfl⟩
    rw [r_up_self, Nat.add_zero, ← h57, r_u_self]
    exact PX11_hands_4 kp hs (by show ¬ nI x < nI x; rw [nI_ltI (by omega) (by omega)]; omega)
  | succ d ih =>
    intro x c m hx h57 hc h56
    obtain ⟨rp, q1, q2, q3⟩ := ih (x + 1) (c + 1) (gm_u (gm_u m p x (m 37 c)) 0 57 (nI (c + 1))) (by omega) (by simp [gm_u]) (by omega) (by rw [gm_rk (by decide), gm_rp q0]; exact h56)
    have hu : gm_u (va_up (gm_u (gm_u m p x (m 37 c)) 0 57 (nI (c + 1))) p rp) 0 57 (nI (c + 1 + d)) = gm_u (va_up m p rp) 0 57 (nI (c + (d + 1))) := by
      rw [show c + 1 + d = c + (d + 1) by omega]
      funext q
      by_cases h0 : q = 0
      · subst h0
        funext k
        by_cases hk : k = 57
        · simp [gm_u, hk]
        · simp [gm_u, va_up, hk, q0]
      · by_cases h7 : q = p
        · simp [gm_u, va_up, h7, p0]
        · simp [gm_u, va_up, h0, h7]
    rw [hu] at q1
    have hp : (gm_u (gm_u m p x (m 37 c)) 0 57 (nI (c + 1))) 37 = m 37 := by simp [gm_u, q37]
    rw [hp] at q2
    have h5' : (gm_u m p x (m 37 c)) 0 57 = nI c := by rw [gm_rp q0]; exact h57
    refine ⟨rp, PX11_hands_3 (j3 := c) (j4 := x) kp hs ((nI_ltI (by omega) (by omega)).mpr (by omega)) h56 (ix_c h57 (by omega) (by decide)) (ix_n (by omega) (by omega)) (by rw [h57, nI_1, nI_1]; exact q1), fun k hk => ?_, fun i hi => ?_⟩
    · by_cases hk0 : k = 0
      · subst hk0
        rw [Nat.add_zero, Nat.add_zero, q3 x (by omega), gm_rp p0]
        simp [gm_u]
      · have := q2 (k - 1) (by omega)
        rw [show c + 1 + (k - 1) = c + k by omega, show x + 1 + (k - 1) = x + k by omega] at this
        exact this
    · rw [q3 i (by omega), gm_rp p0]
      exact gm_rk (by omega)
