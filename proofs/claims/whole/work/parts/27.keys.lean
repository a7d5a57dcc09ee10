/-! PAIRS: beginsWindows / beginKeys, answersHello / acceptHello, hasReply / acceptReply -/
theorem r_upC {S : gm_Mem} {p : Nat} {r r2 : Nat → Int32} : va_up (va_up S p r) p r2 = va_up S p r2 := by
  funext q
  by_cases h : q = p
  · simp [va_up, h]
  · simp [va_up, h]
theorem p_forget {e : Nat} (he : e = 0 ∨ e = 1) : ∀ d j (S : gm_Mem), j + d = 16 → ∃ st : Nat → Int32, gm_run gC 0 YX4_forgetSent 2 [some (.ref (4 + 12 * e)), some (.int (nI j))] [] S none (va_up S (6 + 12 * e) st) ∧ (∀ k, j ≤ k → k < 16 → st k = -1) ∧ ∀ k, k < j → st k = S (6 + 12 * e) k := by
  have kp : 4 + 12 * e = 4 ∨ 4 + 12 * e = 16 ∨ 4 + 12 * e = 62 ∨ 4 + 12 * e = 74 := by omega
  have e6 : 4 + 12 * e + 2 = 6 + 12 * e := by omega
  intro d
  induction d with
  | zero =>
    intro j S hj
    refine ⟨S (6 + 12 * e), ?_, fun k h1 h2 => absurd h2 (by omega), fun k _ => rfl⟩
    rw [r_up_self]
    have j16 : j = 16 := by omega
    subst j16
    exact PX4_forgetSent_3 kp (by decide)
  | succ d ih =>
    intro j S hj
    obtain ⟨st, q1, q2, q3⟩ := ih (j + 1) (gm_u S (6 + 12 * e) j (-1)) (by omega)
    rw [gm_u_eq, r_upC] at q1
    refine ⟨st, PX4_forgetSent_2 (j2 := j) kp ((nI_ltI (b := 16) (by omega) (by decide)).mpr (by omega)) (ix_n (by omega) (by decide)) (by rw [nI_1, e6, gm_u_eq]; exact q1), fun k k1 k2 => ?_, fun k hk => ?_⟩
    · by_cases hk : k = j
      · subst hk
        rw [q3 k (by omega)]
        simp [gm_u]
      · exact q2 k (by omega) k2
    · rw [q3 k (by omega)]
      exact gm_rk (by omega)
theorem p_unsent {e n : Nat} (he : e = 0 ∨ e = 1) (hn : n ≤ 16) : ∀ d j (m : gm_Mem), j + d = n → m 18 e = nI n → ∃ r : Nat → Int32, gm_run gM 0 YX11_beginsWindows 37 [some (.ref 0), some (.int (nI e)), some (.int (nI j))] [] m none (va_up m 23 r) ∧ (∀ k, j ≤ k → k < n → r (16 * e + k) = -1) ∧ ∀ i, i < 16 * e + j ∨ 16 * e + n ≤ i → r i = m 23 i := by
  intro d
  induction d with
  | zero =>
    intro j m hj h18
    refine ⟨m 23, ?_, fun k h1 h2 => absurd h2 (by omega), fun k _ => rfl⟩
    rw [r_up_self]
    exact PX11_beginsWindows_3 (ix_e he) (by rw [h18, nI_ltI (by omega) (by omega)]; omega)
  | succ d ih =>
    intro j m hj h18
    obtain ⟨r, q1, q2, q3⟩ := ih (j + 1) (gm_u m 23 (16 * e + j) (-1)) (by omega) (by rw [gm_rp (by decide)]; exact h18)
    rw [gm_u_eq, r_upC] at q1
    refine ⟨r, PX11_beginsWindows_2 (j3 := 16 * e + j) (ix_e he) (by rw [h18]; exact (nI_ltI (by omega) (by omega)).mpr (by omega)) (ix_c (nI_16 e j) (by omega) (by decide)) (by rw [nI_1, gm_u_eq]; exact q1), fun k k1 k2 => ?_, fun i hi => ?_⟩
    · by_cases hk : k = j
      · subst hk
        rw [q3 _ (by omega)]
        simp [gm_u]
      · exact q2 k (by omega) k2
    · rw [q3 i (by omega)]
      exact gm_rk (by omega)
theorem r_keys {s b e : Nat} {m S : gm_Mem} (h : Rc s b 0 m S) (he : e = 0 ∨ e = 1) : ∃ m2 S2 : gm_Mem,
    gm_run gM 0 YX11_beginsWindows 0 [some (.ref 0), some (.int (nI e)), none] [] m none m2 ∧ gm_run gC 1 YX0_beginKeys 0 [some (.ref (2 + 12 * e))] [] S none S2 ∧ Rc s b 0 m2 S2 ∧ r_FM m m2 ∧ r_FC S S2 ∧ (∀ p, p < 5 → m2 p = m p) ∧ m2 13 = m 13 := by
  obtain ⟨n, lo, a1, a2, a3, a4, a5, a6, a7, a8, a9⟩ := (h.re he).2.1
  obtain ⟨r23, q1, q2, q3⟩ := p_unsent he a1 n 0 (gm_u (gm_u (gm_u (gm_u (gm_u m 5 e 0) 6 e 0) 7 e 0) 8 e (-1)) 12 e 0) (by omega) (by rw [gm_rp (by decide), gm_rp (by decide), gm_rp (by decide), gm_rp (by decide), gm_rp (by decide)]; exact a3)
  obtain ⟨st, t1, t2, -⟩ := p_forget he 16 0 (gm_u (gm_u (gm_u (gm_u (gm_u (gm_u S (2 + 12 * e) 11 0) (2 + 12 * e) 12 0) (2 + 12 * e) 13 0) (12 + 12 * e) 0 0) (12 + 12 * e) 1 0) (2 + 12 * e) 6 0) (by omega)
  have kw : 12 + 12 * e = 12 ∨ 12 + 12 * e = 13 ∨ 12 + 12 * e = 24 ∨ 12 + 12 * e = 25 ∨ 12 + 12 * e = 70 ∨ 12 + 12 * e = 71 ∨ 12 + 12 * e = 82 ∨ 12 + 12 * e = 83 := by omega
  have e10 : 2 + 12 * e + 10 = 12 + 12 * e := by omega
  have e22 : 2 + 12 * e + 2 = 4 + 12 * e := by omega
  have hM := PX11_beginsWindows_1 (a1 := nI e) (S := m) (ix_e he) q1
  have hC := PX0_beginKeys_1 (e := 2 + 12 * e) (S := S) (by omega) (by rw [e10]; exact PX8_clear_1 kw) (by rw [e22]; exact PX4_forgetSent_1 (by omega) t1)
  refine ⟨_, _, hM, hC, ?_⟩
  obtain ⟨hs, hl, hn, ht, hr, h0, g0, g1⟩ := h
  have zb : 0 ≤ (0 : Int32).toInt ∧ (0 : Int32).toInt ≤ b := by have : (0 : Int32).toInt = 0 := rfl; omega
  have z20 : 0 ≤ (0 : Int32).toInt ∧ (0 : Int32).toInt ≤ 20 := by decide
  have hout : r_out s e (m 0 4) (m 14 e) (m 15 e) (m 18 e) (m 20) (m 21) (m 22) r23 (S (4 + 12 * e)) (S (5 + 12 * e)) st := by
    refine ⟨n, lo, a1, a2, a3, a4, a5, a6, a7, a8, fun k hk => ?_⟩
    obtain ⟨k1, k2, k3, k4, k5⟩ := a9 k hk
    exact ⟨k1, k2, k3, (q2 k (by omega) hk).trans (t2 k (by omega) (by omega)).symm, Or.inl (t2 k (by omega) (by omega))⟩
  have hrest : ∀ i, i < 16 * e ∨ 16 * e + 16 ≤ i → r23 i = m 23 i := fun i hi => by
    rw [q3 i (by omega), gm_rp (by decide), gm_rp (by decide), gm_rp (by decide), gm_rp (by decide), gm_rp (by decide)]
  have hFM : r_FM m (va_up (gm_u (gm_u (gm_u (gm_u (gm_u m 5 e 0) 6 e 0) 7 e 0) 8 e (-1)) 12 e 0) 23 r23) := (by repeat (first | exact r_FM.rf | refine r_FM.u (by omega) ?_ | refine r_FM.up (by omega) ?_))
  have hFC : r_FC S (va_up (gm_u (gm_u (gm_u (gm_u (gm_u (gm_u S (2 + 12 * e) 11 0) (2 + 12 * e) 12 0) (2 + 12 * e) 13 0) (12 + 12 * e) 0 0) (12 + 12 * e) 1 0) (2 + 12 * e) 6 0) (6 + 12 * e) st) := by
    refine r_FC.up ?_ (by omega)
    exact (((((r_FC.rf.u (p := 2 + 12 * e) (by omega)).u (p := 2 + 12 * e) (by omega)).u (p := 2 + 12 * e) (by omega)).u (p := 12 + 12 * e) (by omega)).u (p := 12 + 12 * e) (by omega)).u (p := 2 + 12 * e) (by omega)
  refine ⟨?_, hFM, hFC, fun p hp => by simp [gm_u, va_up, show p ≠ 5 by omega, show p ≠ 6 by omega, show p ≠ 7 by omega, show p ≠ 8 by omega, show p ≠ 12 by omega, show p ≠ 23 by omega], by simp [gm_u, va_up]⟩
  rcases he with rfl | rfl
  · exact ⟨hs, hl, (by repeat (first | exact hn | refine r_net.u (by decide) ?_ | refine r_net.up (by decide) ?_)), ht, hr, h0, ⟨g0.1, hout, g0.2.2.1, rfl, zb, rfl, z20, rfl, zb, Or.inl ⟨rfl, rfl⟩, Or.inl ⟨rfl, rfl⟩⟩, g1.1, g1.2.1.cg rfl (fun _ _ => rfl) (fun _ _ => rfl) (fun _ _ => rfl) (fun k hk => hrest _ (by omega)), g1.2.2.1, g1.2.2.2⟩
  · exact ⟨hs, hl, (by repeat (first | exact hn | refine r_net.u (by decide) ?_ | refine r_net.up (by decide) ?_)), ht, hr, h0, ⟨g0.1, g0.2.1.cg rfl (fun _ _ => rfl) (fun _ _ => rfl) (fun _ _ => rfl) (fun k hk => hrest _ (by omega)), g0.2.2.1, g0.2.2.2⟩, g1.1, hout, g1.2.2.1, rfl, zb, rfl, z20, rfl, zb, Or.inl ⟨rfl, rfl⟩, Or.inl ⟨rfl, rfl⟩⟩
