/-! PAIRS: becomes / changeState, clearsWaiting / discardWaiting, beginsStream / beginStream, beginsWindows / beginKeys -/
theorem r_one {S T : gm_Mem} (a : Nat) (h : ∀ p, p ≠ a → T p = S p) : T = va_up S a (T a) := by
  funext p
  simp only [va_up]
  split
  · next e => rw [e]
  · exact h p (by assumption)
theorem p_becomes {m S : gm_Mem} {e : Nat} (he : e = 0 ∨ e = 1) (hl : r_log (m 29) (m 0 42) (S 55) (S 56) (S 57) (S 58)) (hx : m 1 e = S (2 + 12 * e) 8) (h0 : S (2 + 12 * e) 0 = nI e) (v : Int32) : ∃ (rl : Nat → Int32) (ev : Int32) (r5 r6 r7 r8 : Nat → Int32),
    gm_run gM 1 YX11_becomes 0 [some (.ref 0), some (.int (nI e)), some (.int v)] [] m none (gm_u (va_up (gm_u m 1 e v) 29 rl) 0 42 ev) ∧
    gm_run gC 1 YX10_changeState 0 [some (.ref 0), some (.ref (2 + 12 * e)), some (.int v)] [] S none (va_up (va_up (va_up (va_up (gm_u S (2 + 12 * e) 8 v) 55 r5) 56 r6) 57 r7) 58 r8) ∧ r_log rl ev r5 r6 r7 r8 := by
  by_cases hv : m 1 e = v
  · refine ⟨m 29, m 0 42, S 55, S 56, S 57, S 58, ?_, ?_, hl⟩
    · have := PX11_becomes_1 (a1 := nI e) (a2 := v) (S := m) (j1 := e) ⟨(by simp only [Int32.lt_iff_toInt_lt, Int32.le_iff_toInt_le, ← Int32.toInt_inj, Int32.toInt_add, Int32.toInt_sub, Int32.toInt_mul, Int32.reduceToInt, nI, Int32.toInt_ofNat', Int.bmod, Int32.size, gm_ix]; omega), by omega⟩ hv
      rw [← hv, r_u_self, r_up_self, r_u_self, hv]
      exact this
    · have := PX10_changeState_2 (e := 2 + 12 * e) (a2 := v) (S := S) (by omega) (hx.symm.trans hv)
      have h8 : S (2 + 12 * e) 8 = v := hx.symm.trans hv
      rw [← h8, r_u_self, r_up_self, r_up_self, r_up_self, r_up_self, h8]
      exact this
  · have hl2 : r_log ((gm_u m 1 e v) 29) ((gm_u m 1 e v) 0 42) ((gm_u S (2 + 12 * e) 8 v) 55) ((gm_u S (2 + 12 * e) 8 v) 56) ((gm_u S (2 + 12 * e) 8 v) 57) ((gm_u S (2 + 12 * e) 8 v) 58) := by
      rcases he with rfl | rfl
      · exact hl
      · exact hl
    obtain ⟨rl, ev, r5, r6, r7, r8, q1, q2, q3⟩ := p_logs hl2 3 (nI e) v
    refine ⟨rl, ev, r5, r6, r7, r8, PX11_becomes_2 (j1 := e) ⟨(by simp only [Int32.lt_iff_toInt_lt, Int32.le_iff_toInt_le, ← Int32.toInt_inj, Int32.toInt_add, Int32.toInt_sub, Int32.toInt_mul, Int32.reduceToInt, nI, Int32.toInt_ofNat', Int.bmod, Int32.size, gm_ix]; omega), by omega⟩ hv q1, PX10_changeState_1 (by omega) (by rw [← hx]; exact hv) ?_, q3⟩
    rw [h0]
    exact q2
theorem r_becomes {s b o e : Nat} {m S : gm_Mem} (h : Rc s b o m S) (he : e = 0 ∨ e = 1) (v : Int32) (hv : 0 ≤ v.toInt ∧ v.toInt ≤ 4 ∧ (e = 0 → ¬ v = 2)) : ∃ m2 S2 : gm_Mem,
    gm_run gM 1 YX11_becomes 0 [some (.ref 0), some (.int (nI e)), some (.int v)] [] m none m2 ∧ gm_run gC 1 YX10_changeState 0 [some (.ref 0), some (.ref (2 + 12 * e)), some (.int v)] [] S none S2 ∧
    Rc s b o m2 S2 ∧ r_FM m m2 ∧ r_FC S S2 ∧ (∀ p, p ≠ 0 → p ≠ 1 → p ≠ 29 → m2 p = m p) ∧ (∀ k, k ≠ 42 → m2 0 k = m 0 k) ∧ m2 1 e = v ∧ (∀ j, j ≠ e → m2 1 j = m 1 j) := by
  obtain ⟨hs, hl, hn, ht, hr, h0, g0, g1⟩ := h
  rcases he with rfl | rfl
  · obtain ⟨rl, ev, r5, r6, r7, r8, q1, q2, q3⟩ := p_becomes (e := 0) (Or.inl rfl) hl g0.1.1 g0.1.2.2.2.2 v
    refine ⟨_, _, q1, q2, ⟨hs, q3, (by repeat (first | exact hn | refine r_net.u (by decide) ?_ | refine r_net.up (by decide) ?_)), ht, hr, h0, ⟨⟨rfl, hv, g0.1.2.2⟩, g0.2⟩, g1⟩, ((r_FM.rf.u (by decide)).up (by decide)).u (by decide), ((((r_FC.rf.u (by decide)).up (by decide)).up (by decide)).up (by decide)).up (by decide), ?_, ?_, rfl, ?_⟩
    · intro p h1 h2 h3
      simp [gm_u, va_up, h1, h2, h3]
    · intro k h1
      simp [gm_u, va_up, h1]
    · intro j h1
      simp [gm_u, va_up, h1]
  · obtain ⟨rl, ev, r5, r6, r7, r8, q1, q2, q3⟩ := p_becomes (e := 1) (Or.inr rfl) hl g1.1.1 g1.1.2.2.2.2 v
    refine ⟨_, _, q1, q2, ⟨hs, q3, (by repeat (first | exact hn | refine r_net.u (by decide) ?_ | refine r_net.up (by decide) ?_)), ht, hr, h0, g0, ⟨⟨rfl, hv, g1.1.2.2⟩, g1.2⟩⟩, ((r_FM.rf.u (by decide)).up (by decide)).u (by decide), ((((r_FC.rf.u (by decide)).up (by decide)).up (by decide)).up (by decide)).up (by decide), ?_, ?_, rfl, ?_⟩
    · intro p h1 h2 h3
      simp [gm_u, va_up, h1, h2, h3]
    · intro k h1
      simp [gm_u, va_up, h1]
    · intro j h1
      simp [gm_u, va_up, h1]
theorem p_clears {m S : gm_Mem} {e : Nat} (he : e = 0 ∨ e = 1) : ∃ r24 w : Nat → Int32,
    gm_run gM 0 YX11_clearsWaiting 0 [some (.ref 0), some (.int (nI e)), none] [] m none (va_up m 24 r24) ∧ gm_run gC 0 YX1_discardWaiting 0 [some (.ref (7 + 12 * e)), none] [] S none (va_up S (9 + 12 * e) w) ∧
    (∀ j, j < 4 → r24 (4 * e + j) = 0 ∧ w j = 0) ∧ ∀ j, j < 4 * e ∨ 4 * e + 4 ≤ j → r24 j = m 24 j := by
  have q1 : ∃ T : gm_Mem, gm_run gM 0 YX11_clearsWaiting 0 [some (.ref 0), some (.int (nI e)), none] [] m none T ∧ (∀ p, p ≠ 24 → T p = m p) ∧ (∀ j, j < 4 → T 24 (4 * e + j) = 0) ∧ ∀ j, j < 4 * e ∨ 4 * e + 4 ≤ j → T 24 j = m 24 j := by
    refine ⟨gm_u (gm_u (gm_u (gm_u m 24 (4 * e) 0) 24 (4 * e + 1) 0) 24 (4 * e + 2) 0) 24 (4 * e + 3) 0, ?_, fun p hp => by simp [gm_u, hp], fun j hj => ?_, fun j hj => ?_⟩
    · have hz : ∀ i : Int32, i.toInt < 4 → 0 ≤ i.toInt → gm_ix (4 * nI e + i) (4 * e + i.toInt.toNat) 8 := fun i h1 h2 => ⟨(by simp only [Int32.lt_iff_toInt_lt, Int32.le_iff_toInt_le, ← Int32.toInt_inj, Int32.toInt_add, Int32.toInt_sub, Int32.toInt_mul, Int32.reduceToInt, nI, Int32.toInt_ofNat', Int.bmod, Int32.size, gm_ix]; omega), by omega⟩
      refine PX11_clearsWaiting_1 ?_
      refine PX11_clearsWaiting_2 (j2 := 4 * e) (by decide) (hz 0 (by decide) (by decide)) ?_
      refine PX11_clearsWaiting_2 (j2 := 4 * e + 1) (by decide) (hz (0 + 1) (by decide) (by decide)) ?_
      refine PX11_clearsWaiting_2 (j2 := 4 * e + 2) (by decide) (hz (0 + 1 + 1) (by decide) (by decide)) ?_
      refine PX11_clearsWaiting_2 (j2 := 4 * e + 3) (by decide) (hz (0 + 1 + 1 + 1) (by decide) (by decide)) ?_
      exact PX11_clearsWaiting_3 (by decide)
    · simp only [gm_u, if_true]
      by_cases h3 : j = 3
      · subst h3
        exact if_pos rfl
      · by_cases h2 : j = 2
        · subst h2
          exact (if_neg (by omega)).trans (if_pos rfl)
        · by_cases h1 : j = 1
          · subst h1
            exact (if_neg (by omega)).trans ((if_neg (by omega)).trans (if_pos rfl))
          · exact (if_neg (by omega)).trans ((if_neg (by omega)).trans ((if_neg (by omega)).trans (if_pos (by omega))))
    · simp only [gm_u, if_true]
      exact (if_neg (by omega)).trans ((if_neg (by omega)).trans ((if_neg (by omega)).trans (if_neg (by omega))))
  have q2 : ∃ T : gm_Mem, gm_run gC 0 YX1_discardWaiting 0 [some (.ref (7 + 12 * e)), none] [] S none T ∧ (∀ p, p ≠ 9 + 12 * e → T p = S p) ∧ ∀ j, j < 4 → T (9 + 12 * e) j = 0 := by
    have hp9 : 9 + 12 * e = 7 + 12 * e + 2 := by omega
    rw [hp9]
    refine ⟨gm_u (gm_u (gm_u (gm_u S (7 + 12 * e + 2) 0 0) (7 + 12 * e + 2) 1 0) (7 + 12 * e + 2) 2 0) (7 + 12 * e + 2) 3 0, ?_, fun p hp => by simp only [gm_u, if_neg hp], fun j hj => ?_⟩
    · refine PX1_discardWaiting_1 (by omega) ?_
      refine PX1_discardWaiting_2 (j2 := 0) (by omega) (by decide) ⟨by decide, by decide⟩ ?_
      refine PX1_discardWaiting_2 (j2 := 1) (by omega) (by decide) ⟨by decide, by decide⟩ ?_
      refine PX1_discardWaiting_2 (j2 := 2) (by omega) (by decide) ⟨by decide, by decide⟩ ?_
      refine PX1_discardWaiting_2 (j2 := 3) (by omega) (by decide) ⟨by decide, by decide⟩ ?_
      exact PX1_discardWaiting_3 (by omega) (by decide)
    · rcases (show j = 0 ∨ j = 1 ∨ j = 2 ∨ j = 3 by omega) with rfl | rfl | rfl | rfl <;> simp [gm_u]
  obtain ⟨T, a1, a2, a3, a4⟩ := q1
  obtain ⟨U, b1, b2, b3⟩ := q2
  rw [r_one _ a2] at a1
  rw [r_one _ b2] at b1
  exact ⟨T 24, U (9 + 12 * e), a1, b1, fun j hj => ⟨a3 j hj, b3 j hj⟩, a4⟩
theorem r_in_new {s e : Nat} {r19 r24 r25 r26 ib tv wa wc wv : Nat → Int32} (h4 : ib 4 = 0) (h5 : ib 5 = 0) (h6 : ib 6 = -1) (hw : ∀ j, j < 4 → r24 (4 * e + j) = 0 ∧ wa j = 0) (hc : ∀ j, j < 4 → wc j = 0 ∨ wc j = 1) : r_in s e 0 (-1) 0 r19 r24 r25 r26 ib tv wa wc wv := by
  refine ⟨0, 0, Nat.zero_le _, Nat.le_refl _, rfl, h5, rfl, h4, h6, Or.inl rfl, fun i hi => absurd hi (by omega), fun j hj => ⟨by rw [(hw j hj).1, (hw j hj).2], Or.inl (hw j hj).2, hc j hj, fun q => ?_⟩, fun _ => (hw 0 (by decide)).2, fun d h1 h2 q => ?_⟩
  · rw [(hw j hj).2] at q
    exact absurd q (by decide)
  · rw [(hw ((0 + d) % 4) (by omega)).2] at q
    exact absurd q (by decide)
theorem r_in.wc {s e : Nat} {me ct tm : Int32} {r19 r24 r25 r26 ib tv wa wc wv : Nat → Int32} (h : r_in s e me ct tm r19 r24 r25 r26 ib tv wa wc wv) : ∀ j, j < 4 → wc j = 0 ∨ wc j = 1 := by
  obtain ⟨ex, t, h1, h2, h3, h4, h5, h6, h7, h8, h9, h10, h11, h12⟩ := h
  exact fun j hj => (h10 j hj).2.2.1
/-- an endpoint's stream begins anew -/
theorem r_stream {s b o e : Nat} {m S : gm_Mem} (h : Rc s b o m S) (he : e = 0 ∨ e = 1) : ∃ m2 S2 : gm_Mem,
    gm_run gM 1 YX11_beginsStream 0 [some (.ref 0), some (.int (nI e))] [] m none m2 ∧ gm_run gC 2 YX0_beginStream 0 [some (.ref (2 + 12 * e))] [] S none S2 ∧
    Rc s b o m2 S2 ∧ r_FM m m2 ∧ r_FC S S2 ∧ m2 0 = m 0 ∧ m2 1 = m 1 ∧ m2 18 e = 0 ∧ m2 2 = m 2 ∧ m2 3 = m 3 := by
  obtain ⟨hs, hl, hn, ht, hr, h0, g0, g1⟩ := h
  have key : ∃ (r24 w : Nat → Int32), gm_run gM 1 YX11_beginsStream 0 [some (.ref 0), some (.int (nI e))] [] m none (va_up (gm_u (gm_u (gm_u (gm_u (gm_u (gm_u m 18 e 0) 13 e 0) 17 e 0) 14 e 0) 15 e (-1)) 16 e (-1)) 24 r24) ∧
      gm_run gC 2 YX0_beginStream 0 [some (.ref (2 + 12 * e))] [] S none (va_up (gm_u (gm_u (gm_u (gm_u (gm_u (gm_u S (2 + 12 * e + 2) 2 0) (2 + 12 * e + 2) 3 0) (2 + 12 * e + 2) 4 (-1)) (2 + 12 * e + 5) 4 0) (2 + 12 * e + 5) 5 0) (2 + 12 * e + 5) 6 (-1)) (9 + 12 * e) w) ∧
      (∀ j, j < 4 → r24 (4 * e + j) = 0 ∧ w j = 0) ∧ ∀ j, j < 4 * e ∨ 4 * e + 4 ≤ j → r24 j = m 24 j := by
    obtain ⟨r24, w0, q1, -, q3, q4⟩ := p_clears (m := gm_u (gm_u (gm_u (gm_u (gm_u (gm_u m 18 e 0) 13 e 0) 17 e 0) 14 e 0) 15 e (-1)) 16 e (-1)) (S := S) he
    obtain ⟨r0, w, -, p2, p3, -⟩ := p_clears (m := m) (S := gm_u (gm_u (gm_u (gm_u (gm_u (gm_u S (2 + 12 * e + 2) 2 0) (2 + 12 * e + 2) 3 0) (2 + 12 * e + 2) 4 (-1)) (2 + 12 * e + 5) 4 0) (2 + 12 * e + 5) 5 0) (2 + 12 * e + 5) 6 (-1)) he
    refine ⟨r24, w, PX11_beginsStream_1 (j1 := e) ⟨(by simp only [Int32.lt_iff_toInt_lt, Int32.le_iff_toInt_le, ← Int32.toInt_inj, Int32.toInt_add, Int32.toInt_sub, Int32.toInt_mul, Int32.reduceToInt, nI, Int32.toInt_ofNat', Int.bmod, Int32.size, gm_ix]; omega), by omega⟩ q1, PX0_beginStream_1 (by omega) (PX4_begin_1 (by omega)) (PX1_begin_1 (by omega) ?_), fun j hj => ⟨(q3 j hj).1, (p3 j hj).2⟩, fun j hj => (q4 j hj).trans ?_⟩
    · have e7 : 7 + 12 * e = 2 + 12 * e + 5 := by omega
      rw [e7] at p2
      exact p2
    · simp [gm_u]
  obtain ⟨r24, w, q1, q2, q3, q4⟩ := key
  rcases he with rfl | rfl
  · refine ⟨_, _, q1, q2, ⟨hs, hl, (by repeat (first | exact hn | refine r_net.u (by decide) ?_ | refine r_net.up (by decide) ?_)), ht, hr, h0, ⟨g0.1, ⟨0, 0, by omega, by omega, rfl, rfl, rfl, rfl, rfl, Or.inl rfl, fun k hk => absurd hk (by omega)⟩, r_in_new rfl rfl rfl q3 g0.2.2.1.wc, g0.2.2.2⟩, ⟨g1.1, g1.2.1, ?_, g1.2.2.2⟩⟩, ((((((r_FM.rf.u (by decide)).u (by decide)).u (by decide)).u (by decide)).u (by decide)).u (by decide)).up (by decide), ((((((r_FC.rf.u (by decide)).u (by decide)).u (by decide)).u (by decide)).u (by decide)).u (by decide)).up (by decide), rfl, rfl, rfl, rfl, rfl⟩
    obtain ⟨ex, t, h1, h2, h3, h4, h5, h6, h7, h8, h9, h10, h11, h12⟩ := g1.2.2.1
    exact ⟨ex, t, h1, h2, h3, h4, h5, h6, h7, h8, h9, fun j hj => ⟨(q4 (4 * 1 + j) (by omega)).trans (h10 j hj).1, (h10 j hj).2⟩, h11, h12⟩
  · refine ⟨_, _, q1, q2, ⟨hs, hl, (by repeat (first | exact hn | refine r_net.u (by decide) ?_ | refine r_net.up (by decide) ?_)), ht, hr, h0, ⟨g0.1, g0.2.1, ?_, g0.2.2.2⟩, ⟨g1.1, ⟨0, 0, by omega, by omega, rfl, rfl, rfl, rfl, rfl, Or.inl rfl, fun k hk => absurd hk (by omega)⟩, r_in_new rfl rfl rfl q3 g1.2.2.1.wc, g1.2.2.2⟩⟩, ((((((r_FM.rf.u (by decide)).u (by decide)).u (by decide)).u (by decide)).u (by decide)).u (by decide)).up (by decide), ((((((r_FC.rf.u (by decide)).u (by decide)).u (by decide)).u (by decide)).u (by decide)).u (by decide)).up (by decide), rfl, rfl, rfl, rfl, rfl⟩
    obtain ⟨ex, t, h1, h2, h3, h4, h5, h6, h7, h8, h9, h10, h11, h12⟩ := g0.2.2.1
    exact ⟨ex, t, h1, h2, h3, h4, h5, h6, h7, h8, h9, fun j hj => ⟨(q4 (4 * 0 + j) (by omega)).trans (h10 j hj).1, (h10 j hj).2⟩, h11, h12⟩
