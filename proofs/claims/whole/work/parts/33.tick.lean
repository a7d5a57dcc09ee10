/-! PAIRS: configure, tick -/
theorem r_configure {s b : Nat} {m S : gm_Mem} (h : Rc s b 0 m S) (x y z : Int32) : PairT 1 0 YX11_configure YX10_configure [some (.ref 0), some (.int x), some (.int y), some (.int z), none] [some (.ref 0), some (.int x), some (.int y), some (.int z), none] s b s b m S := by
  have hx := p_between m x 1 20
  have hy := p_between m y 1 9
  have hz := p_between m z 0 50
  by_cases c1 : x < 1
  · rw [b2i_f (fun q => q.1 c1)] at hx
    exact ⟨_, m, S, PX11_configure_4 hx rfl, PX10_configure_7 c1, h, r_FM.rf.fn, r_FC.rf.fd⟩
  by_cases c2 : 20 < x
  · rw [b2i_f (fun q => q.2 c2)] at hx
    exact ⟨_, m, S, PX11_configure_4 hx rfl, PX10_configure_6 c1 c2, h, r_FM.rf.fn, r_FC.rf.fd⟩
  rw [b2i_t ⟨c1, c2⟩] at hx
  by_cases c3 : y < 1
  · rw [b2i_f (fun q => q.1 c3)] at hy
    exact ⟨_, m, S, PX11_configure_3 hx (by decide) hy rfl, PX10_configure_5 c1 c2 c3, h, r_FM.rf.fn, r_FC.rf.fd⟩
  by_cases c4 : 9 < y
  · rw [b2i_f (fun q => q.2 c4)] at hy
    exact ⟨_, m, S, PX11_configure_3 hx (by decide) hy rfl, PX10_configure_4 c1 c2 c3 c4, h, r_FM.rf.fn, r_FC.rf.fd⟩
  rw [b2i_t ⟨c3, c4⟩] at hy
  by_cases c5 : z < 0
  · rw [b2i_f (fun q => q.1 c5)] at hz
    exact ⟨_, m, S, PX11_configure_1 hx (by decide) hy (by decide) hz rfl, PX10_configure_3 c1 c2 c3 c4 c5, h, r_FM.rf.fn, r_FC.rf.fd⟩
  by_cases c6 : 50 < z
  · rw [b2i_f (fun q => q.2 c6)] at hz
    exact ⟨_, m, S, PX11_configure_1 hx (by decide) hy (by decide) hz rfl, PX10_configure_1 c1 c2 c3 c4 c5 c6, h, r_FM.rf.fn, r_FC.rf.fd⟩
  rw [b2i_t ⟨c5, c6⟩] at hz
  obtain ⟨⟨s1, s2, s3, s4, s5, s6, s7, s8, s9⟩, hl, hn, ht, hr, h0, g0, g1⟩ := h
  have hM := PX11_configure_2 hx (by decide) hy (by decide) hz (by decide)
  have hC := PX10_configure_2 (S := S) c1 c2 c3 c4 c5 c6
  rw [← s1.1, ← s2.1, ← s3] at hC
  rw [Int32.lt_iff_toInt_lt] at c1 c2 c3 c4
  have z1 : (1 : Int32).toInt = 1 := rfl
  have z20 : (20 : Int32).toInt = 20 := rfl
  have z9 : (9 : Int32).toInt = 9 := rfl
  refine ⟨_, _, _, hM, hC, ⟨⟨⟨rfl, ?_⟩, ⟨rfl, ?_⟩, rfl, s4, s5, s6, s7, s8, s9⟩, hl, (by repeat (first | exact hn | refine r_net.u (by decide) ?_ | refine r_net.up (by decide) ?_)), ht, hr, h0, g0, g1⟩, ⟨rfl, rfl, rfl, rfl, rfl, rfl, rfl, rfl, rfl⟩, (((r_FC.rf.u (by decide)).u (by decide)).u (by decide)).fd⟩
  · show 1 ≤ x.toInt ∧ x.toInt ≤ 20
    omega
  · show 1 ≤ y.toInt ∧ y.toInt ≤ 9
    omega
theorem r_clock {s b : Nat} {m S : gm_Mem} (hB : b + 1 < 1000000000) (h : Rc s b 0 m S) : Rc s (b + 1) 0 (gm_u m 0 4 ((m 0 4) + 1)) (gm_u S 1 8 ((S 1 8) + 1)) := by
  obtain ⟨⟨s1, s2, s3, s4, s5, s6, s7, s8, s9⟩, hl, hn, ht, hr, h0, g0, g1⟩ := h
  have t1 : ((m 0 4) + 1).toInt = (m 0 4).toInt + 1 := by
    rw [s5.1]
    simp only [Int32.toInt_add, Int32.reduceToInt, Int.bmod]
    omega
  have t2 : ((S 1 8) + 1).toInt = (S 1 8).toInt + 1 := by rw [← s5.1]; exact t1
  refine ⟨⟨s1, s2, s3, s4, ⟨congrArg (· + 1) s5.1, ?_⟩, s6, s7, s8, s9⟩, hl, (by repeat (first | exact hn.le (Nat.le_refl _) (Nat.le_succ _) | refine r_net.u (by decide) ?_ | refine r_net.up (by decide) ?_)), ht, hr, h0, ⟨g0.1, g0.2.1.time (t2 := (m 0 4) + 1) (by omega), g0.2.2.1, g0.2.2.2.le (Nat.le_succ _)⟩, g1.1, g1.2.1.time (t2 := (m 0 4) + 1) (by omega), g1.2.2.1, g1.2.2.2.le (Nat.le_succ _)⟩
  show 0 ≤ ((S 1 8) + 1).toInt ∧ ((S 1 8) + 1).toInt ≤ ((b + 1 : Nat) : Int)
  rw [t2]
  omega
theorem r_rehello {s b : Nat} {m S : gm_Mem} (hB : b + 1 < 1000000000) (h : Rc s b 0 m S) : ∃ m1 S1 : gm_Mem,
    (∀ (r : Option Value) (m2 : gm_Mem), gm_run gM 4 YX11_ticks 71 [some (.ref 0), some (.int 0), none, none] [] m1 r m2 → gm_run gM 4 YX11_ticks 0 [some (.ref 0), none, none, none] [] m r m2) ∧ gm_run gC 4 YX10_repeatHello 0 [some (.ref 0), none] [] (gm_u S 1 8 ((S 1 8) + 1)) none S1 ∧ Rc s (b + 1) 0 m1 S1 ∧ r_FM m m1 ∧ r_FC S S1 := by
  have hR := r_clock hB h
  have x8 : m 1 0 = S 2 8 := (h.re (e := 0) (Or.inl rfl)).1.1
  have x9 : m 2 0 = S 2 9 := (h.re (e := 0) (Or.inl rfl)).1.2.2.1
  have x4 : m 0 4 = S 1 8 := h.1.2.2.2.2.1.1
  have x1 : m 0 1 = S 1 6 := h.1.2.1.1
  have x37 : m 0 37 = S 2 17 := h.2.2.2.2.2.1.2.2.2.2
  have x15 : m 3 0 = S 2 15 := h.2.2.2.2.2.1.1
  have x16 : m 0 36 = S 2 16 := h.2.2.2.2.2.1.2.2.2.1
  have fM : r_FM m (gm_u m 0 4 ((m 0 4) + 1)) := r_FM.rf.u (by omega)
  have fC : r_FC S (gm_u S 1 8 ((S 1 8) + 1)) := r_FC.rf.u (by omega)
  by_cases c1 : m 1 0 = 1
  · have d1 : (gm_u S 1 8 ((S 1 8) + 1)) 2 8 = 1 := x8.symm.trans c1
    by_cases c2 : (((m 0 4) + 1) - (m 0 37)) < (m 0 1)
    · refine ⟨_, _, fun r m2 K => PX11_ticks_3 c1 c2 K, PX10_repeatHello_2 d1 ?_, hR, fM, fC⟩
      rw [x4, x37, x1] at c2
      exact c2
    · have d2 : ¬ (((gm_u S 1 8 ((S 1 8) + 1)) 1 8) - ((gm_u S 1 8 ((S 1 8) + 1)) 2 17)) < ((gm_u S 1 8 ((S 1 8) + 1)) 1 6) := by
        rw [x4, x37, x1] at c2
        exact c2
      obtain ⟨r, mA, SA, q1, q2, q3, q4, q5, q6, q7, q8, q9⟩ := r_sendsPlain hR (e := 0) (Or.inl rfl) 0 (m 2 0) (m 3 0) (m 0 36) (by decide)
      have q2' : gm_run gC 2 YX10_sendPlain 0 [some (.ref 0), some (.ref 2), some (.int 0), some (.int ((gm_u S 1 8 ((S 1 8) + 1)) 2 9)), some (.int ((gm_u S 1 8 ((S 1 8) + 1)) 2 15)), some (.int ((gm_u S 1 8 ((S 1 8) + 1)) 2 16)), none] [] (gm_u S 1 8 ((S 1 8) + 1)) (some (.int r)) SA := by
        rw [x9, x15, x16] at q2
        exact q2
      rcases q8 with z | z
      · exact ⟨mA, SA, fun r' m2 K => PX11_ticks_2 c1 c2 q1 z K, PX10_repeatHello_1 d1 d2 (PX10_sendHello_2 q2' z), q3, fM.tr q4, fC.tr q5⟩
      · have nz : ¬ r = 0 := by rw [z]; decide
        refine ⟨_, _, fun r' m2 K => PX11_ticks_1 c1 c2 q1 nz K, PX10_repeatHello_1 d1 d2 (PX10_sendHello_1 q2' nz), ?_, (fM.tr q4).u (by omega), (fC.tr q5).u (by omega)⟩
        obtain ⟨ts, tl, tn, tt, tr, t0, u0, u1⟩ := q3
        exact ⟨ts, tl, (by repeat (first | exact tn | refine r_net.u (by decide) ?_ | refine r_net.up (by decide) ?_)), tt, tr, ⟨t0.1, t0.2.1, t0.2.2.1, t0.2.2.2.1, ts.2.2.2.2.1.1⟩, u0, u1⟩
  · exact ⟨_, _, fun r m2 K => PX11_ticks_4 c1 K, PX10_repeatHello_3 (fun z => c1 (x8.trans z)), hR, fM, fC⟩
