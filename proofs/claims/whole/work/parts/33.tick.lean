/-! PAIRS: configure, tick -/
theorem r_configure {s b : Nat} {m S : gm_Mem} (h : Rc s b 0 m S) (x y z : Int32) : PairT 1 0 YX11_configure YX10_configure [some (.ref 0), some (.int x), some (.int y), some (.int z), none] [some (.ref 0), some (.int x), some (.int y), some (.int z), none] s b s b m S := by
  have hx := p_between m x 1 20
  have hy := p_between m y 1 9
  have hz := p_between m z 0 50
  by_cases c1 : x < 1
  · rw [b2i_f (fun q => q.1 c1)] at hx
    exact ⟨_, m, S, PX11_configure_4 hx rfl, PX10_configure_7 c1, h, r_FM.rf.fn, r_FC.rf.fd⟩
  by_cases c2 : 20 < x
  · rw [b2i_f (fun q => q.2 c2)] at hx
    exact ⟨_, m, S, PX11_configure_4 hx rfl, PX10_configure_6 c1 c2, h, r_FM.rf.fn, r_FC.rf.fd⟩
  rw [b2i_t ⟨c1, c2⟩] at hx
  by_cases c3 : y < 1
  · rw [b2i_f (fun q => q.1 c3)] at hy
    exact ⟨_, m, S, PX11_configure_3 hx (by decide) hy rfl, PX10_configure_5 c1 c2 c3, h, r_FM.rf.fn, r_FC.rf.fd⟩
  by_cases c4 : 9 < y
  · rw [b2i_f (fun q => q.2 c4)] at hy
    exact ⟨_, m, S, PX11_configure_3 hx (by decide) hy rfl, PX10_configure_4 c1 c2 c3 c4, h, r_FM.rf.fn, r_FC.rf.fd⟩
  rw [b2i_t ⟨c3, c4⟩] at hy
  by_cases c5 : z < 0
  · rw [b2i_f (fun q => q.1 c5)] at hz
    exact ⟨_, m, S, PX11_configure_1 hx (by decide) hy (by decide) hz rfl, PX10_configure_3 c1 c2 c3 c4 c5, h, r_FM.rf.fn, r_FC.rf.fd⟩
  by_cases c6 : 50 < z
  · rw [b2i_f (fun q => q.2 c6)] at hz
    exact ⟨_, m, S, PX11_configure_1 hx (by decide) hy (by decide) hz rfl, PX10_configure_1 c1 c2 c3 c4 c5 c6, h, r_FM.rf.fn, r_FC.rf.fd⟩
  rw [b2i_t ⟨c5, c6⟩] at hz
  obtain ⟨⟨s1, s2, s3, s4, s5, s6, s7, s8, s9⟩, hl, hn, ht, hr, h0, g0, g1⟩ := h
  have hM := PX11_configure_2 hx (by decide) hy (by decide) hz (by decide)
  have hC := PX10_configure_2 (S := S) c1 c2 c3 c4 c5 c6
  rw [← s1.1, ← s2.1, ← s3] at hC
  rw [Int32.lt_iff_toInt_lt] at c1 c2 c3 c4
  have z1 : (1 : Int32).toInt = 1 := rfl
  have z20 : (20 : Int32).toInt = 20 := rfl
  have z9 : (9 : Int32).toInt = 9 := rfl
  refine ⟨_, _, _, hM, hC, ⟨⟨⟨rfl, ?_⟩, ⟨rfl, ?_⟩, rfl, s4, s5, s6, s7, s8, s9⟩, hl, (by repeat (first | exact hn | refine r_net.u (by decide) ?_ | refine r_net.up (by decide) ?_)), ht, hr, h0, g0, g1⟩, ⟨rfl, rfl, rfl, rfl, rfl, rfl, rfl, rfl, rfl⟩, (((r_FC.rf.u (by decide)).u (by decide)).u (by decide)).fd⟩
  · show 1 ≤ x.toInt ∧ x.toInt ≤ 20
    omega
  · show 1 ≤ y.toInt ∧ y.toInt ≤ 9
    omega
theorem r_clock {s b : Nat} {m S : gm_Mem} (hB : b + 1 < 1000000000) (h : Rc s b 0 m S) : Rc s (b + 1) 0 (gm_u m 0 4 ((m 0 4) + 1)) (gm_u S 1 8 ((S 1 8) + 1)) := by
  obtain ⟨⟨s1, s2, s3, s4, s5, s6, s7, s8, s9⟩, hl, hn, ht, hr, h0, g0, g1⟩ := h
  have t1 : ((m 0 4) + 1).toInt = (m 0 4).toInt + 1 := by
    rw [s5.1]
    simp only [Int32.toInt_add, Int32.reduceToInt, Int.bmod]
    omega
  have t2 : ((S 1 8) + 1).toInt = (S 1 8).toInt + 1 := by rw [← s5.1]; exact t1
  refine ⟨⟨s1, s2, s3, s4, ⟨congrArg (· + 1) s5.1, ?_⟩, s6, s7, s8, s9⟩, hl, (by repeat (first | exact hn.le (Nat.le_refl _) (Nat.le_succ _) | refine r_net.u (by decide) ?_ | refine r_net.up (by decide) ?_)), ht, hr, h0, ⟨g0.1, g0.2.1.time (t2 := (m 0 4) + 1) (by omega), g0.2.2.1, g0.2.2.2.le (Nat.le_succ _)⟩, g1.1, g1.2.1.time (t2 := (m 0 4) + 1) (by omega), g1.2.2.1, g1.2.2.2.le (Nat.le_succ _)⟩
  show 0 ≤ ((S 1 8) + 1).toInt ∧ ((S 1 8) + 1).toInt ≤ ((b + 1 : Nat) : Int)
  rw [t2]
  omega
theorem r_rehello {s b : Nat} {m S : gm_Mem} (hB : b + 1 < 1000000000) (h : Rc s b 0 m S) : ∃ m1 S1 : gm_Mem,
    (∀ (r : Option Value) (m2 : gm_Mem), gm_run gM 4 YX11_ticks 71 [some (.ref 0), some (.int 0), none, none] [] m1 r m2 → gm_run gM 4 YX11_ticks 0 [some (.ref 0), none, none, none] [] m r m2) ∧ gm_run gC 4 YX10_repeatHello 0 [some (.ref 0), none] [] (gm_u S 1 8 ((S 1 8) + 1)) none S1 ∧ Rc s (b + 1) 0 m1 S1 ∧ r_FM m m1 ∧ r_FC S S1 := by
  have hR := r_clock hB h
  have x8 : m 1 0 = S 2 8 := (h.re (e := 0) (Or.inl rfl)).1.1
  have x9 : m 2 0 = S 2 9 := (h.re (e := 0) (Or.inl rfl)).1.2.2.1
  have x4 : m 0 4 = S 1 8 := h.1.2.2.2.2.1.1
  have x1 : m 0 1 = S 1 6 := h.1.2.1.1
  have x37 : m 0 37 = S 2 17 := h.2.2.2.2.2.1.2.2.2.2
  have x15 : m 3 0 = S 2 15 := h.2.2.2.2.2.1.1
  have x16 : m 0 36 = S 2 16 := h.2.2.2.2.2.1.2.2.2.1
  have fM : r_FM m (gm_u m 0 4 ((m 0 4) + 1)) := r_FM.rf.u (by omega)
  have fC : r_FC S (gm_u S 1 8 ((S 1 8) + 1)) := r_FC.rf.u (by omega)
  by_cases c1 : m 1 0 = 1
  · have d1 : (gm_u S 1 8 ((S 1 8) + 1)) 2 8 = 1 := x8.symm.trans c1
    by_cases c2 : (((m 0 4) + 1) - (m 0 37)) < (m 0 1)
    · refine ⟨_, _, fun r m2 K => PX11_ticks_3 c1 c2 K, PX10_repeatHello_2 d1 ?_, hR, fM, fC⟩
      rw [x4, x37, x1] at c2
      exact c2
    · have d2 : ¬ (((gm_u S 1 8 ((S 1 8) + 1)) 1 8) - ((gm_u S 1 8 ((S 1 8) + 1)) 2 17)) < ((gm_u S 1 8 ((S 1 8) + 1)) 1 6) := by
        rw [x4, x37, x1] at c2
        exact c2
      obtain ⟨r, mA, SA, q1, q2, q3, q4, q5, q6, q7, q8, q9⟩ := r_sendsPlain hR (e := 0) (Or.inl rfl) 0 (m 2 0) (m 3 0) (m 0 36) (by decide)
      have q2' : gm_run gC 2 YX10_sendPlain 0 [some (.ref 0), some (.ref 2), some (.int 0), some (.int ((gm_u S 1 8 ((S 1 8) + 1)) 2 9)), some (.int ((gm_u S 1 8 ((S 1 8) + 1)) 2 15)), some (.int ((gm_u S 1 8 ((S 1 8) + 1)) 2 16)), none] [] (gm_u S 1 8 ((S 1 8) + 1)) (some (.int r)) SA := by
        rw [x9, x15, x16] at q2
        exact q2
      rcases q8 with z | z
      · exact ⟨mA, SA, fun r' m2 K => PX11_ticks_2 c1 c2 q1 z K, PX10_repeatHello_1 d1 d2 (PX10_sendHello_2 q2' z), q3, fM.tr q4, fC.tr q5⟩
      · have nz : ¬ r = 0 := by rw [z]; decide
        refine ⟨_, _, fun r' m2 K => PX11_ticks_1 c1 c2 q1 nz K, PX10_repeatHello_1 d1 d2 (PX10_sendHello_1 q2' nz), ?_, (fM.tr q4).u (by omega), (fC.tr q5).u (by omega)⟩
        obtain ⟨ts, tl, tn, tt, tr, t0, u0, u1⟩ := q3
        exact ⟨ts, tl, (by repeat (first | exact tn | refine r_net.u (by decide) ?_ | refine r_net.up (by decide) ?_)), tt, tr, ⟨t0.1, t0.2.1, t0.2.2.1, t0.2.2.2.1, ts.2.2.2.2.1.1⟩, u0, u1⟩
  · exact ⟨_, _, fun r m2 K => PX11_ticks_4 c1 K, PX10_repeatHello_3 (fun z => c1 (x8.trans z)), hR, fM, fC⟩
def lateM (ti to v : Int32) : Int32 := if ¬ v < 0 ∧ ¬ (ti - v) < to then -1 else v
def lateC (x v : Int32) : Int32 := if ¬ x < v then -1 else v
theorem late_eq {ti to v : Int32} (h1 : 0 ≤ ti.toInt ∧ ti.toInt < 1000000000) (h2 : 1 ≤ to.toInt ∧ to.toInt ≤ 9) (h3 : v = -1 ∨ (0 ≤ v.toInt ∧ v.toInt ≤ ti.toInt)) : lateM ti to v = lateC (ti - to) v ∧ (lateC (ti - to) v = -1 ∨ (0 ≤ (lateC (ti - to) v).toInt ∧ (lateC (ti - to) v).toInt ≤ ti.toInt)) := by
  rcases h3 with rfl | h3
  · have e1 : lateM ti to (-1) = -1 := by
      unfold lateM
      exact if_neg (fun z => z.1 (by decide))
    have e2 : lateC (ti - to) (-1) = -1 := by
      unfold lateC
      split <;> rfl
    rw [e1, e2]
    exact ⟨rfl, Or.inl rfl⟩
  · have z0 : (0 : Int32).toInt = 0 := rfl
    have d1 : (ti - v).toInt = ti.toInt - v.toInt := by
      simp only [Int32.toInt_sub, Int.bmod]
      omega
    have d2 : (ti - to).toInt = ti.toInt - to.toInt := by
      simp only [Int32.toInt_sub, Int.bmod]
      omega
    have n0 : ¬ v < 0 := by rw [Int32.lt_iff_toInt_lt]; omega
    by_cases c : (ti - v) < to
    · have c' : (ti - to) < v := by
        rw [Int32.lt_iff_toInt_lt] at c ⊢
        omega
      have e1 : lateM ti to v = v := by unfold lateM; exact if_neg (fun z => z.2 c)
      have e2 : lateC (ti - to) v = v := by unfold lateC; exact if_neg (fun z => z c')
      rw [e1, e2]
      exact ⟨rfl, Or.inr h3⟩
    · have c' : ¬ (ti - to) < v := by
        rw [Int32.lt_iff_toInt_lt] at c ⊢
        omega
      have e1 : lateM ti to v = -1 := by unfold lateM; exact if_pos ⟨n0, c⟩
      have e2 : lateC (ti - to) v = -1 := by unfold lateC; exact if_pos c'
      rw [e1, e2]
      exact ⟨rfl, Or.inl rfl⟩
theorem p_lateM {e n : Nat} (he : e = 0 ∨ e = 1) (hn : n ≤ 16) : ∀ d j (m : gm_Mem), j + d = n → m 18 e = nI n → ∃ r : Nat → Int32, (∀ (rr : Option Value) (m2 : gm_Mem), gm_run gM 4 YX11_ticks 91 [some (.ref 0), some (.int (nI e)), some (.int (nI n)), none] [] (va_up m 23 r) rr m2 → gm_run gM 4 YX11_ticks 91 [some (.ref 0), some (.int (nI e)), some (.int (nI j)), none] [] m rr m2) ∧
    (∀ k, j ≤ k → k < n → r (16 * e + k) = lateM (m 0 4) (m 0 1) (m 23 (16 * e + k))) ∧ ∀ i, i < 16 * e + j ∨ 16 * e + n ≤ i → r i = m 23 i := by
  intro d
  induction d with
  | zero =>
    intro j m hj h18
    have jn : j = n := by omega
    subst jn
    exact ⟨m 23, fun rr m2 K => by rw [r_up_self] at K; exact K, fun k h1 h2 => absurd h2 (by omega), fun _ _ => rfl⟩
  | succ d ih =>
    intro j m hj h18
    have ixj : gm_ix ((16 * nI e) + nI j) (16 * e + j) 32 := ix_c (nI_16 e j) (by omega) (by decide)
    have hlt : nI j < m 18 e := by rw [h18]; exact (nI_ltI (by omega) (by omega)).mpr (by omega)
    obtain ⟨r, q1, q2, q3⟩ := ih (j + 1) (gm_u m 23 (16 * e + j) (lateM (m 0 4) (m 0 1) (m 23 (16 * e + j)))) (by omega) (by rw [gm_rp (by decide)]; exact h18)
    have e0 : ∀ k, gm_u m 23 (16 * e + j) (lateM (m 0 4) (m 0 1) (m 23 (16 * e + j))) 0 k = m 0 k := fun k => gm_rp (by decide)
    rw [e0, e0] at q2
    refine ⟨r, fun rr m2 K => ?_, fun k k1 k2 => ?_, fun i hi => ?_⟩
    · have K' := q1 rr m2 (by rw [gm_u_eq, r_upC]; exact K)
      rw [← nI_1] at K'
      by_cases c1 : m 23 (16 * e + j) < 0
      · refine PX11_ticks_10 (ix_e he) hlt ixj c1 ?_
        have : lateM (m 0 4) (m 0 1) (m 23 (16 * e + j)) = m 23 (16 * e + j) := by unfold lateM; exact if_neg (fun z => z.1 c1)
        rw [this] at K'
        exact K'
      · by_cases c2 : ((m 0 4) - (m 23 (16 * e + j))) < (m 0 1)
        · refine PX11_ticks_9 (ix_e he) hlt ixj c1 c2 ?_
          have : lateM (m 0 4) (m 0 1) (m 23 (16 * e + j)) = m 23 (16 * e + j) := by unfold lateM; exact if_neg (fun z => z.2 c2)
          rw [this] at K'
          exact K'
        · refine PX11_ticks_8 (ix_e he) hlt ixj c1 c2 ?_
          have : lateM (m 0 4) (m 0 1) (m 23 (16 * e + j)) = -1 := by unfold lateM; exact if_pos ⟨c1, c2⟩
          rw [this] at K'
          exact K'
    · by_cases hk : k = j
      · subst hk
        rw [q3 _ (by omega)]
        simp [gm_u]
      · rw [q2 k (by omega) k2, gm_rk (by omega)]
    · rw [q3 i (by omega)]
      exact gm_rk (by omega)
theorem p_lateC {e : Nat} {x : Int32} (he : e = 0 ∨ e = 1) : ∀ d j (S : gm_Mem), j + d = 16 → ∃ st : Nat → Int32, gm_run gC 0 YX4_forgetSentUntil 2 [some (.ref (4 + 12 * e)), some (.int x), some (.int (nI j))] [] S none (va_up S (6 + 12 * e) st) ∧ (∀ k, j ≤ k → k < 16 → st k = lateC x (S (6 + 12 * e) k)) ∧ ∀ k, k < j → st k = S (6 + 12 * e) k := by
  have kp : 4 + 12 * e = 4 ∨ 4 + 12 * e = 16 ∨ 4 + 12 * e = 62 ∨ 4 + 12 * e = 74 := by omega
  have e6 : 4 + 12 * e + 2 = 6 + 12 * e := by omega
  intro d
  induction d with
  | zero =>
    intro j S hj
    refine ⟨S (6 + 12 * e), ?_, fun k h1 h2 => absurd h2 (by omega), fun k _ => rfl⟩
    rw [r_up_self]
    have j16 : j = 16 := by omega
    subst j16
    exact PX4_forgetSentUntil_4 kp (by decide)
  | succ d ih =>
    intro j S hj
    have hlt : nI j < 16 := (nI_ltI (b := 16) (by omega) (by decide)).mpr (by omega)
    by_cases c : x < S (6 + 12 * e) j
    · obtain ⟨st, q1, q2, q3⟩ := ih (j + 1) S (by omega)
      refine ⟨st, PX4_forgetSentUntil_3 (j2 := j) kp hlt (ix_n (by omega) (by decide)) (by rw [e6]; exact c) (by rw [nI_1]; exact q1), fun k k1 k2 => ?_, fun k hk => q3 k (by omega)⟩
      by_cases hk : k = j
      · subst hk
        rw [q3 k (by omega)]
        unfold lateC
        exact (if_neg (fun z => z c)).symm
      · exact q2 k (by omega) k2
    · obtain ⟨st, q1, q2, q3⟩ := ih (j + 1) (gm_u S (6 + 12 * e) j (-1)) (by omega)
      rw [gm_u_eq, r_upC] at q1
      refine ⟨st, PX4_forgetSentUntil_2 (j2 := j) kp hlt (ix_n (by omega) (by decide)) (by rw [e6]; exact c) (by rw [nI_1, e6, gm_u_eq]; exact q1), fun k k1 k2 => ?_, fun k hk => ?_⟩
      · by_cases hk : k = j
        · subst hk
          rw [q3 k (by omega)]
          unfold lateC
          rw [if_pos c]
          simp [gm_u]
        · rw [q2 k (by omega) k2, gm_rk hk]
      · rw [q3 k (by omega)]
        exact gm_rk (by omega)
theorem r_late {s b e : Nat} {m S : gm_Mem} (hB : s ≤ 1024 ∧ b + 3 < 1000000000) (h : Rc s b 0 m S) (he : e = 0 ∨ e = 1) : ∃ m1 S1 : gm_Mem,
    (∀ (r : Option Value) (m2 : gm_Mem), gm_run gM 4 YX11_ticks 71 [some (.ref 0), some (.int (nI (e + 1))), none, none] [] m1 r m2 → gm_run gM 4 YX11_ticks 71 [some (.ref 0), some (.int (nI e)), none, none] [] m r m2) ∧ gm_run gC 4 YX10_resendLateMessages 0 [some (.ref 0), some (.ref (2 + 12 * e))] [] S none S1 ∧ Rc s (b + 3) 0 m1 S1 ∧ r_FM m m1 ∧ r_FC S S1 := by
  have hx : m 1 e = S (2 + 12 * e) 8 := (h.re he).1.1
  have ke : 2 + 12 * e = 2 ∨ 2 + 12 * e = 14 := by omega
  have c0 : nI e < 2 := (nI_ltI (b := 2) (by omega) (by decide)).mpr (by omega)
  have e22 : 2 + 12 * e + 2 = 4 + 12 * e := by omega
  by_cases c1 : m 1 e = 3
  · obtain ⟨n, lo, a1, a2, a3, a4, a5, a6, a7, a8, a9⟩ := (h.re he).2.1
    obtain ⟨r23, q1, q2, q3⟩ := p_lateM he a1 n 0 m (by omega) a3
    obtain ⟨st, t1, t2, -⟩ := p_lateC (e := e) (x := (S 1 8) - (S 1 6)) he 16 0 S (by omega)
    have hsc := h.1
    have x4 : m 0 4 = S 1 8 := hsc.2.2.2.2.1.1
    have x1 : m 0 1 = S 1 6 := hsc.2.1.1
    have hout : r_out s e (m 0 4) (m 14 e) (m 15 e) (m 18 e) (m 20) (m 21) (m 22) r23 (S (4 + 12 * e)) (S (5 + 12 * e)) st := by
      refine ⟨n, lo, a1, a2, a3, a4, a5, a6, a7, a8, fun k hk => ?_⟩
      obtain ⟨k1, k2, k3, k4, k5⟩ := a9 k hk
      have le := late_eq (ti := m 0 4) (to := m 0 1) (v := S (6 + 12 * e) k) (by rw [x4]; have := hsc.2.2.2.2.1.2; omega) (by rw [x1]; exact hsc.2.1.2) k5
      have es := t2 k (by omega) (by omega)
      rw [← x4, ← x1] at es
      refine ⟨k1, k2, k3, ?_, ?_⟩
      · rw [q2 k (by omega) hk, k4, es]
        exact le.1
      · rw [es]
        exact le.2
    obtain ⟨u1, u2, u3⟩ := Rc.outs (m2 := va_up m 23 r23) (S2 := va_up S (6 + 12 * e) st) h he (fun p p1 p2 => by simp only [va_up]; exact if_neg (by omega)) (fun j hj => rfl) (fun p p1 p2 i hi => by
      by_cases hp : p = 23
      · subst hp
        show r23 i = m 23 i
        exact q3 i (by omega)
      · simp only [va_up, if_neg hp]) (fun p p1 p2 p3 => by simp only [va_up]; exact if_neg p3) (by
        have w4 : va_up S (6 + 12 * e) st (4 + 12 * e) = S (4 + 12 * e) := by simp only [va_up]; exact if_neg (by omega)
        have w5 : va_up S (6 + 12 * e) st (5 + 12 * e) = S (5 + 12 * e) := by simp only [va_up]; exact if_neg (by omega)
        have w6 : va_up S (6 + 12 * e) st (6 + 12 * e) = st := by simp [va_up]
        rw [w4, w5, w6]
        exact hout)
    obtain ⟨m1, S1, v1, v2, v3, v4, v5⟩ := r_sendsDue hB u1 he
    refine ⟨m1, S1, fun r m2 K => PX11_ticks_6 c0 (ix_e he) c1 (q1 _ _ (PX11_ticks_11 (ix_e he) ?_ v1 (by rw [nI_1]; exact K))), PX10_resendLateMessages_1 ke (hx.symm.trans c1) (by rw [e22]; exact PX4_forgetSentUntil_1 (by omega) t1) v2, v3, u2.tr v4, u3.tr v5⟩
    show ¬ nI n < m 18 e
    rw [a3, nI_ltI (by omega) (by omega)]
    omega
  · exact ⟨m, S, fun r m2 K => PX11_ticks_5 c0 (ix_e he) c1 (by rw [nI_1]; exact K), PX10_resendLateMessages_2 ke (fun z => c1 (hx.trans z)), h.le (Nat.le_refl _) (by omega), r_FM.rf, r_FC.rf⟩
theorem r_ticks {s b c x : Nat} (hc : c ≤ 50) : ∀ d j (m S : gm_Mem) (b : Nat), j + d = c → s ≤ 1024 ∧ b + 7 * d < 1000000000 → Rc s b 0 m S → ∃ (r : Int32) (m2 S2 : gm_Mem), gm_run gM 5 YX11_tick 15 [some (.ref 0), some (.int (nI c)), some (.int (nI j))] [] m (some (.int r)) m2 ∧ gm_run gC 5 YX10_tick 16 [some (.ref 0), some (.int (nI c)), some (.int (nI j))] [] S (some (.int r)) S2 ∧ Rc s (b + 7 * d) 0 m2 S2 ∧ r_FM m m2 ∧ r_FC S S2 := by
  intro d
  induction d with
  | zero =>
    intro j m S b hj hB h
    have hn : ¬ nI j < nI c := by rw [nI_ltI (by omega) (by omega)]; omega
    have x4 : m 0 4 = S 1 8 := h.1.2.2.2.2.1.1
    have hM := PX11_tick_4 (S := m) hn
    have hC := PX10_tick_5 (S := S) hn
    rw [← x4] at hC
    exact ⟨_, m, S, hM, hC, h, r_FM.rf, r_FC.rf⟩
  | succ d ih =>
    intro j m S b hj hB h
    have hlt : nI j < nI c := (nI_ltI (by omega) (by omega)).mpr (by omega)
    obtain ⟨m1, S1, a1, a2, a3, a4, a5⟩ := r_rehello (by omega) h
    obtain ⟨m2, S2, b1, b2, b3, b4, b5⟩ := r_late (e := 0) (by omega) a3 (Or.inl rfl)
    obtain ⟨m3, S3, c1, c2, c3, c4, c5⟩ := r_late (e := 1) (by omega) b3 (Or.inr rfl)
    have ht : gm_run gM 4 YX11_ticks 0 [some (.ref 0), none, none, none] [] m none m3 := a1 _ _ (b1 _ _ (c1 _ _ (PX11_ticks_7 (by decide))))
    obtain ⟨r, m4, S4, d1, d2, d3, d4, d5⟩ := ih (j + 1) m3 S3 (b + 1 + 3 + 3) (by omega) (by omega) c3
    exact ⟨r, m4, S4, PX11_tick_3 hlt ht (by rw [nI_1]; exact d1), PX10_tick_4 hlt a2 b2 c2 (by rw [nI_1]; exact d2), d3.le (Nat.le_refl _) (by omega), ((a4.tr b4).tr c4).tr d4, ((a5.tr b5).tr c5).tr d5⟩
theorem r_tickC {s b : Nat} {m S : gm_Mem} (hB : s ≤ 1024 ∧ b + 350 < 1000000000) (h : Rc s b 0 m S) (x : Int32) : PairT 5 5 YX11_tick YX10_tick [some (.ref 0), some (.int x), none] [some (.ref 0), some (.int x), none] s b s (b + 350) m S := by
  have hx := p_between m x 1 50
  by_cases c1 : x < 1
  · rw [b2i_f (fun q => q.1 c1)] at hx
    exact ⟨_, m, S, PX11_tick_1 hx rfl, PX10_tick_3 c1, h.le (Nat.le_refl _) (by omega), r_FM.rf.fn, r_FC.rf.fd⟩
  by_cases c2 : 50 < x
  · rw [b2i_f (fun q => q.2 c2)] at hx
    exact ⟨_, m, S, PX11_tick_1 hx rfl, PX10_tick_1 c1 c2, h.le (Nat.le_refl _) (by omega), r_FM.rf.fn, r_FC.rf.fd⟩
  rw [b2i_t ⟨c1, c2⟩] at hx
  obtain ⟨c, hc, rfl⟩ : ∃ c : Nat, c ≤ 50 ∧ x = nI c := by
    rw [Int32.lt_iff_toInt_lt] at c1 c2
    have z1 : (1 : Int32).toInt = 1 := rfl
    have z50 : (50 : Int32).toInt = 50 := rfl
    obtain ⟨c, w1, w2⟩ := nI_of (x := x) (by rw [Int32.lt_iff_toInt_lt]; have : (0 : Int32).toInt = 0 := rfl; omega)
    refine ⟨c, ?_, w2⟩
    rw [w2, nI_toInt w1] at c2
    omega
  obtain ⟨r, m2, S2, q1, q2, q3, q4, q5⟩ := r_ticks (x := 0) (b := 0) hc c 0 m S b (by omega) (by omega) h
  exact ⟨r, m2, S2, PX11_tick_2 hx (by decide) q1, PX10_tick_2 c1 c2 q2, q3.le (Nat.le_refl _) (by omega), q4.fn, q5.fd⟩
