/-! PAIRS: answersHello / acceptHello, hasReply / acceptReply, issues / issueTicket -/
theorem p_mixM (m : gm_Mem) (a c : Int32) : gm_run gM 0 YX11_mix 0 [some (.int a), some (.int c), none] [] m (some (.int (mixF a c))) m := PX11_mix_1
theorem p_mixC (S : gm_Mem) (a c : Int32) : gm_run gC 0 YX10_mix 0 [some (.int a), some (.int c), none] [] S (some (.int (mixF a c))) S := PX10_mix_1
theorem p_baseC (S : gm_Mem) (a c d : Int32) : gm_run gC 1 YX10_baseOf 0 [some (.int a), some (.int c), some (.int d)] [] S (some (.int (mixF (mixF a c) d))) S := PX10_baseOf_1 (p_mixC S a c) (p_mixC S _ d)
/-- behind the session and the stream or ticket -/
theorem p_answer {s b : Nat} {m S : gm_Mem} {se a : Int32} (h : Rc s b 0 m S) (nn bb : Int32) (hse : m 2 1 = se) : ∃ (m2 m3 m4 S2 S3 S4 : gm_Mem) (r : Int32),
    gm_run gM 1 YX11_becomes 0 [some (.ref 0), some (.int 1), some (.int 2)] [] (gm_u (gm_u m 3 1 nn) 4 1 bb) none m2 ∧ gm_run gM 0 YX11_beginsWindows 0 [some (.ref 0), some (.int 1), none] [] m2 none m3 ∧ gm_run gM 2 YX11_sendsPlain 0 [some (.ref 0), some (.int 1), some (.int 1), some (.int (m3 2 1)), some (.int (m3 3 1)), some (.int 0)] [] m3 (some (.int r)) m4 ∧
    gm_run gC 1 YX10_changeState 0 [some (.ref 0), some (.ref 14), some (.int 2)] [] (gm_u S 14 10 bb) none S2 ∧ gm_run gC 1 YX0_beginKeys 0 [some (.ref 14)] [] S2 none S3 ∧ gm_run gC 2 YX10_sendPlain 0 [some (.ref 0), some (.ref 14), some (.int 1), some (.int (S3 14 9)), some (.int nn), some (.int 0), none] [] S3 (some (.int r)) S4 ∧
    Rc s b 0 m4 S4 ∧ r_FM m m4 ∧ r_FC S S4 := by
  obtain ⟨hs, hl, hn, ht, hr, h0, g0, g1⟩ := h
  have hR : Rc s b 0 (gm_u (gm_u m 3 1 nn) 4 1 bb) (gm_u S 14 10 bb) := ⟨hs, hl, (by repeat (first | exact hn | refine r_net.u (by decide) ?_ | refine r_net.up (by decide) ?_)), ht, hr, h0, g0, ⟨g1.1.1, g1.1.2.1, g1.1.2.2.1, rfl, g1.1.2.2.2.2⟩, g1.2⟩
  obtain ⟨m2, S2, q1, q2, q3, q4, q5, q6, q7, q8, q9⟩ := r_becomes hR (e := 1) (Or.inr rfl) 2 (by decide)
  obtain ⟨m3, S3, p1, p2, p3, p4, p5, p6, p7⟩ := r_keys q3 (e := 1) (Or.inr rfl)
  have n31 : m3 3 1 = nn := by
    rw [p6 3 (by decide), q6 3 (by decide) (by decide) (by decide)]
    rfl
  have x9 : m3 2 1 = S3 14 9 := (p3.re (e := 1) (Or.inr rfl)).1.2.2.1
  obtain ⟨r, m4, S4, t1, t2, t3, t4, t5, t6, t7, t8⟩ := r_sendsPlain p3 (e := 1) (Or.inr rfl) 1 (m3 2 1) nn 0 (by decide)
  refine ⟨m2, m3, m4, S2, S3, S4, r, q1, p1, ?_, q2, p2, ?_, t3, ?_, ?_⟩
  · rw [n31]
    exact t1
  · rw [← x9]
    exact t2
  · exact (((((r_FM.rf.u (by omega)).u (by omega)).tr q4).tr p4).tr t4)
  · exact ((((r_FC.rf.u (by omega)).tr q5).tr p5).tr t5)
theorem r_answers {s b : Nat} {m S : gm_Mem} (h : Rc s b 0 m S) (hp : ∀ k, k < 9 → S 122 k = m 31 k) (h6 : m 31 6 = -1 ∨ ∃ j i : Nat, j < i ∧ i ≤ 16 ∧ m 0 38 = nI i ∧ m 31 6 = nI j) :
    PairV 3 3 YX11_answersHello YX10_acceptHello [some (.ref 0)] [some (.ref 0), some (.ref 14), some (.ref 122), none] s b s b m S := by
  have x2 : S 122 2 = m 31 2 := hp 2 (by decide)
  have x5 : S 122 5 = m 31 5 := hp 5 (by decide)
  have x6 : S 122 6 = m 31 6 := hp 6 (by decide)
  obtain ⟨hs, hl, hn, ht, hr, h0, g0, g1⟩ := h
  by_cases c : m 31 6 = -1
  · have hR : Rc s b 0 (gm_u m 2 1 (m 31 2)) (gm_u S 14 9 (S 122 2)) := ⟨hs, hl, (by repeat (first | exact hn | refine r_net.u (by decide) ?_ | refine r_net.up (by decide) ?_)), ht, hr, h0, g0, ⟨g1.1.1, g1.1.2.1, x2.symm, g1.1.2.2.2⟩, g1.2⟩
    obtain ⟨m1, S1, t1, t2, t3, t4, t5, t6, t7, t8, t9, t10⟩ := r_stream hR (e := 1) (Or.inr rfl)
    have y31 : m1 31 = m 31 := t4.1
    have y122 : S1 122 = S 122 := t5.1 122 (by decide)
    have ytm : m1 0 4 = S1 1 8 := t3.1.2.2.2.2.1.1
    have yse : m1 2 1 = m 31 2 := by rw [t9]; rfl
    obtain ⟨m2, m3, m4, S2, S3, S4, r, k1, k2, k3, k4, k5, k6, k7, k8, k9⟩ := p_answer (a := 0) t3 (mixF (m1 31 5) (mixF (m1 31 2) (m1 0 4))) (mixF (mixF (m1 31 5) (mixF (m1 31 5) (mixF (m1 31 2) (m1 0 4)))) (m1 2 1)) yse
    refine ⟨m4, S4, PX11_answersHello_1 c t1 (p_mixM m1 _ _) (p_mixM m1 _ _) (p_mixM _ _ _) (p_mixM _ _ _) k1 k2 k3, ?_, k7, (r_FM.rf.u (by omega)).tr (t4.tr k8), (r_FC.rf.u (by omega)).tr (t5.tr k9)⟩
    have z5 : m1 31 5 = S1 122 5 := by rw [y31, y122, x5]
    have z2 : m1 31 2 = S1 122 2 := by rw [y31, y122, x2]
    have zs : m1 2 1 = S1 122 2 := by rw [yse, y122, x2]
    rw [z5, z2, zs, ytm] at k4
    rw [z5, z2, ytm] at k6
    exact PX10_acceptHello_1 (e := 14) rfl (Or.inr rfl) (x6.trans c) t2 (p_mixC S1 _ _) (p_mixC S1 _ _) (p_baseC S1 _ _ _) k4 k5 k6
  · obtain ⟨j, i, j1, j2, j3, j4⟩ := h6.resolve_left c
    obtain ⟨i', a1, a2, a3, a4, a5, a6⟩ := ht
    have hii : i' = i := (nI_eq (by omega) (by omega)).mp (a2.symm.trans j3)
    subst hii
    have hR : Rc s b 0 (gm_u (gm_u m 2 1 (m 31 2)) 28 j 1) (gm_u (gm_u S 14 9 (S 122 2)) 54 j 1) := by
      refine ⟨hs, hl, (by repeat (first | exact hn | refine r_net.u (by decide) ?_ | refine r_net.up (by decide) ?_)), ⟨i', a1, a2, a3, fun t htt => ?_, fun t htt => ?_, fun t h1 h2 => ?_⟩, hr, h0, g0, ⟨g1.1.1, g1.1.2.1, x2.symm, g1.1.2.2.2⟩, g1.2⟩
      · by_cases hj : t = j
        · subst hj
          exact ⟨(a4 t htt).1, by simp [gm_u]⟩
        · exact ⟨(a4 t htt).1, by simp [gm_u, hj]; exact (a4 t htt).2⟩
      · by_cases hj : t = j
        · subst hj
          right
          simp [gm_u]
        · simp [gm_u, hj]
          exact a5 t htt
      · have hj : t ≠ j := by omega
        simp [gm_u, hj]
        exact a6 t h1 h2
    have ytm : m 0 4 = S 1 8 := hs.2.2.2.2.1.1
    have ixj : gm_ix (m 31 6) j 16 := ix_c j4 (by omega) (by decide)
    have huse : gm_run gC 1 YX7_use 0 [some (.ref 52), some (.int (S 122 6))] [] (gm_u S 14 9 (S 122 2)) none (gm_u (gm_u S 14 9 (S 122 2)) 54 j 1) := by
      rw [x6]
      refine PX7_use_1 (p := 52) (r1 := 1) (j4 := j) (by decide) (PX7_isIssued_1 (by decide) ?_ ?_ ?_) (by decide) ixj
      · rw [j4]; exact nI_pos (by omega)
      · rw [j4]
        show nI j < S 52 2
        rw [a3]
        exact (nI_ltI (by omega) (by omega)).mpr j1
      · rw [j4]
        exact (nI_ltI (b := 16) (by omega) (by decide)).mpr (by omega)
    obtain ⟨m2, m3, m4, S2, S3, S4, r, k1, k2, k3, k4, k5, k6, k7, k8, k9⟩ := p_answer (a := 0) (se := m 31 2) hR (mixF (m 31 5) (mixF (m 31 2) (m 0 4))) (mixF (mixF (m 31 5) (mixF (m 31 5) (mixF (m 31 2) (m 0 4)))) (m 31 2)) rfl
    refine ⟨m4, S4, PX11_answersHello_2 c ixj (p_mixM _ _ _) (p_mixM _ _ _) (p_mixM _ _ _) (p_mixM _ _ _) k1 k2 k3, ?_, k7, ((r_FM.rf.u (by omega)).u (by omega)).tr k8, ((r_FC.rf.u (by omega)).u (by omega)).tr k9⟩
    rw [← x5, ← x2, ytm] at k4 k6
    exact PX10_acceptHello_2 (e := 14) (r11 := r) rfl (Or.inr rfl) (by rw [x6]; exact c) huse (p_mixC _ _ _) (p_mixC _ _ _) (p_baseC _ _ _ _) k4 k5 k6
theorem r_hasReply {s b : Nat} {m S : gm_Mem} (hB : s ≤ 1024 ∧ b + 4 < 1000000000) (h : Rc s b 0 m S) (hp : ∀ k, k < 9 → S 122 k = m 31 k) :
    PairV 4 4 YX11_hasReply YX10_acceptReply [some (.ref 0)] [some (.ref 0), some (.ref 2), some (.ref 122)] s b s (b + 4) m S := by
  have x5 : S 122 5 = m 31 5 := hp 5 (by decide)
  have w15 : m 3 0 = S 2 15 := h.2.2.2.2.2.1.1
  have w9 : m 2 0 = S 2 9 := (h.re (e := 0) (Or.inl rfl)).1.2.2.1
  obtain ⟨hs, hl, hn, ht, hr, h0, g0, g1⟩ := h
  obtain ⟨rl, ev, r5, r6, r7, r8, q1, q2, q3⟩ := p_becomes (m := m) (S := gm_u S 2 10 (mixF (mixF (m 3 0) (m 31 5)) (m 2 0))) (e := 0) (Or.inl rfl) hl g0.1.1 g0.1.2.2.2.2 3
  have hR : Rc s b 0 (gm_u (gm_u (va_up (gm_u m 1 0 3) 29 rl) 0 42 ev) 4 0 (mixF (mixF (m 3 0) (m 31 5)) (m 2 0))) (va_up (va_up (va_up (va_up (gm_u (gm_u S 2 10 (mixF (mixF (m 3 0) (m 31 5)) (m 2 0))) 2 8 3) 55 r5) 56 r6) 57 r7) 58 r8) := ⟨hs, q3, (by repeat (first | exact hn | refine r_net.u (by decide) ?_ | refine r_net.up (by decide) ?_)), ht, hr, h0, ⟨⟨rfl, (by decide : 0 ≤ (3 : Int32).toInt ∧ (3 : Int32).toInt ≤ 4 ∧ ((0 : Nat) = 0 → ¬ (3 : Int32) = 2)), g0.1.2.2.1, rfl, g0.1.2.2.2.2⟩, g0.2⟩, g1⟩
  obtain ⟨m3, S3, p1, p2, p3, p4, p5, p6, p7⟩ := r_keys hR (e := 0) (Or.inl rfl)
  obtain ⟨r, m4, S4, t1, t2, t3, t4, t5, t6, t7, t8⟩ := r_sendsProtected (by omega) p3 (e := 0) (Or.inl rfl) 3 0 0 (by decide) (fun z => absurd z (by decide)) (fun z => absurd z (by decide))
  obtain ⟨m5, S5, u1, u2, u3, u4, u5⟩ := r_sendsDue (by omega) t3 (e := 0) (Or.inl rfl)
  refine ⟨m5, S5, PX11_hasReply_1 q1 (p_mixM _ _ _) (p_mixM _ _ _) p1 t1 u1, ?_, u3, ?_, ?_⟩
  · rw [w15, ← x5, w9] at q2 p2
    exact PX10_acceptReply_1 (e := 2) rfl (Or.inr rfl) (p_baseC _ _ _ _) q2 p2 t2 u2
  · exact (((((r_FM.rf.u (by omega)).up (by omega)).u (by omega)).u (by omega)).tr p4).tr (t4.tr u4)
  · exact (((((((r_FC.rf.u (by omega)).u (by omega)).up (by omega)).up (by omega)).up (by omega)).up (by omega)).tr p5).tr (t5.tr u5)
theorem r_issues {s b : Nat} {m S : gm_Mem} (hB : s ≤ 1024 ∧ b + 1 < 1000000000) (h : Rc s b 0 m S) : ∃ (m2 S2 S3 : gm_Mem),
    gm_run gM 3 YX11_issues 0 [some (.ref 0)] [] m none m2 ∧ gm_run gC 1 YX10_changeState 0 [some (.ref 0), some (.ref 14), some (.int 3)] [] S none S2 ∧ gm_run gC 3 YX10_issueTicket 0 [some (.ref 0), some (.ref 14), none] [] S2 none S3 ∧ Rc s (b + 1) 0 m2 S3 ∧ r_FM m m2 ∧ r_FC S S3 := by
  obtain ⟨m1, S1, q1, q2, q3, q4, q5, q6, q7, q8, q9⟩ := r_becomes h (e := 1) (Or.inr rfl) 3 (by decide)
  obtain ⟨hs, hl, hn, ht, hr, h0, g0, g1⟩ := q3
  obtain ⟨i, a1, a2, a3, a4, a5, a6⟩ := ht
  by_cases c : i = 16
  · subst c
    exact ⟨m1, S1, S1, PX11_issues_1 q1 a2, q2, PX10_issueTicket_2 rfl (by rw [a3]; decide), Rc.le ⟨hs, hl, hn, ⟨16, a1, a2, a3, a4, a5, a6⟩, hr, h0, g0, g1⟩ (Nat.le_refl _) (by omega), q4, q5⟩
  · have hlt : S1 52 2 < 16 := by rw [a3]; exact (nI_ltI (b := 16) (by omega) (by decide)).mpr (by omega)
    have hne : ¬ m1 0 38 = 16 := by rw [a2]; exact fun z => c ((nI_eq (b := 16) (by omega) (by decide)).mp z)
    have hR : Rc s b 0 (gm_u (gm_u (gm_u m1 27 i (m1 0 4)) 28 i 0) 0 38 ((m1 0 38) + 1)) (gm_u (gm_u S1 53 i (S1 1 8)) 52 2 ((S1 52 2) + 1)) := by
      refine ⟨hs, hl, (by repeat (first | exact hn | refine r_net.u (by decide) ?_ | refine r_net.up (by decide) ?_)), ⟨i + 1, by omega, ?_, ?_, fun t htt => ?_, a5, fun t h1 h2 => a6 t (by omega) h2⟩, hr, h0, g0, g1⟩
      · show m1 0 38 + 1 = _
        rw [a2, nI_1]
      · show S1 52 2 + 1 = _
        rw [a3, nI_1]
      · by_cases hti : t = i
        · subst hti
          have e1 : m1 0 4 = S1 1 8 := hs.2.2.2.2.1.1
          have e2 : S1 54 t = 0 := a6 t (by omega) (by omega)
          simp [gm_u, e1, e2]
        · have := a4 t (by omega)
          simp [gm_u, hti, this]
    have ni : ((m1 0 38) + 1) - 1 = nI i := by rw [a2, nI_1]; exact nI_pred i
    obtain ⟨r, m4, S4, t1, t2, t3, t4, t5, t6, t7, t8⟩ := r_sendsProtected (by omega) hR (e := 1) (Or.inr rfl) 6 (nI i) 0 (by decide) (fun z => absurd z (by decide)) (fun _ => by rw [nI_toInt (by omega)]; omega)
    refine ⟨m4, S1, S4, PX11_issues_2 q1 hne (ix_c a2 (by omega) (by decide)) (by rw [ni]; exact t1), q2, ?_, t3, ?_, ?_⟩
    · have hi := PX7_issue_2 (p := 52) (a1 := S1 1 8) (S := S1) (j3 := i) (by decide) (by rw [a3]; exact nI_pos (by omega)) hlt (ix_c a3 (by omega) (by decide))
      rw [a3] at hi
      refine PX10_issueTicket_1 (r4 := r) rfl hlt hi ?_
      rw [a3] at t2
      exact t2
    · exact (((q4.u (by omega)).u (by omega)).u (by omega)).tr t4
    · exact ((q5.u (by omega)).u (by omega)).tr t5
