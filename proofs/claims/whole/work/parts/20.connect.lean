/-! PAIRS: greets / beginSession, connect, resume, disconnect -/
abbrev PairI (kM kC : Nat) (yM yC : gm_Y) (LM LC : List (Option Value)) (s b s2 b2 : Nat) (m S : gm_Mem) : Prop := ∃ (r : Int32) (m2 S2 : gm_Mem), gm_run gM kM yM 0 LM [] m (some (.int r)) m2 ∧ gm_run gC kC yC 0 LC [] S (some (.int r)) S2 ∧ Rc s2 b2 0 m2 S2 ∧ r_FM m m2 ∧ r_FC S S2
abbrev PairV (kM kC : Nat) (yM yC : gm_Y) (LM LC : List (Option Value)) (s b s2 b2 : Nat) (m S : gm_Mem) : Prop := ∃ (m2 S2 : gm_Mem), gm_run gM kM yM 0 LM [] m none m2 ∧ gm_run gC kC yC 0 LC [] S none S2 ∧ Rc s2 b2 0 m2 S2 ∧ r_FM m m2 ∧ r_FC S S2
theorem p_between (m : gm_Mem) (v lo hi : Int32) : gm_run gM 0 YX11_isBetween 0 [some (.int v), some (.int lo), some (.int hi)] [] m (some (.int (b2i (¬ v < lo ∧ ¬ hi < v)))) m := by
  by_cases h1 : v < lo
  · rw [b2i_f (fun q => q.1 h1)]
    exact PX11_isBetween_3 h1
  · by_cases h2 : hi < v
    · rw [b2i_f (fun q => q.2 h2)]
      exact PX11_isBetween_2 h1 h2
    · rw [b2i_t ⟨h1, h2⟩]
      exact PX11_isBetween_1 h1 h2
theorem r_greets {s b : Nat} {m S : gm_Mem} (h : Rc s b 0 m S) (hroom : ¬ m 0 45 = 24) (no wi : Int32) :
    PairV 3 4 YX11_greets YX10_beginSession [some (.ref 0), some (.int no), some (.int wi)] [some (.ref 0), some (.int no), some (.int wi), none] s b s b m S := by
  obtain ⟨hs, hl, hn, ht, hr, h0, g0, g1⟩ := h
  obtain ⟨s1, s2, s3, s4, s5, s6, s7, s8, s9⟩ := hs
  have hR : Rc s b 0 (gm_u (gm_u (gm_u (gm_u m 0 3 ((m 0 3) + 1)) 2 0 ((m 0 3) + 1)) 3 0 no) 0 36 wi) (gm_u (gm_u (gm_u (gm_u S 1 9 ((S 1 9) + 1)) 2 9 ((S 1 9) + 1)) 2 15 no) 2 16 wi) :=
    ⟨⟨s1, s2, s3, congrArg (· + 1) s4, s5, s6, s7, s8, s9⟩, hl, (by repeat (first | exact hn | refine r_net.u (by decide) ?_ | refine r_net.up (by decide) ?_)), ht, hr, ⟨rfl, h0.2.1, h0.2.2.1, rfl, h0.2.2.2.2⟩, ⟨⟨g0.1.1, g0.1.2.1, congrArg (· + 1) s4, g0.1.2.2.2⟩, g0.2⟩, g1⟩
  obtain ⟨m2, S2, q1, q2, q3, q4, q5, q6, q7, q8, q9⟩ := r_becomes hR (e := 0) (Or.inl rfl) 1 (by decide)
  obtain ⟨r, m3, S3, p1, p2, p3, p4, p5, p6, p7, p8, p9⟩ := r_sendsPlain q3 (e := 0) (Or.inl rfl) 0 (m2 0 3) no wi (by decide)
  have x03 : m2 0 3 = (m 0 3) + 1 := q7 3 (by decide)
  have x9 : S2 2 9 = m2 0 3 := by
    rw [x03]
    have e1 : m2 2 0 = S2 2 9 := (q3.re (e := 0) (Or.inl rfl)).1.2.2.1
    rw [← e1, q6 2 (by decide) (by decide) (by decide)]
    rfl
  have h02 : r_e0 (m2 3 0) (m2 0 35) (m2 0 36) (m2 0 37) (S2 2 15) (S2 2 14) (S2 2 16) (S2 2 17) := q3.2.2.2.2.2.1
  have x15 : S2 2 15 = no := by
    rw [← h02.1, q6 3 (by decide) (by decide) (by decide)]
    rfl
  have x16 : S2 2 16 = wi := by
    rw [← h02.2.2.2.1, q7 36 (by decide)]
    rfl
  have hr1 : ¬ r = 0 := fun q => hroom (((q7 45 (by decide)).symm.trans (p9.mp q)))
  obtain ⟨ts, tl, tn, tt, tr, t0, u0, u1⟩ := p3
  refine ⟨_, _, PX11_greets_1 q1 p1, PX10_beginSession_1 q2 (PX10_sendHello_1 (r1 := r) ?_ hr1), ⟨ts, tl, (by repeat (first | exact tn | refine r_net.u (by decide) ?_ | refine r_net.up (by decide) ?_)), tt, tr, ⟨t0.1, t0.2.1, t0.2.2.1, t0.2.2.2.1, ts.2.2.2.2.1.1⟩, u0, u1⟩, ?_, ?_⟩
  · rw [x9, x15, x16]
    exact p2
  · exact ((((((r_FM.rf.u (by omega)).u (by omega)).u (by omega)).u (by omega)).tr q4).tr p4).u (by omega)
  · exact ((((((r_FC.rf.u (by omega)).u (by omega)).u (by omega)).u (by omega)).tr q5).tr p5).u (by omega)
theorem r_connect {s b : Nat} {m S : gm_Mem} (h : Rc s b 0 m S) (a : Int32) :
    PairI 4 5 YX11_connect YX10_connect [some (.ref 0), some (.int a)] [some (.ref 0), some (.int a), none] s b s b m S := by
  have hx : m 1 0 = S 2 8 := (h.re (e := 0) (Or.inl rfl)).1.1
  by_cases c1 : a < 0
  · have hb := p_between m a 0 9999
    rw [b2i_f (fun q => q.1 c1)] at hb
    exact ⟨_, m, S, PX11_connect_1 hb rfl, PX10_connect_7 c1, h, r_FM.rf, r_FC.rf⟩
  by_cases c2 : 9999 < a
  · have hb := p_between m a 0 9999
    rw [b2i_f (fun q => q.2 c2)] at hb
    exact ⟨_, m, S, PX11_connect_1 hb rfl, PX10_connect_1 c1 c2, h, r_FM.rf, r_FC.rf⟩
  have hb := p_between m a 0 9999
  rw [b2i_t ⟨c1, c2⟩] at hb
  by_cases c3 : m 1 0 = 0
  · rcases h.2.2.1.room with ⟨f1, f2⟩ | ⟨n, q, hn24, f1, f2, hq, f3, -⟩
    · obtain ⟨q1, q2, -⟩ := p_noroom ⟨f1, f2⟩
      exact ⟨_, m, S, PX11_connect_5 hb (by decide) c3 q1 rfl, PX10_connect_5 c1 c2 (hx.symm.trans c3) q2 (by decide), h, r_FM.rf, r_FC.rf⟩
    · obtain ⟨q1, q2, -⟩ := p_room hn24 f1 f2 hq f3
      obtain ⟨m2, S2, t1, t2, t3, t4, t5, t6, t7, t8⟩ := r_stream h (e := 0) (Or.inl rfl)
      obtain ⟨m3, S3, u1, u2, u3, u4, u5⟩ := r_greets t3 (by rw [t6, f1]; exact fun q => by have := (nI_eq (a := n) (b := 24) (by omega) (by decide)).mp q; omega) a (-1)
      have hret : m3 0 3 = S3 1 9 := u3.1.2.2.2.1
      refine ⟨m3 0 3, m3, S3, PX11_connect_6 hb (by decide) c3 q1 (by decide) t1 u1, ?_, u3, t4.tr u4, t5.tr u5⟩
      rw [hret]
      exact PX10_connect_6 c1 c2 (hx.symm.trans c3) q2 rfl t2 u2
  · by_cases c4 : m 1 0 = 4
    · rcases h.2.2.1.room with ⟨f1, f2⟩ | ⟨n, q, hn24, f1, f2, hq, f3, -⟩
      · obtain ⟨q1, q2, -⟩ := p_noroom ⟨f1, f2⟩
        exact ⟨_, m, S, PX11_connect_3 hb (by decide) c3 c4 q1 rfl, PX10_connect_3 c1 c2 (fun q => c3 (hx.trans q)) (hx.symm.trans c4) q2 (by decide), h, r_FM.rf, r_FC.rf⟩
      · obtain ⟨q1, q2, -⟩ := p_room hn24 f1 f2 hq f3
        obtain ⟨m2, S2, t1, t2, t3, t4, t5, t6, t7, t8⟩ := r_stream h (e := 0) (Or.inl rfl)
        obtain ⟨m3, S3, u1, u2, u3, u4, u5⟩ := r_greets t3 (by rw [t6, f1]; exact fun q => by have := (nI_eq (a := n) (b := 24) (by omega) (by decide)).mp q; omega) a (-1)
        have hret : m3 0 3 = S3 1 9 := u3.1.2.2.2.1
        refine ⟨m3 0 3, m3, S3, PX11_connect_4 hb (by decide) c3 c4 q1 (by decide) t1 u1, ?_, u3, t4.tr u4, t5.tr u5⟩
        rw [hret]
        exact PX10_connect_4 c1 c2 (fun q => c3 (hx.trans q)) (hx.symm.trans c4) q2 rfl t2 u2
    · exact ⟨_, m, S, PX11_connect_2 hb (by decide) c3 c4, PX10_connect_2 c1 c2 (fun q => c3 (hx.trans q)) (fun q => c4 (hx.trans q)), h, r_FM.rf, r_FC.rf⟩
theorem r_resume {s b : Nat} {m S : gm_Mem} (h : Rc s b 0 m S) (a : Int32) :
    PairI 4 5 YX11_resume YX10_resume [some (.ref 0), some (.int a), none] [some (.ref 0), some (.int a), none, none] s b s b m S := by
  have hx : m 1 0 = S 2 8 := (h.re (e := 0) (Or.inl rfl)).1.1
  by_cases c1 : a < 0
  · have hb := p_between m a 0 9999
    rw [b2i_f (fun q => q.1 c1)] at hb
    exact ⟨_, m, S, PX11_resume_1 hb rfl, PX10_resume_6 c1, h, r_FM.rf, r_FC.rf⟩
  by_cases c2 : 9999 < a
  · have hb := p_between m a 0 9999
    rw [b2i_f (fun q => q.2 c2)] at hb
    exact ⟨_, m, S, PX11_resume_1 hb rfl, PX10_resume_1 c1 c2, h, r_FM.rf, r_FC.rf⟩
  have hb := p_between m a 0 9999
  rw [b2i_t ⟨c1, c2⟩] at hb
  by_cases c3 : m 1 0 = 0
  · have h00 : r_e0 (m 3 0) (m 0 35) (m 0 36) (m 0 37) (S 2 15) (S 2 14) (S 2 16) (S 2 17) := h.2.2.2.2.2.1
    by_cases c5 : m 0 35 < 0
    · have c4 : S 2 14 = -1 := by
        rw [← h00.2.1]
        have h1 := h00.2.2.1
        rw [← h00.2.1] at h1
        rw [Int32.lt_iff_toInt_lt] at c5
        rw [← Int32.toInt_inj]
        show (m 0 35).toInt = -1
        have c6 : (m 0 35).toInt < 0 := c5
        omega
      exact ⟨_, m, S, PX11_resume_3 hb (by decide) c3 c5, PX10_resume_3 c1 c2 (hx.symm.trans c3) c4, h, r_FM.rf, r_FC.rf⟩
    · have c4 : ¬ S 2 14 = -1 := by
        rw [← h00.2.1]
        intro q
        rw [q] at c5
        exact c5 (by decide)
      rcases h.2.2.1.room with ⟨f1, f2⟩ | ⟨n, q, hn24, f1, f2, hq, f3, -⟩
      · obtain ⟨q1, q2, -⟩ := p_noroom ⟨f1, f2⟩
        exact ⟨_, m, S, PX11_resume_4 hb (by decide) c3 c5 q1 rfl, PX10_resume_4 c1 c2 (hx.symm.trans c3) c4 q2 (by decide), h, r_FM.rf, r_FC.rf⟩
      · obtain ⟨q1, q2, -⟩ := p_room hn24 f1 f2 hq f3
        obtain ⟨hs, hl, hn, ht, hr, h0, g0, g1⟩ := h
        have hR : Rc s b 0 (gm_u m 0 35 (-1)) (gm_u S 2 14 (-1)) := ⟨hs, hl, (by repeat (first | exact hn | refine r_net.u (by decide) ?_ | refine r_net.up (by decide) ?_)), ht, hr, ⟨h0.1, rfl, (show -1 ≤ (-1 : Int32).toInt by decide), h0.2.2.2⟩, g0, g1⟩
        obtain ⟨m3, S3, u1, u2, u3, u4, u5⟩ := r_greets hR (by show ¬ m 0 45 = 24; rw [f1]; exact fun q => by have := (nI_eq (a := n) (b := 24) (by omega) (by decide)).mp q; omega) a (m 0 35)
        have hret : m3 0 3 = S3 1 9 := u3.1.2.2.2.1
        refine ⟨m3 0 3, m3, S3, PX11_resume_5 hb (by decide) c3 c5 q1 (by decide) u1, ?_, u3, (r_FM.rf.u (by omega)).tr u4, (r_FC.rf.u (by omega)).tr u5⟩
        rw [hret]
        rw [h0.2.1] at u2
        exact PX10_resume_5 c1 c2 (hx.symm.trans c3) c4 q2 rfl u2
  · exact ⟨_, m, S, PX11_resume_2 hb (by decide) c3, PX10_resume_2 c1 c2 (fun q => c3 (hx.trans q)), h, r_FM.rf, r_FC.rf⟩
theorem r_in.clear {s e : Nat} {me ct tm : Int32} {r19 r24 r25 r26 ib tv wa wc wv r24' w' : Nat → Int32} (h : r_in s e me ct tm r19 r24 r25 r26 ib tv wa wc wv) (hw : ∀ j, j < 4 → r24' (4 * e + j) = 0 ∧ w' j = 0) : r_in s e me ct tm r19 r24' r25 r26 ib tv w' wc wv := by
  obtain ⟨ex, t, h1, h2, h3, h4, h5, h6, h7, h8, h9, h10, h11, h12⟩ := h
  refine ⟨ex, t, h1, h2, h3, h4, h5, h6, h7, h8, h9, fun j hj => ⟨by rw [(hw j hj).1, (hw j hj).2], Or.inl (hw j hj).2, (h10 j hj).2.2.1, fun q => ?_⟩, fun _ => (hw (ex % 4) (by omega)).2, fun d d1 d2 q => ?_⟩
  · rw [(hw j hj).2] at q
    exact absurd q (by decide)
  · rw [(hw ((ex + d) % 4) (by omega)).2] at q
    exact absurd q (by decide)
theorem r_in.clearO {s e d : Nat} {me ct tm : Int32} {r19 r24 r25 r26 ib tv wa wc wv r24' : Nat → Int32} (h : r_in s e me ct tm r19 r24 r25 r26 ib tv wa wc wv) (hd : d ≠ e) (hw : ∀ j, j < 4 * d ∨ 4 * d + 4 ≤ j → r24' j = r24 j) : r_in s e me ct tm r19 r24' r25 r26 ib tv wa wc wv := by
  obtain ⟨ex, t, h1, h2, h3, h4, h5, h6, h7, h8, h9, h10, h11, h12⟩ := h
  exact ⟨ex, t, h1, h2, h3, h4, h5, h6, h7, h8, h9, fun j hj => ⟨(hw _ (by omega)).trans (h10 j hj).1, (h10 j hj).2⟩, h11, h12⟩
theorem r_clears {s b e : Nat} {m S : gm_Mem} (h : Rc s b 0 m S) (he : e = 0 ∨ e = 1) : PairV 0 0 YX11_clearsWaiting YX1_discardWaiting [some (.ref 0), some (.int (nI e)), none] [some (.ref (7 + 12 * e)), none] s b s b m S := by
  obtain ⟨r24, w, q1, q2, q3, q4⟩ := p_clears (m := m) (S := S) he
  obtain ⟨hs, hl, hn, ht, hr, h0, g0, g1⟩ := h
  refine ⟨_, _, q1, q2, ?_, r_FM.rf.up (by omega), r_FC.rf.up (by omega)⟩
  rcases he with rfl | rfl
  · exact ⟨hs, hl, (by repeat (first | exact hn | refine r_net.u (by decide) ?_ | refine r_net.up (by decide) ?_)), ht, hr, h0, ⟨g0.1, g0.2.1, g0.2.2.1.clear q3, g0.2.2.2⟩, ⟨g1.1, g1.2.1, g1.2.2.1.clearO (d := 0) (by decide) q4, g1.2.2.2⟩⟩
  · exact ⟨hs, hl, (by repeat (first | exact hn | refine r_net.u (by decide) ?_ | refine r_net.up (by decide) ?_)), ht, hr, h0, ⟨g0.1, g0.2.1, g0.2.2.1.clearO (d := 1) (by decide) q4, g0.2.2.2⟩, ⟨g1.1, g1.2.1, g1.2.2.1.clear q3, g1.2.2.2⟩⟩
theorem r_disconnect {s b : Nat} {m S : gm_Mem} (h : Rc s b 0 m S) : PairI 2 3 YX11_disconnect YX10_disconnect [some (.ref 0), none, none] [some (.ref 0), none] s b s b m S := by
  have hone : ∀ (e : Nat), e = 0 ∨ e = 1 → ∀ (m S : gm_Mem) (n : Int32), Rc s b 0 m S → ∃ m2 S2 : gm_Mem, (∀ (r : Option Value) (S3 : gm_Mem), gm_run gM 2 YX11_disconnect 22 [some (.ref 0), some (.int n), some (.int (nI e + 1))] [] m2 r S3 → gm_run gM 2 YX11_disconnect 22 [some (.ref 0), some (.int n), some (.int (nI e))] [] m r S3) ∧
      gm_run gC 2 YX10_breakOff 0 [some (.ref 0), some (.ref (2 + 12 * e))] [] S none S2 ∧ Rc s b 0 m2 S2 ∧ r_FM m m2 ∧ r_FC S S2 := by
    intro e he m S n hR
    have hx := (hR.re he).1.1
    have hlt : nI e < 2 := by rcases he with rfl | rfl <;> decide
    have e7 : 2 + 12 * e + 5 = 7 + 12 * e := by omega
    by_cases c : m 1 e = 4
    · obtain ⟨m2, S2, q1, q2, q3, q4, q5⟩ := r_clears hR he
      exact ⟨m2, S2, fun r S3 K => PX11_disconnect_3 hlt (ix_e he) c q1 K, PX10_breakOff_2 (by omega) (hx.symm.trans c) (by rw [e7]; exact q2), q3, q4, q5⟩
    · obtain ⟨m1, S1, p1, p2, p3, p4, p5, -⟩ := r_becomes hR he 0 ⟨by decide, by decide, fun _ => by decide⟩
      obtain ⟨m2, S2, q1, q2, q3, q4, q5⟩ := r_clears p3 he
      exact ⟨m2, S2, fun r S3 K => PX11_disconnect_2 hlt (ix_e he) c p1 q1 K, PX10_breakOff_1 (by omega) (fun q => c (hx.trans q)) p2 (by rw [e7]; exact q2), q3, p4.tr q4, p5.tr q5⟩
  obtain ⟨hs, hl, hn, ht, hr, h0, g0, g1⟩ := h
  obtain ⟨s1, s2, s3, s4, s5, s6, s7, s8, s9⟩ := hs
  have e45 : m 0 45 = S 26 1 := by
    obtain ⟨n, pi, n1, n2, n3, -⟩ := hn
    rw [n2, n3]
  have hR : Rc s b 0 (gm_u (gm_u m 0 45 0) 0 7 ((m 0 7) + (m 0 45))) (gm_u (gm_u S 26 1 0) 1 12 ((S 1 12) + (S 26 1))) := by
    refine ⟨⟨s1, s2, s3, s4, s5, s6, s7, ?_, s9⟩, hl, ?_, ht, hr, h0, g0, g1⟩
    · show (m 0 7) + (m 0 45) = (S 1 12) + (S 26 1)
      rw [s8, e45]
    · obtain ⟨n, pi, n1, n2, n3, n4, n5, n6, n7⟩ := hn
      exact ⟨0, pi, by omega, rfl, rfl, n4, n5, fun i hi => absurd hi (by omega), fun i hi => absurd hi (by omega)⟩
  obtain ⟨m2, S2, q1, q2, q3, q4, q5⟩ := hone 0 (Or.inl rfl) _ _ (m 0 45) hR
  obtain ⟨m3, S3, p1, p2, p3, p4, p5⟩ := hone 1 (Or.inr rfl) _ _ (m 0 45) q3
  refine ⟨m 0 45, m3, S3, PX11_disconnect_1 (q1 _ _ (p1 _ _ (PX11_disconnect_4 (by decide)))), ?_, p3, (((r_FM.rf.u (by omega)).u (by omega)).tr q4).tr p4, (((r_FC.rf.u (by omega)).u (by omega)).tr q5).tr p5⟩
  rw [e45]
  exact PX10_disconnect_1 q2 p2
