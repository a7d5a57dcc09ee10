theorem r_prot2 {s b e n q : Nat} {m T : gm_Mem} (hB : s ≤ 1024) (he : e = 0 ∨ e = 1) (hn : n < 24) (hq : 28 ≤ q ∧ q < 52)
    (hs : r_sc b (m 0 0) (m 0 1) (m 0 2) (m 0 3) (m 0 4) (m 0 5) (m 0 6) (m 0 7) (m 0 8) (T 1 5) (T 1 6) (T 1 7) (T 1 9) (T 1 8) (T 1 10) (T 1 11) (T 1 12) (T 1 13)) (hl : r_log (m 29) (m 0 42) (T 55) (T 56) (T 57) (T 58)) (ht : r_tick (m 0 38) (m 27) (m 28) (T 52) (T 53) (T 54)) (hr : r_res (m 32) (T 3) (T 15)) (h0 : r_e0 (m 3 0) (m 0 35) (m 0 36) (m 0 37) (T 2 15) (T 2 14) (T 2 16) (T 2 17))
    (g0 : RE s b 0 m T) (g1 : RE s b 1 m T) (hsq : (T (2 + 12 * e) 12).toInt < 20) (f1 : m 0 45 = nI n) (f2 : T 26 1 = nI (n + 1))
    (push : ∀ (v r30 nw2 : Nat → Int32) (U : gm_Mem), r_pk s b v → (∀ k, k < 9 → r30 (9 * n + k) = v k) → (∀ i, i < 9 * n → r30 i = m 30 i) → nw2 1 = nI (n + 1) → (∀ k, k < 9 → U q k = v k) → (∀ p, 28 ≤ p → p < 52 → p ≠ q → U p = T p) → r_net s b 0 r30 (nI (n + 1)) nw2 (T 27) U)
    (kd a c : Int32) (hk : 3 ≤ kd.toInt ∧ kd.toInt ≤ 7) (ha : kd = 4 ∨ kd = 7 → 0 ≤ a.toInt ∧ a.toInt < s) (ha6 : kd = 6 → 0 ≤ a.toInt) :
    ∃ (rq0 : Nat → Int32) (tg : Int32) (m1 S2 : gm_Mem),
      gm_run gC 0 YX5_fill 0 [some (.ref q), some (.int (T (2 + 12 * e) 0)), some (.int kd), some (.int (T (2 + 12 * e) 9)), some (.int a), some (.int c)] [] T none (gm_blk T q rq0) ∧
      gm_run gC 1 YX10_tagOf 0 [some (.ref q), some (.int ((gm_blk T q rq0) (2 + 12 * e) 10)), none, none] [] (gm_u (gm_u (gm_u (gm_blk T q rq0) q 3 ((gm_blk T q rq0) (2 + 12 * e) 11)) q 4 ((gm_blk T q rq0) (2 + 12 * e) 12)) q 7 ((gm_blk T q rq0) (2 + 12 * e + 5) 5)) (some (.int tg)) (gm_u (gm_u (gm_u (gm_blk T q rq0) q 3 ((gm_blk T q rq0) (2 + 12 * e) 11)) q 4 ((gm_blk T q rq0) (2 + 12 * e) 12)) q 7 ((gm_blk T q rq0) (2 + 12 * e + 5) 5)) ∧
      gm_run gC 1 YX10_noteSent 0 [some (.ref 0), some (.ref q)] [] (gm_u (gm_u (gm_u (gm_u (gm_u (gm_blk T q rq0) q 3 ((gm_blk T q rq0) (2 + 12 * e) 11)) q 4 ((gm_blk T q rq0) (2 + 12 * e) 12)) q 7 ((gm_blk T q rq0) (2 + 12 * e + 5) 5)) q 8 tg) (2 + 12 * e) 12 (((gm_blk T q rq0) (2 + 12 * e) 12) + 1)) none S2 ∧
      gm_run gM 1 YX11_tagOf 0 [some (.int (m 4 e)), some (.int (nI e)), some (.int (m 5 e)), some (.int (m 6 e)), some (.int kd), some (.int a), some (.int c), some (.int (m 13 e)), none] [] m (some (.int tg)) m ∧
      gm_run gM 1 YX11_appends 0 [some (.ref 0), some (.int (nI e)), some (.int kd), some (.int (m 2 e)), some (.int (m 5 e)), some (.int (m 6 e)), some (.int a), some (.int c), some (.int (m 13 e)), some (.int tg), none] [] m none m1 ∧
      Rc s b 0 (gm_u m1 6 e ((m1 6 e) + 1)) S2 ∧ r_FM m (gm_u m1 6 e ((m1 6 e) + 1)) ∧ r_FC T S2 ∧ (∀ p, p ≠ 0 → p ≠ 29 → p ≠ 30 → p ≠ 6 → (gm_u m1 6 e ((m1 6 e) + 1)) p = m p) ∧ (∀ k, k ≠ 42 → k ≠ 45 → k ≠ 5 → (gm_u m1 6 e ((m1 6 e) + 1)) 0 k = m 0 k) := by
  have gE : RE s b e m T := by
    rcases he with rfl | rfl
    · exact g0
    · exact g1
  obtain ⟨a1, a2, a3, a4, a5⟩ := gE.1
  obtain ⟨b1, b2, b3, b4, b5, b6, b7, b8⟩ := gE.2.2.2
  obtain ⟨ex, tt, c1, c2, c3, c4, c5⟩ := gE.2.2.1
  have e57 : 2 + 12 * e + 5 = 7 + 12 * e := by omega
  obtain ⟨rq0, rq, rl, ev, r5, r6, r7, r8, tg, l1, l2, l3, l4, l5, l6, l7⟩ := p_prot he hn f1 hq hl a5 a3 a4 b1 b3 (by rw [e57, c4, c3]) kd a c
  have hpk : r_pk s b (r_nine (nI e) kd (m 2 e) (m 5 e) (m 6 e) a c (m 13 e) tg) := by
    refine ⟨?_, ⟨by show 0 ≤ kd.toInt; omega, hk.2⟩, fun _ => ⟨?_, ?_, ?_⟩, ha, ha6⟩
    · rcases he with rfl | rfl
      · exact Or.inl rfl
      · exact Or.inr rfl
    · show 0 ≤ (m 5 e).toInt ∧ (m 5 e).toInt ≤ b
      rw [b1]; exact b2
    · show 0 ≤ (m 6 e).toInt ∧ (m 6 e).toInt ≤ 20
      rw [b3]; exact b4
    · show 0 ≤ (m 13 e).toInt ∧ (m 13 e).toInt ≤ s
      rw [c3]
      rw [nI_toInt (by omega)]
      omega
  have e45 : ∀ (X : gm_Mem), (gm_u (gm_u (va_up (gm_u (gm_u X 0 45 ((m 0 45) + 1)) 0 5 ((m 0 5) + 1)) 29 rl) 0 42 ev) 6 e ((m 6 e) + 1)) 0 45 = nI (n + 1) := by
    intro X
    show m 0 45 + 1 = _
    rw [f1, nI_1]
  have hw : r_win b (m 5 e) ((m 6 e) + 1) (m 7 e) (m 8 e) (m 9 e) (m 10 e) (m 11 e) (m 12 e) (T (2 + 12 * e) 6) (T (2 + 12 * e) 7) (T (2 + 12 * e) 11) ((T (2 + 12 * e) 12) + 1) (T (2 + 12 * e) 13) (T (12 + 12 * e)) (T (13 + 12 * e)) := by
    refine ⟨b1, b2, by rw [b3], ?_, b5, b6, b7, b8⟩
    have : ((T (2 + 12 * e) 12) + 1).toInt = (T (2 + 12 * e) 12).toInt + 1 := by
      simp only [Int32.toInt_add, Int32.reduceToInt, Int.bmod]
      omega
    rw [this]
    omega
  have hn2 := push (r_nine (nI e) kd (m 2 e) (m 5 e) (m 6 e) a c (m 13 e) tg) ((gm_u (gm_u (r_put9 m n (nI e) kd (m 2 e) (m 5 e) (m 6 e) a c (m 13 e) tg) 0 45 ((m 0 45) + 1)) 0 5 ((m 0 5) + 1)) 30) (T 26)
    (va_up (va_up (va_up (va_up (gm_u (gm_u (gm_blk T q rq) (2 + 12 * e) 12 ((T (2 + 12 * e) 12) + 1)) 1 10 ((T 1 10) + 1)) 55 r5) 56 r6) 57 r7) 58 r8) hpk (fun k hk => r_put9_in hk) (fun i hi => r_put9_old hi) f2
    (fun k hk => by rw [bk_up (by decide) hq, bk_up (by decide) hq, bk_up (by decide) hq, bk_up (by decide) hq, bk_u (by decide) hq, bk_u (by omega) hq, bk_is hq]; exact l4 k hk)
    (fun p p1 p2 p3 => by rw [bk_up (by decide) ⟨p1, p2⟩, bk_up (by decide) ⟨p1, p2⟩, bk_up (by decide) ⟨p1, p2⟩, bk_up (by decide) ⟨p1, p2⟩, bk_u (by decide) ⟨p1, p2⟩, bk_u (by omega) ⟨p1, p2⟩, bk_no p3])
  have hFC : r_FC T (va_up (va_up (va_up (va_up (gm_u (gm_u (gm_blk T q rq) (2 + 12 * e) 12 ((T (2 + 12 * e) 12) + 1)) 1 10 ((T 1 10) + 1)) 55 r5) 56 r6) 57 r7) 58 r8) := by
    refine ((((((r_FC.tr ?_ r_FC.rf).u (by omega)).u (by decide)).up (by decide)).up (by decide)).up (by decide)).up (by decide)
    exact ⟨fun p hp => bk_no (by omega), rfl⟩
  obtain ⟨s1, s2, s3, s4, s5, s6, s7⟩ := hs
  refine ⟨rq0, tg, _, _, l1, l2, l3, l5, l6, ?_, ?_, hFC, fun p h1 h2 h3 h4 => ?_, fun k h1 h2 h3 => ?_⟩
  · rcases he with rfl | rfl
    · refine ⟨⟨s1, s2, s3, s4, s5, congrArg (· + 1) s6, s7⟩, l7, ?_, ht, hr, h0, ⟨g0.1, g0.2.1, g0.2.2.1, hw⟩, g1⟩
      show r_net s b 0 _ ((gm_u (gm_u (va_up (gm_u (gm_u (r_put9 m n _ _ _ _ _ _ _ _ _) 0 45 ((m 0 45) + 1)) 0 5 ((m 0 5) + 1)) 29 rl) 0 42 ev) 6 0 ((m 6 0) + 1)) 0 45) _ _ _
      rw [e45]
      exact hn2
    · refine ⟨⟨s1, s2, s3, s4, s5, congrArg (· + 1) s6, s7⟩, l7, ?_, ht, hr, h0, g0, ⟨g1.1, g1.2.1, g1.2.2.1, hw⟩⟩
      show r_net s b 0 _ ((gm_u (gm_u (va_up (gm_u (gm_u (r_put9 m n _ _ _ _ _ _ _ _ _) 0 45 ((m 0 45) + 1)) 0 5 ((m 0 5) + 1)) 29 rl) 0 42 ev) 6 1 ((m 6 1) + 1)) 0 45) _ _ _
      rw [e45]
      exact hn2
  · exact (by repeat (first | exact r_FM.rf | refine r_FM.u (by omega) ?_ | refine r_FM.up (by omega) ?_))
  · simp [r_put9, gm_u, va_up, h1, h2, h3, h4]
  · simp [r_put9, gm_u, va_up, h1, h2, h3]
theorem ix_e {e : Nat} (he : e = 0 ∨ e = 1) : gm_ix (nI e) e 2 := by rcases he with rfl | rfl <;> exact ⟨by decide, by decide⟩
theorem r_sendsProtected {s b e : Nat} {m S : gm_Mem} (hB : s ≤ 1024 ∧ b < 1000000000) (h : Rc s b 0 m S) (he : e = 0 ∨ e = 1) (kd a c : Int32) (hk : 3 ≤ kd.toInt ∧ kd.toInt ≤ 7) (ha : kd = 4 ∨ kd = 7 → 0 ≤ a.toInt ∧ a.toInt < s) (ha6 : kd = 6 → 0 ≤ a.toInt) : ∃ (r : Int32) (m2 S2 : gm_Mem),
    gm_run gM 2 YX11_sendsProtected 0 [some (.ref 0), some (.int (nI e)), some (.int kd), some (.int a), some (.int c)] [] m (some (.int r)) m2 ∧ gm_run gC 2 YX10_sendProtected 0 [some (.ref 0), some (.ref (2 + 12 * e)), some (.int kd), some (.int a), some (.int c), none] [] S (some (.int r)) S2 ∧
    Rc s (b + 1) 0 m2 S2 ∧ r_FM m m2 ∧ r_FC S S2 ∧ (∀ p, p ≠ 0 → p ≠ 29 → p ≠ 30 → p ≠ 5 → p ≠ 6 → m2 p = m p) ∧ (∀ k, k ≠ 42 → k ≠ 45 → k ≠ 5 → m2 0 k = m 0 k) ∧ (r = 0 ∨ r = 1) := by
  have hb : Rc s (b + 1) 0 m S := h.le (Nat.le_refl _) (Nat.le_succ _)
  obtain ⟨hs, hl, hn, ht, hr, h0, g0, g1⟩ := hb
  rcases hn.room with ⟨f1, f2⟩ | ⟨n, q, hn24, f1, f2, hq, f3, push⟩
  · obtain ⟨q1, -, q3⟩ := p_noroom ⟨f1, f2⟩
    exact ⟨0, m, S, PX11_sendsProtected_1 q1 rfl, PX10_sendProtected_3 (by omega) q3, ⟨hs, hl, hn, ht, hr, h0, g0, g1⟩, r_FM.rf, r_FC.rf, fun _ _ _ _ _ _ => rfl, fun _ _ _ _ => rfl, Or.inl rfl⟩
  · obtain ⟨q1, -, q3⟩ := p_room hn24 f1 f2 hq f3
    have gE := h.re he
    obtain ⟨b1, b2, b3, b4, b5, b6, b7, b8⟩ := gE.2.2.2
    have hkl : m 0 0 = S 1 5 ∧ 1 ≤ (S 1 5).toInt ∧ (S 1 5).toInt ≤ 20 := hs.1
    by_cases hroll : (m 6 e) < (m 0 0)
    · have hc3 : (gm_u S 26 1 ((S 26 1) + 1)) (2 + 12 * e) 12 < (gm_u S 26 1 ((S 26 1) + 1)) 1 5 := by
        rw [gm_rp (by omega), ← b3]
        show m 6 e < S 1 5
        rw [← hkl.1]; exact hroll
      have hsq : ((gm_u S 26 1 ((S 26 1) + 1)) (2 + 12 * e) 12).toInt < 20 := by
        have := Int32.lt_iff_toInt_lt.mp hc3
        have e5 : (gm_u S 26 1 ((S 26 1) + 1)) 1 5 = S 1 5 := rfl
        rw [e5] at this
        omega
      have hx : ∀ p, p ≠ 26 → (gm_u S 26 1 ((S 26 1) + 1)) p = S p := fun p hp => by simp [gm_u, hp]
      obtain ⟨rq0, tg, m1, S2, l1, l2, l3, l4, l5, l6, l7, l8, l9, l10⟩ := r_prot2 (T := gm_u S 26 1 ((S 26 1) + 1)) hB.1 he hn24 hq hs hl ht hr h0 g0 g1 hsq f1 (by show S 26 1 + 1 = _; rw [f2, nI_1])
        (fun v r30 nw2 U u1 u2 u3 u4 u5 u6 => push v r30 nw2 U u1 u2 u3 u4 u5 (fun p p1 p2 p3 => (u6 p p1 p2 p3).trans (hx p (by omega)))) kd a c hk ha ha6
      exact ⟨1, _, S2, PX11_sendsProtected_3 (j4 := e) q1 (by decide) (ix_e he) hroll l4 l5, PX10_sendProtected_2 (by omega) hq q3 hc3 l1 l2 l3, l6, l7, (r_FC.rf.u (p := 26) (k := 1) (by decide)).tr l8, fun p p1 p2 p3 p4 p5 => l9 p p1 p2 p3 p5, l10, Or.inr rfl⟩
    · have hc3 : ¬ (gm_u S 26 1 ((S 26 1) + 1)) (2 + 12 * e) 12 < (gm_u S 26 1 ((S 26 1) + 1)) 1 5 := by
        rw [gm_rp (by omega), ← b3]
        show ¬ m 6 e < S 1 5
        rw [← hkl.1]; exact hroll
      have hx : ∀ p, p ≠ 26 → p ≠ 2 + 12 * e → (gm_u (gm_u (gm_u S 26 1 ((S 26 1) + 1)) (2 + 12 * e) 11 (((gm_u S 26 1 ((S 26 1) + 1)) (2 + 12 * e) 11) + 1)) (2 + 12 * e) 12 0) p = S p := fun p hp hp2 => by simp [gm_u, hp, hp2]
      have hw : r_win (b + 1) ((m 5 e) + 1) 0 (m 7 e) (m 8 e) (m 9 e) (m 10 e) (m 11 e) (m 12 e) (S (2 + 12 * e) 6) (S (2 + 12 * e) 7) ((S (2 + 12 * e) 11) + 1) 0 (S (2 + 12 * e) 13) (S (12 + 12 * e)) (S (13 + 12 * e)) := by
        refine ⟨by rw [b1], ?_, rfl, by decide, b5, ⟨b6.1, by omega⟩, b7, b8⟩
        have : ((S (2 + 12 * e) 11) + 1).toInt = (S (2 + 12 * e) 11).toInt + 1 := by
          simp only [Int32.toInt_add, Int32.reduceToInt, Int.bmod]
          omega
        rw [this]
        omega
      have fin : ∃ (rq0 : Nat → Int32) (tg : Int32) (m1 S2 : gm_Mem), _ := r_prot2 (m := gm_u (gm_u m 5 e ((m 5 e) + 1)) 6 e 0) (T := gm_u (gm_u (gm_u S 26 1 ((S 26 1) + 1)) (2 + 12 * e) 11 (((gm_u S 26 1 ((S 26 1) + 1)) (2 + 12 * e) 11) + 1)) (2 + 12 * e) 12 0) (b := b + 1) (s := s) (n := n) (q := q) hB.1 he hn24 hq
        (by rcases he with rfl | rfl <;> exact hs) (by rcases he with rfl | rfl <;> exact hl) (by rcases he with rfl | rfl <;> exact ht) (by rcases he with rfl | rfl <;> exact hr) (by rcases he with rfl | rfl <;> exact h0)
        (by
          rcases he with rfl | rfl
          · exact ⟨g0.1, g0.2.1, g0.2.2.1, hw⟩
          · exact g0)
        (by
          rcases he with rfl | rfl
          · exact g1
          · exact ⟨g1.1, g1.2.1, g1.2.2.1, hw⟩)
        (by rw [gm_rS]; decide) (by rcases he with rfl | rfl <;> exact f1) (by rw [gm_rp (by omega), gm_rp (by omega), gm_rS, f2, nI_1])
        (fun v r30 nw2 U u1 u2 u3 u4 u5 u6 => by
          have e27 : (gm_u (gm_u (gm_u S 26 1 ((S 26 1) + 1)) (2 + 12 * e) 11 (((gm_u S 26 1 ((S 26 1) + 1)) (2 + 12 * e) 11) + 1)) (2 + 12 * e) 12 0) 27 = S 27 := hx 27 (by omega) (by omega)
          rw [e27]
          exact push v r30 nw2 U u1 u2 (by rcases he with rfl | rfl <;> exact u3) u4 u5 (fun p p1 p2 p3 => (u6 p p1 p2 p3).trans (hx p (by omega) (by omega)))) kd a c hk ha ha6
      obtain ⟨rq0, tg, m1, S2, l1, l2, l3, l4, l5, l6, l7, l8, l9, l10⟩ := fin
      have y0 : (gm_u (gm_u (gm_u S 26 1 ((S 26 1) + 1)) (2 + 12 * e) 11 (((gm_u S 26 1 ((S 26 1) + 1)) (2 + 12 * e) 11) + 1)) (2 + 12 * e) 12 0) (2 + 12 * e) 0 = (gm_u S 26 1 ((S 26 1) + 1)) (2 + 12 * e) 0 := (gm_rk (by decide)).trans (gm_rk (by decide))
      have y9 : (gm_u (gm_u (gm_u S 26 1 ((S 26 1) + 1)) (2 + 12 * e) 11 (((gm_u S 26 1 ((S 26 1) + 1)) (2 + 12 * e) 11) + 1)) (2 + 12 * e) 12 0) (2 + 12 * e) 9 = (gm_u S 26 1 ((S 26 1) + 1)) (2 + 12 * e) 9 := (gm_rk (by decide)).trans (gm_rk (by decide))
      rw [y0, y9] at l1
      have hM : gm_run gM 2 YX11_sendsProtected 0 [some (.ref 0), some (.int (nI e)), some (.int kd), some (.int a), some (.int c)] [] m (some (.int 1)) (gm_u m1 6 e ((m1 6 e) + 1)) := by
        rcases he with rfl | rfl
        · exact PX11_sendsProtected_2 (j4 := 0) q1 (by decide) ⟨by decide, by decide⟩ hroll l4 l5
        · exact PX11_sendsProtected_2 (j4 := 1) q1 (by decide) ⟨by decide, by decide⟩ hroll l4 l5
      refine ⟨1, _, S2, hM, PX10_sendProtected_1 (by omega) hq q3 hc3 l1 l2 l3, l6, ?_, ?_, fun p p1 p2 p3 p4 p5 => (l9 p p1 p2 p3 p5).trans ?_, fun k k1 k2 k3 => (l10 k k1 k2 k3).trans ?_, Or.inr rfl⟩
      · exact ((r_FM.rf.u (by omega)).u (by omega)).tr l7
      · exact (((r_FC.rf.u (p := 26) (k := 1) (by decide)).u (by omega)).u (by omega)).tr l8
      · simp [gm_u, p4, p5]
      · simp [gm_u]
