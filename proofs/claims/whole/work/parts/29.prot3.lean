/-! PAIR: hasProtected / acceptProtected -/
theorem p_ended {s b e : Nat} {x2 : Int32} {m0 m S : gm_Mem} (he : e = 0 ∨ e = 1) (hs : s ≤ 1024) (g : RE s b e m S) (hdue : gm_run gM 3 YX11_sendsDue 0 [some (.ref 0), some (.int (nI e)), none, none] [] m0 none m) : ∃ v : Int32, (v = 0 ∨ v = 1) ∧
    gm_run gC 1 YX0_hasEnded 0 [some (.ref (2 + 12 * e))] [] S (some (.int v)) S ∧ ∀ (r : Option Value) (m2 : gm_Mem), gm_run gM 4 YX11_hasProtected 170 [some (.ref 0), some (.int (nI e)), some (.int x2), none] [.int v] m r m2 → gm_run gM 4 YX11_hasProtected 115 [some (.ref 0), some (.int (nI e)), some (.int x2), none] [] m0 r m2 := by
  obtain ⟨n, lo, a1, a2, a3, a4, a5, a6, a7, a8, a9⟩ := g.2.1
  obtain ⟨ex, t, h1, h2, h3, h4, h5, h6, h7, h8, -⟩ := g.2.2.1
  have ke : 2 + 12 * e = 2 ∨ 2 + 12 * e = 14 ∨ 2 + 12 * e = 60 ∨ 2 + 12 * e = 72 := by omega
  have kp : 4 + 12 * e = 4 ∨ 4 + 12 * e = 16 ∨ 4 + 12 * e = 62 ∨ 4 + 12 * e = 74 := by omega
  have e5 : 2 + 12 * e + 5 = 7 + 12 * e := by omega
  have e22 : 2 + 12 * e + 2 = 4 + 12 * e := by omega
  have z0 : (0 : Int32).toInt = 0 := rfl
  rcases h8 with c1 | c1
  · exact ⟨0, Or.inl rfl, PX0_hasEnded_3 ke (by rw [e5, h7]; exact c1), fun r m2 K => PX11_hasProtected_14 hdue (ix_e he) (by rw [c1]; decide) (PX11_hasProtected_17 K)⟩
  · have d1 : ¬ m 16 e < 0 := by rw [Int32.lt_iff_toInt_lt]; omega
    have d1c : ¬ S (2 + 12 * e + 5) 6 = -1 := by
      rw [e5, h7]
      intro z
      rw [z] at c1
      exact absurd c1 (by decide)
    rcases a8 with c2 | ⟨c2, c3⟩
    · exact ⟨0, Or.inl rfl, PX0_hasEnded_2 ke d1c (by rw [e22]; exact PX4_isCloseAcknowledged_3 kp (by rw [a7]; exact c2)) rfl, fun r m2 K => PX11_hasProtected_13 hdue (ix_e he) d1 (by rw [c2]; decide) (PX11_hasProtected_17 K)⟩
    · have d2 : ¬ m 15 e < 0 := by rw [c3]; exact nI_pos (by omega)
      have d2c : ¬ S (4 + 12 * e) 4 = -1 := by
        rw [a7]
        intro z
        rw [z] at d2
        exact d2 (by decide)
      by_cases hn : n = 0
      · refine ⟨1, Or.inr rfl, PX0_hasEnded_1 (r2 := 1) ke d1c (by rw [e22]; exact PX4_isCloseAcknowledged_1 kp d2c (by rw [a7, c3, a6]; exact (nI_ltI (by omega) (by omega)).mpr (by omega))) (by decide), fun r m2 K => PX11_hasProtected_12 hdue (ix_e he) d1 d2 (by rw [a3, hn]; rfl) (PX11_hasProtected_16 K)⟩
      · refine ⟨0, Or.inl rfl, PX0_hasEnded_2 ke d1c (by rw [e22]; exact PX4_isCloseAcknowledged_2 kp d2c (by rw [a7, c3, a6, nI_ltI (by omega) (by omega)]; omega)) rfl, fun r m2 K => PX11_hasProtected_11 (j6 := 16 * e) hdue (ix_e he) d1 d2 (by rw [a3]; exact nI_ne0 (by omega) (by omega)) (ix_c (nI_16' e) (by omega) (by decide)) ?_ (PX11_hasProtected_17 K)⟩
        have k0 := (a9 0 (by omega)).1
        rw [Nat.add_zero, Nat.add_zero] at k0
        rw [c3, k0, nI_ltI (by omega) (by omega)]
        omega
theorem r_tail115 {s b e : Nat} {x2 : Int32} {m S : gm_Mem} (hB : s ≤ 1024 ∧ b + 3 < 1000000000) (h : Rc s b 0 m S) (he : e = 0 ∨ e = 1) : ∃ m2 S2 : gm_Mem,
    gm_run gM 4 YX11_hasProtected 115 [some (.ref 0), some (.int (nI e)), some (.int x2), none] [] m none m2 ∧ gm_run gC 4 YX10_acceptProtected 107 [some (.ref 0), some (.ref (2 + 12 * e)), some (.ref 122)] [] S none S2 ∧ Rc s (b + 3) 0 m2 S2 ∧ r_FM m m2 ∧ r_FC S S2 := by
  obtain ⟨m1, S1, q1, q2, q3, q4, q5⟩ := r_sendsDue hB h he
  have ke : 2 + 12 * e = 2 ∨ 2 + 12 * e = 14 := by omega
  have hx : m1 1 e = S1 (2 + 12 * e) 8 := (q3.re he).1.1
  obtain ⟨v, hv, v1, v2⟩ := p_ended (x2 := x2) he hB.1 (q3.re he) q1
  by_cases c : m1 1 e = 3
  · have cC : S1 (2 + 12 * e) 8 = 3 := hx.symm.trans c
    rcases hv with rfl | rfl
    · exact ⟨m1, S1, v2 _ _ (PX11_hasProtected_19 (ix_e he) c rfl), PX10_acceptProtected_8 ke (Or.inr rfl) q2 cC v1 rfl, q3, q4, q5⟩
    · obtain ⟨m2, S2, p1, p2, p3, p4, p5, -⟩ := r_becomes q3 he 4 ⟨by decide, by decide, fun _ => by decide⟩
      exact ⟨m2, S2, v2 _ _ (PX11_hasProtected_18 (ix_e he) c (by decide) p1), PX10_acceptProtected_7 ke (Or.inr rfl) q2 cC v1 (by decide) p2, p3, q4.tr p4, q5.tr p5⟩
  · exact ⟨m1, S1, v2 _ _ (PX11_hasProtected_20 (ix_e he) c), PX10_acceptProtected_9 ke (Or.inr rfl) q2 (fun z => c (hx.trans z)), q3, q4, q5⟩
theorem r_prot {s b e : Nat} {m S : gm_Mem} (hB : s ≤ 512 ∧ b + 5 < 1000000000) (h : Rc s b 0 m S) (he : e = 0 ∨ e = 1) (hp : ∀ k, k < 9 → S 122 k = m 31 k) (hpk : r_pk s b (m 31)) (h3 : 3 ≤ (m 31 1).toInt) (hacc : r_acc m e (m 31)) :
    PairV 4 4 YX11_hasProtected YX10_acceptProtected [some (.ref 0), some (.int (nI e)), none, none] [some (.ref 0), some (.ref (2 + 12 * e)), some (.ref 122)] s b s (b + 5) m S := by
  have ke : 2 + 12 * e = 2 ∨ 2 + 12 * e = 14 := by omega
  obtain ⟨p1, p2, p3, p4, p5⟩ := hpk
  obtain ⟨k1, k2, k3⟩ := p3 h3
  obtain ⟨w1, w2, w3⟩ := hacc.2.2.1 h3
  obtain ⟨n, hn, hn4⟩ : ∃ n : Nat, n ≤ 20 ∧ m 31 4 = nI n := by
    obtain ⟨n, a1, a2⟩ := nI_of (x := m 31 4) (by rw [Int32.lt_iff_toInt_lt]; have : (0 : Int32).toInt = 0 := rfl; omega)
    refine ⟨n, ?_, a2⟩
    rw [a2, nI_toInt a1] at k2
    omega
  have n4 : (m 31 4).toInt = n := by rw [hn4, nI_toInt (by omega)]
  have x3 : S 122 3 = m 31 3 := hp 3 (by decide)
  have x4 : S 122 4 = nI n := (hp 4 (by decide)).trans hn4
  obtain ⟨ma, Sa, a1, a2, a3, a4, a5, a6⟩ := r_enters (k := m 31 3) (n := n) (by omega) h he hn k1 w1 (fun z t ht hte => by have := w2 z t ht hte; omega) (fun z t ht hte => by have := w3 z t ht hte; omega)
  have hxa : ma 1 e = Sa (2 + 12 * e) 8 := (a3.re he).1.1
  -- the state and the ticket
  obtain ⟨mb, Sb, b1, b2, b3, b4, b5⟩ : ∃ mb Sb : gm_Mem, (∀ (r : Option Value) (m2 : gm_Mem), gm_run gM 4 YX11_hasProtected 38 [some (.ref 0), some (.int (nI e)), some (.int (m 31 1)), none] [] mb r m2 → gm_run gM 4 YX11_hasProtected 0 [some (.ref 0), some (.int (nI e)), none, none] [] m r m2) ∧
      (∀ (r : Option Value) (S2 : gm_Mem), gm_run gC 4 YX10_acceptProtected 31 [some (.ref 0), some (.ref (2 + 12 * e)), some (.ref 122)] [] Sb r S2 → gm_run gC 4 YX10_acceptProtected 0 [some (.ref 0), some (.ref (2 + 12 * e)), some (.ref 122)] [] S r S2) ∧ Rc s (b + 1) 0 mb Sb ∧ r_FM m mb ∧ r_FC S Sb := by
    rw [← hn4] at a1
    rw [← x3, ← x4] at a2
    by_cases c : ma 1 e = 2
    · have e1 : e = 1 := by
        rcases he with rfl | rfl
        · exact absurd (hxa.symm.trans c) ((a3.re (Or.inl rfl)).1.2.1.2.2 rfl)
        · rfl
      subst e1
      obtain ⟨mb, Sx, Sb, i1, i2, i3, i4, i5, i6⟩ := r_issues (by omega) a3
      exact ⟨mb, Sb, fun r m2 K => PX11_hasProtected_1 a1 (ix_e he) c i1 K, fun r S2 K => PX10_acceptProtected_1 ke (Or.inr rfl) a2 (hxa.symm.trans c) i2 i3 K, i4, a4.tr i5, a5.tr i6⟩
    · exact ⟨ma, Sa, fun r m2 K => PX11_hasProtected_2 a1 (ix_e he) c K, fun r S2 K => PX10_acceptProtected_2 ke (Or.inr rfl) a2 (fun z => c (hxa.trans z)) K, a3.le (Nat.le_refl _) (by omega), a4, a5⟩
  have yb : mb 31 = m 31 := b4.1
  have yS : Sb 122 = S 122 := b5.1 122 (by decide)
  have e22 : 2 + 12 * e + 2 = 4 + 12 * e := by omega
  have e5 : 2 + 12 * e + 5 = 7 + 12 * e := by omega
  obtain ⟨mc, Sc, c1, c2, c3, c4, c5, c6⟩ := r_acks (ak := m 31 7) (by omega) b3 he k3
  have yc : mc 31 = m 31 := c4.1.trans yb
  have ySc : Sc 122 = S 122 := (c5.1 122 (by decide)).trans yS
  have x7 : S 122 7 = m 31 7 := hp 7 (by decide)
  have x1 : S 122 1 = m 31 1 := hp 1 (by decide)
  have x5 : S 122 5 = m 31 5 := hp 5 (by decide)
  have x6 : S 122 6 = m 31 6 := hp 6 (by decide)
  rw [← yb] at c1
  rw [← x7, ← yS, ← e22] at c2
  have kq : (28 ≤ 122 ∧ 122 < 52) ∨ (86 ≤ 122 ∧ 122 < 110) ∨ (122 : Nat) = 122 := Or.inr (Or.inr rfl)
  by_cases k6 : m 31 1 = 6
  · -- a ticket
    have e0 : e = 0 := hacc.2.2.2 k6
    subst e0
    obtain ⟨hs, hl, hnn, ht, hr, h0, g0, g1⟩ := c3
    have t5 : -1 ≤ (m 31 5).toInt := by have := p5 k6; omega
    have hR : Rc s (b + 1) 0 (gm_u mc 0 35 (mc 31 5)) (gm_u Sc 2 14 (Sc 122 5)) := by
      refine ⟨hs, hl, (by repeat (first | exact hnn | refine r_net.u (by decide) ?_ | refine r_net.up (by decide) ?_)), ht, hr, ⟨h0.1, ?_, ?_, h0.2.2.2⟩, g0, g1⟩
      · show mc 31 5 = Sc 122 5
        rw [yc, ySc, x5]
      · show -1 ≤ (Sc 122 5).toInt
        rw [ySc, x5]
        exact t5
    obtain ⟨m2, S2, d1, d2, d3, d4, d5⟩ := r_tail115 (x2 := m 31 1) (by omega) hR (e := 0) (Or.inl rfl)
    refine ⟨m2, S2, b1 _ _ (PX11_hasProtected_3 c1 k6 (PX11_hasProtected_6 (by rw [k6]; decide) (by rw [k6]; decide) d1)), b2 _ _ (PX10_acceptProtected_3 ke (Or.inr rfl) c2 (by rw [ySc, x1]; exact k6) d2), d3.le (Nat.le_refl _) (by omega), ((b4.tr c4).u (by omega)).tr d4, ((b5.tr c5).u (by omega)).tr d5⟩
  · have n6 : ¬ Sc 122 1 = 6 := by rw [ySc, x1]; exact k6
    by_cases k47 : m 31 1 = 4 ∨ m 31 1 = 7
    · -- a message
      obtain ⟨l1, l2⟩ := p4 k47
      obtain ⟨a, ha, ha5⟩ : ∃ a : Nat, a < s ∧ m 31 5 = nI a := by
        obtain ⟨a, z1, z2⟩ := nI_of (x := m 31 5) (by rw [Int32.lt_iff_toInt_lt]; have : (0 : Int32).toInt = 0 := rfl; omega)
        refine ⟨a, ?_, z2⟩
        rw [z2, nI_toInt z1] at l2
        omega
      have key : ∀ v : Int32, (v = 0 ∨ v = 1) → PairV 4 4 YX11_hasProtected YX10_acceptProtected [some (.ref 0), some (.int (nI e)), none, none] [some (.ref 0), some (.ref (2 + 12 * e)), some (.ref 122)] s b s (b + 5) m S ∨ ∃ m2 S2 : gm_Mem,
          gm_run gM 4 YX11_hasProtected 103 [some (.ref 0), some (.int (nI e)), some (.int (m 31 1)), none] [.int v, .int (mc 31 6), .int (mc 31 5), .int (nI e), .ref 0] mc none m2 ∧ gm_run gC 4 YX10_acceptProtected 95 [some (.ref 0), some (.ref (2 + 12 * e)), some (.ref 122)] [.int v, .int (Sc 122 6), .int (Sc 122 5), .ref (2 + 12 * e + 5)] Sc none S2 ∧ Rc s (b + 5) 0 m2 S2 ∧ r_FM mc m2 ∧ r_FC Sc S2 := by
        intro v hv
        right
        obtain ⟨md, Sd, d1, d2, d3, d4, d5, d6⟩ := r_takes (v := m 31 6) (c := v) hB.1 c3 he ha hv
        obtain ⟨r, mf, Sf, f1, f2, f3, f4, f5, f6, f7, f8⟩ := r_sendsProtected (by omega) d3 he 5 0 0 (by decide) (fun z => absurd z (by decide)) (fun z => absurd z (by decide))
        obtain ⟨m2, S2, g1, g2, g3, g4, g5⟩ := r_tail115 (x2 := m 31 1) (by omega) f3 he
        rw [yc, ySc, x5, x6, ha5, e5]
        exact ⟨m2, S2, PX11_hasProtected_15 d1 f1 g1, (by have z := PX10_acceptProtected_10 (e := 2 + 12 * e) (q := 122) (s0 := v) (s1 := m 31 6) (s2 := nI a) (S := Sc) (T1 := Sd) (T2 := Sf) (r2 := r) ke (Or.inr rfl) (by rw [e5]; exact d2) f2 g2; rw [e5] at z; exact z), g3.le (Nat.le_refl _) (by omega), (d4.tr f4).tr g4, (d5.tr f5).tr g5⟩
      rcases k47 with k4 | k7
      · rcases key 0 (Or.inl rfl) with z | ⟨m2, S2, z1, z2, z3, z4, z5⟩
        · exact z
        · have hM := PX11_hasProtected_4 c1 k6 (PX11_hasProtected_7 k4 (PX11_hasProtected_9 (by rw [k4]; decide) z1))
          have hC := PX10_acceptProtected_5 (r3 := 1) ke (Or.inr rfl) c2 n6 (PX5_bringsMessage_3 kq (by rw [ySc, x1]; exact k4)) (by decide) (by rw [ySc, x1, k4]; decide) z2
          exact ⟨m2, S2, b1 _ _ hM, b2 _ _ hC, z3, (b4.tr c4).tr z4, (b5.tr c5).tr z5⟩
      · rcases key 1 (Or.inr rfl) with z | ⟨m2, S2, z1, z2, z3, z4, z5⟩
        · exact z
        · have hM := PX11_hasProtected_4 c1 k6 (PX11_hasProtected_5 (by rw [k7]; decide) k7 (PX11_hasProtected_8 k7 z1))
          have hC := PX10_acceptProtected_4 (r3 := 1) ke (Or.inr rfl) c2 n6 (PX5_bringsMessage_1 kq (by rw [ySc, x1, k7]; decide) (by rw [ySc, x1]; exact k7)) (by decide) (by rw [ySc, x1]; exact k7) z2
          exact ⟨m2, S2, b1 _ _ hM, b2 _ _ hC, z3, (b4.tr c4).tr z4, (b5.tr c5).tr z5⟩
    · have n4' : ¬ m 31 1 = 4 := fun z => k47 (Or.inl z)
      have n7' : ¬ m 31 1 = 7 := fun z => k47 (Or.inr z)
      obtain ⟨m2, S2, d1, d2, d3, d4, d5⟩ := r_tail115 (x2 := m 31 1) (by omega) c3 he
      exact ⟨m2, S2, b1 _ _ (PX11_hasProtected_4 c1 k6 (PX11_hasProtected_6 n4' n7' d1)), b2 _ _ (PX10_acceptProtected_6 (r3 := 0) ke (Or.inr rfl) c2 n6 (PX5_bringsMessage_2 kq (by rw [ySc, x1]; exact n4') (by rw [ySc, x1]; exact n7')) rfl d2), d3.le (Nat.le_refl _) (by omega), (b4.tr c4).tr d4, (b5.tr c5).tr d5⟩
