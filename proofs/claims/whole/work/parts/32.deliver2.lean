/-! PAIR: deliver -/
theorem p_deliver {s b i n q e : Nat} {m S : gm_Mem} (hB : b < 1000000000) (h : Rc s b 0 m S) (h1 : i < n) (h2 : n ≤ 24) (h3 : m 0 45 = nI n) (h5 : 28 ≤ q ∧ q < 52) (h7 : ∀ k, k < 9 → S q k = m 30 (9 * i + k)) (h8 : r_pk s b (fun k => m 30 (9 * i + k))) (he : e = 0 ∨ e = 1) (e1 : m 30 (9 * i + 0) = nI (1 - e)) (e2 : (1 - m 30 (9 * i + 0)) = nI e) {r31 : Nat → Int32} (h31 : ∀ k, k < 9 → r31 k = m 30 (9 * i + k))
    (e3 : ∀ (S : gm_Mem) (x : Int32), x = m 30 (9 * i + 0) → gm_run gC 0 YX10_endpointOf 0 [some (.ref 0), some (.int (1 - x))] [] S (some (.ref (2 + 12 * e))) S) :
    ∃ (j : Nat) (mB mD W SB SC SD : gm_Mem), j ≤ 8 ∧ gm_run gM 3 YX11_resultOf 0 [some (.ref 0), some (.int (nI i)), none, none] [] m (some (.int (nI j))) m ∧ gm_run gM 0 YX11_removes 0 [some (.ref 0), some (.int (nI i)), none] [] (va_up m 31 r31) none mB ∧ gm_ix ((9 * (1 - (mB 31 0))) + nI j) (9 * e + j) 18 ∧
      gm_run gM 0 YX11_logs 0 [some (.ref 0), some (.int 1), some (.int (mB 31 1)), some (.int (nI j)), none] [] (gm_u (gm_u mB 0 6 ((mB 0 6) + 1)) 32 (9 * e + j) ((mB 32 (9 * e + j)) + 1)) none mD ∧ mB 31 = r31 ∧
      gm_run gC 0 YX5_copyFrom 0 [some (.ref 122), some (.ref q)] [] S none W ∧ gm_run gC 0 YX3_remove 0 [some (.ref 26), some (.int (nI i)), none, none] [] W none SB ∧ gm_run gC 0 YX10_endpointOf 0 [some (.ref 0), some (.int (1 - (SB 122 0)))] [] SB (some (.ref (2 + 12 * e))) SB ∧ gm_run gC 3 YX10_resultOf 0 [some (.ref 0), some (.ref 122), some (.ref (2 + 12 * e))] [] SB (some (.int (nI j))) SB ∧
      gm_run gC 0 YX0_countResult 0 [some (.ref (2 + 12 * e)), some (.int (nI j))] [] SB none SC ∧ gm_run gC 0 YX2_add 0 [some (.ref 55), some (.int 1), some (.int (SC 122 1)), some (.int (nI j))] [] (gm_u SC 1 11 ((SC 1 11) + 1)) none SD ∧
      Rc s b 0 mD SD ∧ mD 31 = r31 ∧ (∀ k, k < 9 → SD 122 k = m 30 (9 * i + k)) ∧ r_FN m mD ∧ r_FD S SD ∧ (j = 0 → r_acc mD e r31) ∧ (j = 8 → e = 1) := by
  obtain ⟨hs, hl, hn, ht, hr, h0, g0, g1⟩ := h
  have hne : (122 : Nat) ≠ q := by omega
  have hcp := PX5_copyFrom_1 (p := 122) (o := q) (S := S) (Or.inr (Or.inr rfl)) (Or.inl h5) hne
  have hin := cp9_in (W := S) hne
  obtain ⟨r9, hr9⟩ := cp9_row (W := S) (p := 122) (o := q)
  rw [hr9] at hcp hin
  have h9 : ∀ k, k < 9 → r9 k = m 30 (9 * i + k) := fun k hk => by
    have := hin k hk
    simp [va_up] at this
    rw [this]
    exact h7 k hk
  obtain ⟨r30, ar, t1, t2, t3⟩ := p_removes (m := va_up m 31 r31) (S := va_up S 122 r9) (s := s) (b := b) (i := i) (n := n) (by repeat (first | exact hn | refine r_net.u (by decide) ?_ | refine r_net.up (by decide) ?_)) h1 h3 h2
  have hSB : ∀ k, k < 9 → (gm_u (va_up (va_up S 122 r9) 27 ar) 26 1 (nI (n - 1))) 122 k = m 30 (9 * i + k) := h9
  have hRE : RE s b e m (gm_u (va_up (va_up S 122 r9) 27 ar) 26 1 (nI (n - 1))) := by
    rcases he with rfl | rfl
    · exact g0
    · exact g1
  obtain ⟨r, r1, r2, r3, r4, r5⟩ := p_result (q := 122) (pos := i) hB he (Or.inr rfl) (by omega) hRE ht hs.2.2.1 hs.2.2.2.2.1.1 hSB h8 e1
  obtain ⟨j, hj, rfl⟩ : ∃ j : Nat, j ≤ 8 ∧ r = nI j := by
    obtain ⟨j, z1, z2⟩ := nI_of (x := r) (by rw [Int32.lt_iff_toInt_lt]; have : (0 : Int32).toInt = 0 := rfl; omega)
    refine ⟨j, ?_, z2⟩
    rw [z2, nI_toInt z1] at r3
    omega
  have ke : 2 + 12 * e = 2 ∨ 2 + 12 * e = 14 ∨ 2 + 12 * e = 60 ∨ 2 + 12 * e = 72 := by omega
  have hcnt := PX0_countResult_1 (e := 2 + 12 * e) (a1 := nI j) (S := gm_u (va_up (va_up S 122 r9) 27 ar) 26 1 (nI (n - 1))) (j3 := j) ke (nI_pos (by omega)) ((nI_ltI (b := 9) (by omega) (by decide)).mpr (by omega)) (ix_n (by omega) (by decide))
  have x0 : r31 0 = m 30 (9 * i + 0) := h31 0 (by decide)
  have ixr : gm_ix ((9 * (1 - r31 0)) + nI j) (9 * e + j) 18 := ix_c (by rw [x0, e2]; show nI 9 * nI e + nI j = _; rw [pk_mul, nI_add]) (by omega) (by decide)
  have hl2 : r_log ((gm_u (gm_u (va_up (gm_u (va_up m 31 r31) 0 45 (nI (n - 1))) 30 r30) 0 6 ((m 0 6) + 1)) 32 (9 * e + j) ((m 32 (9 * e + j)) + 1)) 29) ((gm_u (gm_u (va_up (gm_u (va_up m 31 r31) 0 45 (nI (n - 1))) 30 r30) 0 6 ((m 0 6) + 1)) 32 (9 * e + j) ((m 32 (9 * e + j)) + 1)) 0 42)
      ((gm_u (gm_u (gm_u (va_up (va_up S 122 r9) 27 ar) 26 1 (nI (n - 1))) (2 + 12 * e + 1) j (((gm_u (va_up (va_up S 122 r9) 27 ar) 26 1 (nI (n - 1))) (2 + 12 * e + 1) j) + 1)) 1 11 (((gm_u (gm_u (va_up (va_up S 122 r9) 27 ar) 26 1 (nI (n - 1))) (2 + 12 * e + 1) j (((gm_u (va_up (va_up S 122 r9) 27 ar) 26 1 (nI (n - 1))) (2 + 12 * e + 1) j) + 1)) 1 11) + 1)) 55)
      ((gm_u (gm_u (gm_u (va_up (va_up S 122 r9) 27 ar) 26 1 (nI (n - 1))) (2 + 12 * e + 1) j (((gm_u (va_up (va_up S 122 r9) 27 ar) 26 1 (nI (n - 1))) (2 + 12 * e + 1) j) + 1)) 1 11 (((gm_u (gm_u (va_up (va_up S 122 r9) 27 ar) 26 1 (nI (n - 1))) (2 + 12 * e + 1) j (((gm_u (va_up (va_up S 122 r9) 27 ar) 26 1 (nI (n - 1))) (2 + 12 * e + 1) j) + 1)) 1 11) + 1)) 56)
      ((gm_u (gm_u (gm_u (va_up (va_up S 122 r9) 27 ar) 26 1 (nI (n - 1))) (2 + 12 * e + 1) j (((gm_u (va_up (va_up S 122 r9) 27 ar) 26 1 (nI (n - 1))) (2 + 12 * e + 1) j) + 1)) 1 11 (((gm_u (gm_u (va_up (va_up S 122 r9) 27 ar) 26 1 (nI (n - 1))) (2 + 12 * e + 1) j (((gm_u (va_up (va_up S 122 r9) 27 ar) 26 1 (nI (n - 1))) (2 + 12 * e + 1) j) + 1)) 1 11) + 1)) 57)
      ((gm_u (gm_u (gm_u (va_up (va_up S 122 r9) 27 ar) 26 1 (nI (n - 1))) (2 + 12 * e + 1) j (((gm_u (va_up (va_up S 122 r9) 27 ar) 26 1 (nI (n - 1))) (2 + 12 * e + 1) j) + 1)) 1 11 (((gm_u (gm_u (va_up (va_up S 122 r9) 27 ar) 26 1 (nI (n - 1))) (2 + 12 * e + 1) j (((gm_u (va_up (va_up S 122 r9) 27 ar) 26 1 (nI (n - 1))) (2 + 12 * e + 1) j) + 1)) 1 11) + 1)) 58) := by
    rcases he with rfl | rfl
    · exact hl
    · exact hl
  obtain ⟨rl, ev, r5', r6', r7', r8', l1, l2, l3⟩ := p_logs hl2 1 (r31 1) (nI j)
  have y122 : (gm_u (gm_u (va_up (va_up S 122 r9) 27 ar) 26 1 (nI (n - 1))) (2 + 12 * e + 1) j (((gm_u (va_up (va_up S 122 r9) 27 ar) 26 1 (nI (n - 1))) (2 + 12 * e + 1) j) + 1)) 122 1 = r31 1 := by
    rw [gm_rp (by omega), h31 1 (by decide)]
    exact h9 1 (by decide)
  rw [← y122] at l2
  obtain ⟨s1, s2, s3, s4, s5, s6, s7, s8, s9⟩ := hs
  refine ⟨j, _, _, _, _, _, _, hj, r1, t1, ixr, l1, rfl, hcp, t2, e3 _ _ (hSB 0 (by decide)), r2, hcnt, l2, ?_, rfl, fun k hk => ?_, ⟨rfl, rfl, rfl, rfl, rfl, rfl, rfl, rfl, rfl⟩, ?_, fun hj0 => ?_, fun hj8 => r5 (by rw [hj8]; rfl)⟩
  · rcases he with rfl | rfl
    · refine ⟨⟨s1, s2, s3, s4, s5, s6, congrArg (· + 1) s7, s8, s9⟩, l3, t3 _ (fun p p1 p2 => by rw [bk_up (by decide) ⟨p1, p2⟩, bk_up (by decide) ⟨p1, p2⟩, bk_up (by decide) ⟨p1, p2⟩, bk_up (by decide) ⟨p1, p2⟩, bk_u (by decide) ⟨p1, p2⟩, bk_u (by decide) ⟨p1, p2⟩, bk_u (by decide) ⟨p1, p2⟩, bk_up (by decide) ⟨p1, p2⟩]), ht, fun k hk => ?_, h0, g0, g1⟩
      obtain ⟨z1, z2⟩ := hr k hk
      have w1 : (9 * 0 + j) = j := by omega
      rw [w1]
      by_cases hkj : k = j
      · subst hkj
        simp [gm_u, va_up, z1, z2]
      · have : ¬ 9 + k = j := by omega
        simp [gm_u, va_up, z1, z2, hkj, this]
    · refine ⟨⟨s1, s2, s3, s4, s5, s6, congrArg (· + 1) s7, s8, s9⟩, l3, t3 _ (fun p p1 p2 => by rw [bk_up (by decide) ⟨p1, p2⟩, bk_up (by decide) ⟨p1, p2⟩, bk_up (by decide) ⟨p1, p2⟩, bk_up (by decide) ⟨p1, p2⟩, bk_u (by decide) ⟨p1, p2⟩, bk_u (by decide) ⟨p1, p2⟩, bk_u (by decide) ⟨p1, p2⟩, bk_up (by decide) ⟨p1, p2⟩]), ht, fun k hk => ?_, h0, g0, g1⟩
      obtain ⟨z1, z2⟩ := hr k hk
      have w1 : (9 * 1 + j) = 9 + j := by omega
      rw [w1]
      by_cases hkj : k = j
      · subst hkj
        have : ¬ k = 9 + k := by omega
        simp [gm_u, va_up, z1, z2, this]
      · have h1' : ¬ k = 9 + j := by omega
        have h2' : ¬ 9 + k = 9 + j := by omega
        simp [gm_u, va_up, z1, z2, hkj, h1', h2']
  · rcases he with rfl | rfl
    · exact h9 k hk
    · exact h9 k hk
  · refine ⟨fun p hp h122 => ?_, ?_⟩
    · simp only [gm_u, va_up]
      exact (if_neg (by omega)).trans ((if_neg (by omega)).trans ((if_neg (by omega)).trans ((if_neg (by omega)).trans ((if_neg (by omega)).trans ((if_neg (by omega)).trans ((if_neg (by omega)).trans ((if_neg (by omega)).trans (if_neg (by omega)))))))))
    · simp only [gm_u, va_up]
      exact (if_neg (by omega)).trans ((if_neg (by omega)).trans ((if_neg (by omega)).trans ((if_neg (by omega)).trans ((if_neg (by omega)).trans ((if_neg (by omega)).trans ((if_neg (by omega)).trans ((if_neg (by omega)).trans (if_neg (by omega)))))))))
  · have racc := r4 (by rw [hj0]; rfl)
    show r_acc m e r31
    unfold r_acc
    rw [h31 1 (by decide), h31 6 (by decide), h31 3 (by decide), h31 4 (by decide)]
    exact racc
theorem p_delM2 {i : Nat} (hi : i < 24) : ∀ d x (m : gm_Mem), x + d = 9 → ∃ r31 : Nat → Int32, (∀ k, x ≤ k → k < 9 → r31 k = m 30 (9 * i + k)) ∧ (∀ k, k < x → r31 k = m 31 k) ∧ ∀ (x2 : Int32) (r : Option Value) (m2 : gm_Mem), gm_run gM 5 YX11_deliver 19 [some (.ref 0), some (.int (nI i)), some (.int x2), some (.int (nI 9))] [] (va_up m 31 r31) r m2 →
    gm_run gM 5 YX11_deliver 19 [some (.ref 0), some (.int (nI i)), some (.int x2), some (.int (nI x))] [] m r m2 := by
  intro d
  induction d with
  | zero =>
    intro x m hx
    have x9 : x = 9 := by omega
    subst x9
    exact ⟨m 31, fun k h1 h2 => absurd h2 (by omega), fun _ _ => rfl, fun x2 r m2 K => by rw [r_up_self] at K; exact K⟩
  | succ d ih =>
    intro x m hx
    obtain ⟨r31, z1, z2, z3⟩ := ih (x + 1) (gm_u m 31 x (m 30 (9 * i + x))) (by omega)
    refine ⟨r31, fun k k1 k2 => ?_, fun k hk => ?_, fun x2 r m2 K => ?_⟩
    · by_cases hk : k = x
      · subst hk
        rw [z2 k (by omega)]
        simp [gm_u]
      · rw [z1 k (by omega) k2]
        exact gm_rp (by decide)
    · rw [z2 k (by omega)]
      exact gm_rk (by omega)
    · refine PX11_deliver_3 (j4 := x) ((nI_ltI (b := 9) (by omega) (by decide)).mpr (by omega)) (p_at hi (by omega)) (ix_n (by omega) (by decide)) ?_
      rw [nI_1]
      refine z3 x2 r m2 ?_
      rw [gm_u_eq, r_upC]
      exact K
theorem r_deliver {s b : Nat} {m S : gm_Mem} (hB : s ≤ 512 ∧ b + 5 < 1000000000) (h : Rc s b 0 m S) (x : Int32) : PairT 5 6 YX11_deliver YX10_deliver [some (.ref 0), some (.int x), none, none] [some (.ref 0), some (.int x), none, none, none] s b s (b + 5) m S := by
  rcases p_packet h.2.2.1 x with ⟨q1, q2⟩ | ⟨i, n, q, h1, h2, rfl, h3, h4, h5, h6, q1, q2, h7, h8⟩
  · exact ⟨_, m, S, PX11_deliver_1 q1 rfl, PX10_deliver_5 q2, h.le (Nat.le_refl _) (by omega), r_FM.rf.fn, r_FC.rf.fd⟩
  obtain ⟨e, he, e1, e2, e3⟩ := p_other h8.1
  have q5 : 2 + 12 * e = 2 ∨ 2 + 12 * e = 14 := by omega
  obtain ⟨r31, z1, -, z3⟩ := p_delM2 (i := i) (by omega) 9 0 m (by omega)
  have h31 : ∀ k, k < 9 → r31 k = m 30 (9 * i + k) := fun k hk => z1 k (by omega) hk
  obtain ⟨j, mB, mD, W, SB, SC, SD, hj, a1, a2, a3, a4, a5, b1, b2, b3, b4, b5, b6, hR, w31, w122, f1, f2, acc, e8⟩ := p_deliver (by omega) h h1 h2 h3 h5 h7 h8 he e1 e2 h31 e3
  have toM : ∀ (r : Option Value) (m2 : gm_Mem), gm_run gM 5 YX11_deliver 19 [some (.ref 0), some (.int (nI i)), some (.int (nI j)), some (.int (nI 9))] [] (va_up m 31 r31) r m2 → gm_run gM 5 YX11_deliver 0 [some (.ref 0), some (.int (nI i)), none, none] [] m r m2 := fun r m2 K => PX11_deliver_2 q1 (by decide) a1 (z3 _ _ _ K)
  have n9 : ¬ nI 9 < 9 := by decide
  have v122 : ∀ k, k < 9 → SD 122 k = mD 31 k := fun k hk => by rw [w122 k hk, w31, h31 k hk]
  have x1 : SD 122 1 = r31 1 := (v122 1 (by decide)).trans (congrFun w31 1)
  have pk31 : r_pk s b (mD 31) := by
    rw [w31]
    obtain ⟨p1, p2, p3, p4, p5⟩ := h8
    refine ⟨?_, ?_, ?_, ?_, ?_⟩ <;> simp only [h31 0 (by decide), h31 1 (by decide), h31 3 (by decide), h31 4 (by decide), h31 5 (by decide), h31 7 (by decide)] <;> assumption
  by_cases c8 : j = 8
  · have ee := e8 c8
    subst ee c8
    obtain ⟨r, m2, S2, d1, d2, d3, d4, d5, -⟩ := r_sendsPlain hR (e := 1) (Or.inr rfl) 2 (mD 31 2) 0 0 (by decide)
    have d2' := d2
    rw [← v122 2 (by decide)] at d2'
    exact ⟨_, m2, S2, toM _ _ (PX11_deliver_4 n9 a2 a3 a4 rfl d1 (by decide)), PX10_deliver_1 (r12 := r) h5 q2 b1 b2 (Or.inr rfl) b3 b4 b5 b6 rfl d2', d3.le (Nat.le_refl _) (by omega), f1.tr d4.fn, f2.tr d5.fd⟩
  have n8 : ¬ nI j = 8 := fun z => c8 ((nI_eq (b := 8) (by omega) (by decide)).mp z)
  by_cases c0 : j = 0
  · subst c0
    have hacc : r_acc mD e (mD 31) := by rw [w31]; exact acc rfl
    have y1 : mD 31 1 = r31 1 := congrFun w31 1
    have kq : (28 ≤ 122 ∧ 122 < 52) ∨ (86 ≤ 122 ∧ 122 < 110) ∨ (122 : Nat) = 122 := Or.inr (Or.inr rfl)
    have lo3 : mD 31 1 = 0 ∨ mD 31 1 = 1 ∨ mD 31 1 = 2 → gm_run gC 0 YX5_isProtected 0 [some (.ref 122)] [] SD (some (.int 0)) SD := fun z => PX5_isProtected_2 kq (by
      rw [v122 1 (by decide)]
      rcases z with z | z | z <;> rw [z] <;> decide)
    by_cases k0 : mD 31 1 = 0
    · obtain ⟨e1', -⟩ := hacc.1 k0
      subst e1'
      obtain ⟨m2, S2, d1, d2, d3, d4, d5⟩ := r_answers hR v122 (hacc.1 k0).2
      exact ⟨_, m2, S2, toM _ _ (PX11_deliver_10 n9 a2 a3 a4 (by decide) rfl k0 d1), PX10_deliver_3 h5 q2 b1 b2 (Or.inr rfl) b3 b4 b5 b6 (by decide) rfl (lo3 (Or.inl k0)) rfl (PX10_acceptPlain_1 (Or.inr rfl) (Or.inr rfl) (by rw [v122 1 (by decide)]; exact k0) d2), d3.le (Nat.le_refl _) (by omega), f1.tr d4.fn, f2.tr d5.fd⟩
    by_cases k1 : mD 31 1 = 1
    · have e0 := hacc.2.1 (Or.inl k1)
      subst e0
      obtain ⟨m2, S2, d1, d2, d3, d4, d5⟩ := r_hasReply (by omega) hR v122
      exact ⟨_, m2, S2, toM _ _ (PX11_deliver_11 n9 a2 a3 a4 (by decide) rfl k1 d1), PX10_deliver_3 h5 q2 b1 b2 (Or.inl rfl) b3 b4 b5 b6 (by decide) rfl (lo3 (Or.inr (Or.inl k1))) rfl (PX10_acceptPlain_2 (Or.inl rfl) (Or.inr rfl) (by rw [v122 1 (by decide)]; exact k0) (by rw [v122 1 (by decide)]; exact k1) d2), d3.le (Nat.le_refl _) (by omega), f1.tr d4.fn, f2.tr d5.fd⟩
    by_cases k2 : mD 31 1 = 2
    · have e0 := hacc.2.1 (Or.inr k2)
      subst e0
      obtain ⟨m2, S2, d1, d2, d3, d4, d5, -⟩ := r_becomes hR (e := 0) (Or.inl rfl) 0 (by decide)
      exact ⟨_, m2, S2, toM _ _ (PX11_deliver_12 n9 a2 a3 a4 (by decide) rfl k2 d1), PX10_deliver_3 h5 q2 b1 b2 (Or.inl rfl) b3 b4 b5 b6 (by decide) rfl (lo3 (Or.inr (Or.inr k2))) rfl (PX10_acceptPlain_3 (Or.inl rfl) (Or.inr rfl) (by rw [v122 1 (by decide)]; exact k0) (by rw [v122 1 (by decide)]; exact k1) d2), d3.le (Nat.le_refl _) (by omega), f1.tr d4.fn, f2.tr d5.fd⟩
    · have z3' : 3 ≤ (mD 31 1).toInt := by
        have p2 := pk31.2.1
        have t0 : (mD 31 1).toInt ≠ 0 := fun z => k0 (Int32.toInt_inj.mp z)
        have t1 : (mD 31 1).toInt ≠ 1 := fun z => k1 (Int32.toInt_inj.mp z)
        have t2 : (mD 31 1).toInt ≠ 2 := fun z => k2 (Int32.toInt_inj.mp z)
        omega
      obtain ⟨m2, S2, d1, d2, d3, d4, d5⟩ := r_prot hB hR he v122 pk31 z3' hacc
      have ne : (1 - (mB 31 0)) = nI e := by rw [a5, h31 0 (by decide)]; exact e2
      have hp : gm_run gC 0 YX5_isProtected 0 [some (.ref 122)] [] SD (some (.int 1)) SD := PX5_isProtected_1 kq (by
        rw [v122 1 (by decide), Int32.lt_iff_toInt_lt]
        have : (3 : Int32).toInt = 3 := rfl
        omega)
      exact ⟨_, m2, S2, toM _ _ (PX11_deliver_13 n9 a2 a3 a4 (by decide) rfl (Or.inr (by omega)) (by rw [ne]; exact d1)), PX10_deliver_2 h5 q2 b1 b2 q5 b3 b4 b5 b6 (by decide) rfl hp (by decide) d2, d3, f1.tr d4.fn, f2.tr d5.fd⟩
  · have n0 : ¬ nI j = 0 := nI_ne0 (by omega) (by omega)
    exact ⟨_, mD, SD, toM _ _ (PX11_deliver_9 n9 a2 a3 a4 n8 n0), PX10_deliver_4 h5 q2 b1 b2 q5 b3 b4 b5 b6 n8 n0, hR.le (Nat.le_refl _) (by omega), f1, f2⟩
