/-! PAIR: sendsDue / sendDue -/
theorem ix_n {j N : Nat} (h : j < N) (hN : N ≤ 2147483648) : gm_ix (nI j) j N := ⟨nI_toInt (by omega), h⟩
theorem ix_c {j N : Nat} {x : Int32} (e : x = nI j) (h : j < N) (hN : N ≤ 2147483648) : gm_ix x j N := by rw [e]; exact ix_n h hN
theorem nI_16 (e k : Nat) : 16 * nI e + nI k = nI (16 * e + k) := by
  show nI 16 * nI e + nI k = _
  rw [pk_mul, nI_add]
theorem nI_16' (e : Nat) : 16 * nI e = nI (16 * e) := by
  show nI 16 * nI e = _
  rw [pk_mul]
theorem r_out.sent {s e k : Nat} {ti kn kc km : Int32} {r20 r21 r22 r23 ob va st : Nat → Int32} (h : r_out s e ti kn kc km r20 r21 r22 r23 ob va st) (ht : 0 ≤ ti.toInt) : r_out s e ti kn kc km r20 r21 r22 (fun j => if j = 16 * e + k then ti else r23 j) ob va (fun j => if j = k then ti else st j) := by
  obtain ⟨n, lo, h1, h2, h3, h4, h5, h6, h7, h8, h9⟩ := h
  refine ⟨n, lo, h1, h2, h3, h4, h5, h6, h7, h8, fun i hi => ⟨(h9 i hi).1, (h9 i hi).2.1, (h9 i hi).2.2.1, ?_, ?_⟩⟩
  · by_cases hik : i = k
    · subst hik
      simp
    · exact (if_neg (show ¬ 16 * e + i = 16 * e + k by omega)).trans ((h9 i hi).2.2.2.1.trans (if_neg hik).symm)
  · by_cases hik : i = k
    · subst hik
      right
      simp
      exact ht
    · have hz : (fun j => if j = k then ti else st j) i = st i := if_neg hik
      rw [hz]
      exact (h9 i hi).2.2.2.2
theorem r_out.other {s e d k : Nat} {x ti kn kc km : Int32} {r20 r21 r22 r23 ob va st : Nat → Int32} (h : r_out s e ti kn kc km r20 r21 r22 r23 ob va st) (hd : d ≠ e) (hk : k < 16) : r_out s e ti kn kc km r20 r21 r22 (fun j => if j = 16 * d + k then x else r23 j) ob va st := by
  obtain ⟨n, lo, h1, h2, h3, h4, h5, h6, h7, h8, h9⟩ := h
  refine ⟨n, lo, h1, h2, h3, h4, h5, h6, h7, h8, fun i hi => ⟨(h9 i hi).1, (h9 i hi).2.1, (h9 i hi).2.2.1, ?_, (h9 i hi).2.2.2.2⟩⟩
  exact (if_neg (show ¬ 16 * e + i = 16 * d + k by omega)).trans (h9 i hi).2.2.2.1
/-- a message is sent from now on -/
theorem r_sent {s b e k : Nat} {m S : gm_Mem} (h : Rc s b 0 m S) (he : e = 0 ∨ e = 1) (hk : k < 16) : Rc s b 0 (gm_u m 23 (16 * e + k) (m 0 4)) (gm_u S (2 + 12 * e + 4) k (S 1 8)) := by
  obtain ⟨hs, hl, hn, ht, hr, h0, g0, g1⟩ := h
  have e4 : m 0 4 = S 1 8 := hs.2.2.2.2.1.1
  have t0 : 0 ≤ (m 0 4).toInt := by rw [e4]; exact hs.2.2.2.2.1.2.1
  rcases he with rfl | rfl
  · refine ⟨hs, hl, (by repeat (first | exact hn | refine r_net.u (by decide) ?_ | refine r_net.up (by decide) ?_)), ht, hr, h0, ⟨g0.1, ?_, g0.2.2⟩, ⟨g1.1, ?_, g1.2.2⟩⟩
    · have := g0.2.1.sent (k := k) t0
      rw [← e4]
      exact this
    · exact g1.2.1.other (d := 0) (by decide) hk
  · refine ⟨hs, hl, (by repeat (first | exact hn | refine r_net.u (by decide) ?_ | refine r_net.up (by decide) ?_)), ht, hr, h0, ⟨g0.1, ?_, g0.2.2⟩, ⟨g1.1, ?_, g1.2.2⟩⟩
    · exact g0.2.1.other (d := 1) (by decide) hk
    · have := g1.2.1.sent (k := k) t0
      rw [← e4]
      exact this
theorem p_dueLoop {s e : Nat} (hs : s ≤ 1024) (he : e = 0 ∨ e = 1) : ∀ (d k b : Nat) (m S : gm_Mem), k + d = 3 → b + d < 1000000000 → Rc s b 0 m S → ∃ m2 S2 : gm_Mem,
    gm_run gM 3 YX11_sendsDue 13 [some (.ref 0), some (.int (nI e)), some (.int (nI k)), none] [] m none m2 ∧ gm_run gC 3 YX10_sendDue 16 [some (.ref 0), some (.ref (2 + 12 * e)), some (.ref (2 + 12 * e + 2)), some (.int (nI k)), none] [] S none S2 ∧
    Rc s (b + d) 0 m2 S2 ∧ r_FM m m2 ∧ r_FC S S2 := by
  intro d
  induction d with
  | zero =>
    intro k b m S hk hb h
    have hk3 : k = 3 := by omega
    subst hk3
    obtain ⟨n, lo, h1, h2, h3, h4, h5, h6, h7, h8, h9⟩ := (h.re he).2.1
    have e24 : 2 + 12 * e + 2 = 4 + 12 * e := by omega
    by_cases hn : 3 < n
    · refine ⟨m, S, PX11_sendsDue_3 (j1 := e) (j3 := 16 * e + 3) (j4 := 16 * e) (ix_e he) ?_ (ix_c (nI_16 e 3) (by omega) (by decide)) (ix_c (nI_16' e) (by omega) (by decide)) ?_, PX10_sendDue_8 (by omega) ?_ (by decide), h, r_FM.rf, r_FC.rf⟩
      · rw [h3]; exact (nI_ltI (by decide) (by omega)).mpr hn
      · rw [(h9 3 hn).1, show 16 * e = 16 * e + 0 by omega, (h9 0 (by omega)).1]
        show ¬ nI (lo + 3) < nI (lo + 0) + nI 3
        rw [nI_add, nI_ltI (by omega) (by omega)]
        omega
      · rw [e24, h5]; exact (nI_ltI (by decide) (by omega)).mpr hn
    · refine ⟨m, S, PX11_sendsDue_9 (j1 := e) (ix_e he) ?_, PX10_sendDue_9 (by omega) ?_, h, r_FM.rf, r_FC.rf⟩
      · rw [h3, nI_ltI (by decide) (by omega)]; exact hn
      · rw [e24, h5, nI_ltI (by decide) (by omega)]; exact hn
  | succ d ih =>
    intro k b m S hk hb h
    obtain ⟨n, lo, h1, h2, h3, h4, h5, h6, h7, h8, h9⟩ := (h.re he).2.1
    have e24 : 2 + 12 * e + 2 = 4 + 12 * e := by omega
    have e25 : 2 + 12 * e + 3 = 5 + 12 * e := by omega
    have e26 : 2 + 12 * e + 4 = 6 + 12 * e := by omega
    by_cases hn : k < n
    · obtain ⟨k1, k2, k3, k4, k5⟩ := h9 k hn
      have cM2 : nI k < m 18 e := by rw [h3]; exact (nI_ltI (by omega) (by omega)).mpr hn
      have cC1 : nI k < S (2 + 12 * e + 2) 2 := by rw [e24, h5]; exact (nI_ltI (by omega) (by omega)).mpr hn
      have cC2 : nI k < 3 := (nI_ltI (a := k) (b := 3) (by omega) (by decide)).mpr (by omega)
      have cM5 : m 20 (16 * e + k) < m 20 (16 * e) + 3 := by
        rw [k1, show m 20 (16 * e) = nI (lo + 0) from (h9 0 (by omega)).1]
        show nI (lo + k) < nI (lo + 0) + nI 3
        rw [nI_add, nI_ltI (by omega) (by omega)]
        omega
      have ixk := ix_c (nI_16 e k) (show 16 * e + k < 32 by omega) (by decide)
      have ix0 := ix_c (nI_16' e) (show 16 * e < 32 by omega) (by decide)
      have ixc := ix_n (show k < 16 by omega) (by decide)
      by_cases hst : S (6 + 12 * e) k = -1
      · -- due
        have cM6 : m 23 (16 * e + k) < 0 := by rw [k4, hst]; decide
        have cC4 : S (2 + 12 * e + 4) k = -1 := by rw [e26]; exact hst
        have hnum : (S (2 + 12 * e + 2) 3) + nI k = nI (lo + k) := by rw [e24, h6, nI_add]
        have go : ∀ kd : Int32, (kd = 4 ∨ kd = 7) → ∃ (r : Int32) (m2 S2 : gm_Mem),
            gm_run gM 2 YX11_sendsProtected 0 [some (.ref 0), some (.int (nI e)), some (.int kd), some (.int (m 20 (16 * e + k))), some (.int (m 21 (16 * e + k)))] [] m (some (.int r)) m2 ∧ gm_run gC 2 YX10_sendProtected 0 [some (.ref 0), some (.ref (2 + 12 * e)), some (.int kd), some (.int ((S (2 + 12 * e + 2) 3) + nI k)), some (.int (S (2 + 12 * e + 3) k)), none] [] S (some (.int r)) S2 ∧
            Rc s (b + 1) 0 m2 S2 ∧ r_FM m m2 ∧ r_FC S S2 ∧ (r = 0 ∨ r = 1) := by
          intro kd hkd
          obtain ⟨r, m2, S2, q1, q2, q3, q4, q5, q6, q7, q8⟩ := r_sendsProtected (s := s) ⟨hs, by omega⟩ h he kd (nI (lo + k)) (S (5 + 12 * e) k) (by rcases hkd with rfl | rfl <;> decide) (fun _ => by rw [nI_toInt (by omega)]; omega) (fun q => by rcases hkd with rfl | rfl <;> exact absurd q (by decide))
          rw [k1, k2, hnum, e25]
          exact ⟨r, m2, S2, q1, q2, q3, q4, q5, q8⟩
        have next : ∀ m2 S2 : gm_Mem, Rc s (b + 1) 0 m2 S2 → ∃ m3 S3 : gm_Mem,
            gm_run gM 3 YX11_sendsDue 13 [some (.ref 0), some (.int (nI e)), some (.int (nI k + 1)), none] [] (gm_u m2 23 (16 * e + k) (m2 0 4)) none m3 ∧ gm_run gC 3 YX10_sendDue 16 [some (.ref 0), some (.ref (2 + 12 * e)), some (.ref (2 + 12 * e + 2)), some (.int (nI k + 1)), none] [] (gm_u S2 (2 + 12 * e + 4) k (S2 1 8)) none S3 ∧
            Rc s (b + (d + 1)) 0 m3 S3 ∧ r_FM m2 m3 ∧ r_FC S2 S3 := by
          intro m2 S2 hR
          obtain ⟨m3, S3, q1, q2, q3, q4, q5⟩ := ih (k + 1) (b + 1) _ _ (by omega) (by omega) (r_sent hR he (show k < 16 by omega))
          rw [nI_1]
          refine ⟨m3, S3, q1, q2, ?_, (r_FM.rf.u (by omega)).tr q4, (r_FC.rf.u (by omega)).tr q5⟩
          rw [show b + (d + 1) = b + 1 + d by omega]
          exact q3
        by_cases hcl : ¬ m 15 e = -1 ∧ k + 1 = n
        · have kc7 : m 22 (16 * e + k) = 1 := by rw [k3, if_pos hcl]
          have kcl : m 15 e = nI (lo + k) := by
            rcases h8 with q | q
            · exact absurd q hcl.1
            · rw [q.2]
              congr 1
              omega
          have rc5 : gm_run gC 0 YX4_isClose 0 [some (.ref (2 + 12 * e + 2)), some (.int (nI k))] [] S (some (.int 1)) S :=
            PX4_isClose_1 (by omega) (by rw [e24, h7]; exact hcl.1) (by rw [hnum, e24, h7, kcl])
          obtain ⟨r, m2, S2, q1, q2, q3, q4, q5, q6⟩ := go 7 (Or.inr rfl)
          rcases q6 with rfl | rfl
          · exact ⟨m2, S2, PX11_sendsDue_5 (ix_e he) cM2 ixk ix0 cM5 cM6 kc7 q1 rfl, PX10_sendDue_3 (by omega) cC1 cC2 ixc cC4 rc5 (by decide) q2 rfl, q3.le (Nat.le_refl _) (by omega), q4, q5⟩
          · obtain ⟨m3, S3, p1, p2, p3, p4, p5⟩ := next m2 S2 q3
            exact ⟨m3, S3, PX11_sendsDue_6 (ix_e he) cM2 ixk ix0 cM5 cM6 kc7 q1 (by decide) p1, PX10_sendDue_4 (by omega) cC1 cC2 ixc cC4 rc5 (by decide) q2 (by decide) p2, p3, q4.tr p4, q5.tr p5⟩
        · have kc7 : ¬ m 22 (16 * e + k) = 1 := by rw [k3, if_neg hcl]; decide
          have rc5 : gm_run gC 0 YX4_isClose 0 [some (.ref (2 + 12 * e + 2)), some (.int (nI k))] [] S (some (.int 0)) S := by
            by_cases hm1 : m 15 e = -1
            · exact PX4_isClose_3 (by omega) (by rw [e24, h7]; exact hm1)
            · refine PX4_isClose_2 (by omega) (by rw [e24, h7]; exact hm1) ?_
              rw [hnum, e24, h7]
              rcases h8 with q | q
              · exact absurd q hm1
              · rw [q.2, nI_eq (by omega) (by omega)]
                intro hx
                exact hcl ⟨hm1, by omega⟩
          obtain ⟨r, m2, S2, q1, q2, q3, q4, q5, q6⟩ := go 4 (Or.inl rfl)
          rcases q6 with rfl | rfl
          · exact ⟨m2, S2, PX11_sendsDue_7 (ix_e he) cM2 ixk ix0 cM5 cM6 kc7 q1 rfl, PX10_sendDue_5 (by omega) cC1 cC2 ixc cC4 rc5 rfl q2 rfl, q3.le (Nat.le_refl _) (by omega), q4, q5⟩
          · obtain ⟨m3, S3, p1, p2, p3, p4, p5⟩ := next m2 S2 q3
            exact ⟨m3, S3, PX11_sendsDue_8 (ix_e he) cM2 ixk ix0 cM5 cM6 kc7 q1 (by decide) p1, PX10_sendDue_6 (by omega) cC1 cC2 ixc cC4 rc5 rfl q2 (by decide) p2, p3, q4.tr p4, q5.tr p5⟩
      · have cM6 : ¬ m 23 (16 * e + k) < 0 := by
          rw [k4]
          rcases k5 with q | q
          · exact absurd q hst
          · rw [Int32.lt_iff_toInt_lt]
            have := q.1
            show ¬ (S (6 + 12 * e) k).toInt < 0
            omega
        have cC4 : ¬ S (2 + 12 * e + 4) k = -1 := by rw [e26]; exact hst
        obtain ⟨m3, S3, q1, q2, q3, q4, q5⟩ := ih (k + 1) b m S (by omega) (by omega) h
        rw [← nI_1] at q1 q2
        exact ⟨m3, S3, PX11_sendsDue_4 (ix_e he) cM2 ixk ix0 cM5 cM6 q1, PX10_sendDue_7 (by omega) cC1 cC2 ixc cC4 q2, q3.le (Nat.le_refl _) (by omega), q4, q5⟩
    · refine ⟨m, S, PX11_sendsDue_9 (j1 := e) (ix_e he) ?_, PX10_sendDue_9 (by omega) ?_, h.le (Nat.le_refl _) (by omega), r_FM.rf, r_FC.rf⟩
      · rw [h3, nI_ltI (by omega) (by omega)]; exact hn
      · rw [e24, h5, nI_ltI (by omega) (by omega)]; exact hn
theorem r_sendsDue {s b e : Nat} {m S : gm_Mem} (hB : s ≤ 1024 ∧ b + 3 < 1000000000) (h : Rc s b 0 m S) (he : e = 0 ∨ e = 1) : ∃ m2 S2 : gm_Mem,
    gm_run gM 3 YX11_sendsDue 0 [some (.ref 0), some (.int (nI e)), none, none] [] m none m2 ∧ gm_run gC 3 YX10_sendDue 0 [some (.ref 0), some (.ref (2 + 12 * e)), none, none, none] [] S none S2 ∧
    Rc s (b + 3) 0 m2 S2 ∧ r_FM m m2 ∧ r_FC S S2 := by
  have hx := (h.re he).1.1
  by_cases h3 : m 1 e = 3
  · obtain ⟨m2, S2, q1, q2, q3⟩ := p_dueLoop hB.1 he 3 0 b m S rfl hB.2 h
    exact ⟨m2, S2, PX11_sendsDue_2 (ix_e he) h3 q1, PX10_sendDue_2 (by omega) (hx.symm.trans h3) q2, q3⟩
  · exact ⟨m, S, PX11_sendsDue_1 (ix_e he) h3, PX10_sendDue_1 (by omega) (fun q => h3 (hx.trans q)), h.le (Nat.le_refl _) (by omega), r_FM.rf, r_FC.rf⟩
