/-! PAIRS: endpoint, kept, event -/
theorem p_wcount {m S : gm_Mem} {e : Nat} (he : e = 0 ∨ e = 1) (hw : ∀ j, j < 4 → m 24 (4 * e + j) = S (9 + 12 * e) j ∧ (S (9 + 12 * e) j = 0 ∨ S (9 + 12 * e) j = 1)) : ∃ r : Int32, gm_run gM 0 YX11_waiting 0 [some (.ref 0), some (.int (nI e))] [] m (some (.int r)) m ∧ gm_run gC 0 YX1_waitingCount 0 [some (.ref (7 + 12 * e)), none, none] [] S (some (.int r)) S := by
  have kp : 7 + 12 * e = 7 ∨ 7 + 12 * e = 19 ∨ 7 + 12 * e = 65 ∨ 7 + 12 * e = 77 := by omega
  have e2 : 7 + 12 * e + 2 = 9 + 12 * e := by omega
  have e4 : (4 : Int32) * nI e = nI (4 * e) := by show nI 4 * nI e = _; rw [pk_mul]
  have step : ∀ (j : Nat) (x1 : Int32) (r : Option Value), j < 4 → gm_run gC 0 YX1_waitingCount 4 [some (.ref (7 + 12 * e)), some (.int (x1 + S (9 + 12 * e) j)), some (.int (nI (j + 1)))] [] S r S → gm_run gC 0 YX1_waitingCount 4 [some (.ref (7 + 12 * e)), some (.int x1), some (.int (nI j))] [] S r S := by
    intro j x1 r hj K
    have c1 : nI j < 4 := (nI_ltI (b := 4) (by omega) (by decide)).mpr hj
    rcases (hw j hj).2 with z | z
    · rw [z] at K
      exact PX1_waitingCount_3 kp c1 (ix_n hj (by decide)) (by rw [e2]; exact z) (by rw [nI_1]; exact K)
    · rw [z] at K
      exact PX1_waitingCount_2 kp c1 (ix_n hj (by decide)) (by rw [e2, z]; decide) (by rw [nI_1]; exact K)
  have hM := PX11_waiting_1 (a1 := nI e) (S := m) (j1 := 4 * e) (j2 := 4 * e + 1) (j3 := 4 * e + 2) (j4 := 4 * e + 3) (ix_c e4 (by omega) (by decide)) (ix_c (by rw [e4]; exact nI_add _ 1) (by omega) (by decide)) (ix_c (by rw [e4]; exact nI_add _ 2) (by omega) (by decide)) (ix_c (by rw [e4]; exact nI_add _ 3) (by omega) (by decide))
  rw [show m 24 (4 * e) = S (9 + 12 * e) 0 from (hw 0 (by decide)).1, (hw 1 (by decide)).1, (hw 2 (by decide)).1, (hw 3 (by decide)).1] at hM
  refine ⟨_, hM, PX1_waitingCount_1 kp (step 0 0 _ (by decide) (step 1 _ _ (by decide) (step 2 _ _ (by decide) (step 3 _ _ (by decide) ?_))))⟩
  rw [Int32.zero_add]
  exact PX1_waitingCount_4 kp (by decide)
theorem p_part {s b e k : Nat} {m S : gm_Mem} (h : Rc s b 0 m S) (he : e = 0 ∨ e = 1) (hk : k ≤ 10) : ∃ r : Int32, gm_run gM 1 YX11_endpoint 0 [some (.ref 0), some (.int (nI e)), some (.int (nI k))] [] m (some (.int r)) m ∧ gm_run gC 1 YX0_part 0 [some (.ref (2 + 12 * e)), some (.int (nI k))] [] S (some (.int r)) S := by
  obtain ⟨⟨g1, g2, g3, g4, g5⟩, ⟨n, lo, a1, a2, a3, a4, a5, -⟩, ⟨ex, t, d1, d2, d3, d4, d5, d6, d7, d8, d9, d10, -⟩, ⟨w1, w2, w3, w4, w5, w6, w7, w8⟩⟩ := h.re he
  obtain ⟨t1, -, -⟩ := p_isEpT (m := m) (S := S) he
  have ke : 2 + 12 * e = 2 ∨ 2 + 12 * e = 14 ∨ 2 + 12 * e = 60 ∨ 2 + 12 * e = 72 := by omega
  have e22 : 2 + 12 * e + 2 = 4 + 12 * e := by omega
  have e5 : 2 + 12 * e + 5 = 7 + 12 * e := by omega
  rcases (show k = 0 ∨ k = 1 ∨ k = 2 ∨ k = 3 ∨ k = 4 ∨ k = 5 ∨ k = 6 ∨ k = 7 ∨ k = 8 ∨ k = 9 ∨ k = 10 by omega) with rfl | rfl | rfl | rfl | rfl | rfl | rfl | rfl | rfl | rfl | rfl
  · exact ⟨m 1 e, PX11_endpoint_2 t1 (by decide) rfl (ix_e he), by rw [g1]; exact PX0_part_1 ke rfl⟩
  · exact ⟨m 2 e, PX11_endpoint_3 t1 (by decide) rfl (ix_e he), by rw [g3]; exact PX0_part_2 ke rfl⟩
  · exact ⟨m 5 e, PX11_endpoint_4 t1 (by decide) rfl (ix_e he), by rw [w1]; exact PX0_part_3 ke rfl⟩
  · exact ⟨m 6 e, PX11_endpoint_5 t1 (by decide) rfl (ix_e he), by rw [w3]; exact PX0_part_4 ke rfl⟩
  · exact ⟨m 7 e, PX11_endpoint_6 t1 (by decide) rfl (ix_e he), by rw [w5]; exact PX0_part_5 ke rfl⟩
  · exact ⟨m 18 e, PX11_endpoint_7 t1 (by decide) rfl (ix_e he), by rw [a3, ← a5, ← e22]; exact PX0_part_6 ke rfl⟩
  · exact ⟨m 13 e, PX11_endpoint_8 t1 (by decide) rfl (ix_e he), by rw [d3, ← d4, ← e5]; exact PX0_part_7 ke rfl⟩
  · obtain ⟨r, r1, r2⟩ := p_wcount he (fun j hj => ⟨(d10 j hj).1, (d10 j hj).2.1⟩)
    exact ⟨r, PX11_endpoint_9 t1 (by decide) rfl r1, PX0_part_8 ke rfl (by rw [e5]; exact r2)⟩
  · exact ⟨m 17 e, PX11_endpoint_10 t1 (by decide) rfl (ix_e he), by rw [d5, ← d6, ← e5]; exact PX0_part_9 ke rfl⟩
  · exact ⟨m 4 e, PX11_endpoint_11 t1 (by decide) rfl (ix_e he), by rw [g4]; exact PX0_part_10 ke rfl⟩
  · rcases w8 with ⟨z1, z2⟩ | ⟨z1, z2, z3, -⟩
    · exact ⟨0, PX11_endpoint_13 t1 (by decide) rfl (PX11_hasOld_2 (ix_e he) (by rw [z2]; decide)) rfl, PX0_part_12 ke rfl z1⟩
    · exact ⟨1, PX11_endpoint_12 t1 (by decide) rfl (PX11_hasOld_1 (ix_e he) (by rw [z2, Int32.lt_iff_toInt_lt]; have : (0 : Int32).toInt = 0 := rfl; omega)) (by decide), PX0_part_11 ke rfl (by rw [z1]; decide)⟩
theorem r_endpoint {s b : Nat} {m S : gm_Mem} (h : Rc s b 0 m S) (x y : Int32) : PairQ 1 2 YX11_endpoint YX10_endpoint [some (.ref 0), some (.int x), some (.int y)] [some (.ref 0), some (.int x), some (.int y)] m S := by
  rcases ep_cases x with ⟨e, he, rfl⟩ | ⟨h0, h1⟩
  · obtain ⟨t1, t2, t3⟩ := p_isEpT (m := m) (S := S) he
    have q6 : 2 + 12 * e = 2 ∨ 2 + 12 * e = 14 := by omega
    have ke : 2 + 12 * e = 2 ∨ 2 + 12 * e = 14 ∨ 2 + 12 * e = 60 ∨ 2 + 12 * e = 72 := by omega
    have wrap : ∀ r : Int32, ¬ y = 11 → gm_run gC 1 YX0_part 0 [some (.ref (2 + 12 * e)), some (.int y)] [] S (some (.int r)) S → gm_run gC 2 YX10_endpoint 0 [some (.ref 0), some (.int (nI e)), some (.int y)] [] S (some (.int r)) S := by
      intro r hy K
      rcases he with rfl | rfl
      · exact PX10_endpoint_4 t2 (by decide) (by decide) q6 t3 K
      · exact PX10_endpoint_3 t2 (by decide) rfl hy q6 t3 K
    rcases sw_cases 11 (by decide) y with ⟨k, hk, rfl⟩ | hy
    · by_cases hk11 : k = 11
      · subst hk11
        rcases he with rfl | rfl
        · have e14 : m 0 35 = S 2 14 := h.2.2.2.2.2.1.2.1
          exact ⟨m 0 35, PX11_endpoint_14 t1 (by decide) rfl rfl, by rw [e14]; exact PX10_endpoint_4 t2 (by decide) (by decide) q6 t3 (PX0_part_13 ke rfl)⟩
        · obtain ⟨i, i1, i2, i3, -⟩ := h.2.2.2.1
          exact ⟨m 0 38, PX11_endpoint_15 t1 (by decide) rfl (by decide), by rw [i2, ← i3]; exact PX10_endpoint_2 t2 (by decide) rfl rfl⟩
      · obtain ⟨r, r1, r2⟩ := p_part h he (show k ≤ 10 by omega)
        exact ⟨r, r1, wrap r (fun z => hk11 ((nI_eq (b := 11) (by omega) (by decide)).mp z)) r2⟩
    · refine ⟨_, PX11_endpoint_16 t1 (by decide) hy, wrap _ (fun z => ?_) (PX0_part_14 ke hy)⟩
      rw [z] at hy
      have : (11 : Int32).toInt = 11 := rfl
      omega
  · obtain ⟨t1, t2⟩ := p_isEpF (m := m) (S := S) h0 h1
    exact ⟨_, PX11_endpoint_1 t1 rfl, PX10_endpoint_1 t2 rfl⟩
theorem r_kept {s b : Nat} {m S : gm_Mem} (hB : s ≤ 1024) (h : Rc s b 0 m S) (x y z : Int32) : PairQ 1 2 YX11_kept YX10_kept [some (.ref 0), some (.int x), some (.int y), some (.int z), none] [some (.ref 0), some (.int x), some (.int y), some (.int z)] m S := by
  rcases ep_cases x with ⟨e, he, rfl⟩ | ⟨h0, h1⟩
  · obtain ⟨t1, t2, t3⟩ := p_isEpT (m := m) (S := S) he
    obtain ⟨n, lo, a1, a2, a3, a4, a5, a6, a7, a8, a9⟩ := (h.re he).2.1
    have q4 : 2 + 12 * e = 2 ∨ 2 + 12 * e = 14 := by omega
    have kp : 4 + 12 * e = 4 ∨ 4 + 12 * e = 16 ∨ 4 + 12 * e = 62 ∨ 4 + 12 * e = 74 := by omega
    have e22 : 2 + 12 * e + 2 = 4 + 12 * e := by omega
    have e1 : 4 + 12 * e + 1 = 5 + 12 * e := by omega
    have e2 : 4 + 12 * e + 2 = 6 + 12 * e := by omega
    have wrap : ∀ r : Int32, gm_run gC 1 YX4_part 0 [some (.ref (4 + 12 * e)), some (.int y), some (.int z)] [] S (some (.int r)) S → gm_run gC 2 YX10_kept 0 [some (.ref 0), some (.int (nI e)), some (.int y), some (.int z)] [] S (some (.int r)) S := fun r K => PX10_kept_2 t2 (by decide) q4 t3 (by rw [e22]; exact K)
    rcases p_range (m := m) (x := y) (n := n) (by omega) a3 with ⟨k, hk, rfl, hb⟩ | ⟨hy, hb⟩
    · obtain ⟨k1, k2, k3, k4, k5⟩ := a9 k hk
      have ixM : gm_ix ((16 * nI e) + nI k) (16 * e + k) 32 := ix_c (nI_16 e k) (by omega) (by decide)
      have ixC : gm_ix (nI k) k 16 := ix_n (by omega) (by decide)
      have c1 : ¬ nI k < 0 := nI_pos (by omega)
      have c2 : nI k < S (4 + 12 * e) 2 := by rw [a5]; exact (nI_ltI (by omega) (by omega)).mpr hk
      have c3 : nI k < 16 := (nI_ltI (b := 16) (by omega) (by decide)).mpr (by omega)
      rcases sw_cases 3 (by decide) z with ⟨j, hj, rfl⟩ | hz
      · rcases (show j = 0 ∨ j = 1 ∨ j = 2 ∨ j = 3 by omega) with rfl | rfl | rfl | rfl
        · refine ⟨_, PX11_kept_2 t1 (by decide) (ix_e he) hb (by decide) rfl ixM, wrap _ ?_⟩
          rw [k1, ← nI_add, ← a6]
          exact PX4_part_2 kp c1 c2 c3 rfl
        · refine ⟨_, PX11_kept_3 t1 (by decide) (ix_e he) hb (by decide) rfl ixM, wrap _ ?_⟩
          rw [k2, ← e1]
          exact PX4_part_3 kp c1 c2 c3 rfl ixC
        · refine ⟨_, PX11_kept_4 t1 (by decide) (ix_e he) hb (by decide) rfl ixM, wrap _ ?_⟩
          rw [k3]
          by_cases hm : m 15 e = -1
          · rw [if_neg (fun q => q.1 hm)]
            exact PX4_part_5 kp c1 c2 c3 rfl (PX4_isClose_3 kp (by rw [a7]; exact hm)) rfl
          · have hc := a8.resolve_left hm
            by_cases hl : k + 1 = n
            · rw [if_pos ⟨hm, hl⟩]
              exact PX4_part_4 (r5 := 1) kp c1 c2 c3 rfl (PX4_isClose_1 kp (by rw [a7]; exact hm) (by rw [a6, a7, hc.2, nI_add, show lo + k = lo + n - 1 by omega])) (by decide)
            · rw [if_neg (fun q => hl q.2)]
              exact PX4_part_5 kp c1 c2 c3 rfl (PX4_isClose_2 kp (by rw [a7]; exact hm) (by rw [a6, a7, hc.2, nI_add, nI_eq (by omega) (by omega)]; omega)) rfl
        · refine ⟨_, PX11_kept_5 t1 (by decide) (ix_e he) hb (by decide) rfl ixM, wrap _ ?_⟩
          rw [k4, ← e2]
          exact PX4_part_6 kp c1 c2 c3 rfl ixC
      · exact ⟨_, PX11_kept_6 t1 (by decide) (ix_e he) hb (by decide) hz, wrap _ (PX4_part_7 kp c1 c2 c3 hz)⟩
    · refine ⟨_, PX11_kept_1 t1 (by decide) (ix_e he) hb rfl, wrap _ ?_⟩
      rcases hy with hy | ⟨hy1, hy2⟩
      · exact PX4_part_9 kp hy
      · exact PX4_part_8 kp hy1 (by rw [a5, ← a3]; exact hy2)
  · obtain ⟨t1, t2⟩ := p_isEpF (m := m) (S := S) h0 h1
    exact ⟨_, PX11_kept_7 t1 rfl, PX10_kept_1 t2 rfl⟩
theorem p_floor : ∀ la, la < 30 → ∀ i, i < 30 → (la < i → (((nI la - nI i) ^^^ 30) < 0 ∧ ¬ gm_rem (nI la - nI i) 30 = 0 ∧ gm_rem (nI la - nI i) 30 + 30 = nI ((la + 30 - i) % 30))) ∧ (i ≤ la → (¬ ((nI la - nI i) ^^^ 30) < 0 ∧ gm_rem (nI la - nI i) 30 = nI ((la + 30 - i) % 30))) := by decide +kernel
theorem r_event {s b : Nat} {m S : gm_Mem} (h : Rc s b 0 m S) (x y : Int32) : PairQ 1 2 YX11_event YX10_event [some (.ref 0), some (.int x), some (.int y)] [some (.ref 0), some (.int x), some (.int y)] m S := by
  obtain ⟨n, la, a1, a2, a3, a4, a5, a6⟩ := h.2.1
  have kp : (55 : Nat) = 55 ∨ (55 : Nat) = 113 := Or.inl rfl
  rcases p_range (m := m) (x := x) (n := n) (by omega) a3 with ⟨i, hi, rfl, hb⟩ | ⟨hx, hb⟩
  · have c1 : ¬ nI i < 0 := nI_pos (by omega)
    have c2 : nI i < S 55 3 := by rw [a4]; exact (nI_ltI (by omega) (by omega)).mpr hi
    have hmod : (la + 30 - i) % 30 < 30 := Nat.mod_lt _ (by decide)
    have hf : gm_run gC 0 YJ9_floorMod_7cf53 0 [some (.int ((S 55 4) - nI i)), some (.int 30), none] [] S (some (.int (nI ((la + 30 - i) % 30)))) S := by
      rw [a5]
      by_cases c : la < i
      · obtain ⟨z1, z2, z3⟩ := (p_floor la a2 i (by omega)).1 c
        have := PJ9_floorMod_7cf53_1 (a1 := nI la - nI i) (a2 := 30) (S := S) (by decide) z1 z2
        rw [z3] at this
        exact this
      · obtain ⟨z1, z2⟩ := (p_floor la a2 i (by omega)).2 (by omega)
        have := PJ9_floorMod_7cf53_3 (a1 := nI la - nI i) (a2 := 30) (S := S) (by decide) z1
        rw [z2] at this
        exact this
    have ixC : gm_ix (nI ((la + 30 - i) % 30)) ((la + 30 - i) % 30) 30 := ix_n hmod (by decide)
    have ixM : ∀ k, k < 3 → gm_ix ((3 * (((m 0 42) - 1) - nI i)) + nI k) (3 * (n - 1 - i) + k) 90 := fun k hk => ix_c (by
      rw [a3]
      show nI 3 * ((nI n - nI 1) - nI i) + nI k = _
      rw [pk_sub (by omega), pk_sub (by omega), pk_mul, nI_add]) (by omega) (by decide)
    obtain ⟨l1, l2, l3⟩ := a6 i hi
    rcases sw_cases 2 (by decide) y with ⟨k, hk, rfl⟩ | hy
    · have hM := PX11_event_2 (a2 := nI k) hb (by decide) (p_betweenT (m := m) (n := 2) (by decide) hk) (by decide) (ixM k (by omega))
      rcases (show k = 0 ∨ k = 1 ∨ k = 2 by omega) with rfl | rfl | rfl
      · rw [Nat.add_zero, l1] at hM
        exact ⟨_, hM, PX10_event_1 (PX2_part_2 kp c1 c2 hf rfl ixC)⟩
      · rw [l2] at hM
        exact ⟨_, hM, PX10_event_1 (PX2_part_3 kp c1 c2 hf rfl ixC)⟩
      · rw [l3] at hM
        exact ⟨_, hM, PX10_event_1 (PX2_part_4 kp c1 c2 hf rfl ixC)⟩
    · exact ⟨_, PX11_event_3 hb (by decide) (p_betweenF (M := 2) rfl hy) rfl, PX10_event_1 (PX2_part_5 kp c1 c2 hf hy)⟩
  · refine ⟨_, PX11_event_1 hb rfl, PX10_event_1 ?_⟩
    rcases hx with hx | ⟨hx1, hx2⟩
    · exact PX2_part_6 kp hx
    · exact PX2_part_1 kp hx1 (by rw [a4, ← a3]; exact hx2)
