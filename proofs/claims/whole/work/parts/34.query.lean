/-! PAIRS: the queries packet, count, results, taken, endpoint, kept, event -/
abbrev PairQ (kM kC : Nat) (yM yC : gm_Y) (LM LC : List (Option Value)) (m S : gm_Mem) : Prop := ∃ r : Int32, gm_run gM kM yM 0 LM [] m (some (.int r)) m ∧ gm_run gC kC yC 0 LC [] S (some (.int r)) S
theorem sw_cases (n : Nat) (hn : n < 2 ^ 31) (x : Int32) : (∃ k, k ≤ n ∧ x = nI k) ∨ (x.toInt < 0 ∨ (n : Int) < x.toInt) := by
  by_cases h : x < 0
  · right; left
    have : (0 : Int32).toInt = 0 := rfl
    rw [Int32.lt_iff_toInt_lt] at h
    omega
  · obtain ⟨k, k1, rfl⟩ := nI_of h
    by_cases hk : k ≤ n
    · exact Or.inl ⟨k, hk, rfl⟩
    · right; right
      rw [nI_toInt k1]
      omega
theorem p_betweenT {m : gm_Mem} {n k : Nat} (hn : n < 2 ^ 31) (hk : k ≤ n) : gm_run gM 0 YX11_isBetween 0 [some (.int (nI k)), some (.int 0), some (.int (nI n))] [] m (some (.int 1)) m := by
  have hb := p_between m (nI k) 0 (nI n)
  rw [b2i_t ⟨nI_pos (by omega), fun z => by have := (nI_ltI (by omega) (by omega)).mp z; omega⟩] at hb
  exact hb
theorem p_betweenF {m : gm_Mem} {x M : Int32} {n : Int} (hM : M.toInt = n) (hx : x.toInt < 0 ∨ n < x.toInt) : gm_run gM 0 YX11_isBetween 0 [some (.int x), some (.int 0), some (.int M)] [] m (some (.int 0)) m := by
  have hb := p_between m x 0 M
  have z0 : (0 : Int32).toInt = 0 := rfl
  rw [b2i_f (fun z => by
    rw [Int32.lt_iff_toInt_lt, Int32.lt_iff_toInt_lt] at z
    omega)] at hb
  exact hb
theorem r_packet {s b : Nat} {m S : gm_Mem} (h : Rc s b 0 m S) (x y : Int32) : PairQ 1 1 YX11_packet YX10_packet [some (.ref 0), some (.int x), some (.int y)] [some (.ref 0), some (.int x), some (.int y), none] m S := by
  rcases p_packet h.2.2.1 x with ⟨q1, q2⟩ | ⟨i, n, q, h1, h2, rfl, h3, h4, h5, h6, q1, q2, h7, h8⟩
  · exact ⟨_, PX11_packet_1 q1 rfl, PX10_packet_2 q2⟩
  · have kq : (28 ≤ q ∧ q < 52) ∨ (86 ≤ q ∧ q < 110) ∨ q = 122 := Or.inl h5
    rcases sw_cases 8 (by decide) y with ⟨k, hk, rfl⟩ | hy
    · have hat := p_at (m := m) (pos := i) (k := k) (by omega) (by omega)
      rw [← h7 k (by omega)] at hat
      refine ⟨S q k, PX11_packet_2 q1 (by decide) (p_betweenT (n := 8) (by decide) hk) (by decide) hat, PX10_packet_1 h5 q2 ?_⟩
      rcases (show k = 0 ∨ k = 1 ∨ k = 2 ∨ k = 3 ∨ k = 4 ∨ k = 5 ∨ k = 6 ∨ k = 7 ∨ k = 8 by omega) with rfl | rfl | rfl | rfl | rfl | rfl | rfl | rfl | rfl
      · exact PX5_part_1 kq rfl
      · exact PX5_part_2 kq rfl
      · exact PX5_part_3 kq rfl
      · exact PX5_part_4 kq rfl
      · exact PX5_part_5 kq rfl
      · exact PX5_part_6 kq rfl
      · exact PX5_part_7 kq rfl
      · exact PX5_part_8 kq rfl
      · exact PX5_part_9 kq rfl
    · exact ⟨_, PX11_packet_3 q1 (by decide) (p_betweenF (M := 8) rfl hy) rfl, PX10_packet_1 h5 q2 (PX5_part_10 kq hy)⟩
theorem r_count {s b : Nat} {m S : gm_Mem} (h : Rc s b 0 m S) (hlen : m 0 51 = S 117 4) (x : Int32) : PairQ 0 0 YX11_count YX10_count [some (.ref 0), some (.int x)] [some (.ref 0), some (.int x)] m S := by
  obtain ⟨⟨s1, s2, s3, s4, s5, s6, s7, s8, s9⟩, hl, ⟨n, pi, n1, n2, n3, -⟩, -⟩ := h
  rcases sw_cases 7 (by decide) x with ⟨k, hk, rfl⟩ | hy
  · rcases (show k = 0 ∨ k = 1 ∨ k = 2 ∨ k = 3 ∨ k = 4 ∨ k = 5 ∨ k = 6 ∨ k = 7 by omega) with rfl | rfl | rfl | rfl | rfl | rfl | rfl | rfl
    · exact ⟨S 26 1, by rw [n3, ← n2]; exact PX11_count_1 rfl, PX10_count_1 rfl⟩
    · exact ⟨S 1 10, by rw [← s6]; exact PX11_count_2 rfl, PX10_count_2 rfl⟩
    · exact ⟨S 1 11, by rw [← s7]; exact PX11_count_3 rfl, PX10_count_3 rfl⟩
    · exact ⟨S 1 12, by rw [← s8]; exact PX11_count_4 rfl, PX10_count_4 rfl⟩
    · exact ⟨S 1 13, by rw [← s9]; exact PX11_count_5 rfl, PX10_count_5 rfl⟩
    · exact ⟨S 1 8, by rw [← s5.1]; exact PX11_count_6 rfl, PX10_count_6 rfl⟩
    · exact ⟨S 117 4, by rw [← hlen]; exact PX11_count_7 rfl, PX10_count_7 rfl⟩
    · exact ⟨S 1 9, by rw [← s4]; exact PX11_count_8 rfl, PX10_count_8 rfl⟩
  · exact ⟨_, PX11_count_9 hy, PX10_count_9 hy⟩
theorem r_results {s b : Nat} {m S : gm_Mem} (h : Rc s b 0 m S) (x y : Int32) : PairQ 1 1 YX11_results YX10_results [some (.ref 0), some (.int x), some (.int y)] [some (.ref 0), some (.int x), some (.int y)] m S := by
  rcases ep_cases x with ⟨e, he, rfl⟩ | ⟨h0, h1⟩
  · obtain ⟨t1, t2, t3⟩ := p_isEpT (m := m) (S := S) he
    rcases sw_cases 8 (by decide) y with ⟨k, hk, rfl⟩ | hy
    · have c1 : ¬ nI k < 0 := nI_pos (by omega)
      have c2 : nI k < 9 := (nI_ltI (b := 9) (by omega) (by decide)).mpr (by omega)
      have hr := h.2.2.2.2.1 k (by omega)
      refine ⟨m 32 (9 * e + k), PX11_results_1 t1 (by decide) (p_betweenT (n := 8) (by decide) hk) (by decide) (ix_c (by show nI 9 * nI e + nI k = _; rw [pk_mul, nI_add]) (by omega) (by decide)), ?_⟩
      have hC := PX10_results_2 (q6 := 2 + 12 * e) t2 (by decide) c1 c2 (by omega) t3 (ix_n (j := k) (by omega) (by decide))
      have e3 : S (2 + 12 * e + 1) k = m 32 (9 * e + k) := by
        rcases he with rfl | rfl
        · show S 3 k = m 32 (9 * 0 + k)
          rw [show 9 * 0 + k = k by omega]
          exact hr.1.symm
        · exact hr.2.symm
      rw [e3] at hC
      exact hC
    · have hM := PX11_results_2 t1 (by decide) (p_betweenF (m := m) (M := 8) rfl hy) rfl
      rcases hy with hy | hy
      · exact ⟨_, hM, PX10_results_3 t2 (by decide) (by rw [Int32.lt_iff_toInt_lt]; have : (0 : Int32).toInt = 0 := rfl; omega)⟩
      · refine ⟨_, hM, PX10_results_1 t2 (by decide) (fun z => ?_) (fun z => ?_)⟩
        · rw [Int32.lt_iff_toInt_lt] at z
          have : (0 : Int32).toInt = 0 := rfl
          omega
        · rw [Int32.lt_iff_toInt_lt] at z
          have : (9 : Int32).toInt = 9 := rfl
          omega
  · obtain ⟨t1, t2⟩ := p_isEpF (m := m) (S := S) h0 h1
    exact ⟨_, PX11_results_3 t1 rfl, PX10_results_4 t2 rfl⟩
theorem last_toInt {n : Nat} (hn : n < 2 ^ 30) : (nI n - 1).toInt = (n : Int) - 1 := pk_sub_toInt (a := n) (b := 1) hn (by decide)
theorem p_range {m : gm_Mem} {n : Nat} {x v : Int32} (hn : n < 2 ^ 30) (hv : v = nI n) : (∃ k, k < n ∧ x = nI k ∧ gm_run gM 0 YX11_isBetween 0 [some (.int x), some (.int 0), some (.int (v - 1))] [] m (some (.int 1)) m) ∨ ((x < 0 ∨ (¬ x < 0 ∧ ¬ x < v)) ∧ gm_run gM 0 YX11_isBetween 0 [some (.int x), some (.int 0), some (.int (v - 1))] [] m (some (.int 0)) m) := by
  subst hv
  have hb := p_between m x 0 (nI n - 1)
  by_cases c1 : x < 0
  · right
    rw [b2i_f (fun z => z.1 c1)] at hb
    exact ⟨Or.inl c1, hb⟩
  · obtain ⟨k, k1, rfl⟩ := nI_of c1
    by_cases c2 : k < n
    · left
      rw [b2i_t ⟨c1, fun z => by rw [Int32.lt_iff_toInt_lt, last_toInt hn, nI_toInt k1] at z; omega⟩] at hb
      exact ⟨k, c2, rfl, hb⟩
    · right
      rw [b2i_f (fun z => z.2 (by rw [Int32.lt_iff_toInt_lt, last_toInt hn, nI_toInt k1]; omega))] at hb
      exact ⟨Or.inr ⟨c1, by rw [nI_ltI k1 (by omega)]; exact c2⟩, hb⟩
theorem r_takenQ {s b : Nat} {m S : gm_Mem} (hB : s ≤ 512) (h : Rc s b 0 m S) (x y : Int32) : PairQ 1 1 YX11_taken YX10_taken [some (.ref 0), some (.int x), some (.int y)] [some (.ref 0), some (.int x), some (.int y)] m S := by
  rcases ep_cases x with ⟨e, he, rfl⟩ | ⟨h0, h1⟩
  · obtain ⟨t1, t2, t3⟩ := p_isEpT (m := m) (S := S) he
    obtain ⟨ex, t, a1, a2, a3, a4, a5, a6, a7, a8, a9, -⟩ := (h.re he).2.2.1
    have kp : 2 + 12 * e + 5 = 7 ∨ 2 + 12 * e + 5 = 19 ∨ 2 + 12 * e + 5 = 65 ∨ 2 + 12 * e + 5 = 77 := by omega
    have e5 : 2 + 12 * e + 5 = 7 + 12 * e := by omega
    have e6 : 2 + 12 * e + 5 + 1 = 8 + 12 * e := by omega
    rcases p_range (m := m) (x := y) (n := t) (by omega) a5 with ⟨k, hk, rfl, hb⟩ | ⟨hy, hb⟩
    · refine ⟨m 19 (1200 * e + k), PX11_taken_1 t1 (by decide) (ix_e he) hb (by decide) (ix_c (by show nI 1200 * nI e + nI k = _; rw [pk_mul, nI_add]) (by omega) (by decide)), PX10_taken_2 (q4 := 2 + 12 * e) t2 (by decide) (by omega) t3 ?_⟩
      have hC := PX1_valueAt_2 (p := 2 + 12 * e + 5) (a1 := nI k) (S := S) (j4 := k) kp (nI_pos (by omega)) (by rw [e5, a6]; exact (nI_ltI (by omega) (by omega)).mpr hk) ((nI_ltI (b := 512) (by omega) (by decide)).mpr (by omega)) (ix_n (by omega) (by decide))
      rw [e6, ← a9 k hk] at hC
      exact hC
    · refine ⟨_, PX11_taken_2 t1 (by decide) (ix_e he) hb rfl, PX10_taken_2 (q4 := 2 + 12 * e) t2 (by decide) (by omega) t3 ?_⟩
      rcases hy with hy | ⟨hy1, hy2⟩
      · exact PX1_valueAt_4 kp hy
      · exact PX1_valueAt_3 kp hy1 (by rw [e5, a6, ← a5]; exact hy2)
  · obtain ⟨t1, t2⟩ := p_isEpF (m := m) (S := S) h0 h1
    exact ⟨_, PX11_taken_3 t1 rfl, PX10_taken_1 t2 rfl⟩
