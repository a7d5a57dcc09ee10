/-! PAIRS: window, agree -/
theorem p_asNumber {S : gm_Mem} {p : Nat} {hi ac : Int32} (kp : p = 12 ∨ p = 13 ∨ p = 24 ∨ p = 25 ∨ p = 70 ∨ p = 71 ∨ p = 82 ∨ p = 83) (h : r_wn hi ac (S p 0) (S p 1)) : (hi < 0 ∧ gm_run gC 0 YX8_asNumber 0 [some (.ref p)] [] S (some (.int (-1))) S) ∨ (¬ hi < 0 ∧ gm_run gC 0 YX8_asNumber 0 [some (.ref p)] [] S (some (.int ((256 * hi) + ac))) S) := by
  rcases h with ⟨h1, h2⟩ | ⟨t, a, w1, w2, w3, w4, w5, w6, w7⟩
  · exact Or.inl ⟨by rw [h1]; decide, PX8_asNumber_1 kp h2⟩
  · refine Or.inr ⟨by rw [w4]; exact nI_pos (by omega), ?_⟩
    have q := PX8_asNumber_2 (p := p) (S := S) kp (by rw [w7]; exact nI_ne0 (by omega) (by omega))
    rw [w5, w7, Int32.mul_comm] at q
    rw [w4, w6]
    exact q
theorem r_window {s b : Nat} {m S : gm_Mem} (h : Rc s b 0 m S) (x y : Int32) : PairQ 1 1 YX11_window YX10_window [some (.ref 0), some (.int x), some (.int y), none] [some (.ref 0), some (.int x), some (.int y), none] m S := by
  rcases ep_cases x with ⟨e, he, rfl⟩ | ⟨h0, h1⟩
  · obtain ⟨t1, t2, t3⟩ := p_isEpT (m := m) (S := S) he
    obtain ⟨w1, w2, w3, w4, w5, w6, w7, w8⟩ := (h.re he).2.2.2
    have q6 : 2 + 12 * e = 2 ∨ 2 + 12 * e = 14 := by omega
    have kw : 2 + 12 * e + 10 = 12 ∨ 2 + 12 * e + 10 = 13 ∨ 2 + 12 * e + 10 = 24 ∨ 2 + 12 * e + 10 = 25 ∨ 2 + 12 * e + 10 = 70 ∨ 2 + 12 * e + 10 = 71 ∨ 2 + 12 * e + 10 = 82 ∨ 2 + 12 * e + 10 = 83 := by omega
    have kv : 2 + 12 * e + 11 = 12 ∨ 2 + 12 * e + 11 = 13 ∨ 2 + 12 * e + 11 = 24 ∨ 2 + 12 * e + 11 = 25 ∨ 2 + 12 * e + 11 = 70 ∨ 2 + 12 * e + 11 = 71 ∨ 2 + 12 * e + 11 = 82 ∨ 2 + 12 * e + 11 = 83 := by omega
    have e10 : 2 + 12 * e + 10 = 12 + 12 * e := by omega
    have e11 : 2 + 12 * e + 11 = 13 + 12 * e := by omega
    rcases sw_cases 1 (by decide) y with ⟨k, hk, rfl⟩ | hy
    · have hb := p_betweenT (m := m) (n := 1) (k := k) (by decide) hk
      rcases (show k = 0 ∨ k = 1 by omega) with rfl | rfl
      · rcases p_asNumber (S := S) (p := 2 + 12 * e + 10) (hi := m 8 e) (ac := m 9 e) kw (by rw [e10]; exact w7) with ⟨z1, z2⟩ | ⟨z1, z2⟩
        · exact ⟨_, PX11_window_7 t1 (by decide) hb (by decide) (by decide) rfl (ix_e he) z1, PX10_window_2 t2 (by decide) (by decide) (by decide) q6 t3 rfl z2⟩
        · exact ⟨_, PX11_window_8 t1 (by decide) hb (by decide) (by decide) rfl (ix_e he) z1, PX10_window_2 t2 (by decide) (by decide) (by decide) q6 t3 rfl z2⟩
      · rcases w8 with ⟨v1, v2⟩ | ⟨v1, v2, v3, v4⟩
        · exact ⟨_, PX11_window_2 t1 (by decide) hb (by decide) rfl (PX11_hasOld_2 (ix_e he) (by rw [v2]; decide)) rfl, PX10_window_4 t2 (by decide) (by decide) (by decide) q6 t3 (by decide) v1⟩
        · have ho := PX11_hasOld_1 (a1 := nI e) (S := m) (ix_e he) (by rw [v2, Int32.lt_iff_toInt_lt]; have : (0 : Int32).toInt = 0 := rfl; omega)
          have n6 : ¬ S (2 + 12 * e) 6 = 0 := by rw [v1]; decide
          rcases p_asNumber (S := S) (p := 2 + 12 * e + 11) (hi := m 10 e) (ac := m 11 e) kv (by rw [e11]; exact v4) with ⟨z1, z2⟩ | ⟨z1, z2⟩
          · exact ⟨_, PX11_window_5 t1 (by decide) hb (by decide) rfl ho (by decide) (by decide) (ix_e he) z1, PX10_window_3 t2 (by decide) (by decide) (by decide) q6 t3 (by decide) n6 z2⟩
          · exact ⟨_, PX11_window_6 t1 (by decide) hb (by decide) rfl ho (by decide) (by decide) (ix_e he) z1, PX10_window_3 t2 (by decide) (by decide) (by decide) q6 t3 (by decide) n6 z2⟩
    · have hM := PX11_window_1 t1 (by decide) (p_betweenF (m := m) (M := 1) rfl hy) rfl
      by_cases c : y < 0
      · exact ⟨_, hM, PX10_window_5 t2 (by decide) c⟩
      · refine ⟨_, hM, PX10_window_1 t2 (by decide) c ?_⟩
        rw [Int32.lt_iff_toInt_lt] at c ⊢
        have z0 : (0 : Int32).toInt = 0 := rfl
        have z1 : (1 : Int32).toInt = 1 := rfl
        omega
  · obtain ⟨t1, t2⟩ := p_isEpF (m := m) (S := S) h0 h1
    exact ⟨_, PX11_window_11 t1 rfl, PX10_window_6 t2 rfl⟩
theorem r_agree {s b : Nat} {m S : gm_Mem} (h : Rc s b 0 m S) : PairQ 0 0 YX11_agree YX10_agree [some (.ref 0)] [some (.ref 0), none, none, none] m S := by
  obtain ⟨a1, -, a3, a4, -⟩ := (h.re (e := 0) (Or.inl rfl)).1
  obtain ⟨b1, -, b3, b4, -⟩ := (h.re (e := 1) (Or.inr rfl)).1
  have x1 : m 1 0 = S 2 8 := a1
  have x2 : m 1 1 = S 14 8 := b1
  have x3 : m 2 0 = S 2 9 := a3
  have x4 : m 2 1 = S 14 9 := b3
  have x5 : m 4 0 = S 2 10 := a4
  have x6 : m 4 1 = S 14 10 := b4
  by_cases c1 : m 1 0 = 3
  · by_cases c2 : m 1 1 = 3
    · by_cases c3 : m 2 0 = m 2 1
      · by_cases c4 : m 4 0 = m 4 1
        · exact ⟨_, PX11_agree_1 c1 c2 c3 c4, PX10_agree_1 (x1 ▸ c1) (x2 ▸ c2) (by rw [← x3, ← x4]; exact c3) (by rw [← x5, ← x6]; exact c4)⟩
        · exact ⟨_, PX11_agree_2 c1 c2 c3 c4, PX10_agree_2 (x1 ▸ c1) (x2 ▸ c2) (by rw [← x3, ← x4]; exact c3) (by rw [← x5, ← x6]; exact c4)⟩
      · exact ⟨_, PX11_agree_3 c1 c2 c3, PX10_agree_3 (x1 ▸ c1) (x2 ▸ c2) (by rw [← x3, ← x4]; exact c3)⟩
    · exact ⟨_, PX11_agree_4 c1 c2, PX10_agree_4 (x1 ▸ c1) (x2 ▸ c2)⟩
  · exact ⟨_, PX11_agree_5 c1, PX10_agree_5 (x1 ▸ c1)⟩
