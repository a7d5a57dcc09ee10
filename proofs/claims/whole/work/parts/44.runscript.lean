/-! PAIR: runScript, the whole call -/
theorem wB_mono : ∀ A, A ≤ 20 → wB A ≤ 7000 := by decide
theorem r_runScript {s b L : Nat} {m S : gm_Mem} (hs : s + runsF (S 118) L ≤ 512) (hb : b + 7000 < 1000000000) (h : Rc s b 0 m S) (hq : r_scr L m S) : ∃ (r : Int32) (m2 S2 : gm_Mem), gm_run gM 7 YX11_runScript 0 [some (.ref 0), none, none] [] m (some (.int r)) m2 ∧ gm_run gC 7 YX10_runScript 0 [some (.ref 0), none, none, none, none] [] S (some (.int r)) S2 ∧ Rc (s + runsF (S 118) L) (b + 7000) 0 m2 S2 ∧ r_scr 0 m2 S2 ∧ (m2 37 = m 37 ∧ m2 0 55 = m 0 55) ∧ (∀ p, p = 0 ∨ (59 ≤ p ∧ p < 117) → S2 p = S p) := by
  obtain ⟨l1, l2, l3, l4⟩ := hq
  obtain ⟨v, R2, A2, m1, S1, hv, q1, q2, q3, q4, q5, q6, q7, q8⟩ := p_script L L 0 0 (gm_u (gm_u m 0 52 0) 0 53 0) (gm_u (gm_u S 117 6 0) 117 5 0) (by omega) ⟨l1, by omega, by omega, ⟨l2, l3⟩, ⟨rfl, rfl⟩, ⟨rfl, rfl⟩, l4, fun a ha => absurd ha (by omega), Nat.le_refl _, Or.inl rfl⟩
  have fm : r_qm m m1 := (((r_pm.rf.u0 (A := 0) (k := 52) (Or.inl rfl)).u0 (k := 53) (Or.inr rfl)).q).tr q6
  have fc : r_qc S S1 := (((r_pc.rf.u0 (A := 0) (k := 6) (by decide)).u0 (k := 5) (by decide)).q).tr q7
  have tM := PX11_takesScript_1 (S := m) q1
  have tC := PX6_parse_1 (S := S) q2
  have hR : Rc s b 0 (gm_u m1 0 51 0) (gm_u S1 117 4 0) := h.cg (fun p p1 p2 => by rw [show gm_u m1 0 51 0 p = m1 p from by simp [gm_u, p1]]; exact fm.1 p p1 (by omega) (by omega) (by omega)) (fun k hk => by rw [gm_rk (by omega)]; exact fm.2 k (by omega) (by omega)) (fun p p1 p2 => by rw [show gm_u S1 117 4 0 p = S1 p from by simp [gm_u, show p ≠ 117 by omega]]; exact fc.1 p (by omega) (by omega) (by omega) (by omega))
  have k37 : m1 37 = m 37 := fm.1 37 (by decide) (by decide) (by decide) (by decide)
  have k55 : m1 0 55 = m 0 55 := fm.2 55 (by decide) (by decide)
  have kC : ∀ p, p = 0 ∨ (59 ≤ p ∧ p < 117) → S1 p = S p := fun p hp => fc.1 p (by omega) (by omega) (by omega) (by omega)
  have uC : ∀ p, p = 0 ∨ (59 ≤ p ∧ p < 117) → gm_u S1 117 4 0 p = S p := fun p hp => by rw [show gm_u S1 117 4 0 p = S1 p from by simp [gm_u, show p ≠ 117 by omega]]; exact kC p hp
  rcases hv with rfl | rfl
  · have hM := PX11_runScript_1 tM rfl
    have hC := PX10_runScript_1 tC rfl
    rw [q3] at hM
    rw [q4] at hC
    exact ⟨_, _, _, hM, hC, hR.le (Nat.le_add_right _ _) (by omega), ⟨by omega, rfl, rfl, fun i hi => absurd hi (by omega)⟩, ⟨k37, k55⟩, uC⟩
  · obtain ⟨a1, a2, a3, a4, a5⟩ := q8 rfl
    have a5' : cntS (m1 34) A2 ≤ runsF (S 118) L := a5
    have hw := wB_mono A2 a1
    have hb2 : b + wB A2 < 1000000000 := by omega
    obtain ⟨r, m2, S2, t1, t2, t3, t4, t5⟩ := r_loop (A := A2) (x1 := 1) (y1 := 1) a1 A2 0 s b (gm_u m1 0 51 0) (gm_u S1 117 4 0) (by omega) (by show s + cntS (m1 34) A2 ≤ 512 + 0; omega) hb2 hR a2 a3 a4
    have hle : s + (cntS (gm_u m1 0 51 0 34) A2 - cntS (gm_u m1 0 51 0 34) 0) ≤ s + runsF (S 118) L := by
      show s + (cntS (m1 34) A2 - 0) ≤ _
      omega
    refine ⟨r, m2, S2, PX11_runScript_2 tM (by decide) t1, PX10_runScript_2 tC (by decide) t2, t3.le hle (by omega), ⟨by omega, ?_, ?_, fun i hi => absurd hi (by omega)⟩, ⟨t4.2.2.2.2.1.trans k37, t4.2.2.2.2.2.2.2.2.trans k55⟩, fun p hp => ?_⟩
    · rw [t4.2.2.2.2.2.1]
      rfl
    · rw [t5.1 117 (by decide) (by decide)]
      rfl
    · rcases hp with rfl | hp
      · rw [t5.2]
        exact uC 0 (Or.inl rfl)
      · rw [t5.1 p (by omega) (by omega)]
        exact uC p (Or.inr hp)
