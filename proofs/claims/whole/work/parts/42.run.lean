/-! PAIR: runScript -/
theorem cntS_mono {f : Nat → Int32} {i : Nat} : ∀ d, cntS f i ≤ cntS f (i + d) := by
  intro d
  induction d with
  | zero => exact Nat.le_refl _
  | succ d ih =>
    refine Nat.le_trans ih ?_
    show cntS f (i + d) ≤ cntS f (i + d) + _
    exact Nat.le_add_right _ _
def wB : Nat → Nat
  | 0 => 0
  | d + 1 => wB d + 350
theorem r_loop {A : Nat} {x1 y1 : Int32} (hA : A ≤ 20) : ∀ d j s b (m S : gm_Mem), j + d = A → s + cntS (m 34) A ≤ 512 + cntS (m 34) j → b + wB d < 1000000000 → Rc s b 0 m S → m 0 53 = nI A → S 117 5 = nI A → (∀ a, a < A → m 34 a = S 119 a ∧ m 35 a = S 121 a ∧ (m 34 a = 115 → m 36 a = S 120 a)) →
    ∃ (r : Int32) (m2 S2 : gm_Mem), gm_run gM 7 YX11_runScript 25 [some (.ref 0), some (.int x1), some (.int (nI j))] [] m (some (.int r)) m2 ∧ gm_run gC 7 YX10_runScript 34 [some (.ref 0), some (.int y1), some (.int (nI j)), none, none] [] S (some (.int r)) S2 ∧ Rc (s + (cntS (m 34) A - cntS (m 34) j)) (b + wB d) 0 m2 S2 ∧ r_FN m m2 ∧ r_FD S S2 := by
  intro d
  induction d with
  | zero =>
    intro j s b m S hj hs hb h n53 n5 ha
    have hn : ¬ nI j < nI A := by rw [nI_ltI (by omega) (by omega)]; omega
    have hC := PX10_runScript_16 (x1 := y1) (x2 := nI j) (S := S) (by rw [n5]; exact hn)
    rw [n5, show A = j by omega] at hC
    exact ⟨nI j, m, S, PX11_runScript_5 (by rw [n53]; exact hn), hC, h.le (Nat.le_add_right _ _) (by omega), r_FM.rf.fn, r_FC.rf.fd⟩
  | succ d ih =>
    intro j s b m S hj hs hb h n53 n5 ha
    have hlt : nI j < nI A := (nI_ltI (by omega) (by omega)).mpr (by omega)
    obtain ⟨e34, e35, e36⟩ := ha j (by omega)
    have hm : cntS (m 34) (j + 1) ≤ cntS (m 34) A := by
      have := cntS_mono (f := m 34) (i := j + 1) (A - (j + 1))
      rw [show j + 1 + (A - (j + 1)) = A by omega] at this
      exact this
    have hstep : cntS (m 34) (j + 1) = cntS (m 34) j + (if m 34 j = 115 then 1 else 0) := rfl
    have hB : s + 1 ≤ 512 ∨ (s ≤ 512 ∧ ¬ m 34 j = 115) := by
      by_cases c : m 34 j = 115
      · left
        rw [if_pos c] at hstep
        omega
      · right
        exact ⟨by omega, c⟩
    have hw : wB (d + 1) = wB d + 350 := rfl
    rw [hw] at hb ⊢
    have hb1 : b + 350 < 1000000000 := Nat.lt_of_le_of_lt (by omega) hb
    have hb2 : b + 350 + wB d < 1000000000 := by rw [Nat.add_assoc, Nat.add_comm 350]; exact hb
    have hb3 : b + 350 + wB d ≤ b + (wB d + 350) := by omega
    have hb4 : b + 350 ≤ b + (wB d + 350) := by omega
    have hj20 : j < 20 := by omega
    have hc1 : nI j < S 117 5 := by rw [n5]; exact hlt
    obtain ⟨r, v, m1, S1, hv, q1, q2, q3, q4, q5, q6⟩ := p_does (j := j) hB hb1 h hj20 hc1 e34 e35 e36
    have k34 : m1 34 = m 34 := q5.2.1
    have k35 : m1 35 = m 35 := q5.2.2.1
    have k36 : m1 36 = m 36 := q5.2.2.2.1
    have k53 : m1 0 53 = m 0 53 := q5.2.2.2.2.2.2.2.1
    have kC : ∀ p, 117 ≤ p → p ≠ 122 → S1 p = S p := fun p hp h2 => q6.1 p (by omega) h2
    rcases hv with rfl | rfl
    · obtain ⟨r2, m2, S2, t1, t2, t3, t4, t5⟩ := ih (j + 1) (s + (if m 34 j = 115 then 1 else 0)) (b + 350) m1 S1 (by omega) (by rw [k34]; omega) hb2 q4 (k53.trans n53) (by rw [kC 117 (by decide) (by decide)]; exact n5) (fun a haa => by rw [k34, k35, k36, kC 119 (by decide) (by decide), kC 120 (by decide) (by decide), kC 121 (by decide) (by decide)]; exact ha a haa)
      rw [k34] at t3
      exact ⟨r2, m2, S2, PX11_runScript_3 (by rw [n53]; exact hlt) q1 (q2 m1) rfl (by rw [nI_1]; exact t1), q3.2 rfl y1 _ _ t2, t3.le (by omega) hb3, q5.tr t4, q6.tr t5⟩
    · exact ⟨nI j, m1, S1, PX11_runScript_4 (by rw [n53]; exact hlt) q1 (q2 m1) (by decide), q3.1 rfl y1, q4.le (by omega) hb4, q5, q6⟩
