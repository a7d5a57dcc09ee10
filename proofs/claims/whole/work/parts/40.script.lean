/-! PAIR: takesScript / parse -/
def runsF (tx : Nat → Int32) : Nat → Nat
  | 0 => 0
  | i + 1 => runsF tx i + (if tx i = 115 ∧ (i = 0 ∨ ¬ tx (i - 1) = 115) then 1 else 0)
def cntS (rw34 : Nat → Int32) : Nat → Nat
  | 0 => 0
  | a + 1 => cntS rw34 a + (if rw34 a = 115 then 1 else 0)
theorem runsF_mono {tx : Nat → Int32} {i : Nat} : ∀ d, runsF tx i ≤ runsF tx (i + d) := by
  intro d
  induction d with
  | zero => exact Nat.le_refl _
  | succ d ih =>
    refine Nat.le_trans ih ?_
    show runsF tx (i + d) ≤ runsF tx (i + d) + _
    exact Nat.le_add_right _ _
theorem cntS_cg {f g : Nat → Int32} : ∀ A, (∀ a, a < A → g a = f a) → cntS g A = cntS f A := by
  intro A
  induction A with
  | zero => intro _; rfl
  | succ A ih =>
    intro h
    show cntS g A + _ = cntS f A + _
    rw [ih (fun a ha => h a (by omega)), h A (by omega)]
def r_ps (L R A : Nat) (m S : gm_Mem) : Prop := L ≤ 40 ∧ R ≤ L ∧ 2 * A ≤ R ∧ (m 0 51 = nI L ∧ S 117 4 = nI L) ∧ (m 0 52 = nI R ∧ S 117 6 = nI R) ∧ (m 0 53 = nI A ∧ S 117 5 = nI A) ∧ (∀ i, i < L → m 33 i = S 118 i) ∧ (∀ a, a < A → m 34 a = S 119 a ∧ m 35 a = S 121 a ∧ (m 34 a = 115 → m 36 a = S 120 a)) ∧ cntS (m 34) A ≤ runsF (S 118) R ∧ (R = 0 ∨ S 118 (R - 1) = 59)
def r_qm (m m2 : gm_Mem) : Prop := (∀ p, p ≠ 0 → p ≠ 34 → p ≠ 35 → p ≠ 36 → m2 p = m p) ∧ ∀ k, k ≠ 52 → k ≠ 53 → m2 0 k = m 0 k
def r_qc (S S2 : gm_Mem) : Prop := (∀ p, p ≠ 117 → p ≠ 119 → p ≠ 120 → p ≠ 121 → S2 p = S p) ∧ S2 117 4 = S 117 4
theorem r_qm.tr {a b c : gm_Mem} (h : r_qm a b) (k : r_qm b c) : r_qm a c := ⟨fun p h1 h2 h3 h4 => (k.1 p h1 h2 h3 h4).trans (h.1 p h1 h2 h3 h4), fun j h1 h2 => (k.2 j h1 h2).trans (h.2 j h1 h2)⟩
theorem r_qc.tr {a b c : gm_Mem} (h : r_qc a b) (k : r_qc b c) : r_qc a c := ⟨fun p h1 h2 h3 h4 => (k.1 p h1 h2 h3 h4).trans (h.1 p h1 h2 h3 h4), k.2.trans h.2⟩
theorem r_pm.q {A : Nat} {a b : gm_Mem} (h : r_pm A a b) : r_qm a b := ⟨h.1, h.2.1⟩
theorem r_pc.q {A : Nat} {a b : gm_Mem} (h : r_pc A a b) : r_qc a b := ⟨h.1, h.2.1⟩
theorem p_script : ∀ d L R A (m S : gm_Mem), L - R ≤ d → r_ps L R A m S → ∃ (v : Int32) (R2 A2 : Nat) (m2 S2 : gm_Mem), (v = 0 ∨ v = 1) ∧ gm_run gM 4 YX11_takesScript 10 [some (.ref 0)] [] m (some (.int v)) m2 ∧ gm_run gC 4 YX6_parse 12 [some (.ref 117), some (.int (nI A))] [] S (some (.int v)) S2 ∧ m2 0 52 = nI R2 ∧ S2 117 6 = nI R2 ∧ R2 ≤ 40 ∧ r_qm m m2 ∧ r_qc S S2 ∧
    (v = 1 → A2 ≤ 20 ∧ m2 0 53 = nI A2 ∧ S2 117 5 = nI A2 ∧ (∀ a, a < A2 → m2 34 a = S2 119 a ∧ m2 35 a = S2 121 a ∧ (m2 34 a = 115 → m2 36 a = S2 120 a)) ∧ cntS (m2 34) A2 ≤ runsF (S 118) L) := by
  intro d
  induction d with
  | zero =>
    intro L R A m S hd h
    obtain ⟨hL, hR, hA, ⟨m51, s4⟩, ⟨m52, s6⟩, ⟨m53, s5⟩, ht, ha, hc, hp⟩ := h
    have hRL : ¬ R < L := by omega
    have hC := p_hereC hL (show R ≤ 40 by omega) s4 s6
    have e : hr L R (S 118) = -1 := by unfold hr; rw [if_neg hRL]
    rw [e] at hC
    have qM : gm_run gM 3 YX11_takesAction 0 [some (.ref 0), none] [] m (some (.int 0)) m := PX11_takesAction_2 (by rw [m51, m52, nI_ltI (by omega) (by omega)]; exact hRL) (PX11_takesAction_3 (by decide) (by decide) (by decide) (by decide) (by decide))
    have qC : gm_run gC 3 YX6_readAction 0 [some (.ref 117), none, none, none] [] S (some (.int 0)) S := PX6_readAction_1 hC (by decide) (by decide) (by decide) (by decide) (by decide)
    exact ⟨0, R, 0, m, S, Or.inl rfl, PX11_takesScript_5 qM rfl, PX6_parse_5 ((nI_ltI (b := 40) (by omega) (by decide)).mpr (by omega)) qC rfl, m52, s6, by omega, r_pm.rf.q (A := 0), r_pc.rf.q (A := 0), fun z => absurd z (by decide)⟩
  | succ d ih =>
    intro L R A m S hd h
    obtain ⟨hL, hR, hA, ⟨m51, s4⟩, ⟨m52, s6⟩, ⟨m53, s5⟩, ht, ha, hc, hp⟩ := h
    by_cases hRL : R < L
    · have cA : nI A < 40 := (nI_ltI (b := 40) (by omega) (by decide)).mpr (by omega)
      obtain ⟨v, R2, m1, S1, w1, w2, w3, w4, w5, w6, w7, w8, w9, w10⟩ := p_action hL hR (show A < 20 by omega) m51 m52 m53 s4 s6 s5 ht
      rcases w1 with rfl | rfl
      · exact ⟨0, R2, 0, m1, S1, Or.inl rfl, PX11_takesScript_5 w2 rfl, PX6_parse_5 cA w3 rfl, w4, w5, by omega, w8.q, w9.q, fun z => absurd z (by decide)⟩
      · obtain ⟨y0, y1, y2, y3, y4, y5, y6⟩ := w10 rfl
        have n51 : m1 0 51 = nI L := (w8.2.1 51 (by decide) (by decide)).trans m51
        have n4 : S1 117 4 = nI L := w9.2.1.trans s4
        have t118 : S1 118 = S 118 := w9.1 118 (by decide) (by decide) (by decide) (by decide)
        have t33 : m1 33 = m 33 := w8.1 33 (by decide) (by decide) (by decide) (by decide)
        have hacts : ∀ a, a < A + 1 → m1 34 a = S1 119 a ∧ m1 35 a = S1 121 a ∧ (m1 34 a = 115 → m1 36 a = S1 120 a) := by
          intro a haa
          by_cases hae : a = A
          · subst hae
            exact ⟨y3, y4, y6⟩
          · rw [w8.2.2 34 a (by decide) hae, w8.2.2 35 a (by decide) hae, w8.2.2 36 a (by decide) hae, w9.2.2 119 a (by decide) hae, w9.2.2 120 a (by decide) hae, w9.2.2 121 a (by decide) hae]
            exact ha a (by omega)
        have hcnt : cntS (m1 34) (A + 1) ≤ runsF (S 118) R2 := by
          have e1 : cntS (m1 34) A = cntS (m 34) A := cntS_cg A (fun a haa => w8.2.2 34 a (by decide) (by omega))
          have e2 : runsF (S 118) (R + 1) ≤ runsF (S 118) R2 := by
            have := runsF_mono (tx := S 118) (i := R + 1) (R2 - (R + 1))
            rw [show R + 1 + (R2 - (R + 1)) = R2 by omega] at this
            exact this
          refine Nat.le_trans ?_ e2
          show cntS (m1 34) A + _ ≤ runsF (S 118) R + _
          rw [e1, y5]
          by_cases z : S 118 R = 115
          · have : S 118 R = 115 ∧ (R = 0 ∨ ¬ S 118 (R - 1) = 115) := ⟨z, hp.elim Or.inl (fun q => Or.inr (by rw [q]; decide))⟩
            rw [if_pos z, if_pos this]
            omega
          · rw [if_neg z]
            omega
        by_cases hend : R2 = L
        · have eM : m1 0 52 = m1 0 51 := by rw [w4, n51, hend]
          have eC : S1 117 6 = S1 117 4 := by rw [w5, n4, hend]
          exact ⟨1, R2, A + 1, m1, S1, Or.inr rfl, PX11_takesScript_2 w2 (by decide) eM, PX6_parse_2 cA w3 (by decide) eC, w4, w5, by omega, w8.q, w9.q, fun _ => ⟨by omega, y1, y2, hacts, by rw [← hend]; exact hcnt⟩⟩
        · have hlt : R2 < L := by omega
          have nM : ¬ m1 0 52 = m1 0 51 := by
            rw [w4, n51]
            intro z
            exact hend ((nI_eq (by omega) (by omega)).mp z)
          have nC : ¬ S1 117 6 = S1 117 4 := by
            rw [w5, n4]
            intro z
            exact hend ((nI_eq (by omega) (by omega)).mp z)
          have hh := p_hereC hL (show R2 ≤ 40 by omega) n4 w5
          have eh : hr L R2 (S1 118) = S 118 R2 := by unfold hr; rw [if_pos hlt, t118]
          rw [eh] at hh
          have e33 : m1 33 R2 = S 118 R2 := by rw [t33]; exact ht R2 hlt
          by_cases h59 : S 118 R2 = 59
          · have hnext : r_ps L (R2 + 1) (A + 1) (gm_u m1 0 52 ((m1 0 52) + 1)) (gm_u S1 117 6 ((S1 117 6) + 1)) := by
              refine ⟨hL, by omega, by omega, ⟨n51, n4⟩, ⟨?_, ?_⟩, ⟨y1, y2⟩, fun i hi => ?_, hacts, ?_, Or.inr ?_⟩
              · show m1 0 52 + 1 = _
                rw [w4, nI_1]
              · show S1 117 6 + 1 = _
                rw [w5, nI_1]
              · show m1 33 i = S1 118 i
                rw [t33, t118]
                exact ht i hi
              · show cntS (m1 34) (A + 1) ≤ runsF (S1 118) (R2 + 1)
                rw [t118]
                exact Nat.le_trans hcnt (runsF_mono 1)
              · show S1 118 (R2 + 1 - 1) = 59
                rw [t118]
                exact h59
            obtain ⟨v, R3, A3, m3, S3, k1, k2, k3, k4, k5, k6, k7, k8, k9⟩ := ih L (R2 + 1) (A + 1) _ _ (by omega) hnext
            have qm : r_qm m1 (gm_u m1 0 52 ((m1 0 52) + 1)) := (r_pm.rf.u0 (A := 0) (k := 52) (Or.inl rfl)).q
            have qc : r_qc S1 (gm_u S1 117 6 ((S1 117 6) + 1)) := (r_pc.rf.u0 (A := 0) (k := 6) (by decide)).q
            refine ⟨v, R3, A3, m3, S3, k1, PX11_takesScript_4 w2 (by decide) nM (ix_c w4 (by omega) (by decide)) (by rw [e33]; exact h59) k2, PX6_parse_4 cA w3 (by decide) nC hh h59 (by rw [nI_1]; exact k3), k4, k5, k6, (w8.q.tr qm).tr k7, (w9.q.tr qc).tr k8, fun hv => ?_⟩
            obtain ⟨j1, j2, j3, j4, j5⟩ := k9 hv
            have e118 : (gm_u S1 117 6 ((S1 117 6) + 1)) 118 = S 118 := t118
            rw [e118] at j5
            exact ⟨j1, j2, j3, j4, j5⟩
          · exact ⟨0, R2, 0, m1, S1, Or.inl rfl, PX11_takesScript_3 w2 (by decide) nM (ix_c w4 (by omega) (by decide)) (by rw [e33]; exact h59), PX6_parse_3 cA w3 (by decide) nC hh h59, w4, w5, by omega, w8.q, w9.q, fun z => absurd z (by decide)⟩
    · exact ih L R A m S (by omega) ⟨hL, hR, hA, ⟨m51, s4⟩, ⟨m52, s6⟩, ⟨m53, s5⟩, ht, ha, hc, hp⟩
