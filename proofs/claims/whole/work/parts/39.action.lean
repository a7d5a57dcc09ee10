/-! PAIR: takesAction / readAction -/
def r_pm (A : Nat) (m m2 : gm_Mem) : Prop := (∀ p, p ≠ 0 → p ≠ 34 → p ≠ 35 → p ≠ 36 → m2 p = m p) ∧ (∀ k, k ≠ 52 → k ≠ 53 → m2 0 k = m 0 k) ∧ ∀ p j, p = 34 ∨ p = 35 ∨ p = 36 → j ≠ A → m2 p j = m p j
def r_pc (A : Nat) (S S2 : gm_Mem) : Prop := (∀ p, p ≠ 117 → p ≠ 119 → p ≠ 120 → p ≠ 121 → S2 p = S p) ∧ S2 117 4 = S 117 4 ∧ ∀ p j, p = 119 ∨ p = 120 ∨ p = 121 → j ≠ A → S2 p j = S p j
theorem r_pm.rf {A : Nat} {m : gm_Mem} : r_pm A m m := ⟨fun _ _ _ _ _ => rfl, fun _ _ _ => rfl, fun _ _ _ _ => rfl⟩
theorem r_pc.rf {A : Nat} {S : gm_Mem} : r_pc A S S := ⟨fun _ _ _ _ _ => rfl, rfl, fun _ _ _ _ => rfl⟩
theorem r_pm.tr {A : Nat} {a b c : gm_Mem} (h : r_pm A a b) (k : r_pm A b c) : r_pm A a c := ⟨fun p h1 h2 h3 h4 => (k.1 p h1 h2 h3 h4).trans (h.1 p h1 h2 h3 h4), fun j h1 h2 => (k.2.1 j h1 h2).trans (h.2.1 j h1 h2), fun p j h1 h2 => (k.2.2 p j h1 h2).trans (h.2.2 p j h1 h2)⟩
theorem r_pc.tr {A : Nat} {a b c : gm_Mem} (h : r_pc A a b) (k : r_pc A b c) : r_pc A a c := ⟨fun p h1 h2 h3 h4 => (k.1 p h1 h2 h3 h4).trans (h.1 p h1 h2 h3 h4), k.2.1.trans h.2.1, fun p j h1 h2 => (k.2.2 p j h1 h2).trans (h.2.2 p j h1 h2)⟩
theorem r_pm.u0 {A k : Nat} {m a : gm_Mem} {x : Int32} (h : r_pm A m a) (hk : k = 52 ∨ k = 53) : r_pm A m (gm_u a 0 k x) := by
  refine h.tr ⟨fun p h1 _ _ _ => ?_, fun j h1 h2 => gm_rk (by omega), fun p j hp _ => gm_rp (by omega)⟩
  simp only [gm_u]; exact if_neg h1
theorem r_pm.uA {A q : Nat} {m a : gm_Mem} {x : Int32} (h : r_pm A m a) (hq : q = 34 ∨ q = 35 ∨ q = 36) : r_pm A m (gm_u a q A x) := by
  refine h.tr ⟨fun p h1 h2 h3 h4 => ?_, fun j h1 h2 => gm_rp (by omega), fun p j hp hj => gm_rj hj⟩
  simp only [gm_u]; exact if_neg (by omega)
theorem r_pc.u0 {A k : Nat} {S a : gm_Mem} {x : Int32} (h : r_pc A S a) (hk : k ≠ 4) : r_pc A S (gm_u a 117 k x) := by
  refine h.tr ⟨fun p h1 _ _ _ => ?_, gm_rk (by omega), fun p j hp _ => gm_rp (by omega)⟩
  simp only [gm_u]; exact if_neg h1
theorem r_pc.uA {A q : Nat} {S a : gm_Mem} {x : Int32} (h : r_pc A S a) (hq : q = 119 ∨ q = 120 ∨ q = 121) : r_pc A S (gm_u a q A x) := by
  refine h.tr ⟨fun p h1 h2 h3 h4 => ?_, gm_rp (by omega), fun p j hp hj => gm_rj hj⟩
  simp only [gm_u]; exact if_neg (by omega)
theorem p_tail156 {m S : gm_Mem} {L P A : Nat} {c ep : Int32} (hL : L ≤ 40) (hP : P ≤ L) (hA : A < 20) (h51 : m 0 51 = nI L) (h52 : m 0 52 = nI P) (h53 : m 0 53 = nI A) (g4 : S 117 4 = nI L) (g6 : S 117 6 = nI P) (g5 : S 117 5 = nI A) (ht : ∀ i, i < L → m 33 i = S 118 i) (h34 : m 34 A = c) (h35 : m 35 A = 1) :
    ∃ (v : Int32) (R2 : Nat) (m2 S2 : gm_Mem), (v = 0 ∨ v = 1) ∧ gm_run gM 3 YX11_takesAction 156 [some (.ref 0), some (.int c)] [] m (some (.int v)) m2 ∧ gm_run gC 3 YX6_readAction 80 [some (.ref 117), some (.int c), some (.int ep), none] [] S (some (.int v)) S2 ∧ m2 0 52 = nI R2 ∧ S2 117 6 = nI R2 ∧ P ≤ R2 ∧ R2 ≤ L ∧ r_pm A m m2 ∧ r_pc A S S2 ∧
      (v = 1 → m2 0 53 = nI (A + 1) ∧ S2 117 5 = nI (A + 1) ∧ m2 34 A = c ∧ S2 119 A = c ∧ m2 35 A = S2 121 A ∧ m2 36 = m 36 ∧ S2 120 A = ep) := by
  have dM := p_digitM hL (by omega) h51 h52 ht
  have dC := p_digitC hL (by omega) g4 g6
  have fin : ∀ (num : Int32) (R2 : Nat) (mN SN : gm_Mem), mN 0 53 = nI A → SN 117 5 = nI A → mN 0 52 = nI R2 → SN 117 6 = nI R2 → mN 34 A = c → mN 35 A = num → mN 36 = m 36 → r_pm A m mN → r_pc A S SN → P ≤ R2 → R2 ≤ L →
      (gm_run gM 3 YX11_takesAction 178 [some (.ref 0), some (.int c)] [] mN (some (.int 1)) (gm_u mN 0 53 (nI (A + 1)))) ∧ gm_run gC 3 YX6_readAction 105 [some (.ref 117), some (.int c), some (.int ep), some (.int num)] [] SN (some (.int 1)) (gm_u (gm_u (gm_u (gm_u SN 119 A c) 120 A ep) 121 A num) 117 5 (nI (A + 1))) ∧ (gm_u mN 0 53 (nI (A + 1))) 0 52 = nI R2 ∧ (gm_u (gm_u (gm_u (gm_u SN 119 A c) 120 A ep) 121 A num) 117 5 (nI (A + 1))) 117 6 = nI R2 ∧ P ≤ R2 ∧ R2 ≤ L ∧ r_pm A m (gm_u mN 0 53 (nI (A + 1))) ∧ r_pc A S (gm_u (gm_u (gm_u (gm_u SN 119 A c) 120 A ep) 121 A num) 117 5 (nI (A + 1))) ∧
        ((1 : Int32) = 1 → (gm_u mN 0 53 (nI (A + 1))) 0 53 = nI (A + 1) ∧ (gm_u (gm_u (gm_u (gm_u SN 119 A c) 120 A ep) 121 A num) 117 5 (nI (A + 1))) 117 5 = nI (A + 1) ∧ (gm_u mN 0 53 (nI (A + 1))) 34 A = c ∧ (gm_u (gm_u (gm_u (gm_u SN 119 A c) 120 A ep) 121 A num) 117 5 (nI (A + 1))) 119 A = c ∧ (gm_u mN 0 53 (nI (A + 1))) 35 A = (gm_u (gm_u (gm_u (gm_u SN 119 A c) 120 A ep) 121 A num) 117 5 (nI (A + 1))) 121 A ∧ (gm_u mN 0 53 (nI (A + 1))) 36 = m 36 ∧ (gm_u (gm_u (gm_u (gm_u SN 119 A c) 120 A ep) 121 A num) 117 5 (nI (A + 1))) 120 A = ep) := by
    intro num R2 mN SN n53 n5 n52 n6 n34 n35 n36 fm fc hp1 hp2
    have q1 := PX11_takesAction_19 (x1 := c) (S := mN)
    rw [n53, nI_1] at q1
    have q2 := PX6_addAction_1 (a1 := c) (a2 := ep) (a3 := num) (S := SN) (j3 := A) (by rw [n5]; exact nI_pos (by omega)) (by rw [n5]; exact (nI_ltI (b := 40) (by omega) (by decide)).mpr (by omega)) (ix_c n5 (by omega) (by decide))
    rw [n5, nI_1] at q2
    refine ⟨q1, PX6_readAction_15 q2, n52, n6, hp1, hp2, fm.u0 (Or.inr rfl), (((fc.uA (by decide)).uA (by decide)).uA (by decide)).u0 (by decide), fun _ => ⟨by simp [gm_u], by simp [gm_u], n34, by simp [gm_u], ?_, n36, by simp [gm_u]⟩⟩
    rw [gm_rp (by decide), n35]
    simp [gm_u]
  by_cases d : dgP L P (S 118)
  · rw [b2i_t d] at dM dC
    obtain ⟨nC, hle⟩ := p_numC hL d g4 g6
    have nM := p_numM hL hA h51 h52 h53 ht d
    obtain ⟨z1, z2, z3, z4, z5, z6, z7, z8, z9⟩ := fin (nuF L P (S 118)) (P + nuN L P (S 118)) (gm_u (gm_u m 35 A (nuF L P (S 118))) 0 52 (nI (P + nuN L P (S 118)))) (gm_u S 117 6 (nI (P + nuN L P (S 118)))) h53 g5 (by simp [gm_u]) (by simp [gm_u]) h34 (by simp [gm_u]) rfl ((r_pm.rf.uA (by decide)).u0 (by decide)) (r_pc.rf.u0 (by decide)) (by omega) hle
    have hC := PX6_readAction_12 (x2 := ep) dC (by decide) nC z2
    have hM9 := PX11_takesAction_18 (x1 := c) nM (by decide) z1
    by_cases ct : c = 116
    · exact ⟨1, _, _, _, Or.inr rfl, PX11_takesAction_14 ct dM (by decide) hM9, hC, z3, z4, z5, z6, z7, z8, z9⟩
    · exact ⟨1, _, _, _, Or.inr rfl, PX11_takesAction_16 ct hM9, hC, z3, z4, z5, z6, z7, z8, z9⟩
  · rw [b2i_f d] at dM dC
    by_cases ct : c = 116
    · obtain ⟨z1, z2, z3, z4, z5, z6, z7, z8, z9⟩ := fin 1 P m S h53 g5 h52 g6 h34 h35 rfl r_pm.rf r_pc.rf (Nat.le_refl _) hP
      exact ⟨1, _, _, _, Or.inr rfl, PX11_takesAction_15 ct dM rfl z1, PX6_readAction_14 dC rfl ct z2, z3, z4, z5, z6, z7, z8, z9⟩
    · exact ⟨0, P, m, S, Or.inl rfl, PX11_takesAction_16 ct (PX11_takesAction_17 (PX11_takesNumber_1 dM rfl) rfl), PX6_readAction_13 dC rfl ct, h52, g6, Nat.le_refl _, hP, r_pm.rf, r_pc.rf, fun z => absurd z (by decide)⟩
theorem hr_set {L R : Nat} {tx : Nat → Int32} (h : ¬ hr L R tx = -1) : R < L := by
  by_cases c : R < L
  · exact c
  · unfold hr at h
    rw [if_neg c] at h
    exact absurd rfl h
theorem p_action {m S : gm_Mem} {L R A : Nat} (hL : L ≤ 40) (hR : R ≤ L) (hA : A < 20) (h51 : m 0 51 = nI L) (h52 : m 0 52 = nI R) (h53 : m 0 53 = nI A) (g4 : S 117 4 = nI L) (g6 : S 117 6 = nI R) (g5 : S 117 5 = nI A) (ht : ∀ i, i < L → m 33 i = S 118 i) :
    ∃ (v : Int32) (R2 : Nat) (m2 S2 : gm_Mem), (v = 0 ∨ v = 1) ∧ gm_run gM 3 YX11_takesAction 0 [some (.ref 0), none] [] m (some (.int v)) m2 ∧ gm_run gC 3 YX6_readAction 0 [some (.ref 117), none, none, none] [] S (some (.int v)) S2 ∧ m2 0 52 = nI R2 ∧ S2 117 6 = nI R2 ∧ R ≤ R2 ∧ R2 ≤ L ∧ r_pm A m m2 ∧ r_pc A S S2 ∧
      (v = 1 → R < R2 ∧ m2 0 53 = nI (A + 1) ∧ S2 117 5 = nI (A + 1) ∧ m2 34 A = S2 119 A ∧ m2 35 A = S2 121 A ∧ m2 34 A = S 118 R ∧ (m2 34 A = 115 → m2 36 A = S2 120 A)) := by
  have hC := p_hereC hL (show R ≤ 40 by omega) g4 g6
  have toM : ∀ (r : Option Value) (m2 : gm_Mem), gm_run gM 3 YX11_takesAction 24 [some (.ref 0), none] [.int (hr L R (S 118))] m r m2 → gm_run gM 3 YX11_takesAction 0 [some (.ref 0), none] [] m r m2 := by
    intro r m2 K
    by_cases c : R < L
    · refine PX11_takesAction_1 (j2 := R) (by rw [h51, h52]; exact (nI_ltI (by omega) (by omega)).mpr c) (ix_c h52 (by omega) (by decide)) ?_
      have e : hr L R (S 118) = m 33 R := by unfold hr; rw [if_pos c, ht R c]
      rw [e] at K
      exact K
    · refine PX11_takesAction_2 (by rw [h51, h52, nI_ltI (by omega) (by omega)]; exact c) ?_
      have e : hr L R (S 118) = -1 := by unfold hr; rw [if_neg c]
      rw [e] at K
      exact K
  obtain ⟨c, hc⟩ : ∃ c, c = hr L R (S 118) := ⟨_, rfl⟩
  rw [← hc] at toM hC
  by_cases hset : c = 100 ∨ c = 120 ∨ c = 117 ∨ c = 116 ∨ c = 115
  · have toM57 : ∀ (r : Option Value) (m2 : gm_Mem), gm_run gM 3 YX11_takesAction 57 [some (.ref 0), some (.int c)] [] m r m2 → gm_run gM 3 YX11_takesAction 0 [some (.ref 0), none] [] m r m2 := by
      intro r m2 K
      refine toM r m2 ?_
      by_cases z1 : c = 100
      · exact PX11_takesAction_8 z1 K
      by_cases z2 : c = 120
      · exact PX11_takesAction_7 z1 z2 K
      by_cases z3 : c = 117
      · exact PX11_takesAction_6 z1 z2 z3 K
      by_cases z4 : c = 116
      · exact PX11_takesAction_5 z1 z2 z3 z4 K
      · exact PX11_takesAction_4 z1 z2 z3 z4 ((((hset.resolve_left z1).resolve_left z2).resolve_left z3).resolve_left z4) K
    have toC37 : ∀ (r : Option Value) (S2 : gm_Mem), gm_run gC 3 YX6_readAction 37 [some (.ref 117), some (.int c), none, none] [] S r S2 → gm_run gC 3 YX6_readAction 0 [some (.ref 117), none, none, none] [] S r S2 := by
      intro r S2 K
      by_cases z1 : c = 100
      · exact PX6_readAction_6 hC z1 K
      by_cases z2 : c = 120
      · exact PX6_readAction_5 hC z1 z2 K
      by_cases z3 : c = 117
      · exact PX6_readAction_4 hC z1 z2 z3 K
      by_cases z4 : c = 116
      · exact PX6_readAction_3 hC z1 z2 z3 z4 K
      · exact PX6_readAction_2 hC z1 z2 z3 z4 ((((hset.resolve_left z1).resolve_left z2).resolve_left z3).resolve_left z4) K
    have hRL : R < L := hr_set (tx := S 118) (by
      rw [← hc]
      intro z
      rw [z] at hset
      exact absurd hset (by decide))
    have ecR : c = S 118 R := by rw [hc]; unfold hr; rw [if_pos hRL]
    have iA : gm_ix (m 0 53) A 20 := ix_c h53 hA (by decide)
    have e52 : (m 0 52) + 1 = nI (R + 1) := by rw [h52, nI_1]
    have e6 : (S 117 6) + 1 = nI (R + 1) := by rw [g6, nI_1]
    have fm1 : r_pm A m (gm_u (gm_u (gm_u m 0 52 (nI (R + 1))) 34 A c) 35 A 1) := ((r_pm.rf.u0 (by decide)).uA (by decide)).uA (by decide)
    have fc1 : r_pc A S (gm_u S 117 6 (nI (R + 1))) := r_pc.rf.u0 (by decide)
    by_cases cs : c = 115
    · have hC1 := p_hereC (S := gm_u S 117 6 (nI (R + 1))) (L := L) (R := R + 1) hL (by omega) g4 (by simp [gm_u])
      by_cases hR1 : R + 1 < L
      · have eh : hr L (R + 1) ((gm_u S 117 6 (nI (R + 1))) 118) = S 118 (R + 1) := by unfold hr; rw [if_pos hR1]; rfl
        rw [eh] at hC1
        have ne : ¬ (m 0 52) + 1 = m 0 51 := by
          rw [e52, h51]
          intro z
          have := (nI_eq (by omega) (by omega)).mp z
          omega
        have i4 : gm_ix ((m 0 52) + 1) (R + 1) 40 := ix_c e52 (by omega) (by decide)
        have hb := p_between (gm_u (gm_u (gm_u m 0 52 ((m 0 52) + 1)) 34 A c) 35 A 1) (m 33 (R + 1)) 48 49
        have et : m 33 (R + 1) = S 118 (R + 1) := ht _ hR1
        have x48 : (48 : Int32).toInt = 48 := rfl
        have x49 : (49 : Int32).toInt = 49 := rfl
        by_cases t01 : S 118 (R + 1) = 48 ∨ S 118 (R + 1) = 49
        · have hin : ¬ m 33 (R + 1) < 48 ∧ ¬ 49 < m 33 (R + 1) := by
            rw [et]
            rcases t01 with z | z <;> rw [z] <;> decide
          rw [b2i_t hin] at hb
          obtain ⟨v, R2, m2, S2, w1, w2, w3, w4, w5, w6, w7, w8, w9, w10⟩ := p_tail156 (m := gm_u (gm_u (gm_u (gm_u (gm_u m 0 52 (nI (R + 1))) 34 A c) 35 A 1) 36 A ((S 118 (R + 1)) - 48)) 0 52 (nI (R + 1 + 1))) (S := gm_u (gm_u S 117 6 (nI (R + 1))) 117 6 (nI (R + 1 + 1))) (P := R + 1 + 1) (A := A) (c := c) (ep := (S 118 (R + 1)) - 48) hL (by omega) hA h51 (by simp [gm_u]) h53 g4 (by simp [gm_u]) g5 ht (by simp [gm_u]) (by simp [gm_u])
          have hrd := PX6_readDigit_1 hC1
          have e66 : (gm_u S 117 6 (nI (R + 1)) 117 6) + 1 = nI (R + 1 + 1) := by simp [gm_u, nI_1]
          rw [e66] at hrd
          have hC75 := PX6_readAction_11 (x1 := c) (x2 := 0) hrd w3
          refine ⟨v, R2, m2, S2, w1, toM57 _ _ (PX11_takesAction_10 (j4 := R + 1) iA cs ne i4 hb (by decide) ?_), toC37 _ _ ?_, w4, w5, by omega, w7, (((fm1.uA (by decide)).u0 (by decide))).tr w8, (fc1.u0 (by decide)).tr w9, fun hv => ?_⟩
          · rw [e52, et, nI_1]
            exact w2
          · rcases t01 with z | z
            · rw [z] at hC1
              exact PX6_readAction_9 cs (by rw [e6]; exact hC1) rfl (by rw [e6]; exact hC75)
            · rw [z] at hC1
              exact PX6_readAction_8 cs (by rw [e6]; exact hC1) (by decide) (by rw [e6]; exact hC1) rfl (by rw [e6]; exact hC75)
          · obtain ⟨y1, y2, y3, y4, y5, y6, y7⟩ := w10 hv
            refine ⟨by omega, y1, y2, y3.trans y4.symm, y5, y3.trans ecR, fun _ => ?_⟩
            rw [y6, y7]
            simp [gm_u]
        · have hout : ¬ (¬ m 33 (R + 1) < 48 ∧ ¬ 49 < m 33 (R + 1)) := by
            rw [et, Int32.lt_iff_toInt_lt, Int32.lt_iff_toInt_lt, x48, x49]
            intro z
            have n48 : (S 118 (R + 1)).toInt ≠ 48 := fun q => t01 (Or.inl (Int32.toInt_inj.mp q))
            have n49 : (S 118 (R + 1)).toInt ≠ 49 := fun q => t01 (Or.inr (Int32.toInt_inj.mp q))
            omega
          rw [b2i_f hout] at hb
          have hM := PX11_takesAction_9 (j4 := R + 1) iA cs ne i4 hb rfl PX11_takesAction_13
          rw [e52] at hM
          refine ⟨0, R + 1, _, _, Or.inl rfl, toM57 _ _ hM, toC37 _ _ (PX6_readAction_7 cs (by rw [e6]; exact hC1) (fun q => t01 (Or.inl q)) (by rw [e6]; exact hC1) (fun q => t01 (Or.inr q))), by simp [gm_u], by rw [e6]; simp [gm_u], by omega, by omega, fm1, by rw [e6]; exact fc1, fun z => absurd z (by decide)⟩
      · have eh : hr L (R + 1) ((gm_u S 117 6 (nI (R + 1))) 118) = -1 := by unfold hr; rw [if_neg hR1]
        rw [eh] at hC1
        have hM := PX11_takesAction_11 iA cs (by rw [e52, h51, show R + 1 = L by omega]) (PX11_takesAction_13 (x1 := c))
        rw [e52] at hM
        exact ⟨0, R + 1, _, _, Or.inl rfl, toM57 _ _ hM, toC37 _ _ (PX6_readAction_7 cs (by rw [e6]; exact hC1) (by decide) (by rw [e6]; exact hC1) (by decide)), by simp [gm_u], by rw [e6]; simp [gm_u], by omega, by omega, fm1, by rw [e6]; exact fc1, fun z => absurd z (by decide)⟩
    · obtain ⟨v, R2, m2, S2, w1, w2, w3, w4, w5, w6, w7, w8, w9, w10⟩ := p_tail156 (m := gm_u (gm_u (gm_u m 0 52 (nI (R + 1))) 34 A c) 35 A 1) (S := gm_u S 117 6 (nI (R + 1))) (P := R + 1) (A := A) (c := c) (ep := 0) hL (by omega) hA h51 (by simp [gm_u]) h53 g4 (by simp [gm_u]) g5 ht (by simp [gm_u]) (by simp [gm_u])
      refine ⟨v, R2, m2, S2, w1, toM57 _ _ (PX11_takesAction_12 iA cs (by rw [e52]; exact w2)), toC37 _ _ (PX6_readAction_10 cs (by rw [e6]; exact w3)), w4, w5, by omega, w7, fm1.tr w8, fc1.tr w9, fun hv => ?_⟩
      obtain ⟨y1, y2, y3, y4, y5, y6, y7⟩ := w10 hv
      exact ⟨by omega, y1, y2, y3.trans y4.symm, y5, y3.trans ecR, fun z => absurd (y3.symm.trans z) cs⟩
  · have n1 : ¬ c = 100 := fun z => hset (Or.inl z)
    have n2 : ¬ c = 120 := fun z => hset (Or.inr (Or.inl z))
    have n3 : ¬ c = 117 := fun z => hset (Or.inr (Or.inr (Or.inl z)))
    have n4 : ¬ c = 116 := fun z => hset (Or.inr (Or.inr (Or.inr (Or.inl z))))
    have n5 : ¬ c = 115 := fun z => hset (Or.inr (Or.inr (Or.inr (Or.inr z))))
    exact ⟨0, R, m, S, Or.inl rfl, toM _ _ (PX11_takesAction_3 n1 n2 n3 n4 n5), PX6_readAction_1 hC n1 n2 n3 n4 n5, h52, g6, Nat.le_refl _, hR, r_pm.rf, r_pc.rf, fun z => absurd z (by decide)⟩
