/-! PAIR: append -/
def r_scr (L : Nat) (m S : gm_Mem) : Prop := L ≤ 40 ∧ m 0 51 = nI L ∧ S 117 4 = nI L ∧ ∀ i, i < L → m 33 i = S 118 i
theorem p_appM {L c : Nat} {x : Int32} (hL : L + c ≤ 40) : ∀ d j (m : gm_Mem), j + d = c → m 0 51 = nI L → ∃ r33 : Nat → Int32, gm_run gM 1 YX11_append 39 [some (.ref 0), some (.int x), some (.int (nI c)), some (.int (nI j))] [] m (some (.int (nI (L + c)))) (gm_u (va_up m 33 r33) 0 51 (nI (L + c))) ∧ (∀ i, L + j ≤ i → i < L + c → r33 i = x) ∧ ∀ i, i < L + j → r33 i = m 33 i := by
  intro d
  induction d with
  | zero =>
    intro j m hj h51
    have jc : j = c := by omega
    subst jc
    refine ⟨m 33, ?_, fun i h1 h2 => absurd h2 (by omega), fun _ _ => rfl⟩
    have q := PX11_append_6 (x1 := x) (x2 := nI j) (x3 := nI j) (S := m) (by rw [nI_ltI (by omega) (by omega)]; omega)
    rw [h51, nI_add] at q
    rw [r_up_self]
    exact q
  | succ d ih =>
    intro j m hj h51
    obtain ⟨r33, q1, q2, q3⟩ := ih (j + 1) (gm_u m 33 (L + j) x) (by omega) (by rw [gm_rp (by decide)]; exact h51)
    rw [gm_u_eq m 33, r_upC] at q1
    refine ⟨r33, PX11_append_5 (j2 := L + j) ((nI_ltI (by omega) (by omega)).mpr (by omega)) (ix_c (by rw [h51, nI_add]) (by omega) (by decide)) (by rw [nI_1, gm_u_eq]; exact q1), fun i i1 i2 => ?_, fun i hi => ?_⟩
    · by_cases hij : i = L + j
      · subst hij
        rw [q3 _ (by omega)]
        simp [gm_u]
      · exact q2 i (by omega) i2
    · rw [q3 i (by omega)]
      exact gm_rk (by omega)
theorem p_appC {L c : Nat} {x : Int32} (hL : L + c ≤ 40) : ∀ d j (S : gm_Mem), j + d = c → S 117 4 = nI (L + j) → ∃ r118 : Nat → Int32, gm_run gC 0 YX6_extend 2 [some (.ref 117), some (.int x), some (.int (nI c)), some (.int (nI j))] [] S none (gm_u (va_up S 118 r118) 117 4 (nI (L + c))) ∧ (∀ i, L + j ≤ i → i < L + c → r118 i = x) ∧ ∀ i, i < L + j → r118 i = S 118 i := by
  intro d
  induction d with
  | zero =>
    intro j S hj h4
    have jc : j = c := by omega
    subst jc
    refine ⟨S 118, ?_, fun i h1 h2 => absurd h2 (by omega), fun _ _ => rfl⟩
    rw [r_up_self, ← h4, r_u_self]
    exact PX6_extend_5 (by rw [nI_ltI (by omega) (by omega)]; omega)
  | succ d ih =>
    intro j S hj h4
    have e1 : (S 117 4) + 1 = nI (L + (j + 1)) := by rw [h4, nI_1]; rfl
    obtain ⟨r118, q1, q2, q3⟩ := ih (j + 1) (gm_u (gm_u S 118 (L + j) x) 117 4 (nI (L + (j + 1)))) (by omega) (by simp [gm_u])
    have hu : gm_u (va_up (gm_u (gm_u S 118 (L + j) x) 117 4 (nI (L + (j + 1)))) 118 r118) 117 4 (nI (L + c)) = gm_u (va_up S 118 r118) 117 4 (nI (L + c)) := by
      funext p
      by_cases h7 : p = 117
      · subst h7
        funext k
        by_cases hk : k = 4
        · simp [gm_u, hk]
        · simp [gm_u, va_up, hk]
      · by_cases h8 : p = 118
        · simp [gm_u, va_up, h8]
        · simp [gm_u, va_up, h7, h8]
    rw [hu] at q1
    refine ⟨r118, PX6_extend_2 (j4 := L + j) ((nI_ltI (by omega) (by omega)).mpr (by omega)) (by rw [h4]; exact nI_pos (by omega)) (by rw [h4]; exact (nI_ltI (b := 40) (by omega) (by decide)).mpr (by omega)) (ix_c h4 (by omega) (by decide)) (by rw [e1, nI_1]; exact q1), fun i i1 i2 => ?_, fun i hi => ?_⟩
    · by_cases hij : i = L + j
      · subst hij
        rw [q3 _ (by omega)]
        simp [gm_u]
      · exact q2 i (by omega) i2
    · rw [q3 i (by omega), gm_rp (by decide)]
      exact gm_rk (by omega)
theorem r_append {s b L : Nat} {m S : gm_Mem} (h : Rc s b 0 m S) (hq : r_scr L m S) (x y : Int32) : ∃ (r : Int32) (m2 S2 : gm_Mem) (L2 : Nat), gm_run gM 1 YX11_append 0 [some (.ref 0), some (.int x), some (.int y), none] [] m (some (.int r)) m2 ∧ gm_run gC 1 YX10_append 0 [some (.ref 0), some (.int x), some (.int y)] [] S (some (.int r)) S2 ∧ Rc s b 0 m2 S2 ∧ r_scr L2 m2 S2 ∧ L ≤ L2 ∧ (∀ i, i < L → m2 33 i = m 33 i) ∧ (∀ i, L ≤ i → i < L2 → m2 33 i = x) ∧ (m2 37 = m 37 ∧ m2 0 55 = m 0 55) ∧ (∀ p, p < 117 ∨ 119 ≤ p → S2 p = S p) := by
  have hx := p_between m x 0 127
  have hy := p_between m y 1 40
  have same : ∀ r : Int32, gm_run gM 1 YX11_append 0 [some (.ref 0), some (.int x), some (.int y), none] [] m (some (.int r)) m → gm_run gC 1 YX10_append 0 [some (.ref 0), some (.int x), some (.int y)] [] S (some (.int r)) S → ∃ (r : Int32) (m2 S2 : gm_Mem) (L2 : Nat), gm_run gM 1 YX11_append 0 [some (.ref 0), some (.int x), some (.int y), none] [] m (some (.int r)) m2 ∧ gm_run gC 1 YX10_append 0 [some (.ref 0), some (.int x), some (.int y)] [] S (some (.int r)) S2 ∧ Rc s b 0 m2 S2 ∧ r_scr L2 m2 S2 ∧ L ≤ L2 ∧ (∀ i, i < L → m2 33 i = m 33 i) ∧ (∀ i, L ≤ i → i < L2 → m2 33 i = x) ∧ (m2 37 = m 37 ∧ m2 0 55 = m 0 55) ∧ (∀ p, p < 117 ∨ 119 ≤ p → S2 p = S p) :=
    fun r q1 q2 => ⟨r, m, S, L, q1, q2, h, hq, Nat.le_refl _, fun _ _ => rfl, fun i i1 i2 => absurd i2 (by omega), ⟨rfl, rfl⟩, fun _ _ => rfl⟩
  by_cases c1 : x < 0
  · rw [b2i_f (fun q => q.1 c1)] at hx
    exact same _ (PX11_append_4 hx rfl) (PX10_append_6 c1)
  by_cases c2 : 127 < x
  · rw [b2i_f (fun q => q.2 c2)] at hx
    exact same _ (PX11_append_4 hx rfl) (PX10_append_5 c1 c2)
  rw [b2i_t ⟨c1, c2⟩] at hx
  by_cases c3 : y < 1
  · rw [b2i_f (fun q => q.1 c3)] at hy
    exact same _ (PX11_append_1 hx (by decide) hy rfl) (PX10_append_4 c1 c2 c3)
  by_cases c4 : 40 < y
  · rw [b2i_f (fun q => q.2 c4)] at hy
    exact same _ (PX11_append_1 hx (by decide) hy rfl) (PX10_append_1 c1 c2 c3 c4)
  rw [b2i_t ⟨c3, c4⟩] at hy
  obtain ⟨l1, l2, l3, l4⟩ := hq
  obtain ⟨c, hc1, hc, rfl⟩ : ∃ c : Nat, 1 ≤ c ∧ c ≤ 40 ∧ y = nI c := by
    rw [Int32.lt_iff_toInt_lt] at c3 c4
    have z1 : (1 : Int32).toInt = 1 := rfl
    have z40 : (40 : Int32).toInt = 40 := rfl
    obtain ⟨c, w1, w2⟩ := nI_of (x := y) (by rw [Int32.lt_iff_toInt_lt]; have : (0 : Int32).toInt = 0 := rfl; omega)
    refine ⟨c, ?_, ?_, w2⟩
    · rw [w2, nI_toInt w1] at c3
      omega
    · rw [w2, nI_toInt w1] at c4
      omega
  have eM : (m 0 51) + nI c = nI (L + c) := by rw [l2, nI_add]
  have eC : (S 117 4) + nI c = nI (L + c) := by rw [l3, nI_add]
  by_cases c5 : 40 < L + c
  · have d : (40 : Int32) < nI (L + c) := (nI_ltI (a := 40) (by decide) (by omega)).mpr c5
    exact same _ (PX11_append_2 hx (by decide) hy (by decide) (by rw [eM]; exact d)) (PX10_append_2 c1 c2 c3 c4 (by rw [eC]; exact d))
  · have d : ¬ (40 : Int32) < nI (L + c) := fun z => c5 ((nI_ltI (a := 40) (by decide) (by omega)).mp z)
    obtain ⟨r33, q1, q2, q3⟩ := p_appM (x := x) (L := L) (c := c) (by omega) c 0 m (by omega) l2
    obtain ⟨r118, t1, t2, t3⟩ := p_appC (x := x) (L := L) (c := c) (by omega) c 0 S (by omega) l3
    have hC := PX10_append_3 (a1 := x) c1 c2 c3 c4 (by rw [eC]; exact d) (PX6_extend_1 t1)
    obtain ⟨hs, hl, hn, ht, hr, h0, g0, g1⟩ := h
    refine ⟨nI (L + c), _, _, L + c, PX11_append_3 hx (by decide) hy (by decide) (by rw [eM]; exact d) q1, hC, ⟨hs, hl, (by repeat (first | exact hn | refine r_net.u (by decide) ?_ | refine r_net.up (by decide) ?_)), ht, hr, h0, g0, g1⟩, ⟨by omega, rfl, rfl, fun i hi => ?_⟩, by omega, fun i hi => q3 i (by omega), fun i i1 i2 => q2 i (by omega) i2, ⟨rfl, rfl⟩, fun p hp => ?_⟩
    · show r33 i = r118 i
      by_cases hiL : i < L
      · rw [q3 i (by omega), t3 i (by omega), l4 i hiL]
      · rw [q2 i (by omega) hi, t2 i (by omega) hi]
    · simp only [gm_u, va_up]
      exact (if_neg (by omega)).trans (if_neg (by omega))
