/-! PAIR: enters / enterInWindow -/
theorem p_bitR0 : ∀ a, a < 256 → ∀ d, d < 8 → 0 < a → (0 : Int32) < (nI a ||| (1 <<< (nI d &&& 31))) ∧ (nI a ||| (1 <<< (nI d &&& 31))) ≤ 255 := by decide +kernel
theorem p_bitL0 : ∀ a, a < 256 → ∀ d, d < 8 → 0 < d → (0 : Int32) < (((nI a <<< (nI d &&& 31)) ||| 1) &&& 255) ∧ (((nI a <<< (nI d &&& 31)) ||| 1) &&& 255) ≤ 255 := by decide +kernel
theorem p_small {x : Int32} (h : 0 < x ∧ x ≤ 255) : ∃ j, j < 256 ∧ 0 < j ∧ x = nI j := by
  have z0 : (0 : Int32).toInt = 0 := rfl
  have h1 := Int32.lt_iff_toInt_lt.mp h.1
  obtain ⟨j, j1, rfl⟩ := nI_of2 (x := x) (M := 255) (n := 255) rfl (by rw [Int32.lt_iff_toInt_lt]; omega) h.2
  rw [nI_toInt (by omega)] at h1
  exact ⟨j, by omega, by omega, rfl⟩
theorem p_bitR (a : Nat) (ha : a < 256) (d : Nat) (hd : d < 8) (h : 0 < a) : ∃ j, j < 256 ∧ 0 < j ∧ (nI a ||| (1 <<< (nI d &&& 31))) = nI j := p_small (p_bitR0 a ha d hd h)
theorem p_bitL (a : Nat) (ha : a < 256) (d : Nat) (hd : d < 8) (h : 0 < d) : ∃ j, j < 256 ∧ 0 < j ∧ (((nI a <<< (nI d &&& 31)) ||| 1) &&& 255) = nI j := p_small (p_bitL0 a ha d hd h)
theorem p_enter {T : gm_Mem} {w n : Nat} {hi ac : Int32} (kp : w = 12 ∨ w = 13 ∨ w = 24 ∨ w = 25 ∨ w = 70 ∨ w = 71 ∨ w = 82 ∨ w = 83) (hn : n ≤ 20) (hw : r_wn hi ac (T w 0) (T w 1)) (hb : ∀ t : Nat, t ≤ 20 → hi = nI t → t ≤ n + 7) : ∃ r c0 c1 : Int32,
    (∀ mm : gm_Mem, gm_run gM 0 YX11_setWith 0 [some (.int hi), some (.int ac), some (.int (nI n))] [] mm (some (.int r)) mm) ∧ gm_run gC 0 YX8_enter 0 [some (.ref w), some (.int (nI n)), none] [] T none (gm_u (gm_u T w 0 c0) w 1 c1) ∧
    (hi < nI n → r_wn (nI n) r c0 c1) ∧ (¬ hi < nI n → r_wn hi r c0 c1) := by
  rcases hw with ⟨w1, w2⟩ | ⟨t, a, w1, w2, w3, w4, w5, w6, w7⟩
  · refine ⟨1, nI n, 1, fun mm => PX11_setWith_1 (by rw [w1]; decide), PX8_enter_5 kp w2, fun _ => Or.inr ⟨n, 1, hn, by decide, by decide, rfl, rfl, rfl, rfl⟩, fun z => ?_⟩
    refine absurd ?_ z
    rw [w1, Int32.lt_iff_toInt_lt, nI_toInt (by omega)]
    have : (-1 : Int32).toInt = -1 := rfl
    omega
  · have k1 : ¬ hi < 0 := by rw [w4]; exact nI_pos (by omega)
    have k1c : ¬ (T w 1) = 0 := by rw [w7]; exact nI_ne0 (by omega) (by omega)
    have nt : (nI n).toInt = n := nI_toInt (by omega)
    have tt : (nI t).toInt = t := nI_toInt (by omega)
    have hd : ((T w 0) - nI n).toInt = (t : Int) - n := by
      rw [w5]
      exact pk_sub_toInt (by omega) (by omega)
    have z0 : (0 : Int32).toInt = 0 := rfl
    have z7 : (-7 : Int32).toInt = -7 := rfl
    have y7 : (7 : Int32).toInt = 7 := rfl
    by_cases c1 : t < n
    · have k2 : hi < nI n := by rw [w4]; exact (nI_ltI (by omega) (by omega)).mpr c1
      have e1 : (nI n - hi) = nI (n - t) := by rw [w4, pk_sub (by omega)]
      by_cases c2 : t + 7 < n
      · refine ⟨1, nI n, 1, fun mm => PX11_setWith_3 k1 k2 ?_, PX8_enter_1 kp k1c ?_, fun _ => Or.inr ⟨n, 1, hn, by decide, by decide, rfl, rfl, rfl, rfl⟩, fun z => absurd k2 z⟩
        · rw [e1]; exact (nI_ltI (a := 7) (b := n - t) (by decide) (by omega)).mpr (by omega)
        · rw [Int32.lt_iff_toInt_lt, hd, z7]; omega
      · obtain ⟨j, j1, j2, j3⟩ := p_bitL a w3 (n - t) (by omega) (by omega)
        have e2 : -((T w 0) - nI n) = nI (n - t) := by
          rw [w5, ← e1, w4]
          exact Int32.neg_sub
        have q1 : ∀ mm : gm_Mem, gm_run gM 0 YX11_setWith 0 [some (.int hi), some (.int ac), some (.int (nI n))] [] mm (some (.int (nI j))) mm := fun mm => by
          have := PX11_setWith_4 (a1 := hi) (a2 := ac) (a3 := nI n) (S := mm) k1 k2 (by rw [e1]; exact fun q => by have := (nI_ltI (a := 7) (b := n - t) (by decide) (by omega)).mp q; omega)
          rw [e1, w6, j3] at this
          rw [w6]
          exact this
        have q2 := PX8_enter_2 (a1 := nI n) (S := T) kp k1c (by rw [Int32.lt_iff_toInt_lt, hd, z7]; omega) (by rw [Int32.lt_iff_toInt_lt, hd, z0]; omega)
        rw [e2, w7, j3] at q2
        exact ⟨nI j, nI n, nI j, q1, q2, fun _ => Or.inr ⟨n, j, hn, j2, j1, rfl, rfl, rfl, rfl⟩, fun z => absurd k2 z⟩
    · have k2 : ¬ hi < nI n := by rw [w4, nI_ltI (by omega) (by omega)]; exact c1
      have c3 := hb t w1 w4
      obtain ⟨j, j1, j2, j3⟩ := p_bitR a w3 (t - n) (by omega) (by omega)
      have e1 : (hi - nI n) = nI (t - n) := by rw [w4, pk_sub (by omega)]
      have e2 : ((T w 0) - nI n) = nI (t - n) := by rw [w5, pk_sub (by omega)]
      have q1 : ∀ mm : gm_Mem, gm_run gM 0 YX11_setWith 0 [some (.int hi), some (.int ac), some (.int (nI n))] [] mm (some (.int (nI j))) mm := fun mm => by
        have := PX11_setWith_2 (a1 := hi) (a2 := ac) (a3 := nI n) (S := mm) k1 k2
        rw [e1, w6, j3] at this
        rw [w6]
        exact this
      have q2 := PX8_enter_3 (a1 := nI n) (S := T) kp k1c (by rw [Int32.lt_iff_toInt_lt, hd, z7]; omega) (by rw [Int32.lt_iff_toInt_lt, hd, z0]; omega) (by rw [Int32.lt_iff_toInt_lt, hd, y7]; omega)
      rw [e2, w7, j3] at q2
      refine ⟨nI j, T w 0, nI j, q1, ?_, fun z => absurd z k2, fun _ => Or.inr ⟨t, j, w1, j2, j1, w4, w5, rfl, rfl⟩⟩
      rw [r_u_self]
      exact q2
theorem gm_rj {S : gm_Mem} {p k q j : Nat} {x : Int32} (h : j ≠ k) : gm_u S p k x q j = S q j := by
  by_cases hq : q = p
  · subst hq; exact gm_rk h
  · exact gm_rp hq
/-- places that an operation leaves, and the relation over the windows of one endpoint -/
theorem r_six {m m2 : gm_Mem} (f : ∀ p, p < 7 ∨ 12 < p → m2 p = m p) : m2 = va_up (va_up (va_up (va_up (va_up (va_up m 7 (m2 7)) 8 (m2 8)) 9 (m2 9)) 10 (m2 10)) 11 (m2 11)) 12 (m2 12) := by
  funext p
  simp only [va_up]
  by_cases h7 : p = 7
  · subst h7; rfl
  by_cases h8 : p = 8
  · subst h8; rfl
  by_cases h9 : p = 9
  · subst h9; rfl
  by_cases h10 : p = 10
  · subst h10; rfl
  by_cases h11 : p = 11
  · subst h11; rfl
  by_cases h12 : p = 12
  · subst h12; rfl
  simp only [if_neg h7, if_neg h8, if_neg h9, if_neg h10, if_neg h11, if_neg h12]
  exact f p (by omega)
theorem r_three {S S2 : gm_Mem} {a b c : Nat} (f : ∀ p, p ≠ a → p ≠ b → p ≠ c → S2 p = S p) : S2 = va_up (va_up (va_up S a (S2 a)) b (S2 b)) c (S2 c) := by
  funext p
  simp only [va_up]
  by_cases h7 : p = c
  · subst h7; simp
  by_cases h8 : p = b
  · subst h8; simp [h7]
  by_cases h9 : p = a
  · subst h9; simp [h7, h8]
  simp only [if_neg h7, if_neg h8, if_neg h9]
  exact f p h9 h8 h7
theorem Rc.win {s b e : Nat} {m m2 S S2 : gm_Mem} (h : Rc s b 0 m S) (he : e = 0 ∨ e = 1) (f1 : ∀ p, p < 7 ∨ 12 < p → m2 p = m p) (f2 : ∀ p j, j ≠ e → m2 p j = m p j) (f3 : ∀ p, p ≠ 2 + 12 * e → p ≠ 12 + 12 * e → p ≠ 13 + 12 * e → S2 p = S p) (f4 : ∀ k, k ≠ 6 → k ≠ 7 → k ≠ 13 → S2 (2 + 12 * e) k = S (2 + 12 * e) k)
    (hw : r_win b (m 5 e) (m 6 e) (m2 7 e) (m2 8 e) (m2 9 e) (m2 10 e) (m2 11 e) (m2 12 e) (S2 (2 + 12 * e) 6) (S2 (2 + 12 * e) 7) (S2 (2 + 12 * e) 11) (S2 (2 + 12 * e) 12) (S2 (2 + 12 * e) 13) (S2 (12 + 12 * e)) (S2 (13 + 12 * e))) : Rc s b 0 m2 S2 ∧ r_FM m m2 ∧ r_FC S S2 := by
  refine ⟨?_, ⟨f1 _ (by decide), f1 _ (by decide), f1 _ (by decide), f1 _ (by decide), f1 _ (by decide), f1 _ (by decide), congrFun (f1 0 (by decide)) _, congrFun (f1 0 (by decide)) _, congrFun (f1 0 (by decide)) _, congrFun (f1 0 (by decide)) _⟩, fun p hp => f3 p (by omega) (by omega) (by omega), f3 0 (by omega) (by omega) (by omega)⟩
  have em := r_six f1
  have eS := r_three f3
  obtain ⟨hs, hl, hn, ht, hr, h0, g0, g1⟩ := h
  rw [em, eS]
  rcases he with rfl | rfl
  · have x0 : S2 2 0 = S 2 0 := f4 0 (by decide) (by decide) (by decide)
    have x8 : S2 2 8 = S 2 8 := f4 8 (by decide) (by decide) (by decide)
    have x9 : S2 2 9 = S 2 9 := f4 9 (by decide) (by decide) (by decide)
    have x10 : S2 2 10 = S 2 10 := f4 10 (by decide) (by decide) (by decide)
    have x14 : S2 2 14 = S 2 14 := f4 14 (by decide) (by decide) (by decide)
    have x15 : S2 2 15 = S 2 15 := f4 15 (by decide) (by decide) (by decide)
    have x16 : S2 2 16 = S 2 16 := f4 16 (by decide) (by decide) (by decide)
    have x17 : S2 2 17 = S 2 17 := f4 17 (by decide) (by decide) (by decide)
    refine ⟨hs, hl, (by repeat (first | exact hn | refine r_net.u (by decide) ?_ | refine r_net.up (by decide) ?_)), ht, hr, ?_, ⟨?_, g0.2.1, g0.2.2.1, hw⟩, g1.1, g1.2.1, g1.2.2.1, ?_⟩
    · show r_e0 (m 3 0) (m 0 35) (m 0 36) (m 0 37) (S2 2 15) (S2 2 14) (S2 2 16) (S2 2 17)
      rw [x14, x15, x16, x17]
      exact h0
    · show r_end 0 (m 1 0) (m 2 0) (m 4 0) (S2 2 0) (S2 2 8) (S2 2 9) (S2 2 10)
      rw [x0, x8, x9, x10]
      exact g0.1
    · show r_win b (m 5 1) (m 6 1) (m2 7 1) (m2 8 1) (m2 9 1) (m2 10 1) (m2 11 1) (m2 12 1) (S 14 6) (S 14 7) (S 14 11) (S 14 12) (S 14 13) (S 24) (S 25)
      rw [f2 7 1 (by decide), f2 8 1 (by decide), f2 9 1 (by decide), f2 10 1 (by decide), f2 11 1 (by decide), f2 12 1 (by decide)]
      exact g1.2.2.2
  · have x0 : S2 14 0 = S 14 0 := f4 0 (by decide) (by decide) (by decide)
    have x8 : S2 14 8 = S 14 8 := f4 8 (by decide) (by decide) (by decide)
    have x9 : S2 14 9 = S 14 9 := f4 9 (by decide) (by decide) (by decide)
    have x10 : S2 14 10 = S 14 10 := f4 10 (by decide) (by decide) (by decide)
    refine ⟨hs, hl, (by repeat (first | exact hn | refine r_net.u (by decide) ?_ | refine r_net.up (by decide) ?_)), ht, hr, h0, ⟨g0.1, g0.2.1, g0.2.2.1, ?_⟩, ?_, g1.2.1, g1.2.2.1, hw⟩
    · show r_win b (m 5 0) (m 6 0) (m2 7 0) (m2 8 0) (m2 9 0) (m2 10 0) (m2 11 0) (m2 12 0) (S 2 6) (S 2 7) (S 2 11) (S 2 12) (S 2 13) (S 12) (S 13)
      rw [f2 7 0 (by decide), f2 8 0 (by decide), f2 9 0 (by decide), f2 10 0 (by decide), f2 11 0 (by decide), f2 12 0 (by decide)]
      exact g0.2.2.2
    · show r_end 1 (m 1 1) (m 2 1) (m 4 1) (S2 14 0) (S2 14 8) (S2 14 9) (S2 14 10)
      rw [x0, x8, x9, x10]
      exact g1.1
theorem r_enters {s b e n : Nat} {k : Int32} {m S : gm_Mem} (hB : b < 1000000000) (h : Rc s b 0 m S) (he : e = 0 ∨ e = 1) (hn : n ≤ 20) (hk : 0 ≤ k.toInt ∧ k.toInt ≤ b)
    (hr : ((m 7 e).toInt ≤ k.toInt ∧ k.toInt ≤ (m 7 e).toInt + 2) ∨ (k.toInt = (m 7 e).toInt - 1 ∧ 1 ≤ (m 12 e).toInt)) (w1 : k = m 7 e → ∀ t : Nat, t ≤ 20 → m 8 e = nI t → t ≤ n + 7) (w2 : k.toInt < (m 7 e).toInt → ∀ t : Nat, t ≤ 20 → m 10 e = nI t → t ≤ n + 7) :
    ∃ m2 S2 : gm_Mem, gm_run gM 1 YX11_enters 0 [some (.ref 0), some (.int (nI e)), some (.int k), some (.int (nI n))] [] m none m2 ∧ gm_run gC 1 YX0_enterInWindow 0 [some (.ref (2 + 12 * e)), some (.int k), some (.int (nI n))] [] S none S2 ∧ Rc s b 0 m2 S2 ∧ r_FM m m2 ∧ r_FC S S2 ∧ (∀ p, p < 7 ∨ 12 < p → m2 p = m p) := by
  obtain ⟨b1, b2, b3, b4, b5, b6, b7, b8⟩ := (h.re he).2.2.2
  have ke : 2 + 12 * e = 2 ∨ 2 + 12 * e = 14 ∨ 2 + 12 * e = 60 ∨ 2 + 12 * e = 72 := by omega
  have kw : 12 + 12 * e = 12 ∨ 12 + 12 * e = 13 ∨ 12 + 12 * e = 24 ∨ 12 + 12 * e = 25 ∨ 12 + 12 * e = 70 ∨ 12 + 12 * e = 71 ∨ 12 + 12 * e = 82 ∨ 12 + 12 * e = 83 := by omega
  have kv : 13 + 12 * e = 12 ∨ 13 + 12 * e = 13 ∨ 13 + 12 * e = 24 ∨ 13 + 12 * e = 25 ∨ 13 + 12 * e = 70 ∨ 13 + 12 * e = 71 ∨ 13 + 12 * e = 82 ∨ 13 + 12 * e = 83 := by omega
  have e10 : 2 + 12 * e + 10 = 12 + 12 * e := by omega
  have e11 : 2 + 12 * e + 11 = 13 + 12 * e := by omega
  by_cases c1 : k.toInt < (m 7 e).toInt
  · -- the previous window
    have hprev : 1 ≤ (m 12 e).toInt := by
      rcases hr with z | z
      · omega
      · exact z.2
    have hw : r_wn (m 10 e) (m 11 e) (S (13 + 12 * e) 0) (S (13 + 12 * e) 1) := by
      rcases b8 with ⟨z1, z2⟩ | ⟨z1, z2, z3, z4⟩
      · rw [z2] at hprev
        exact absurd hprev (by decide)
      · exact z4
    obtain ⟨r, c0, c1', q1, q2, q3, q4⟩ := p_enter kv hn hw (w2 c1)
    have d1 : k < m 7 e := Int32.lt_iff_toInt_lt.mpr c1
    have d2 : ¬ S (2 + 12 * e) 13 < k := by rw [← b5, Int32.lt_iff_toInt_lt]; omega
    have d3 : ¬ k = S (2 + 12 * e) 13 := by rw [← b5]; intro z; rw [z] at c1; omega
    have hC := PX0_enterInWindow_6 (S := S) (a1 := k) (a2 := nI n) ke d2 d3 kv (by rw [← e11]; exact PX0_windowOf_2 ke d3) q2
    have hnew : ∀ x : Int32, r_wn x r c0 c1' → r_win b (m 5 e) (m 6 e) (m 7 e) (m 8 e) (m 9 e) x r (m 12 e) (S (2 + 12 * e) 6) (S (2 + 12 * e) 7) (S (2 + 12 * e) 11) (S (2 + 12 * e) 12) (S (2 + 12 * e) 13) (S (12 + 12 * e)) (gm_u (gm_u S (13 + 12 * e) 0 c0) (13 + 12 * e) 1 c1' (13 + 12 * e)) := by
      intro x hx
      refine ⟨b1, b2, b3, b4, b5, b6, b7, ?_⟩
      rcases b8 with z | ⟨z1, z2, z3, z4⟩
      · exact Or.inl z
      · refine Or.inr ⟨z1, z2, z3, ?_⟩
        rcases he with rfl | rfl
        · exact hx
        · exact hx
    by_cases c3 : m 10 e < nI n
    · have hh := q3 c3
      obtain ⟨t1, t2, t3⟩ := Rc.win (m2 := gm_u (gm_u m 11 e r) 10 e (nI n)) (S2 := gm_u (gm_u S (13 + 12 * e) 0 c0) (13 + 12 * e) 1 c1') h he (fun p hp => by simp [gm_u, show p ≠ 10 by omega, show p ≠ 11 by omega]) (fun p j hj => by rw [gm_rj hj, gm_rj hj]) (fun p p1 p2 p3 => by simp [gm_u, p3]) (fun j j1 j2 j3 => by simp [gm_u])
        (by
          have z := hnew _ hh
          rcases he with rfl | rfl
          · exact z
          · exact z)
      exact ⟨_, _, PX11_enters_1 (ix_e he) d1 (q1 m) c3, hC, t1, t2, t3, fun p hp => by simp [gm_u, show p ≠ 10 by omega, show p ≠ 11 by omega]⟩
    · have hh := q4 c3
      obtain ⟨t1, t2, t3⟩ := Rc.win (m2 := gm_u (gm_u m 11 e r) 10 e (m 10 e)) (S2 := gm_u (gm_u S (13 + 12 * e) 0 c0) (13 + 12 * e) 1 c1') h he (fun p hp => by simp [gm_u, show p ≠ 10 by omega, show p ≠ 11 by omega]) (fun p j hj => by rw [gm_rj hj, gm_rj hj]) (fun p p1 p2 p3 => by simp [gm_u, p3]) (fun j j1 j2 j3 => by simp [gm_u])
        (by
          have z := hnew _ hh
          rcases he with rfl | rfl
          · exact z
          · exact z)
      exact ⟨_, _, PX11_enters_2 (ix_e he) d1 (q1 m) c3, hC, t1, t2, t3, fun p hp => by simp [gm_u, show p ≠ 10 by omega, show p ≠ 11 by omega]⟩
  · have d1 : ¬ k < m 7 e := by rw [Int32.lt_iff_toInt_lt]; exact c1
    by_cases c2 : k = m 7 e
    · have d2 : ¬ m 7 e < k := by rw [c2]; exact fun z => d1 (by rw [c2]; exact z)
      have x2 : ¬ S (2 + 12 * e) 13 < k := by rw [← b5]; exact d2
      have x3 : k = S (2 + 12 * e) 13 := c2.trans b5
      rcases b8 with ⟨z1, z2⟩ | ⟨z1, z2, z3, z4⟩
      · obtain ⟨r, c0, c1', q1, q2, q3, q4⟩ := p_enter kw hn b7 (w1 c2)
        have hC := PX0_enterInWindow_5 (S := S) (a1 := k) (a2 := nI n) ke x2 x3 z1 kw (by rw [← e10]; exact PX0_windowOf_1 ke x3) q2
        have d4 : ¬ 0 < m 12 e := by rw [z2]; decide
        have hnew : ∀ x : Int32, r_wn x r c0 c1' → r_win b (m 5 e) (m 6 e) (m 7 e) x r (m 10 e) (m 11 e) (m 12 e) (S (2 + 12 * e) 6) (S (2 + 12 * e) 7) (S (2 + 12 * e) 11) (S (2 + 12 * e) 12) (S (2 + 12 * e) 13) (gm_u (gm_u S (12 + 12 * e) 0 c0) (12 + 12 * e) 1 c1' (12 + 12 * e)) (S (13 + 12 * e)) := by
          intro x hx
          refine ⟨b1, b2, b3, b4, b5, b6, ?_, Or.inl ⟨z1, z2⟩⟩
          rcases he with rfl | rfl
          · exact hx
          · exact hx
        by_cases c3 : m 8 e < nI n
        · have hh := q3 c3
          obtain ⟨t1, t2, t3⟩ := Rc.win (m2 := gm_u (gm_u m 9 e r) 8 e (nI n)) (S2 := gm_u (gm_u S (12 + 12 * e) 0 c0) (12 + 12 * e) 1 c1') h he (fun p hp => by simp [gm_u, show p ≠ 8 by omega, show p ≠ 9 by omega]) (fun p j hj => by rw [gm_rj hj, gm_rj hj]) (fun p p1 p2 p3 => by simp [gm_u, p2]) (fun j j1 j2 j3 => by simp [gm_u])
            (by
              have z := hnew _ hh
              rcases he with rfl | rfl
              · exact z
              · exact z)
          exact ⟨_, _, PX11_enters_9 (ix_e he) d1 d2 d4 (q1 m) c3, hC, t1, t2, t3, fun p hp => by simp [gm_u, show p ≠ 8 by omega, show p ≠ 9 by omega]⟩
        · have hh := q4 c3
          obtain ⟨t1, t2, t3⟩ := Rc.win (m2 := gm_u (gm_u m 9 e r) 8 e (m 8 e)) (S2 := gm_u (gm_u S (12 + 12 * e) 0 c0) (12 + 12 * e) 1 c1') h he (fun p hp => by simp [gm_u, show p ≠ 8 by omega, show p ≠ 9 by omega]) (fun p j hj => by rw [gm_rj hj, gm_rj hj]) (fun p p1 p2 p3 => by simp [gm_u, p2]) (fun j j1 j2 j3 => by simp [gm_u])
            (by
              have z := hnew _ hh
              rcases he with rfl | rfl
              · exact z
              · exact z)
          exact ⟨_, _, PX11_enters_10 (ix_e he) d1 d2 d4 (q1 m) c3, hC, t1, t2, t3, fun p hp => by simp [gm_u, show p ≠ 8 by omega, show p ≠ 9 by omega]⟩
      · -- one packet of the previous epoch's time less
        obtain ⟨y, hy1, hy2, hy3⟩ : ∃ y : Nat, 1 ≤ y ∧ y ≤ 4 ∧ S (2 + 12 * e) 7 = nI y := by
          obtain ⟨y, y1, y2⟩ := nI_of2 (x := S (2 + 12 * e) 7) (M := 4) (n := 4) rfl (by rw [Int32.lt_iff_toInt_lt]; have : (0 : Int32).toInt = 0 := rfl; omega) (by rw [Int32.le_iff_toInt_le]; exact z3.2)
          refine ⟨y, ?_, y1, y2⟩
          have := z3.1
          rw [y2, nI_toInt (by omega)] at this
          omega
        have d4 : 0 < m 12 e := by rw [z2, Int32.lt_iff_toInt_lt]; have : (0 : Int32).toInt = 0 := rfl; omega
        have hx6 : ¬ S (2 + 12 * e) 6 = 0 := by rw [z1]; decide
        have hym : nI y - 1 = nI (y - 1) := pk_sub (a := y) (b := 1) (by omega)
        have key : ∀ v6 : Int32, (v6 = 1 ∧ 2 ≤ y) ∨ (v6 = 0 ∧ y = 1) → ∃ m2 S2 : gm_Mem, gm_run gM 1 YX11_enters 0 [some (.ref 0), some (.int (nI e)), some (.int k), some (.int (nI n))] [] m none m2 ∧ gm_run gC 1 YX0_enterInWindow 0 [some (.ref (2 + 12 * e)), some (.int k), some (.int (nI n))] [] S none S2 ∧ Rc s b 0 m2 S2 ∧ r_FM m m2 ∧ r_FC S S2 ∧ (∀ p, p < 7 ∨ 12 < p → m2 p = m p) := by
          intro v6 hv6
          have eS : (gm_u (gm_u S (2 + 12 * e) 7 ((S (2 + 12 * e) 7) - 1)) (2 + 12 * e) 6 v6) (12 + 12 * e) = S (12 + 12 * e) := by simp [gm_u]
          have eS13 : k = (gm_u (gm_u S (2 + 12 * e) 7 ((S (2 + 12 * e) 7) - 1)) (2 + 12 * e) 6 v6) (2 + 12 * e) 13 := by simp [gm_u, x3]
          obtain ⟨r, c0, c1', q1, q2, q3, q4⟩ := p_enter (T := gm_u (gm_u S (2 + 12 * e) 7 ((S (2 + 12 * e) 7) - 1)) (2 + 12 * e) 6 v6) (hi := m 8 e) (ac := m 9 e) kw hn (by rw [eS]; exact b7) (w1 c2)
          have hC : gm_run gC 1 YX0_enterInWindow 0 [some (.ref (2 + 12 * e)), some (.int k), some (.int (nI n))] [] S none (gm_u (gm_u (gm_u (gm_u S (2 + 12 * e) 7 ((S (2 + 12 * e) 7) - 1)) (2 + 12 * e) 6 v6) (12 + 12 * e) 0 c0) (12 + 12 * e) 1 c1') := by
            rcases hv6 with ⟨rfl, hy⟩ | ⟨rfl, hy⟩
            · exact PX0_enterInWindow_3 (S := S) (a1 := k) (a2 := nI n) ke x2 x3 hx6 (by rw [hy3, hym]; exact (nI_ltI (a := 0) (b := y - 1) (by decide) (by omega)).mpr (by omega)) kw (by have z := PX0_windowOf_1 ke eS13; rw [e10] at z; exact z) q2
            · exact PX0_enterInWindow_4 (S := S) (a1 := k) (a2 := nI n) ke x2 x3 hx6 (by rw [hy3, hym, hy]; decide) kw (by have z := PX0_windowOf_1 ke eS13; rw [e10] at z; exact z) q2
          have hnew : ∀ x : Int32, r_wn x r c0 c1' → r_win b (m 5 e) (m 6 e) (m 7 e) x r (m 10 e) (m 11 e) (m 12 e - 1) v6 ((S (2 + 12 * e) 7) - 1) (S (2 + 12 * e) 11) (S (2 + 12 * e) 12) (S (2 + 12 * e) 13) (gm_u (gm_u S (12 + 12 * e) 0 c0) (12 + 12 * e) 1 c1' (12 + 12 * e)) (S (13 + 12 * e)) := by
            intro x hx
            refine ⟨b1, b2, b3, b4, b5, b6, ?_, ?_⟩
            · rcases he with rfl | rfl
              · exact hx
              · exact hx
            · rw [z2, hy3]
              rcases hv6 with ⟨rfl, hy⟩ | ⟨rfl, hy⟩
              · refine Or.inr ⟨rfl, rfl, ?_, z4⟩
                have := pk_sub_toInt (a := y) (b := 1) (by omega) (by decide)
                have e1 : (nI y - 1).toInt = (y : Int) - 1 := this
                rw [e1]
                omega
              · subst hy
                exact Or.inl ⟨rfl, rfl⟩
          by_cases c3 : m 8 e < nI n
          · have hh := q3 c3
            obtain ⟨t1, t2, t3⟩ := Rc.win (m2 := gm_u (gm_u (gm_u m 12 e (m 12 e - 1)) 9 e r) 8 e (nI n)) (S2 := gm_u (gm_u (gm_u (gm_u S (2 + 12 * e) 7 ((S (2 + 12 * e) 7) - 1)) (2 + 12 * e) 6 v6) (12 + 12 * e) 0 c0) (12 + 12 * e) 1 c1') h he (fun p hp => by simp [gm_u, show p ≠ 8 by omega, show p ≠ 9 by omega, show p ≠ 12 by omega]) (fun p j hj => by rw [gm_rj hj, gm_rj hj, gm_rj hj]) (fun p p1 p2 p3 => by simp [gm_u, p1, p2]) (fun j j1 j2 j3 => by simp [gm_u, j1, j2])
              (by
                have z := hnew _ hh
                rcases he with rfl | rfl
                · exact z
                · exact z)
            exact ⟨_, _, PX11_enters_7 (ix_e he) d1 d2 d4 (q1 _) c3, hC, t1, t2, t3, (fun p hp => by simp [gm_u, show p ≠ 8 by omega, show p ≠ 9 by omega, show p ≠ 12 by omega])⟩
          · have hh := q4 c3
            obtain ⟨t1, t2, t3⟩ := Rc.win (m2 := gm_u (gm_u (gm_u m 12 e (m 12 e - 1)) 9 e r) 8 e (m 8 e)) (S2 := gm_u (gm_u (gm_u (gm_u S (2 + 12 * e) 7 ((S (2 + 12 * e) 7) - 1)) (2 + 12 * e) 6 v6) (12 + 12 * e) 0 c0) (12 + 12 * e) 1 c1') h he (fun p hp => by simp [gm_u, show p ≠ 8 by omega, show p ≠ 9 by omega, show p ≠ 12 by omega]) (fun p j hj => by rw [gm_rj hj, gm_rj hj, gm_rj hj]) (fun p p1 p2 p3 => by simp [gm_u, p1, p2]) (fun j j1 j2 j3 => by simp [gm_u, j1, j2])
              (by
                have z := hnew _ hh
                rcases he with rfl | rfl
                · exact z
                · exact z)
            exact ⟨_, _, PX11_enters_8 (ix_e he) d1 d2 d4 (q1 _) c3, hC, t1, t2, t3, (fun p hp => by simp [gm_u, show p ≠ 8 by omega, show p ≠ 9 by omega, show p ≠ 12 by omega])⟩
        by_cases hy : y = 1
        · exact key 0 (Or.inr ⟨rfl, hy⟩)
        · exact key 1 (Or.inl ⟨rfl, by omega⟩)
    · -- a higher epoch
      have d2 : m 7 e < k := by
        rw [Int32.lt_iff_toInt_lt]
        have : ¬ k.toInt = (m 7 e).toInt := fun z => c2 (Int32.toInt_inj.mp z)
        omega
      have x2 : S (2 + 12 * e) 13 < k := by rw [← b5]; exact d2
      have key : ∀ v6 v12 : Int32, (v6 = 1 ∧ v12 = 4 ∧ k = (m 7 e) + 1) ∨ (v6 = 0 ∧ v12 = 0 ∧ ¬ k = (m 7 e) + 1) → ∃ m2 S2 : gm_Mem, gm_run gM 1 YX11_enters 0 [some (.ref 0), some (.int (nI e)), some (.int k), some (.int (nI n))] [] m none m2 ∧ gm_run gC 1 YX0_enterInWindow 0 [some (.ref (2 + 12 * e)), some (.int k), some (.int (nI n))] [] S none S2 ∧ Rc s b 0 m2 S2 ∧ r_FM m m2 ∧ r_FC S S2 ∧ (∀ p, p < 7 ∨ 12 < p → m2 p = m p) := by
        intro v6 v12 hv
        have q0 := PX8_copyFrom_1 (p := 13 + 12 * e) (o := 12 + 12 * e) (S := gm_u S (2 + 12 * e) 6 v6) kv kw (by omega)
        have w0 : (gm_u S (2 + 12 * e) 6 v6) (12 + 12 * e) = S (12 + 12 * e) := by simp [gm_u]
        rw [w0] at q0
        have q5 := PX8_clear_1 (p := 12 + 12 * e) (S := gm_u (gm_u (gm_u (gm_u (gm_u S (2 + 12 * e) 6 v6) (13 + 12 * e) 0 (S (12 + 12 * e) 0)) (13 + 12 * e) 1 (S (12 + 12 * e) 1)) (2 + 12 * e) 7 4) (2 + 12 * e) 13 k) kw
        obtain ⟨r, c0, c1', q1, q2, q3, q4⟩ := p_enter (T := gm_u (gm_u (gm_u (gm_u (gm_u (gm_u (gm_u S (2 + 12 * e) 6 v6) (13 + 12 * e) 0 (S (12 + 12 * e) 0)) (13 + 12 * e) 1 (S (12 + 12 * e) 1)) (2 + 12 * e) 7 4) (2 + 12 * e) 13 k) (12 + 12 * e) 0 0) (12 + 12 * e) 1 0) (hi := -1) (ac := m 9 e) kw hn (Or.inl ⟨rfl, by simp [gm_u]⟩) (fun t t20 ht => by
          have := congrArg Int32.toInt ht
          rw [nI_toInt (by omega)] at this
          have z : (-1 : Int32).toInt = -1 := rfl
          omega)
        have hlt : (-1 : Int32) < nI n := by
          rw [Int32.lt_iff_toInt_lt, nI_toInt (by omega)]
          have z : (-1 : Int32).toInt = -1 := rfl
          omega
        have eS13 : k = (gm_u (gm_u (gm_u (gm_u (gm_u (gm_u (gm_u S (2 + 12 * e) 6 v6) (13 + 12 * e) 0 (S (12 + 12 * e) 0)) (13 + 12 * e) 1 (S (12 + 12 * e) 1)) (2 + 12 * e) 7 4) (2 + 12 * e) 13 k) (12 + 12 * e) 0 0) (12 + 12 * e) 1 0) (2 + 12 * e) 13 := by simp [gm_u]
        have hone : k = (m 7 e) + 1 ↔ (k - S (2 + 12 * e) 13) = 1 := by
          rw [← b5]
          rw [← b5] at b6
          rw [← Int32.toInt_inj, ← Int32.toInt_inj]
          simp only [Int32.toInt_add, Int32.toInt_sub, Int32.reduceToInt, Int.bmod]
          omega
        have hC : gm_run gC 1 YX0_enterInWindow 0 [some (.ref (2 + 12 * e)), some (.int k), some (.int (nI n))] [] S none (gm_u (gm_u (gm_u (gm_u (gm_u (gm_u (gm_u (gm_u (gm_u S (2 + 12 * e) 6 v6) (13 + 12 * e) 0 (S (12 + 12 * e) 0)) (13 + 12 * e) 1 (S (12 + 12 * e) 1)) (2 + 12 * e) 7 4) (2 + 12 * e) 13 k) (12 + 12 * e) 0 0) (12 + 12 * e) 1 0) (12 + 12 * e) 0 c0) (12 + 12 * e) 1 c1') := by
          rcases hv with ⟨rfl, -, hy⟩ | ⟨rfl, -, hy⟩
          · exact PX0_enterInWindow_1 ke x2 (hone.mp hy) (by rw [e10, e11]; exact q0) (by rw [e10]; exact q5) kw (by have z := PX0_windowOf_1 ke eS13; rw [e10] at z; exact z) q2
          · exact PX0_enterInWindow_2 ke x2 (fun z => hy (hone.mpr z)) (by rw [e10, e11]; exact q0) (by rw [e10]; exact q5) kw (by have z := PX0_windowOf_1 ke eS13; rw [e10] at z; exact z) q2
        have hM : gm_run gM 1 YX11_enters 0 [some (.ref 0), some (.int (nI e)), some (.int k), some (.int (nI n))] [] m none (gm_u (gm_u (gm_u (gm_u (gm_u (gm_u (gm_u m 12 e v12) 10 e (m 8 e)) 11 e (m 9 e)) 7 e k) 8 e (-1)) 9 e r) 8 e (nI n)) := by
          rcases hv with ⟨-, rfl, hy⟩ | ⟨-, rfl, hy⟩
          · exact PX11_enters_3 (ix_e he) d1 d2 hy (q1 _) hlt
          · exact PX11_enters_5 (ix_e he) d1 d2 hy (q1 _) hlt
        have hh := q3 hlt
        have hprev : (v6 = 0 ∧ v12 = 0) ∨ (v6 = 1 ∧ v12 = 4 ∧ (1 ≤ (4 : Int32).toInt ∧ (4 : Int32).toInt ≤ 4) ∧ r_wn (m 8 e) (m 9 e) (S (12 + 12 * e) 0) (S (12 + 12 * e) 1)) := by
          rcases hv with ⟨z1, z2, -⟩ | ⟨z1, z2, -⟩
          · exact Or.inr ⟨z1, z2, by decide, b7⟩
          · exact Or.inl ⟨z1, z2⟩
        have hw := hk
        obtain ⟨t1, t2, t3⟩ := Rc.win (m2 := gm_u (gm_u (gm_u (gm_u (gm_u (gm_u (gm_u m 12 e v12) 10 e (m 8 e)) 11 e (m 9 e)) 7 e k) 8 e (-1)) 9 e r) 8 e (nI n)) (S2 := gm_u (gm_u (gm_u (gm_u (gm_u (gm_u (gm_u (gm_u (gm_u S (2 + 12 * e) 6 v6) (13 + 12 * e) 0 (S (12 + 12 * e) 0)) (13 + 12 * e) 1 (S (12 + 12 * e) 1)) (2 + 12 * e) 7 4) (2 + 12 * e) 13 k) (12 + 12 * e) 0 0) (12 + 12 * e) 1 0) (12 + 12 * e) 0 c0) (12 + 12 * e) 1 c1') h he
          (fun p hp => by simp [gm_u, show p ≠ 7 by omega, show p ≠ 8 by omega, show p ≠ 9 by omega, show p ≠ 10 by omega, show p ≠ 11 by omega, show p ≠ 12 by omega]) (fun p j hj => by rw [gm_rj hj, gm_rj hj, gm_rj hj, gm_rj hj, gm_rj hj, gm_rj hj, gm_rj hj]) (fun p p1 p2 p3 => by simp [gm_u, p1, p2, p3]) (fun j j1 j2 j3 => by simp [gm_u, j1, j2, j3])
          (by
            rcases he with rfl | rfl
            · exact ⟨b1, b2, b3, b4, rfl, hk, hh, hprev⟩
            · exact ⟨b1, b2, b3, b4, rfl, hk, hh, hprev⟩)
        exact ⟨_, _, hM, hC, t1, t2, t3, fun p hp => by simp [gm_u, show p ≠ 7 by omega, show p ≠ 8 by omega, show p ≠ 9 by omega, show p ≠ 10 by omega, show p ≠ 11 by omega, show p ≠ 12 by omega]⟩
      by_cases hy : k = (m 7 e) + 1
      · exact key 1 4 (Or.inl ⟨rfl, rfl, hy⟩)
      · exact key 0 0 (Or.inr ⟨rfl, rfl, hy⟩)
