/-! PAIR: acknowledges / acknowledge -/
theorem p_ackN {m : gm_Mem} {e n lo A : Nat} {r : Option Value} {m2 : gm_Mem} (he : e = 0 ∨ e = 1) (hn : n ≤ 16) (hlo : lo + n ≤ 1024) (hA : A ≤ 1024) (h18 : m 18 e = nI n) (h20 : ∀ k, k < n → m 20 (16 * e + k) = nI (lo + k)) :
    ∀ d i, i + d = min (A - lo) n → gm_run gM 0 YX11_acknowledges 46 [some (.ref 0), some (.int (nI e)), some (.int (nI A)), some (.int (nI (min (A - lo) n))), some (.int 0), none] [] (gm_u m 18 e (nI (n - min (A - lo) n))) r m2 →
      gm_run gM 0 YX11_acknowledges 2 [some (.ref 0), some (.int (nI e)), some (.int (nI A)), some (.int (nI i)), none, none] [] m r m2 := by
  intro d
  induction d with
  | zero =>
    intro i hi K
    have hi' : i = min (A - lo) n := by omega
    rw [← hi'] at K
    have hs : (m 18 e) - nI i = nI (n - i) := by rw [h18, pk_sub (by omega)]
    by_cases c : i < n
    · refine PX11_acknowledges_3 (j3 := 16 * e + i) (ix_e he) ?_ (ix_c (nI_16 e i) (by omega) (by decide)) ?_ ?_
      · rw [h18]; exact (nI_ltI (by omega) (by omega)).mpr c
      · rw [h20 i c, nI_ltI (by omega) (by omega)]; omega
      · rw [hs]; exact K
    · refine PX11_acknowledges_4 (ix_e he) ?_ ?_
      · rw [h18, nI_ltI (by omega) (by omega)]; exact c
      · rw [hs]; exact K
  | succ d ih =>
    intro i hi K
    refine PX11_acknowledges_2 (j3 := 16 * e + i) (ix_e he) ?_ (ix_c (nI_16 e i) (by omega) (by decide)) ?_ ?_
    · rw [h18]; exact (nI_ltI (by omega) (by omega)).mpr (by omega)
    · rw [h20 i (by omega)]; exact (nI_ltI (by omega) (by omega)).mpr (by omega)
    · rw [nI_1]
      exact ih (i + 1) (by omega) K
theorem p_ackM {e g n A : Nat} (he : e = 0 ∨ e = 1) (hg : g + n ≤ 16) : ∀ d j (m : gm_Mem), j + d = n → m 18 e = nI n →
    ∃ m2 : gm_Mem, gm_run gM 0 YX11_acknowledges 46 [some (.ref 0), some (.int (nI e)), some (.int (nI A)), some (.int (nI g)), some (.int (nI j)), none] [] m none m2 ∧
      (∀ p, p < 20 ∨ 23 < p → m2 p = m p) ∧ ∀ p, 20 ≤ p → p ≤ 23 → (∀ k, j ≤ k → k < n → m2 p (16 * e + k) = m p (16 * e + (k + g))) ∧ ∀ i, i < 16 * e + j ∨ 16 * e + n ≤ i → m2 p i = m p i := by
  intro d
  induction d with
  | zero =>
    intro j m hj h18
    refine ⟨m, PX11_acknowledges_6 (ix_e he) ?_, fun p _ => rfl, fun p _ _ => ⟨fun k h1 h2 => absurd h2 (by omega), fun i _ => rfl⟩⟩
    rw [h18, nI_ltI (by omega) (by omega)]
    omega
  | succ d ih =>
    intro j m hj h18
    have i4 : gm_ix ((16 * nI e) + nI j) (16 * e + j) 32 := ix_c (nI_16 e j) (by omega) (by decide)
    have i3 : gm_ix (((16 * nI e) + nI j) + nI g) (16 * e + (j + g)) 32 := ix_c (by rw [nI_16, nI_add, Nat.add_assoc]) (by omega) (by decide)
    obtain ⟨m2, q1, q2, q3⟩ := ih (j + 1) (gm_u (gm_u (gm_u (gm_u m 20 (16 * e + j) (m 20 (16 * e + (j + g)))) 21 (16 * e + j) (m 21 (16 * e + (j + g)))) 22 (16 * e + j) (m 22 (16 * e + (j + g)))) 23 (16 * e + j) (m 23 (16 * e + (j + g)))) (by omega) h18
    rw [← nI_1] at q1
    have hm' : ∀ p, 20 ≤ p → p ≤ 23 → (gm_u (gm_u (gm_u (gm_u m 20 (16 * e + j) (m 20 (16 * e + (j + g)))) 21 (16 * e + j) (m 21 (16 * e + (j + g)))) 22 (16 * e + j) (m 22 (16 * e + (j + g)))) 23 (16 * e + j) (m 23 (16 * e + (j + g)))) p (16 * e + j) = m p (16 * e + (j + g)) ∧
        ∀ i, i ≠ 16 * e + j → (gm_u (gm_u (gm_u (gm_u m 20 (16 * e + j) (m 20 (16 * e + (j + g)))) 21 (16 * e + j) (m 21 (16 * e + (j + g)))) 22 (16 * e + j) (m 22 (16 * e + (j + g)))) 23 (16 * e + j) (m 23 (16 * e + (j + g)))) p i = m p i := by
      intro p p1 p2
      refine ⟨?_, fun i hi => by rw [gm_rj hi, gm_rj hi, gm_rj hi, gm_rj hi]⟩
      rcases (show p = 20 ∨ p = 21 ∨ p = 22 ∨ p = 23 by omega) with rfl | rfl | rfl | rfl <;> simp [gm_u]
    refine ⟨m2, PX11_acknowledges_5 (ix_e he) ?_ i3 i4 q1, fun p hp => (q2 p hp).trans ?_, fun p p1 p2 => ⟨fun k k1 k2 => ?_, fun i hi => ?_⟩⟩
    · rw [h18]; exact (nI_ltI (by omega) (by omega)).mpr (by omega)
    · simp [gm_u, show p ≠ 20 by omega, show p ≠ 21 by omega, show p ≠ 22 by omega, show p ≠ 23 by omega]
    · by_cases hk : k = j
      · subst hk
        exact ((q3 p p1 p2).2 _ (by omega)).trans (hm' p p1 p2).1
      · exact ((q3 p p1 p2).1 k (by omega) k2).trans ((hm' p p1 p2).2 _ (by omega))
    · exact ((q3 p p1 p2).2 i (by omega)).trans ((hm' p p1 p2).2 i (by omega))
theorem p_ackC {e g n : Nat} {a1 : Int32} (he : e = 0 ∨ e = 1) (hg : 0 < g) (hgn : g + n ≤ 16) : ∀ d j (S : gm_Mem), j + d = n → S (4 + 12 * e) 2 = nI (g + n) →
    ∃ v t : Nat → Int32, gm_run gC 1 YX4_acknowledge 21 [some (.ref (4 + 12 * e)), some (.int a1), some (.int (nI g)), some (.int (nI (g + j)))] [] S none (gm_u (gm_u (va_up (va_up S (5 + 12 * e) v) (6 + 12 * e) t) (4 + 12 * e) 2 (nI n)) (4 + 12 * e) 3 ((S (4 + 12 * e) 3) + nI g)) ∧
      (∀ k, j ≤ k → k < n → v k = S (5 + 12 * e) (k + g) ∧ t k = S (6 + 12 * e) (k + g)) ∧ ∀ i, i < j → v i = S (5 + 12 * e) i ∧ t i = S (6 + 12 * e) i := by
  have kp : 4 + 12 * e = 4 ∨ 4 + 12 * e = 16 ∨ 4 + 12 * e = 62 ∨ 4 + 12 * e = 74 := by omega
  have e5 : 4 + 12 * e + 1 = 5 + 12 * e := by omega
  have e6 : 4 + 12 * e + 2 = 6 + 12 * e := by omega
  intro d
  induction d with
  | zero =>
    intro j S hj h2
    refine ⟨S (5 + 12 * e), S (6 + 12 * e), ?_, fun k h1 h2 => absurd h2 (by omega), fun i _ => ⟨rfl, rfl⟩⟩
    have q := PX4_acknowledge_5 (x1 := a1) (x2 := nI g) (x3 := nI (g + j)) (S := S) kp (by rw [h2, nI_ltI (by omega) (by omega)]; omega)
    rw [h2, pk_sub (by omega), show g + n - g = n by omega] at q
    rw [r_up_self, r_up_self]
    have e3 : gm_u S (4 + 12 * e) 2 (nI n) (4 + 12 * e) 3 = S (4 + 12 * e) 3 := gm_rk (by decide)
    exact q
  | succ d ih =>
    intro j S hj h2
    obtain ⟨v, t, q1, q2, q3⟩ := ih (j + 1) (gm_u (gm_u S (5 + 12 * e) j (S (5 + 12 * e) (g + j))) (6 + 12 * e) j (S (6 + 12 * e) (g + j))) (by omega) (by rw [gm_rp (by omega), gm_rp (by omega)]; exact h2)
    have x5 : (gm_u (gm_u S (5 + 12 * e) j (S (5 + 12 * e) (g + j))) (6 + 12 * e) j (S (6 + 12 * e) (g + j))) (5 + 12 * e) = upd (S (5 + 12 * e)) j (S (5 + 12 * e) (g + j)) := by
      rw [gm_u_eq, gm_u_eq]
      simp [va_up]
    have x6 : (gm_u (gm_u S (5 + 12 * e) j (S (5 + 12 * e) (g + j))) (6 + 12 * e) j (S (6 + 12 * e) (g + j))) (6 + 12 * e) = upd (S (6 + 12 * e)) j (S (6 + 12 * e) (g + j)) := by
      rw [gm_u_eq, gm_u_eq]
      simp [va_up]
    have x4 : (gm_u (gm_u S (5 + 12 * e) j (S (5 + 12 * e) (g + j))) (6 + 12 * e) j (S (6 + 12 * e) (g + j))) (4 + 12 * e) = S (4 + 12 * e) := by simp [gm_u]
    have xx : va_up (va_up (gm_u (gm_u S (5 + 12 * e) j (S (5 + 12 * e) (g + j))) (6 + 12 * e) j (S (6 + 12 * e) (g + j))) (5 + 12 * e) v) (6 + 12 * e) t = va_up (va_up S (5 + 12 * e) v) (6 + 12 * e) t := by
      funext p
      by_cases p5 : p = 5 + 12 * e
      · simp [va_up, p5]
      · by_cases p6 : p = 6 + 12 * e
        · simp [va_up, p6]
        · simp [va_up, gm_u, p5, p6]
    rw [x4, xx] at q1
    rw [x5, x6] at q2 q3
    refine ⟨v, t, PX4_acknowledge_3 (j3 := g + j) (j4 := j) kp ?_ ?_ (ix_n (by omega) (by decide)) (ix_c (by rw [pk_sub (by omega), show g + j - g = j by omega]) (by omega) (by decide)) ?_, fun k k1 k2 => ?_, fun i hi => ?_⟩
    · rw [h2]; exact (nI_ltI (by omega) (by omega)).mpr (by omega)
    · exact (nI_ltI (b := 16) (by omega) (by decide)).mpr (by omega)
    · rw [nI_1, e5, e6]
      exact q1
    · by_cases hk : k = j
      · subst hk
        have z := q3 k (by omega)
        simp [upd] at z
        rw [Nat.add_comm k g]
        exact z
      · have z := q2 k (by omega) k2
        simp [upd, show k + g ≠ j by omega] at z
        exact z
    · have z := q3 i (by omega)
      simp [upd, show i ≠ j by omega] at z
      exact z
theorem r_five {m m2 : gm_Mem} (f : ∀ p, p ≠ 18 → p < 20 ∨ 23 < p → m2 p = m p) : m2 = va_up (va_up (va_up (va_up (va_up m 18 (m2 18)) 20 (m2 20)) 21 (m2 21)) 22 (m2 22)) 23 (m2 23) := by
  funext p
  simp only [va_up]
  by_cases h7 : p = 18
  · subst h7; rfl
  by_cases h8 : p = 20
  · subst h8; rfl
  by_cases h9 : p = 21
  · subst h9; rfl
  by_cases h10 : p = 22
  · subst h10; rfl
  by_cases h11 : p = 23
  · subst h11; rfl
  simp only [if_neg h7, if_neg h8, if_neg h9, if_neg h10, if_neg h11]
  exact f p h7 (by omega)
theorem r_out.cg {s e : Nat} {ti kn kc km km2 : Int32} {r20 r21 r22 r23 u20 u21 u22 u23 ob va st : Nat → Int32} (h : r_out s e ti kn kc km r20 r21 r22 r23 ob va st) (hk : km2 = km) (h0 : ∀ k, k < 16 → u20 (16 * e + k) = r20 (16 * e + k)) (h1 : ∀ k, k < 16 → u21 (16 * e + k) = r21 (16 * e + k)) (h2 : ∀ k, k < 16 → u22 (16 * e + k) = r22 (16 * e + k)) (h3 : ∀ k, k < 16 → u23 (16 * e + k) = r23 (16 * e + k)) : r_out s e ti kn kc km2 u20 u21 u22 u23 ob va st := by
  obtain ⟨n, lo, a1, a2, a3, a4, a5, a6, a7, a8, a9⟩ := h
  exact ⟨n, lo, a1, a2, hk.trans a3, a4, a5, a6, a7, a8, fun k hk => by rw [h0 k (by omega), h1 k (by omega), h2 k (by omega), h3 k (by omega)]; exact a9 k hk⟩
theorem Rc.outs {s b e : Nat} {m m2 S S2 : gm_Mem} (h : Rc s b 0 m S) (he : e = 0 ∨ e = 1) (f1 : ∀ p, p ≠ 18 → p < 20 ∨ 23 < p → m2 p = m p) (f2 : ∀ j, j ≠ e → m2 18 j = m 18 j) (f3 : ∀ p, 20 ≤ p → p ≤ 23 → ∀ i, i < 16 * e ∨ 16 * e + 16 ≤ i → m2 p i = m p i) (f4 : ∀ p, p ≠ 4 + 12 * e → p ≠ 5 + 12 * e → p ≠ 6 + 12 * e → S2 p = S p)
    (hw : r_out s e (m 0 4) (m 14 e) (m 15 e) (m2 18 e) (m2 20) (m2 21) (m2 22) (m2 23) (S2 (4 + 12 * e)) (S2 (5 + 12 * e)) (S2 (6 + 12 * e))) : Rc s b 0 m2 S2 ∧ r_FM m m2 ∧ r_FC S S2 := by
  refine ⟨?_, ⟨f1 _ (by decide) (by decide), f1 _ (by decide) (by decide), f1 _ (by decide) (by decide), f1 _ (by decide) (by decide), f1 _ (by decide) (by decide), f1 _ (by decide) (by decide), congrFun (f1 0 (by decide) (by decide)) _, congrFun (f1 0 (by decide) (by decide)) _, congrFun (f1 0 (by decide) (by decide)) _, congrFun (f1 0 (by decide) (by decide)) _⟩, fun p hp => f4 p (by omega) (by omega) (by omega), f4 0 (by omega) (by omega) (by omega)⟩
  have em := r_five f1
  have eS := r_three f4
  obtain ⟨hs, hl, hn, ht, hr, h0, g0, g1⟩ := h
  rw [em, eS]
  rcases he with rfl | rfl
  · refine ⟨hs, hl, (by repeat (first | exact hn | refine r_net.u (by decide) ?_ | refine r_net.up (by decide) ?_)), ht, hr, h0, ⟨g0.1, hw, g0.2.2.1, g0.2.2.2⟩, g1.1, ?_, g1.2.2.1, g1.2.2.2⟩
    exact g1.2.1.cg (f2 1 (by decide)) (fun k hk => f3 20 (by decide) (by decide) _ (by omega)) (fun k hk => f3 21 (by decide) (by decide) _ (by omega)) (fun k hk => f3 22 (by decide) (by decide) _ (by omega)) (fun k hk => f3 23 (by decide) (by decide) _ (by omega))
  · refine ⟨hs, hl, (by repeat (first | exact hn | refine r_net.u (by decide) ?_ | refine r_net.up (by decide) ?_)), ht, hr, h0, ⟨g0.1, ?_, g0.2.2.1, g0.2.2.2⟩, g1.1, hw, g1.2.2.1, g1.2.2.2⟩
    exact g0.2.1.cg (f2 0 (by decide)) (fun k hk => f3 20 (by decide) (by decide) _ (by omega)) (fun k hk => f3 21 (by decide) (by decide) _ (by omega)) (fun k hk => f3 22 (by decide) (by decide) _ (by omega)) (fun k hk => f3 23 (by decide) (by decide) _ (by omega))
theorem r_acks {s b e : Nat} {ak : Int32} {m S : gm_Mem} (hB : s ≤ 1024) (h : Rc s b 0 m S) (he : e = 0 ∨ e = 1) (hak : 0 ≤ ak.toInt ∧ ak.toInt ≤ s) :
    ∃ m2 S2 : gm_Mem, gm_run gM 0 YX11_acknowledges 0 [some (.ref 0), some (.int (nI e)), some (.int ak), none, none, none] [] m none m2 ∧ gm_run gC 1 YX4_acknowledge 0 [some (.ref (4 + 12 * e)), some (.int ak), none, none] [] S none S2 ∧ Rc s b 0 m2 S2 ∧ r_FM m m2 ∧ r_FC S S2 ∧ (∀ p, p ≠ 18 → p < 20 ∨ 23 < p → m2 p = m p) := by
  obtain ⟨n, lo, h1, h2, h3, h4, h5, h6, h7, h8, h9⟩ := (h.re he).2.1
  have kp : 4 + 12 * e = 4 ∨ 4 + 12 * e = 16 ∨ 4 + 12 * e = 62 ∨ 4 + 12 * e = 74 := by omega
  obtain ⟨A, hA, rfl⟩ : ∃ A : Nat, A ≤ s ∧ ak = nI A := by
    obtain ⟨A, a1, a2⟩ := nI_of (x := ak) (by rw [Int32.lt_iff_toInt_lt]; have : (0 : Int32).toInt = 0 := rfl; omega)
    refine ⟨A, ?_, a2⟩
    rw [a2, nI_toInt a1] at hak
    omega
  obtain ⟨g, hg⟩ : ∃ g, g = min (A - lo) n := ⟨_, rfl⟩
  obtain ⟨m2, q1, q2, q3⟩ := p_ackM (A := A) (g := g) (n := n - g) he (by omega) (n - g) 0 (gm_u m 18 e (nI (n - g))) (by omega) (by simp [gm_u])
  have hM : gm_run gM 0 YX11_acknowledges 0 [some (.ref 0), some (.int (nI e)), some (.int (nI A)), none, none, none] [] m none m2 := by
    refine PX11_acknowledges_1 (p_ackN he h1 (by omega) (by omega) h3 (fun k hk => (h9 k hk).1) g 0 (by omega) ?_)
    rw [← hg]
    exact q1
  have hC : ∃ (S2 : gm_Mem), gm_run gC 1 YX4_acknowledge 0 [some (.ref (4 + 12 * e)), some (.int (nI A)), none, none] [] S none S2 ∧ (∀ p, p ≠ 4 + 12 * e → p ≠ 5 + 12 * e → p ≠ 6 + 12 * e → S2 p = S p) ∧ S2 (4 + 12 * e) 2 = nI (n - g) ∧ S2 (4 + 12 * e) 3 = nI (lo + g) ∧ S2 (4 + 12 * e) 4 = S (4 + 12 * e) 4 ∧ ∀ k, k < n - g → S2 (5 + 12 * e) k = S (5 + 12 * e) (k + g) ∧ S2 (6 + 12 * e) k = S (6 + 12 * e) (k + g) := by
    have hmin : gm_run gC 0 YJ9_min_7cf53 0 [some (.int (nI A - S (4 + 12 * e) 3)), some (.int (S (4 + 12 * e) 2))] [] S (some (.int (if lo ≤ A then nI g else nI A - nI lo))) S := by
      rw [h5, h6]
      by_cases c : lo ≤ A
      · rw [if_pos c, pk_sub c]
        by_cases c2 : n < A - lo
        · rw [show g = n by omega]
          exact PJ9_min_7cf53_2 ((nI_ltI (by omega) (by omega)).mpr c2)
        · rw [show g = A - lo by omega]
          exact PJ9_min_7cf53_1 (fun z => c2 ((nI_ltI (by omega) (by omega)).mp z))
      · rw [if_neg c]
        refine PJ9_min_7cf53_1 (fun z => ?_)
        rw [Int32.lt_iff_toInt_lt, pk_sub_toInt (by omega) (by omega), nI_toInt (by omega)] at z
        omega
    by_cases c : 0 < g
    · have c1 : lo ≤ A := by omega
      rw [if_pos c1] at hmin
      obtain ⟨v, t, p1, p2, p3⟩ := p_ackC (g := g) (n := n - g) (a1 := nI A) he c (by omega) (n - g) 0 S (by omega) (by rw [h5, show g + (n - g) = n by omega])
      refine ⟨_, PX4_acknowledge_2 kp hmin ((nI_ltI (a := 0) (b := g) (by decide) (by omega)).mpr c) p1, fun p p1 p2 p3 => by simp [gm_u, va_up, p1, p2, p3], by simp [gm_u], by rw [h6, nI_add]; simp [gm_u], by simp [gm_u, va_up], fun k hk => ?_⟩
      have z := p2 k (by omega) hk
      simp [gm_u, va_up]
      exact z
    · refine ⟨S, PX4_acknowledge_1 kp hmin ?_, fun _ _ _ _ => rfl, by rw [h5, show n - g = n by omega], by rw [h6, show lo + g = lo by omega], rfl, fun k hk => by rw [show k + g = k by omega]; exact ⟨rfl, rfl⟩⟩
      by_cases c1 : lo ≤ A
      · rw [if_pos c1, show g = 0 by omega]
        decide
      · rw [if_neg c1]
        rw [Int32.lt_iff_toInt_lt, pk_sub_toInt (by omega) (by omega)]
        have : (0 : Int32).toInt = 0 := rfl
        omega
  obtain ⟨S2, t1, t2, t3, t4, t5, t6⟩ := hC
  have m18 : m2 18 = gm_u m 18 e (nI (n - g)) 18 := q2 18 (by decide)
  have mx : ∀ p, 20 ≤ p → p ≤ 23 → ∀ k, k < n - g → m2 p (16 * e + k) = m p (16 * e + (k + g)) := fun p p1 p2 k hk => by
    rw [(q3 p p1 p2).1 k (by omega) hk, gm_rp (by omega)]
  obtain ⟨u1, u2, u3⟩ := Rc.outs (m2 := m2) (S2 := S2) h he (fun p p1 p2 => by rw [q2 p p2]; simp [gm_u, p1]) (fun j hj => by rw [m18]; exact gm_rk hj) (fun p p1 p2 i hi => by rw [(q3 p p1 p2).2 i (by omega), gm_rp (by omega)]) t2 (by
    refine ⟨n - g, lo + g, by omega, by omega, by rw [m18]; simp [gm_u], by rw [h4, show lo + g + (n - g) = lo + n by omega], t3, t4, by rw [t5, h7], ?_, fun k hk => ?_⟩
    · rw [show lo + g + (n - g) = lo + n by omega]
      exact h8
    · obtain ⟨k1, k2, k3, k4, k5⟩ := h9 (k + g) (by omega)
      obtain ⟨w1, w2⟩ := t6 k hk
      refine ⟨by rw [mx 20 (by decide) (by decide) k hk, k1, show lo + (k + g) = lo + g + k by omega], by rw [mx 21 (by decide) (by decide) k hk, k2, w1], ?_, by rw [mx 23 (by decide) (by decide) k hk, k4, w2], by rw [w2]; exact k5⟩
      rw [mx 22 (by decide) (by decide) k hk, k3]
      by_cases cc : k + 1 = n - g
      · have : k + g + 1 = n := by omega
        simp [cc, this]
      · have : ¬ k + g + 1 = n := by omega
        simp [cc, this])
  exact ⟨m2, S2, hM, t1, u1, u2, u3, fun p p1 p2 => by rw [q2 p p2]; simp [gm_u, p1]⟩
