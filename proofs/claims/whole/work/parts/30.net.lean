/-! PAIRS: the network's places: isPacket / at, removes / remove, foresee, drop, repeat, alter -/
theorem p_packet {s b : Nat} {m S : gm_Mem} (h : r_net s b 0 (m 30) (m 0 45) (S 26) (S 27) S) (x : Int32) :
    (gm_run gM 0 YX11_isPacket 0 [some (.ref 0), some (.int x)] [] m (some (.int 0)) m ∧ gm_run gC 0 YX3_at 0 [some (.ref 26), some (.int x)] [] S (some .null) S) ∨
    ∃ i n q : Nat, i < n ∧ n ≤ 24 ∧ x = nI i ∧ m 0 45 = nI n ∧ S 26 1 = nI n ∧ (28 ≤ q ∧ q < 52) ∧ S 27 i = nI q ∧ gm_run gM 0 YX11_isPacket 0 [some (.ref 0), some (.int x)] [] m (some (.int 1)) m ∧ gm_run gC 0 YX3_at 0 [some (.ref 26), some (.int x)] [] S (some (.ref q)) S ∧ (∀ k, k < 9 → S q k = m 30 (9 * i + k)) ∧ r_pk s b (fun k => m 30 (9 * i + k)) := by
  obtain ⟨n, pi, h1, h2, h3, h4, h5, h6, h7⟩ := h
  by_cases c1 : x < 0
  · exact Or.inl ⟨PX11_isPacket_3 c1, PX3_at_4 (by decide) c1⟩
  · obtain ⟨i, i1, rfl⟩ := nI_of c1
    by_cases c2 : i < n
    · right
      have hi24 : i < 24 := by omega
      have hq := h4 i hi24
      have e27 : S 27 i = nI (pi i) := by rw [hq.2.2, Nat.zero_add]
      refine ⟨i, n, pi i, c2, h1, rfl, h2, h3, ⟨hq.1, hq.2.1⟩, e27, PX11_isPacket_1 c1 (by rw [h2]; exact (nI_ltI i1 (by omega)).mpr c2), PX3_at_2 (j4 := i) (by decide) c1 (by rw [h3]; exact (nI_ltI i1 (by omega)).mpr c2) ((nI_ltI (b := 24) i1 (by decide)).mpr hi24) (ix_n hi24 (by decide)) ?_ (Or.inl ⟨hq.1, hq.2.1⟩), h6 i c2, h7 i c2⟩
      show (S 27 i).toNatClampNeg = pi i
      rw [e27, nI_clamp (by omega)]
    · left
      exact ⟨PX11_isPacket_2 c1 (by rw [h2, nI_ltI i1 (by omega)]; exact c2), PX3_at_3 (by decide) c1 (by rw [h3, nI_ltI i1 (by omega)]; exact c2)⟩
theorem p_remM {N : Nat} {x1 : Int32} (hN : N ≤ 23) : ∀ d x (m : gm_Mem), x + d = 9 * N → m 0 45 = nI N → ∃ r30 : Nat → Int32, gm_run gM 0 YX11_removes 15 [some (.ref 0), some (.int x1), some (.int (nI x))] [] m none (va_up m 30 r30) ∧ (∀ y, x ≤ y → y < 9 * N → r30 y = m 30 (y + 9)) ∧ ∀ y, y < x → r30 y = m 30 y := by
  have e9 : (9 : Int32) * nI N = nI (9 * N) := by show nI 9 * nI N = _; rw [pk_mul]
  intro d
  induction d with
  | zero =>
    intro x m hx h45
    refine ⟨m 30, ?_, fun y h1 h2 => absurd h2 (by omega), fun _ _ => rfl⟩
    rw [r_up_self]
    exact PX11_removes_3 (by rw [h45, e9, nI_ltI (by omega) (by omega)]; omega)
  | succ d ih =>
    intro x m hx h45
    obtain ⟨r30, q1, q2, q3⟩ := ih (x + 1) (gm_u m 30 x (m 30 (x + 9))) (by omega) (by rw [gm_rp (by decide)]; exact h45)
    rw [gm_u_eq, r_upC] at q1
    refine ⟨r30, PX11_removes_2 (j2 := x + 9) (j3 := x) (by rw [h45, e9]; exact (nI_ltI (by omega) (by omega)).mpr (by omega)) (ix_c (nI_add x 9) (by omega) (by decide)) (ix_n (by omega) (by decide)) (by rw [nI_1, gm_u_eq]; exact q1), fun y y1 y2 => ?_, fun y hy => ?_⟩
    · by_cases hxy : y = x
      · subst hxy
        rw [q3 y (by omega)]
        simp [gm_u]
      · rw [q2 y (by omega) y2]
        exact gm_rk (by omega)
    · rw [q3 y (by omega)]
      exact gm_rk (by omega)
theorem p_remC {N y2 : Nat} {x1 u2 : Int32} (hN : N ≤ 23) (hy : (28 ≤ y2 ∧ y2 < 52) ∨ (86 ≤ y2 ∧ y2 < 110)) (hu : u2.toNatClampNeg = y2) : ∀ d x (S : gm_Mem), x + d = N → S 26 1 = nI (N + 1) → (∀ j, j < 24 → 28 ≤ (S 27 j).toNatClampNeg ∧ (S 27 j).toNatClampNeg < 52) →
    ∃ ar : Nat → Int32, gm_run gC 0 YX3_remove 31 [some (.ref 26), some (.int x1), some (.ref y2), some (.int (nI x))] [] S none (gm_u (va_up S 27 ar) 26 1 (nI N)) ∧ (∀ j, x ≤ j → j < N → ar j = S 27 (j + 1)) ∧ ar N = u2 ∧ ∀ j, j < x ∨ N < j → ar j = S 27 j := by
  intro d
  induction d with
  | zero =>
    intro x S hx h26 hcl
    have e1 : (S 26 1) - 1 = nI N := by rw [h26]; exact nI_pred N
    have q := PX3_remove_6 (p := 26) (x1 := x1) (y2 := y2) (u2 := u2) (x3 := nI x) (S := S) (j2 := N) (by decide) hy hu (by rw [e1, nI_ltI (by omega) (by omega)]; omega) (ix_c e1 (by omega) (by decide))
    rw [e1, gm_u_eq] at q
    refine ⟨upd (S 27) N u2, q, fun j j1 j2 => absurd j2 (by omega), by simp [upd], fun j hj => by simp [upd, show j ≠ N by omega]⟩
  | succ d ih =>
    intro x S hx h26 hcl
    have e1 : (S 26 1) - 1 = nI N := by rw [h26]; exact nI_pred N
    obtain ⟨ar, q1, q2, q3, q4⟩ := ih (x + 1) (gm_u S 27 x (S 27 (x + 1))) (by omega) (by rw [gm_rp (by decide)]; exact h26) (fun j hj => by
      by_cases hjx : j = x
      · subst hjx
        have := hcl (j + 1) (by omega)
        simpa [gm_u] using this
      · rw [gm_rk hjx]
        exact hcl j hj)
    rw [gm_u_eq, r_upC] at q1
    refine ⟨ar, PX3_remove_5 (p := 26) (j2 := x + 1) (j4 := x) (by decide) hy hu (by rw [e1]; exact (nI_ltI (by omega) (by omega)).mpr (by omega)) (ix_c (nI_1 x) (by omega) (by decide)) rfl (Or.inl (hcl (x + 1) (by omega))) (ix_n (by omega) (by decide)) (by rw [nI_1]; show gm_run gC 0 YX3_remove 31 _ [] (gm_u S 27 x (S 27 (x + 1))) none _; rw [gm_u_eq]; exact q1), fun j j1 j2 => ?_, q3, fun j hj => ?_⟩
    · by_cases hjx : j = x
      · subst hjx
        rw [q4 j (by omega)]
        simp [gm_u]
      · rw [q2 j (by omega) j2]
        exact gm_rk (by omega)
    · rw [q4 j (by omega)]
      exact gm_rk (by omega)
theorem p_removes {s b i n : Nat} {m S : gm_Mem} (h : r_net s b 0 (m 30) (m 0 45) (S 26) (S 27) S) (hi : i < n) (hn : m 0 45 = nI n) (hn24 : n ≤ 24) : ∃ r30 ar : Nat → Int32,
    gm_run gM 0 YX11_removes 0 [some (.ref 0), some (.int (nI i)), none] [] m none (va_up (gm_u m 0 45 (nI (n - 1))) 30 r30) ∧ gm_run gC 0 YX3_remove 0 [some (.ref 26), some (.int (nI i)), none, none] [] S none (gm_u (va_up S 27 ar) 26 1 (nI (n - 1))) ∧
    ∀ P : gm_Mem, (∀ p, 28 ≤ p → p < 52 → P p = S p) → r_net s b 0 r30 (nI (n - 1)) (gm_u (va_up S 27 ar) 26 1 (nI (n - 1)) 26) ar P := by
  obtain ⟨n', pi, h1, h2, h3, h4, h5, h6, h7⟩ := h
  have hnn : n' = n := (nI_eq (by omega) (by omega)).mp (h2.symm.trans hn)
  subst hnn
  have e27 : ∀ j, j < 24 → S 27 j = nI (pi j) := fun j hj => by rw [(h4 j hj).2.2, Nat.zero_add]
  have hcl : ∀ j, j < 24 → (S 27 j).toNatClampNeg = pi j := fun j hj => by rw [e27 j hj, nI_clamp (by have := h4 j hj; omega)]
  have e45 : (m 0 45) - 1 = nI (n' - 1) := by rw [h2]; exact pk_sub (a := n') (b := 1) (by omega)
  have e9 : (9 : Int32) * nI i = nI (9 * i) := by show nI 9 * nI i = _; rw [pk_mul]
  obtain ⟨r30, q1, q2, q3⟩ := p_remM (N := n' - 1) (x1 := nI i) (by omega) (9 * (n' - 1) - 9 * i) (9 * i) (gm_u m 0 45 (nI (n' - 1))) (by omega) (by simp [gm_u])
  obtain ⟨ar, t1, t2, t3, t4⟩ := p_remC (N := n' - 1) (x1 := nI i) (u2 := S 27 i) (by omega) (Or.inl ⟨(h4 i (by omega)).1, (h4 i (by omega)).2.1⟩) (hcl i (by omega)) (n' - 1 - i) i S (by omega) (by rw [h3, show n' - 1 + 1 = n' by omega]) (fun j hj => by rw [hcl j hj]; exact ⟨(h4 j hj).1, (h4 j hj).2.1⟩)
  refine ⟨r30, ar, PX11_removes_1 (by rw [e45, e9]; exact q1), PX3_remove_2 (p := 26) (j4 := i) (by decide) (nI_pos (by omega)) (by rw [h3]; exact (nI_ltI (by omega) (by omega)).mpr hi) (by rw [h3]; exact fun z => by have := (nI_ltI (a := 24) (b := n') (by decide) (by omega)).mp z; omega) (ix_n (by omega) (by decide)) (hcl i (by omega)) (Or.inl ⟨(h4 i (by omega)).1, (h4 i (by omega)).2.1⟩) t1, fun P hP => ?_⟩
  have m30 : ∀ y, gm_u m 0 45 (nI (n' - 1)) 30 y = m 30 y := fun y => gm_rp (by decide)
  have hrow : ∀ j, j < n' - 1 → ∀ k, k < 9 → r30 (9 * j + k) = m 30 (9 * (if j < i then j else j + 1) + k) := by
    intro j hj k hk
    by_cases c : j < i
    · rw [if_pos c, q3 _ (by omega), m30]
    · rw [if_neg c, q2 _ (by omega) (by omega), m30, show 9 * j + k + 9 = 9 * (j + 1) + k by omega]
  refine ⟨n' - 1, fun j => if j < i then pi j else if j < n' - 1 then pi (j + 1) else if j = n' - 1 then pi i else pi j, by omega, rfl, by simp [gm_u], fun j hj => ?_, fun j l hj hl => ?_, fun j hj k hk => ?_, fun j hj => ?_⟩
  · dsimp only
    by_cases c1 : j < i
    · rw [if_pos c1, t4 j (by omega), Nat.zero_add]
      exact ⟨(h4 j hj).1, (h4 j hj).2.1, e27 j hj⟩
    · rw [if_neg c1]
      by_cases c2 : j < n' - 1
      · rw [if_pos c2, t2 j (by omega) c2, Nat.zero_add]
        exact ⟨(h4 (j + 1) (by omega)).1, (h4 (j + 1) (by omega)).2.1, e27 (j + 1) (by omega)⟩
      · rw [if_neg c2]
        by_cases c3 : j = n' - 1
        · rw [if_pos c3, c3, t3, Nat.zero_add]
          exact ⟨(h4 i (by omega)).1, (h4 i (by omega)).2.1, e27 i (by omega)⟩
        · rw [if_neg c3, t4 j (by omega), Nat.zero_add]
          exact ⟨(h4 j hj).1, (h4 j hj).2.1, e27 j hj⟩
  · dsimp only
    have inj := h5
    intro hjl
    have idx : ∀ a, a < 24 → (if a < i then pi a else if a < n' - 1 then pi (a + 1) else if a = n' - 1 then pi i else pi a) = pi (if a < i then a else if a < n' - 1 then a + 1 else if a = n' - 1 then i else a) := by
      intro a ha
      by_cases c1 : a < i
      · simp [c1]
      · by_cases c2 : a < n' - 1
        · simp [c1, c2]
        · by_cases c3 : a = n' - 1
          · rw [if_neg c1, if_neg c2, if_pos c3, if_neg c1, if_neg c2, if_pos c3]
          · simp [c1, c2, c3]
    rw [idx j hj, idx l hl] at hjl
    have := h5 _ _ (by split <;> (try split) <;> (try split) <;> omega) (by split <;> (try split) <;> (try split) <;> omega) hjl
    split at this <;> (try split at this) <;> (try split at this) <;> (try split at this) <;> (try split at this) <;> (try split at this) <;> omega
  · dsimp only
    rw [hrow j hj k hk]
    by_cases c : j < i
    · rw [if_pos c, if_pos c, hP _ (h4 j (by omega)).1 (h4 j (by omega)).2.1]
      exact h6 j (by omega) k hk
    · rw [if_neg c, if_neg c, if_pos hj, hP _ (h4 (j + 1) (by omega)).1 (h4 (j + 1) (by omega)).2.1]
      exact h6 (j + 1) (by omega) k hk
  · have hpk := h7 (if j < i then j else j + 1) (by split <;> omega)
    obtain ⟨a1, a2, a3, a4, a5⟩ := hpk
    have g : ∀ k, k < 9 → r30 (9 * j + k) = m 30 (9 * (if j < i then j else j + 1) + k) := hrow j hj
    refine ⟨?_, ?_, ?_, ?_, ?_⟩ <;> simp only [g 0 (by decide), g 1 (by decide), g 3 (by decide), g 4 (by decide), g 5 (by decide), g 7 (by decide)] <;> assumption
/-- frames of a whole call -/
def r_FN (m m2 : gm_Mem) : Prop := m2 33 = m 33 ∧ m2 34 = m 34 ∧ m2 35 = m 35 ∧ m2 36 = m 36 ∧ m2 37 = m 37 ∧ m2 0 51 = m 0 51 ∧ m2 0 52 = m 0 52 ∧ m2 0 53 = m 0 53 ∧ m2 0 55 = m 0 55
def r_FD (S S2 : gm_Mem) : Prop := (∀ p : Nat, 59 ≤ p → p ≠ 122 → S2 p = S p) ∧ S2 0 = S 0
theorem r_FM.fn {m m2 : gm_Mem} (h : r_FM m m2) : r_FN m m2 := h.2
theorem r_FC.fd {S S2 : gm_Mem} (h : r_FC S S2) : r_FD S S2 := ⟨fun p hp _ => h.1 p hp, h.2⟩
theorem r_FN.tr {a b c : gm_Mem} (h : r_FN a b) (k : r_FN b c) : r_FN a c := by
  obtain ⟨h2, h3, h4, h5, h6, h7, h8, h9, h10⟩ := h
  obtain ⟨k2, k3, k4, k5, k6, k7, k8, k9, k10⟩ := k
  exact ⟨k2.trans h2, k3.trans h3, k4.trans h4, k5.trans h5, k6.trans h6, k7.trans h7, k8.trans h8, k9.trans h9, k10.trans h10⟩
theorem r_FD.tr {a b c : gm_Mem} (h : r_FD a b) (k : r_FD b c) : r_FD a c := ⟨fun p hp h2 => (k.1 p hp h2).trans (h.1 p hp h2), k.2.trans h.2⟩
abbrev PairT (kM kC : Nat) (yM yC : gm_Y) (LM LC : List (Option Value)) (s b s2 b2 : Nat) (m S : gm_Mem) : Prop := ∃ (r : Int32) (m2 S2 : gm_Mem), gm_run gM kM yM 0 LM [] m (some (.int r)) m2 ∧ gm_run gC kC yC 0 LC [] S (some (.int r)) S2 ∧ Rc s2 b2 0 m2 S2 ∧ r_FN m m2 ∧ r_FD S S2
theorem p_other {f : Int32} (h : f = 0 ∨ f = 1) : ∃ e : Nat, (e = 0 ∨ e = 1) ∧ f = nI (1 - e) ∧ (1 - f) = nI e ∧ ∀ (S : gm_Mem) (x : Int32), x = f → gm_run gC 0 YX10_endpointOf 0 [some (.ref 0), some (.int (1 - x))] [] S (some (.ref (2 + 12 * e))) S := by
  rcases h with rfl | rfl
  · exact ⟨1, Or.inr rfl, rfl, rfl, fun S x hx => by subst hx; exact PX10_endpointOf_2 (by decide)⟩
  · exact ⟨0, Or.inl rfl, rfl, rfl, fun S x hx => by subst hx; exact PX10_endpointOf_1 (by decide)⟩
theorem r_foresee {s b : Nat} {m S : gm_Mem} (hB : b < 1000000000) (h : Rc s b 0 m S) (x : Int32) : PairT 4 4 YX11_foresee YX10_foresee [some (.ref 0), some (.int x)] [some (.ref 0), some (.int x), none] s b s b m S := by
  rcases p_packet h.2.2.1 x with ⟨q1, q2⟩ | ⟨i, n, q, h1, h2, rfl, h3, h4, h5, h6, q1, q2, h7, h8⟩
  · exact ⟨_, m, S, PX11_foresee_2 q1 rfl, PX10_foresee_2 q2, h, r_FM.rf.fn, r_FC.rf.fd⟩
  · obtain ⟨e, he, e1, e2, e3⟩ := p_other h8.1
    obtain ⟨r, r1, r2, -, -, -⟩ := p_result (q := q) (pos := i) hB he (Or.inl h5) (by omega) (h.re he) h.2.2.2.1 h.1.2.2.1 h.1.2.2.2.2.1.1 h7 h8 e1
    exact ⟨r, m, S, PX11_foresee_1 q1 (by decide) r1, PX10_foresee_1 h5 q2 (by omega) (e3 S (S q 0) (h7 0 (by decide))) r2, h, r_FM.rf.fn, r_FC.rf.fd⟩
theorem r_drop {s b : Nat} {m S : gm_Mem} (h : Rc s b 0 m S) (x : Int32) : PairT 1 1 YX11_drop YX10_drop [some (.ref 0), some (.int x)] [some (.ref 0), some (.int x), none] s b s b m S := by
  obtain ⟨hs, hl, hn, ht, hr, h0, g0, g1⟩ := h
  rcases p_packet hn x with ⟨q1, q2⟩ | ⟨i, n, q, h1, h2, rfl, h3, h4, h5, h6, q1, q2, h7, h8⟩
  · exact ⟨_, m, S, PX11_drop_1 q1 rfl, PX10_drop_2 q2, ⟨hs, hl, hn, ht, hr, h0, g0, g1⟩, r_FM.rf.fn, r_FC.rf.fd⟩
  · obtain ⟨rl, ev, r5, r6, r7, r8, l1, l2, l3⟩ := p_logs (m := gm_u m 0 7 ((m 0 7) + 1)) (S := gm_u S 1 12 ((S 1 12) + 1)) hl 2 (S q 0) (S q 1)
    obtain ⟨r30, ar, t1, t2, t3⟩ := p_removes (m := gm_u (va_up (gm_u m 0 7 ((m 0 7) + 1)) 29 rl) 0 42 ev) (S := va_up (va_up (va_up (va_up (gm_u S 1 12 ((S 1 12) + 1)) 55 r5) 56 r6) 57 r7) 58 r8) (s := s) (b := b) (by repeat (first | exact hn | refine r_net.u (by decide) ?_ | refine r_net.up (by decide) ?_)) h1 h3 h2
    have hat : ∀ k, k < 9 → gm_run gM 0 YX11_at 0 [some (.ref 0), some (.int (nI i)), some (.int (nI k))] [] (gm_u m 0 7 ((m 0 7) + 1)) (some (.int (m 30 (9 * i + k)))) (gm_u m 0 7 ((m 0 7) + 1)) := fun k hk => p_at (m := gm_u m 0 7 ((m 0 7) + 1)) (k := k) (by omega) hk
    have a0 := hat 0 (by decide)
    have a1 := hat 1 (by decide)
    rw [← h7 0 (by decide)] at a0
    rw [← h7 1 (by decide)] at a1
    obtain ⟨s1, s2, s3, s4, s5, s6, s7, s8, s9⟩ := hs
    refine ⟨nI (n - 1), _, _, PX11_drop_2 q1 (by decide) a0 a1 l1 t1, PX10_drop_1 h5 q2 l2 t2, ⟨⟨s1, s2, s3, s4, s5, s6, s7, congrArg (· + 1) s8, s9⟩, l3, t3 _ (fun p p1 p2 => by rw [bk_u (by decide) ⟨p1, p2⟩, bk_up (by decide) ⟨p1, p2⟩]), ht, hr, h0, g0, g1⟩, ?_, ?_⟩
    · exact ⟨rfl, rfl, rfl, rfl, rfl, rfl, rfl, rfl, rfl⟩
    · refine ((((((((r_FC.rf.u (by decide)).up (by decide)).up (by decide)).up (by decide)).up (by decide)).up (by decide)).u (by decide)).fd)
