/-! PAIR: takes / take -/
def r_ip (s e ex t : Nat) (me ct tm : Int32) (r19 r24 r25 r26 ib tv wa wc wv : Nat → Int32) : Prop := ex ≤ s ∧ t ≤ ex ∧ me = nI ex ∧ ib 5 = nI ex ∧ tm = nI t ∧ ib 4 = nI t ∧ ib 6 = ct ∧ (ct = -1 ∨ 0 ≤ ct.toInt) ∧ (∀ i, i < t → r19 (1200 * e + i) = tv i) ∧ (∀ j, j < 4 → r24 (4 * e + j) = wa j ∧ (wa j = 0 ∨ wa j = 1) ∧ (wc j = 0 ∨ wc j = 1) ∧ (wa j = 1 → r25 (4 * e + j) = wv j ∧ r26 (4 * e + j) = wc j)) ∧ ∀ d, d < 4 → wa ((ex + d) % 4) = 1 → ex + d < s
abbrev IP (s e ex t : Nat) (ct : Int32) (m S : gm_Mem) : Prop := r_ip s e ex t (m 13 e) ct (m 17 e) (m 19) (m 24) (m 25) (m 26) (S (7 + 12 * e)) (S (8 + 12 * e)) (S (9 + 12 * e)) (S (10 + 12 * e)) (S (11 + 12 * e))
def r_FI (e : Nat) (m m2 : gm_Mem) : Prop := (∀ p, p ≠ 13 → p ≠ 16 → p ≠ 17 → p ≠ 19 → p ≠ 24 → p ≠ 25 → p ≠ 26 → m2 p = m p) ∧ (∀ p j, p = 13 ∨ p = 16 ∨ p = 17 → j ≠ e → m2 p j = m p j) ∧ (∀ i, i < 1200 * e ∨ 1200 * e + 1200 ≤ i → m2 19 i = m 19 i) ∧ ∀ p j, p = 24 ∨ p = 25 ∨ p = 26 → j < 4 * e ∨ 4 * e + 4 ≤ j → m2 p j = m p j
def r_FJ (e : Nat) (S S2 : gm_Mem) : Prop := ∀ p, p ≠ 7 + 12 * e → p ≠ 8 + 12 * e → p ≠ 9 + 12 * e → p ≠ 10 + 12 * e → p ≠ 11 + 12 * e → S2 p = S p
theorem r_FI.rf {e : Nat} {m : gm_Mem} : r_FI e m m := ⟨fun _ _ _ _ _ _ _ _ => rfl, fun _ _ _ _ => rfl, fun _ _ => rfl, fun _ _ _ _ => rfl⟩
theorem r_FI.tr {e : Nat} {a b c : gm_Mem} (h : r_FI e a b) (k : r_FI e b c) : r_FI e a c := ⟨fun p a1 a2 a3 a4 a5 a6 a7 => (k.1 p a1 a2 a3 a4 a5 a6 a7).trans (h.1 p a1 a2 a3 a4 a5 a6 a7), fun p j a1 a2 => (k.2.1 p j a1 a2).trans (h.2.1 p j a1 a2), fun i a1 => (k.2.2.1 i a1).trans (h.2.2.1 i a1), fun p j a1 a2 => (k.2.2.2 p j a1 a2).trans (h.2.2.2 p j a1 a2)⟩
theorem r_FJ.tr {e : Nat} {a b c : gm_Mem} (h : r_FJ e a b) (k : r_FJ e b c) : r_FJ e a c := fun p a1 a2 a3 a4 a5 => (k p a1 a2 a3 a4 a5).trans (h p a1 a2 a3 a4 a5)
theorem r_FI.u1 {e p : Nat} {m a : gm_Mem} {x : Int32} (h : r_FI e m a) (hp : p = 13 ∨ p = 16 ∨ p = 17) : r_FI e m (gm_u a p e x) := by
  refine h.tr ⟨fun q a1 a2 a3 a4 a5 a6 a7 => ?_, fun q j _ hj => gm_rj hj, fun i _ => ?_, fun q j hq _ => ?_⟩
  · simp only [gm_u]; exact if_neg (by omega)
  · exact gm_rp (by omega)
  · exact gm_rp (by omega)
theorem r_FI.u2 {e i : Nat} {m a : gm_Mem} {x : Int32} (h : r_FI e m a) (hi : 1200 * e ≤ i ∧ i < 1200 * e + 1200) : r_FI e m (gm_u a 19 i x) := by
  refine h.tr ⟨fun q a1 a2 a3 a4 a5 a6 a7 => ?_, fun q j hq hj => gm_rp (by omega), fun i _ => gm_rj (by omega), fun q j hq _ => gm_rp (by omega)⟩
  simp only [gm_u]; exact if_neg (by omega)
theorem r_FI.u3 {e p i : Nat} {m a : gm_Mem} {x : Int32} (h : r_FI e m a) (hp : p = 24 ∨ p = 25 ∨ p = 26) (hi : 4 * e ≤ i ∧ i < 4 * e + 4) : r_FI e m (gm_u a p i x) := by
  refine h.tr ⟨fun q a1 a2 a3 a4 a5 a6 a7 => ?_, fun q j hq hj => gm_rp (by omega), fun i _ => gm_rp (by omega), fun q j hq _ => gm_rj (by omega)⟩
  simp only [gm_u]; exact if_neg (by omega)
theorem r_FJ.u {e p k : Nat} {S a : gm_Mem} {x : Int32} (h : r_FJ e S a) (hp : 7 + 12 * e ≤ p ∧ p ≤ 11 + 12 * e) : r_FJ e S (gm_u a p k x) := by
  refine h.tr (fun q a1 a2 a3 a4 a5 => ?_)
  simp only [gm_u]; exact if_neg (by omega)
theorem m4_succ {ex d : Nat} (h : d < 3) : (ex + 1 + d) % 4 ≠ ex % 4 := by omega
/-- one message is taken: the class's slot may be set, the reference's is clear -/
theorem p_takeX {s e ex t : Nat} {m S : gm_Mem} {v c : Int32} (hB : s ≤ 512) (he : e = 0 ∨ e = 1) (h : IP s e ex t (-1) m (gm_u S (9 + 12 * e) (ex % 4) 0)) (hx : ex < s) (hv : S (11 + 12 * e) (ex % 4) = v) (hc : S (10 + 12 * e) (ex % 4) = c) (h16 : m 16 e = S (7 + 12 * e) 6) :
    ∃ (m2 S2 : gm_Mem) (t2 : Nat), gm_run gM 0 YX11_takesExpected 0 [some (.ref 0), some (.int (nI e)), some (.int (nI ex)), some (.int v), some (.int c)] [] m none m2 ∧ gm_run gC 0 YX1_takeExpected 0 [some (.ref (7 + 12 * e)), some (.int (nI (ex % 4)))] [] S none S2 ∧
      IP s e (ex + 1) t2 (m2 16 e) m2 S2 ∧ (m2 16 e = -1 ∨ 0 ≤ (m2 16 e).toInt) ∧ r_FI e m m2 ∧ r_FJ e S S2 ∧ m2 24 = m 24 ∧ S2 (9 + 12 * e) = upd (S (9 + 12 * e)) (ex % 4) 0 := by
  have p7 : (gm_u S (9 + 12 * e) (ex % 4) 0) (7 + 12 * e) = S (7 + 12 * e) := by simp [gm_u]
  have p8 : (gm_u S (9 + 12 * e) (ex % 4) 0) (8 + 12 * e) = S (8 + 12 * e) := by simp [gm_u]
  have p9 : (gm_u S (9 + 12 * e) (ex % 4) 0) (9 + 12 * e) = upd (S (9 + 12 * e)) (ex % 4) 0 := by rw [gm_u_eq]; simp [va_up]
  have p10 : (gm_u S (9 + 12 * e) (ex % 4) 0) (10 + 12 * e) = S (10 + 12 * e) := by simp [gm_u]
  have p11 : (gm_u S (9 + 12 * e) (ex % 4) 0) (11 + 12 * e) = S (11 + 12 * e) := by simp [gm_u]
  have e1 : 7 + 12 * e + 1 = 8 + 12 * e := by omega
  have e2 : 7 + 12 * e + 2 = 9 + 12 * e := by omega
  have e3 : 7 + 12 * e + 3 = 10 + 12 * e := by omega
  have e4 : 7 + 12 * e + 4 = 11 + 12 * e := by omega
  have kp : 7 + 12 * e = 7 ∨ 7 + 12 * e = 19 ∨ 7 + 12 * e = 65 ∨ 7 + 12 * e = 77 := by omega
  have hj4 : ex % 4 < 4 := Nat.mod_lt _ (by decide)
  unfold IP r_ip at h
  rw [p7, p8, p9, p10, p11] at h
  obtain ⟨h1, h2, h3, h4, h5, h6, h7, h8, h9, h10, h11⟩ := h
  have ixj : gm_ix (nI (ex % 4)) (ex % 4) 4 := ix_n hj4 (by decide)
  have hnext : ∀ d, d < 4 → upd (S (9 + 12 * e)) (ex % 4) 0 ((ex + 1 + d) % 4) = 1 → ex + 1 + d < s := by
    intro d hd hw
    by_cases h3 : d = 3
    · subst h3
      rw [show (ex + 1 + 3) % 4 = ex % 4 by omega] at hw
      simp [upd] at hw
    · have := h11 (d + 1) (by omega) (by rw [show ex + (d + 1) = ex + 1 + d by omega]; exact hw)
      omega
  rcases (h10 (ex % 4) hj4).2.2.1 with hc0 | hc0
  · -- a number
    have ht512 : t < 512 := by omega
    have i3 : gm_ix ((1200 * nI e) + (m 17 e)) (1200 * e + t) 2400 := ix_c (by rw [h5]; show nI 1200 * nI e + nI t = _; rw [pk_mul, nI_add]) (by omega) (by decide)
    have q1 := PX11_takesExpected_2 (a1 := nI e) (a2 := nI ex) (a3 := v) (a4 := c) (S := m) (by rw [← hc]; exact hc0) (ix_e he) i3
    have q2 := PX1_takeExpected_2 (p := 7 + 12 * e) (a1 := nI (ex % 4)) (S := S) (j1 := ex % 4) (j4 := t) kp ixj (by rw [e3]; exact hc0) (by rw [h6]; exact (nI_ltI (b := 512) (by omega) (by decide)).mpr ht512) (by rw [h6]; exact ix_n ht512 (by decide))
    rw [e1, e2, e4, hv] at q2
    have x9 : (gm_u (gm_u (gm_u (gm_u S (8 + 12 * e) t v) (7 + 12 * e) 4 ((S (7 + 12 * e) 4) + 1)) (9 + 12 * e) (ex % 4) 0) (7 + 12 * e) 5 ((S (7 + 12 * e) 5) + 1)) (9 + 12 * e) = upd (S (9 + 12 * e)) (ex % 4) 0 := by rw [gm_u_eq, gm_u_eq, gm_u_eq, gm_u_eq]; simp [va_up]
    refine ⟨_, _, t + 1, q1, q2, ⟨by omega, by omega, ?_, ?_, ?_, ?_, ?_, ?_, ?_, ?_, ?_⟩, ?_, (((r_FI.rf.u2 (by omega)).u1 (by omega)).u1 (by omega)), ((((show r_FJ e S S from fun _ _ _ _ _ _ => rfl).u (by omega)).u (by omega)).u (by omega)).u (by omega), ?_, x9⟩
    · simp [gm_u, h3, nI_1]
    · simp [gm_u, h4, nI_1]
    · simp [gm_u, h5, nI_1]
    · simp [gm_u, h6, nI_1]
    · simp [gm_u, h16]
    · simp [gm_u, h16, h7]
    · intro i hi
      by_cases hit : i = t
      · subst hit
        simp [gm_u]
      · have := h9 i (by omega)
        simp [gm_u, hit, this]
    · rw [x9]
      intro j hj
      have := h10 j hj
      simpa [gm_u] using this
    · rw [x9]
      exact hnext
    · simp [gm_u, h16, h7]
    · simp [gm_u]
  · have q1 := PX11_takesExpected_1 (a1 := nI e) (a2 := nI ex) (a3 := v) (a4 := c) (S := m) (by rw [← hc, hc0]; decide) (ix_e he)
    have q2 := PX1_takeExpected_1 (p := 7 + 12 * e) (a1 := nI (ex % 4)) (S := S) (j1 := ex % 4) kp ixj (by rw [e3, hc0]; decide)
    rw [e2] at q2
    have x9 : (gm_u (gm_u (gm_u S (7 + 12 * e) 6 (S (7 + 12 * e) 5)) (9 + 12 * e) (ex % 4) 0) (7 + 12 * e) 5 ((S (7 + 12 * e) 5) + 1)) (9 + 12 * e) = upd (S (9 + 12 * e)) (ex % 4) 0 := by rw [gm_u_eq, gm_u_eq, gm_u_eq]; simp [va_up]
    refine ⟨_, _, t, q1, q2, ⟨by omega, by omega, ?_, ?_, ?_, ?_, ?_, ?_, ?_, ?_, ?_⟩, ?_, ((r_FI.rf.u1 (by omega)).u1 (by omega)), ((((show r_FJ e S S from fun _ _ _ _ _ _ => rfl).u (by omega)).u (by omega)).u (by omega)), ?_, x9⟩
    · simp [gm_u, h3, nI_1]
    · simp [gm_u, h4, nI_1]
    · simp [gm_u, h5]
    · simp [gm_u, h6]
    · simp [gm_u, h4]
    · right
      simp only [gm_u, if_true]
      simp
      rw [nI_toInt (by omega)]
      omega
    · intro i hi
      have := h9 i (by omega)
      simp [gm_u, this]
    · rw [x9]
      intro j hj
      have := h10 j hj
      simpa [gm_u] using this
    · rw [x9]
      exact hnext
    · right
      simp only [gm_u, if_true]
      simp
      rw [nI_toInt (by omega)]
      omega
    · simp [gm_u]
theorem rem4 {a : Nat} (h : a < 2 ^ 31) : gm_rem (nI a) 4 = nI (a % 4) := pk_rem (a := a) (d := 4) h (by decide) (by decide)
theorem and3 {a : Nat} (h : a < 2 ^ 31) : nI a &&& 3 = nI (a % 4) := pk_andN (n := a) (by omega) (m := 3) 2 (by decide)
theorem ix_w {e a : Nat} {x : Int32} (he : e = 0 ∨ e = 1) (ha : a < 2 ^ 31) (hx : x = nI a) : gm_ix ((4 * nI e) + gm_rem x 4) (4 * e + a % 4) 8 := by
  have h4 : a % 4 < 4 := Nat.mod_lt _ (by decide)
  rw [hx, rem4 ha]
  exact ix_c (by show nI 4 * nI e + nI (a % 4) = _; rw [pk_mul, nI_add]) (by omega) (by decide)
theorem p_drain {s e : Nat} {x2 x3 x4 y1 y2 y3 y4 : Int32} (hB : s ≤ 512) (he : e = 0 ∨ e = 1) : ∀ f i ex t (m S : gm_Mem), i + f = 4 → IP s e ex t (m 16 e) m S → (m 16 e = -1 → ∀ d, 4 - i ≤ d → d < 4 → S (9 + 12 * e) ((ex + d) % 4) = 0) →
    ∃ (m2 S2 : gm_Mem) (ex2 t2 : Nat), gm_run gM 1 YX11_takes 120 [some (.ref 0), some (.int (nI e)), some (.int x2), some (.int x3), some (.int x4), some (.int ((4 * nI e) + (gm_rem (m 13 e) 4)))] [] m none m2 ∧ gm_run gC 1 YX1_take 69 [some (.ref (7 + 12 * e)), some (.int y1), some (.int y2), some (.int y3), some (.int y4), some (.int (nI i))] [] S none S2 ∧
      IP s e ex2 t2 (m2 16 e) m2 S2 ∧ (m2 16 e = -1 → S2 (9 + 12 * e) (ex2 % 4) = 0) ∧ r_FI e m m2 ∧ r_FJ e S S2 := by
  have kp : 7 + 12 * e = 7 ∨ 7 + 12 * e = 19 ∨ 7 + 12 * e = 65 ∨ 7 + 12 * e = 77 := by omega
  have e2 : 7 + 12 * e + 2 = 9 + 12 * e := by omega
  intro f
  induction f with
  | zero =>
    intro i ex t m S hi h hz
    obtain ⟨h1, h2, h3, h4, h5, h6, h7, h8, h9, h10, h11⟩ := h
    have hj : ex % 4 < 4 := Nat.mod_lt _ (by decide)
    have iw := ix_w he (show ex < 2 ^ 31 by omega) h3
    have i4 : i = 4 := by omega
    subst i4
    have qC := PX1_take_9 (p := 7 + 12 * e) (x1 := y1) (x2 := y2) (x3 := y3) (x4 := y4) (x5 := nI 4) (S := S) kp (by decide)
    by_cases c1 : m 16 e = -1
    · have z := hz c1 0 (by omega) (by omega)
      rw [Nat.add_zero] at z
      exact ⟨m, S, ex, t, PX11_takes_12 iw (by rw [(h10 _ hj).1, z]; decide), qC, ⟨h1, h2, h3, h4, h5, h6, h7, h8, h9, h10, h11⟩, fun _ => z, r_FI.rf, fun _ _ _ _ _ _ => rfl⟩
    · have c2 : ¬ m 16 e < 0 := by
        rcases h8 with z | z
        · exact absurd z c1
        · rw [Int32.lt_iff_toInt_lt]
          have : (0 : Int32).toInt = 0 := rfl
          omega
      by_cases c3 : m 24 (4 * e + ex % 4) = 1
      · exact ⟨m, S, ex, t, PX11_takes_11 iw c3 (ix_e he) c2, qC, ⟨h1, h2, h3, h4, h5, h6, h7, h8, h9, h10, h11⟩, fun z => absurd z c1, r_FI.rf, fun _ _ _ _ _ _ => rfl⟩
      · exact ⟨m, S, ex, t, PX11_takes_12 iw c3, qC, ⟨h1, h2, h3, h4, h5, h6, h7, h8, h9, h10, h11⟩, fun z => absurd z c1, r_FI.rf, fun _ _ _ _ _ _ => rfl⟩
  | succ f ih =>
    intro i ex t m S hi h hz
    have h' := h
    obtain ⟨h1, h2, h3, h4, h5, h6, h7, h8, h9, h10, h11⟩ := h
    have hj : ex % 4 < 4 := Nat.mod_lt _ (by decide)
    have iw := ix_w he (show ex < 2 ^ 31 by omega) h3
    have ci : nI i < 4 := (nI_ltI (b := 4) (by omega) (by decide)).mpr (by omega)
    have ixc : gm_ix ((S (7 + 12 * e) 5) &&& 3) (ex % 4) 4 := ix_c (by rw [h4, and3 (by omega)]) hj (by decide)
    by_cases c1 : m 16 e = -1
    · have cc : S (7 + 12 * e) 6 = -1 := h7.trans c1
      by_cases c3 : S (9 + 12 * e) (ex % 4) = 0
      · exact ⟨m, S, ex, t, PX11_takes_12 iw (by rw [(h10 _ hj).1, c3]; decide), PX1_take_7 kp ci cc ixc (by rw [e2]; exact c3), h', fun _ => c3, r_FI.rf, fun _ _ _ _ _ _ => rfl⟩
      · obtain ⟨w1, w2, w3, w4⟩ := h10 (ex % 4) hj
        have c4 : S (9 + 12 * e) (ex % 4) = 1 := by
          rcases w2 with z | z
          · exact absurd z c3
          · exact z
        obtain ⟨w5, w6⟩ := w4 c4
        have hx : ex < s := h11 0 (by decide) (by rw [Nat.add_zero]; exact c4)
        have hIP : IP s e ex t (-1) (gm_u m 24 (4 * e + ex % 4) 0) (gm_u S (9 + 12 * e) (ex % 4) 0) := by
          have p7 : (gm_u S (9 + 12 * e) (ex % 4) 0) (7 + 12 * e) = S (7 + 12 * e) := by simp [gm_u]
          have p8 : (gm_u S (9 + 12 * e) (ex % 4) 0) (8 + 12 * e) = S (8 + 12 * e) := by simp [gm_u]
          have p9 : (gm_u S (9 + 12 * e) (ex % 4) 0) (9 + 12 * e) = upd (S (9 + 12 * e)) (ex % 4) 0 := by rw [gm_u_eq]; simp [va_up]
          have p10 : (gm_u S (9 + 12 * e) (ex % 4) 0) (10 + 12 * e) = S (10 + 12 * e) := by simp [gm_u]
          have p11 : (gm_u S (9 + 12 * e) (ex % 4) 0) (11 + 12 * e) = S (11 + 12 * e) := by simp [gm_u]
          unfold IP r_ip
          rw [p7, p8, p9, p10, p11]
          refine ⟨h1, h2, h3, h4, h5, h6, cc, Or.inl rfl, h9, fun j hj4 => ?_, fun d hd hw => ?_⟩
          · by_cases hjj : j = ex % 4
            · subst hjj
              refine ⟨by simp [gm_u, upd], Or.inl (by simp [upd]), w3, fun z => ?_⟩
              simp [upd] at z
            · have hne : 4 * e + j ≠ 4 * e + ex % 4 := by omega
              have := h10 j hj4
              refine ⟨by rw [gm_rk hne, this.1]; simp [upd, hjj], by simpa [upd, hjj] using this.2.1, this.2.2.1, fun z => ?_⟩
              simp [upd, hjj] at z
              exact this.2.2.2 z
          · by_cases hdd : (ex + d) % 4 = ex % 4
            · rw [hdd] at hw
              simp [upd] at hw
            · simp [upd, hdd] at hw
              exact h11 d hd hw
        obtain ⟨m2, S2, t2, q1, q2, q3, q4, q5, q6, q7, q8⟩ := p_takeX (m := gm_u m 24 (4 * e + ex % 4) 0) (S := S) hB he hIP hx w5.symm w6.symm (c1.trans cc.symm)
        obtain ⟨m3, S3, ex3, t3, r1, r2, r3, r4, r5, r6⟩ := ih (i + 1) (ex + 1) t2 m2 S2 (by omega) q3 (fun _ d hd1 hd2 => by
          rw [q8]
          by_cases hd3 : d = 3
          · subst hd3
            rw [show (ex + 1 + 3) % 4 = ex % 4 by omega]
            simp [upd]
          · have hne : (ex + 1 + d) % 4 ≠ ex % 4 := m4_succ (by omega)
            simp [upd, hne]
            rw [show ex + 1 + d = ex + (d + 1) by omega]
            exact hz c1 (d + 1) (by omega) (by omega))
        have c16 : m 16 e < 0 := by rw [c1]; decide
        have c24 : m 24 (4 * e + ex % 4) = 1 := w1.trans c4
        have hCrun := PX1_take_6 (p := 7 + 12 * e) (x1 := y1) (x2 := y2) (x3 := y3) (x4 := y4) (x5 := nI i) (S := S) (j3 := ex % 4) kp ci cc ixc (by rw [e2]; exact c3) (by rw [h4, and3 (by omega)]; exact q2) (by rw [nI_1]; exact r2)
        refine ⟨m3, S3, ex3, t3, ?_, hCrun, r3, r4, (((r_FI.rf.u3 (by omega) (by omega)).tr q5)).tr r5, q6.tr r6⟩
        by_cases c26 : m 26 (4 * e + ex % 4) = 1
        · refine PX11_takes_9 iw c24 (ix_e he) c16 c26 (PX11_takes_13 ?_ (ix_e he) r1)
          rw [c26] at q1
          rw [h3]
          exact q1
        · refine PX11_takes_10 iw c24 (ix_e he) c16 c26 (PX11_takes_13 ?_ (ix_e he) r1)
          have : m 26 (4 * e + ex % 4) = 0 := by
            rcases w3 with z | z
            · exact w6.trans z
            · exact absurd (w6.trans z) c26
          rw [this] at q1
          rw [h3]
          exact q1
    · have c2 : ¬ m 16 e < 0 := by
        rcases h8 with z | z
        · exact absurd z c1
        · rw [Int32.lt_iff_toInt_lt]
          have : (0 : Int32).toInt = 0 := rfl
          omega
      have qC := PX1_take_8 (p := 7 + 12 * e) (x1 := y1) (x2 := y2) (x3 := y3) (x4 := y4) (x5 := nI i) (S := S) kp ci (fun z => c1 (h7.symm.trans z))
      by_cases c3 : m 24 (4 * e + ex % 4) = 1
      · exact ⟨m, S, ex, t, PX11_takes_11 iw c3 (ix_e he) c2, qC, h', fun z => absurd z c1, r_FI.rf, fun _ _ _ _ _ _ => rfl⟩
      · exact ⟨m, S, ex, t, PX11_takes_12 iw c3, qC, h', fun z => absurd z c1, r_FI.rf, fun _ _ _ _ _ _ => rfl⟩
theorem r_seven {m m2 : gm_Mem} (f : ∀ p, p ≠ 13 → p ≠ 16 → p ≠ 17 → p ≠ 19 → p ≠ 24 → p ≠ 25 → p ≠ 26 → m2 p = m p) : m2 = va_up (va_up (va_up (va_up (va_up (va_up (va_up m 13 (m2 13)) 16 (m2 16)) 17 (m2 17)) 19 (m2 19)) 24 (m2 24)) 25 (m2 25)) 26 (m2 26) := by
  funext p
  simp only [va_up]
  by_cases a1 : p = 13
  · subst a1; rfl
  by_cases a2 : p = 16
  · subst a2; rfl
  by_cases a3 : p = 17
  · subst a3; rfl
  by_cases a4 : p = 19
  · subst a4; rfl
  by_cases a5 : p = 24
  · subst a5; rfl
  by_cases a6 : p = 25
  · subst a6; rfl
  by_cases a7 : p = 26
  · subst a7; rfl
  simp only [if_neg a1, if_neg a2, if_neg a3, if_neg a4, if_neg a5, if_neg a6, if_neg a7]
  exact f p a1 a2 a3 a4 a5 a6 a7
theorem r_fiveC {S S2 : gm_Mem} {a b c d k : Nat} (f : ∀ p, p ≠ a → p ≠ b → p ≠ c → p ≠ d → p ≠ k → S2 p = S p) : S2 = va_up (va_up (va_up (va_up (va_up S a (S2 a)) b (S2 b)) c (S2 c)) d (S2 d)) k (S2 k) := by
  funext p
  simp only [va_up]
  by_cases a1 : p = k
  · subst a1; simp
  by_cases a2 : p = d
  · subst a2; simp [a1]
  by_cases a3 : p = c
  · subst a3; simp [a1, a2]
  by_cases a4 : p = b
  · subst a4; simp [a1, a2, a3]
  by_cases a5 : p = a
  · subst a5; simp [a1, a2, a3, a4]
  simp only [if_neg a1, if_neg a2, if_neg a3, if_neg a4, if_neg a5]
  exact f p a5 a4 a3 a2 a1
theorem r_in.cg {s e : Nat} {me ct tm me2 ct2 tm2 : Int32} {r19 r24 r25 r26 u19 u24 u25 u26 ib tv wa wc wv : Nat → Int32} (h : r_in s e me ct tm r19 r24 r25 r26 ib tv wa wc wv) (hs : s ≤ 1200) (h1 : me2 = me) (h2 : ct2 = ct) (h3 : tm2 = tm) (k19 : ∀ i, i < 1200 → u19 (1200 * e + i) = r19 (1200 * e + i)) (k24 : ∀ i, i < 4 → u24 (4 * e + i) = r24 (4 * e + i)) (k25 : ∀ i, i < 4 → u25 (4 * e + i) = r25 (4 * e + i)) (k26 : ∀ i, i < 4 → u26 (4 * e + i) = r26 (4 * e + i)) : r_in s e me2 ct2 tm2 u19 u24 u25 u26 ib tv wa wc wv := by
  subst h1 h2 h3
  obtain ⟨ex, t, a1, a2, a3, a4, a5, a6, a7, a8, a9, a10, a11⟩ := h
  exact ⟨ex, t, a1, a2, a3, a4, a5, a6, a7, a8, fun i hi => (k19 i (by omega)).trans (a9 i hi), fun j hj => by rw [k24 j hj, k25 j hj, k26 j hj]; exact a10 j hj, a11⟩
theorem Rc.ins {s b e : Nat} {m m2 S S2 : gm_Mem} (h : Rc s b 0 m S) (hB : s ≤ 1200) (he : e = 0 ∨ e = 1) (f : r_FI e m m2) (g : r_FJ e S S2)
    (hw : r_in s e (m2 13 e) (m2 16 e) (m2 17 e) (m2 19) (m2 24) (m2 25) (m2 26) (S2 (7 + 12 * e)) (S2 (8 + 12 * e)) (S2 (9 + 12 * e)) (S2 (10 + 12 * e)) (S2 (11 + 12 * e))) : Rc s b 0 m2 S2 ∧ r_FM m m2 ∧ r_FC S S2 := by
  obtain ⟨f1, f2, f3, f4⟩ := f
  have ff : ∀ p, p = 0 ∨ 31 ≤ p → m2 p = m p := fun p hp => f1 p (by omega) (by omega) (by omega) (by omega) (by omega) (by omega) (by omega)
  refine ⟨?_, ⟨ff _ (by decide), ff _ (by decide), ff _ (by decide), ff _ (by decide), ff _ (by decide), ff _ (by decide), congrFun (ff 0 (by decide)) _, congrFun (ff 0 (by decide)) _, congrFun (ff 0 (by decide)) _, congrFun (ff 0 (by decide)) _⟩, fun p hp => g p (by omega) (by omega) (by omega) (by omega) (by omega), g 0 (by omega) (by omega) (by omega) (by omega) (by omega)⟩
  have em := r_seven f1
  have eS := r_fiveC g
  obtain ⟨hs, hl, hn, ht, hr, h0, g0, g1⟩ := h
  rw [em, eS]
  rcases he with rfl | rfl
  · refine ⟨hs, hl, (by repeat (first | exact hn | refine r_net.u (by decide) ?_ | refine r_net.up (by decide) ?_)), ht, hr, h0, ⟨g0.1, g0.2.1, hw, g0.2.2.2⟩, g1.1, g1.2.1, ?_, g1.2.2.2⟩
    exact g1.2.2.1.cg hB (f2 13 1 (by decide) (by decide)) (f2 16 1 (by decide) (by decide)) (f2 17 1 (by decide) (by decide)) (fun i hi => f3 _ (by omega)) (fun i hi => f4 24 _ (by decide) (by omega)) (fun i hi => f4 25 _ (by decide) (by omega)) (fun i hi => f4 26 _ (by decide) (by omega))
  · refine ⟨hs, hl, (by repeat (first | exact hn | refine r_net.u (by decide) ?_ | refine r_net.up (by decide) ?_)), ht, hr, h0, ⟨g0.1, g0.2.1, ?_, g0.2.2.2⟩, g1.1, g1.2.1, hw, g1.2.2.2⟩
    exact g0.2.2.1.cg hB (f2 13 0 (by decide) (by decide)) (f2 16 0 (by decide) (by decide)) (f2 17 0 (by decide) (by decide)) (fun i hi => f3 _ (by omega)) (fun i hi => f4 24 _ (by decide) (by omega)) (fun i hi => f4 25 _ (by decide) (by omega)) (fun i hi => f4 26 _ (by decide) (by omega))
theorem r_ip.in {s e ex t : Nat} {me ct tm : Int32} {r19 r24 r25 r26 ib tv wa wc wv : Nat → Int32} (h : r_ip s e ex t me ct tm r19 r24 r25 r26 ib tv wa wc wv) (hz : ct = -1 → wa (ex % 4) = 0) : r_in s e me ct tm r19 r24 r25 r26 ib tv wa wc wv := by
  obtain ⟨h1, h2, h3, h4, h5, h6, h7, h8, h9, h10, h11⟩ := h
  exact ⟨ex, t, h1, h2, h3, h4, h5, h6, h7, h8, h9, h10, hz, fun d _ hd hw => h11 d hd hw⟩
theorem r_takes {s b e a : Nat} {v c : Int32} {m S : gm_Mem} (hB : s ≤ 512) (h : Rc s b 0 m S) (he : e = 0 ∨ e = 1) (ha : a < s) (hc : c = 0 ∨ c = 1) : ∃ m2 S2 : gm_Mem,
    gm_run gM 1 YX11_takes 0 [some (.ref 0), some (.int (nI e)), some (.int (nI a)), some (.int v), some (.int c), none] [] m none m2 ∧ gm_run gC 1 YX1_take 0 [some (.ref (7 + 12 * e)), some (.int (nI a)), some (.int v), some (.int c), none, none] [] S none S2 ∧ Rc s b 0 m2 S2 ∧ r_FM m m2 ∧ r_FC S S2 ∧ r_FI e m m2 := by
  obtain ⟨ex, t, h1, h2, h3, h4, h5, h6, h7, h8, h9, h10, h11, h12⟩ := (h.re he).2.2.1
  have kp : 7 + 12 * e = 7 ∨ 7 + 12 * e = 19 ∨ 7 + 12 * e = 65 ∨ 7 + 12 * e = 77 := by omega
  have e2 : 7 + 12 * e + 2 = 9 + 12 * e := by omega
  have e3 : 7 + 12 * e + 3 = 10 + 12 * e := by omega
  have e4 : 7 + 12 * e + 4 = 11 + 12 * e := by omega
  by_cases c1 : m 16 e = -1
  · have d1 : m 16 e < 0 := by rw [c1]; decide
    have d1c : S (7 + 12 * e) 6 = -1 := h7.trans c1
    have w0 := h11 c1
    by_cases c2 : a < ex
    · exact ⟨m, S, PX11_takes_6 (ix_e he) d1 (by rw [h3]; exact (nI_ltI (by omega) (by omega)).mpr c2), PX1_take_4 kp d1c (by rw [h4]; exact (nI_ltI (by omega) (by omega)).mpr c2), h, r_FM.rf, r_FC.rf, r_FI.rf⟩
    · have d2 : ¬ nI a < m 13 e := by rw [h3, nI_ltI (by omega) (by omega)]; exact c2
      have d2c : ¬ nI a < S (7 + 12 * e) 5 := by rw [h4, nI_ltI (by omega) (by omega)]; exact c2
      have x4 : (m 13 e) + 4 = nI (ex + 4) := by rw [h3]; exact nI_add ex 4
      have x4c : (S (7 + 12 * e) 5) + 4 = nI (ex + 4) := by rw [h4]; exact nI_add ex 4
      by_cases c3 : a < ex + 4
      · have d3 : nI a < (m 13 e) + 4 := by rw [x4]; exact (nI_ltI (by omega) (by omega)).mpr c3
        have d3c : nI a < (S (7 + 12 * e) 5) + 4 := by rw [x4c]; exact (nI_ltI (by omega) (by omega)).mpr c3
        have ha4 : a % 4 < 4 := Nat.mod_lt _ (by decide)
        have ixa : gm_ix (nI a &&& 3) (a % 4) 4 := ix_c (and3 (by omega)) ha4 (by decide)
        have cfit : gm_fit .boolean c := by
          rcases hc with rfl | rfl
          · exact gm_fit_0
          · exact gm_fit_1
        have hd11 : ∀ d, d < 4 → S (9 + 12 * e) ((ex + d) % 4) = 1 → ex + d < s := by
          intro d hd hw
          by_cases hd0 : d = 0
          · subst hd0
            rw [Nat.add_zero, w0] at hw
            exact absurd hw (by decide)
          · exact h12 d (by omega) hd hw
        obtain ⟨k1, k2, k3, k4⟩ := h10 (a % 4) ha4
        -- the class's memory with the slot set
        have p7 : (gm_u (gm_u (gm_u S (9 + 12 * e) (a % 4) 1) (11 + 12 * e) (a % 4) v) (10 + 12 * e) (a % 4) c) (7 + 12 * e) = S (7 + 12 * e) := by simp [gm_u]
        have p8 : (gm_u (gm_u (gm_u S (9 + 12 * e) (a % 4) 1) (11 + 12 * e) (a % 4) v) (10 + 12 * e) (a % 4) c) (8 + 12 * e) = S (8 + 12 * e) := by simp [gm_u]
        have p9 : (gm_u (gm_u (gm_u S (9 + 12 * e) (a % 4) 1) (11 + 12 * e) (a % 4) v) (10 + 12 * e) (a % 4) c) (9 + 12 * e) = upd (S (9 + 12 * e)) (a % 4) 1 := by rw [gm_u_eq, gm_u_eq, gm_u_eq]; simp [va_up]
        have p10 : (gm_u (gm_u (gm_u S (9 + 12 * e) (a % 4) 1) (11 + 12 * e) (a % 4) v) (10 + 12 * e) (a % 4) c) (10 + 12 * e) = upd (S (10 + 12 * e)) (a % 4) c := by rw [gm_u_eq, gm_u_eq, gm_u_eq]; simp [va_up]
        have p11 : (gm_u (gm_u (gm_u S (9 + 12 * e) (a % 4) 1) (11 + 12 * e) (a % 4) v) (10 + 12 * e) (a % 4) c) (11 + 12 * e) = upd (S (11 + 12 * e)) (a % 4) v := by rw [gm_u_eq, gm_u_eq, gm_u_eq]; simp [va_up]
        have fJ : r_FJ e S (gm_u (gm_u (gm_u S (9 + 12 * e) (a % 4) 1) (11 + 12 * e) (a % 4) v) (10 + 12 * e) (a % 4) c) := (((show r_FJ e S S from fun _ _ _ _ _ _ => rfl).u (by omega)).u (by omega)).u (by omega)
        by_cases c4 : ex < a
        · -- it waits
          have d4 : m 13 e < nI a := by rw [h3]; exact (nI_ltI (by omega) (by omega)).mpr c4
          have ne4 : ex % 4 ≠ a % 4 := by omega
          have iw := ix_w (x := nI a) he (show a < 2 ^ 31 by omega) rfl
          by_cases c5 : S (9 + 12 * e) (a % 4) = 1
          · refine ⟨m, S, PX11_takes_2 (ix_e he) d1 d2 d3 d4 iw (k1.trans c5), PX1_take_3 kp d1c d2c d3c ixa (by rw [e2, c5]; decide) ?_, h, r_FM.rf, r_FC.rf, r_FI.rf⟩
            exact PX1_take_7 kp (by decide) d1c (ix_c (by rw [h4, and3 (by omega)]) (show ex % 4 < 4 by omega) (by decide)) (by rw [e2]; exact w0)
          · have c6 : S (9 + 12 * e) (a % 4) = 0 := by
              rcases k2 with z | z
              · exact z
              · exact absurd z c5
            have qC : gm_run gC 1 YX1_take 0 [some (.ref (7 + 12 * e)), some (.int (nI a)), some (.int v), some (.int c), none, none] [] S none (gm_u (gm_u (gm_u S (9 + 12 * e) (a % 4) 1) (11 + 12 * e) (a % 4) v) (10 + 12 * e) (a % 4) c) := by
              refine PX1_take_2 kp d1c d2c d3c ixa (by rw [e2]; exact c6) cfit ?_
              rw [e2, e3, e4]
              refine PX1_take_7 (j3 := ex % 4) kp (by decide) (by rw [p7]; exact d1c) (ix_c (by rw [p7, h4, and3 (by omega)]) (show ex % 4 < 4 by omega) (by decide)) ?_
              rw [e2, p9]
              simp [upd, ne4, w0]
            have n24 : ¬ m 24 (4 * e + a % 4) = 1 := by rw [k1]; exact c5
            have qM : gm_run gM 1 YX11_takes 0 [some (.ref 0), some (.int (nI e)), some (.int (nI a)), some (.int v), some (.int c), none] [] m none (gm_u (gm_u (gm_u m 24 (4 * e + a % 4) 1) 25 (4 * e + a % 4) v) 26 (4 * e + a % 4) c) := by
              rcases hc with rfl | rfl
              · exact PX11_takes_4 (ix_e he) d1 d2 d3 d4 iw n24 rfl (PX11_takes_8 iw)
              · exact PX11_takes_3 (ix_e he) d1 d2 d3 d4 iw n24 (by decide) (PX11_takes_8 iw)
            have fI : r_FI e m (gm_u (gm_u (gm_u m 24 (4 * e + a % 4) 1) 25 (4 * e + a % 4) v) 26 (4 * e + a % 4) c) := ((r_FI.rf.u3 (by omega) (by omega)).u3 (by omega) (by omega)).u3 (by omega) (by omega)
            obtain ⟨u1, u2, u3⟩ := Rc.ins h (by omega) he fI fJ (by
              rw [p7, p8, p9, p10, p11]
              refine ⟨ex, t, h1, h2, h3, h4, h5, h6, h7, h8, h9, fun j hj => ?_, fun _ => by simp [upd, ne4, w0], fun d hd1 hd hw => ?_⟩
              · by_cases hjj : j = a % 4
                · subst hjj
                  exact ⟨by simp [gm_u, upd], Or.inr (by simp [upd]), by simpa [upd] using hc, fun _ => ⟨by simp [gm_u, upd], by simp [gm_u, upd]⟩⟩
                · have hne : 4 * e + j ≠ 4 * e + a % 4 := by omega
                  have := h10 j hj
                  rw [gm_rj hne, gm_rj hne, gm_rj hne, gm_rj hne, gm_rj hne, gm_rj hne, gm_rj hne, gm_rj hne, gm_rj hne]
                  simpa [upd, hjj] using this
              · by_cases hdd : (ex + d) % 4 = a % 4
                · omega
                · simp [upd, hdd] at hw
                  exact h12 d hd1 hd hw)
            exact ⟨_, _, qM, qC, u1, u2, u3, fI⟩
        · -- it is the expected one
          have hae : a = ex := by omega
          subst hae
          have d4 : ¬ m 13 e < nI a := by rw [h3, nI_ltI (by omega) (by omega)]; omega
          have hIP : IP s e a t (-1) m (gm_u (gm_u (gm_u (gm_u S (9 + 12 * e) (a % 4) 1) (11 + 12 * e) (a % 4) v) (10 + 12 * e) (a % 4) c) (9 + 12 * e) (a % 4) 0) := by
            have z7 : (gm_u (gm_u (gm_u (gm_u S (9 + 12 * e) (a % 4) 1) (11 + 12 * e) (a % 4) v) (10 + 12 * e) (a % 4) c) (9 + 12 * e) (a % 4) 0) (7 + 12 * e) = S (7 + 12 * e) := by simp [gm_u]
            have z8 : (gm_u (gm_u (gm_u (gm_u S (9 + 12 * e) (a % 4) 1) (11 + 12 * e) (a % 4) v) (10 + 12 * e) (a % 4) c) (9 + 12 * e) (a % 4) 0) (8 + 12 * e) = S (8 + 12 * e) := by simp [gm_u]
            have z9 : (gm_u (gm_u (gm_u (gm_u S (9 + 12 * e) (a % 4) 1) (11 + 12 * e) (a % 4) v) (10 + 12 * e) (a % 4) c) (9 + 12 * e) (a % 4) 0) (9 + 12 * e) = S (9 + 12 * e) := by
              rw [gm_u_eq, gm_u_eq, gm_u_eq, gm_u_eq]
              funext j
              by_cases hj : j = a % 4
              · subst hj; simp [va_up, upd, w0]
              · simp [va_up, upd, hj]
            have z10 : (gm_u (gm_u (gm_u (gm_u S (9 + 12 * e) (a % 4) 1) (11 + 12 * e) (a % 4) v) (10 + 12 * e) (a % 4) c) (9 + 12 * e) (a % 4) 0) (10 + 12 * e) = upd (S (10 + 12 * e)) (a % 4) c := by rw [gm_u_eq, gm_u_eq, gm_u_eq, gm_u_eq]; simp [va_up]
            have z11 : (gm_u (gm_u (gm_u (gm_u S (9 + 12 * e) (a % 4) 1) (11 + 12 * e) (a % 4) v) (10 + 12 * e) (a % 4) c) (9 + 12 * e) (a % 4) 0) (11 + 12 * e) = upd (S (11 + 12 * e)) (a % 4) v := by rw [gm_u_eq, gm_u_eq, gm_u_eq, gm_u_eq]; simp [va_up]
            unfold IP r_ip
            rw [z7, z8, z9, z10, z11]
            refine ⟨h1, h2, h3, h4, h5, h6, d1c, Or.inl rfl, h9, fun j hj => ?_, hd11⟩
            obtain ⟨l1, l2, l3, l4⟩ := h10 j hj
            by_cases hjj : j = a % 4
            · subst hjj
              refine ⟨l1, l2, by simpa [upd] using hc, fun z => ?_⟩
              rw [w0] at z
              exact absurd z (by decide)
            · refine ⟨l1, l2, by simpa [upd, hjj] using l3, fun z => by simpa [upd, hjj] using l4 z⟩
          obtain ⟨m2, S2, t2, q1, q2, q3, q4, q5, q6, q7, q8⟩ := p_takeX hB he hIP ha (v := v) (c := c) (by simp [gm_u]) (by simp [gm_u]) (by rw [p7]; exact h7.symm)
          obtain ⟨m3, S3, ex3, t3, r1, r2, r3, r4, r5, r6⟩ := p_drain (x2 := nI a) (x3 := v) (x4 := c) (y1 := nI a) (y2 := v) (y3 := c) (y4 := nI a &&& 3) hB he 3 1 (a + 1) t2 m2 S2 (by omega) q3 (fun _ d hd1 hd2 => by
            have hd3 : d = 3 := by omega
            subst hd3
            rw [q8, show (a + 1 + 3) % 4 = a % 4 by omega]
            simp [upd])
          have c5 : S (9 + 12 * e) (a % 4) = 0 := w0
          have qM := PX11_takes_5 (ix_e he) d1 d2 d3 d4 q1 r1
          have qC : gm_run gC 1 YX1_take 0 [some (.ref (7 + 12 * e)), some (.int (nI a)), some (.int v), some (.int c), none, none] [] S none S3 := by
            refine PX1_take_2 kp d1c d2c d3c ixa (by rw [e2]; exact c5) cfit ?_
            rw [e2, e3, e4]
            refine PX1_take_6 (j3 := a % 4) (T1 := S2) kp (by decide) (by rw [p7]; exact d1c) (ix_c (by rw [p7, h4, and3 (by omega)]) ha4 (by decide)) ?_ ?_ r2
            · rw [e2, p9]
              simp [upd]
            · rw [p7, h4, and3 (by omega)]
              exact q2
          obtain ⟨u1, u2, u3⟩ := Rc.ins h (by omega) he (q5.tr r5) ((fJ.tr q6).tr r6) (r3.in r4)
          exact ⟨m3, S3, qM, qC, u1, u2, u3, q5.tr r5⟩
      · exact ⟨m, S, PX11_takes_1 (ix_e he) d1 d2 (by rw [x4, nI_ltI (by omega) (by omega)]; exact c3), PX1_take_1 kp d1c d2c (by rw [x4c, nI_ltI (by omega) (by omega)]; exact c3), h, r_FM.rf, r_FC.rf, r_FI.rf⟩
  · have d1 : ¬ m 16 e < 0 := by
      rcases h8 with z | z
      · exact absurd z c1
      · rw [Int32.lt_iff_toInt_lt]
        have : (0 : Int32).toInt = 0 := rfl
        omega
    exact ⟨m, S, PX11_takes_7 (ix_e he) d1, PX1_take_5 kp (fun z => c1 (h7.symm.trans z)), h, r_FM.rf, r_FC.rf, r_FI.rf⟩
