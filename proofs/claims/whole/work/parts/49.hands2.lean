/-! save / restore: the reference's whole hand-over. mD is the memory that a saved row holds -/
def rowM (p : Nat) : Bool := (1 ≤ p && p < 31) || p == 32
def offM (p : Nat) : Nat := if p < 19 then 2 * (p - 1) else if p = 19 then 36 else if p < 24 then 2436 + 32 * (p - 20) else if p < 27 then 2564 + 8 * (p - 24) else if p < 29 then 2588 + 16 * (p - 27) else if p = 32 then 2620 else if p = 29 then 2638 else 2728
def fixM (k : Nat) : Nat := if k < 9 then k else if k < 39 then k - 26 else if k = 42 then 13 else 14
def mD (r : Nat → Int32) : gm_Mem := fun p j => if p = 0 then r (2944 + fixM j) else r (offM p + j)
theorem rowM_lt {p : Nat} (h : rowM p = true) : 1 ≤ p ∧ p < 37 := by
  simp [rowM] at h
  omega
theorem rowM_all : ∀ q, q < 37 → rowM q = true → 0 < lenM q ∧ offM q + lenM q ≤ 2944 := by decide
theorem fix_cases {f : Nat} (hf : fldM f) : (f < 9 ∧ fixM f = f) ∨ (35 ≤ f ∧ f < 39 ∧ fixM f = f - 26) ∨ (f = 42 ∧ fixM f = 13) ∨ (f = 45 ∧ fixM f = 14) := by
  unfold fldM at hf
  unfold fixM
  rcases hf with h | h | h | h
  · exact Or.inl ⟨h, if_pos h⟩
  · exact Or.inr (Or.inl ⟨h.1, h.2, (if_neg (show ¬ f < 9 by omega)).trans (if_pos h.2)⟩)
  · subst h
    exact Or.inr (Or.inr (Or.inl ⟨rfl, rfl⟩))
  · subst h
    exact Or.inr (Or.inr (Or.inr ⟨rfl, rfl⟩))
theorem fix_inj {f k : Nat} (hf : fldM f) (hk : fldM k) (h : fixM k = fixM f) : k = f := by
  have a := fix_cases hf
  have b := fix_cases hk
  omega
theorem fix_lt {f : Nat} (hf : fldM f) : fixM f < 15 := by
  have a := fix_cases hf
  omega
def iK (m0 : gm_Mem) (c : Nat) (m : gm_Mem) : Prop := (∀ q, q ≠ 0 → q ≠ 37 → m q = m0 q) ∧ (∀ k, k ≠ 57 → m 0 k = m0 0 k) ∧ m 0 57 = nI c ∧ (∀ p j, rowM p = true → j < lenM p → offM p + lenM p ≤ c → m 37 (offM p + j) = m0 p j) ∧ ∀ k, fldM k → 2944 + fixM k < c → m 37 (2944 + fixM k) = m0 0 k
def iR (m0 : gm_Mem) (c : Nat) (m : gm_Mem) : Prop := (∀ q, q ≠ 0 → rowM q = false → m q = m0 q) ∧ (∀ k, k ≠ 57 → ¬ fldM k → m 0 k = m0 0 k) ∧ m 0 57 = nI c ∧ (∀ p j, rowM p = true → j < lenM p → offM p + lenM p ≤ c → m p j = m0 37 (offM p + j)) ∧ ∀ k, fldM k → 2944 + fixM k < c → m 0 k = m0 37 (2944 + fixM k)
theorem iK.row {m0 m : gm_Mem} {p n c : Nat} (h : iK m0 c m) (hp : rowM p = true) (hn : lenM p = n) (hs : gM[p]? = some (.inr (0, n))) (hc : offM p = c) (hd : ∀ q, q < 37 → rowM q = true → q ≠ p → offM q + lenM q ≤ c + n → offM q + lenM q ≤ c) (h56 : ¬ m0 0 56 = 0) : ∃ m2, gm_run gM 0 YX11_hands 0 [some (.ref 0), some (.ref p), none] [] m none m2 ∧ iK m0 (c + n) m2 := by
  obtain ⟨a1, a2, a3, a4, a5⟩ := h
  have lp := rowM_lt hp
  have tp := (rowM_all p lp.2 hp).2
  rw [hn, hc] at tp
  obtain ⟨r37, q1, q2, q3⟩ := p_handsK lp hs (by omega) n 0 c m (by omega) a3 (by omega) (by rw [a2 56 (by decide)]; exact h56)
  refine ⟨_, PX11_hands_1 lp hs q1, fun q h0 h7 => ?_, fun k hk => ?_, ?_, fun q j hq hj hl => ?_, fun k hk hl => absurd hl (by omega)⟩
  · simp only [gm_u, va_up, if_neg h0, if_neg h7]
    exact a1 q h0 h7
  · rw [gm_rk hk]
    exact a2 k hk
  · simp [gm_u]
  · rw [gm_rp (by decide)]
    show va_up m 37 r37 37 (offM q + j) = _
    simp only [va_up, if_pos]
    by_cases e : q = p
    · subst e
      rw [hc, q2 j (by omega), Nat.zero_add, a1 q (by omega) (by omega)]
    · have := hd q (rowM_lt hq).2 hq e hl
      rw [q3 _ (by omega)]
      exact a4 q j hq hj this
theorem iR.row {m0 m : gm_Mem} {p n c : Nat} (h : iR m0 c m) (hp : rowM p = true) (hn : lenM p = n) (hs : gM[p]? = some (.inr (0, n))) (hc : offM p = c) (hd : ∀ q, q < 37 → rowM q = true → q ≠ p → offM q + lenM q ≤ c + n → offM q + lenM q ≤ c) (h56 : m0 0 56 = 0) : ∃ m2, gm_run gM 0 YX11_hands 0 [some (.ref 0), some (.ref p), none] [] m none m2 ∧ iR m0 (c + n) m2 := by
  obtain ⟨a1, a2, a3, a4, a5⟩ := h
  have lp := rowM_lt hp
  have tp := (rowM_all p lp.2 hp).2
  rw [hn, hc] at tp
  obtain ⟨rp, q1, q2, q3⟩ := p_handsR lp hs (by omega) n 0 c m (by omega) a3 (by omega) (by rw [a2 56 (by decide) (by unfold fldM; omega)]; exact h56)
  refine ⟨_, PX11_hands_1 lp hs q1, fun q h0 h7 => ?_, fun k hk hf => ?_, ?_, fun q j hq hj hl => ?_, fun k hk hl => absurd hl (by omega)⟩
  · have e : q ≠ p := by
      rintro rfl
      rw [hp] at h7
      exact absurd h7 (by decide)
    simp only [gm_u, va_up, if_neg h0, if_neg e]
    exact a1 q h0 h7
  · rw [gm_rk hk]
    simp only [va_up]
    rw [if_neg (by omega)]
    exact a2 k hk hf
  · simp [gm_u]
  · have := rowM_lt hq
    rw [gm_rp (by omega)]
    by_cases e : q = p
    · subst e
      simp only [va_up, if_pos]
      have := q2 j (by omega)
      rw [Nat.zero_add, a1 37 (by decide) (by decide)] at this
      rw [this, hc]
    · simp only [va_up, if_neg e]
      exact a4 q j hq hj (hd q (rowM_lt hq).2 hq e hl)
theorem iK.fld {m0 m : gm_Mem} {f c : Nat} (h : iK m0 c m) (hf : fldM f) (hc : 2944 + fixM f = c) (h56 : ¬ m0 0 56 = 0) : ∃ T r, gm_run gM 0 YX11_hand 0 [some (.ref 0), some (.int (m 0 f)), none] [] m (some (.int r)) T ∧ iK m0 (c + 1) (gm_u T 0 f r) := by
  obtain ⟨a1, a2, a3, a4, a5⟩ := h
  have l15 := fix_lt hf
  have f57 : f ≠ 57 := by unfold fldM at hf; omega
  have e57 : m 0 57 + 1 = nI (c + 1) := by rw [a3, nI_1]
  refine ⟨_, _, PX11_hand_1 (j2 := c) (by rw [a2 56 (by decide)]; exact h56) (ix_c a3 (by omega) (by decide)), fun q h0 h7 => ?_, fun k hk => ?_, ?_, fun q j hq hj hl => ?_, fun k hk hl => ?_⟩
  · simp only [gm_u, if_neg h0, if_neg h7]
    exact a1 q h0 h7
  · by_cases e : k = f
    · subst e
      rw [show gm_u (gm_u (gm_u m 37 c (m 0 k)) 0 57 (m 0 57 + 1)) 0 k (m 0 k) 0 k = m 0 k by simp [gm_u]]
      exact a2 k hk
    · rw [gm_rk e, gm_rk hk, gm_rp (by decide)]
      exact a2 k hk
  · rw [gm_rk (by omega), ← e57]
    simp [gm_u]
  · rw [gm_rp (by decide), gm_rp (by decide)]
    have := (rowM_all q (rowM_lt hq).2 hq).2
    rw [gm_rk (by omega)]
    exact a4 q j hq hj (by omega)
  · rw [gm_rp (by decide), gm_rp (by decide)]
    by_cases e : k = f
    · subst e
      rw [hc]
      rw [show gm_u m 37 c (m 0 k) 37 c = m 0 k by simp [gm_u]]
      exact a2 k f57
    · have : fixM k ≠ fixM f := fun q => e (fix_inj hf hk q)
      rw [gm_rk (by omega)]
      exact a5 k hk (by omega)
theorem iR.fld {m0 m : gm_Mem} {f c : Nat} (h : iR m0 c m) (hf : fldM f) (hc : 2944 + fixM f = c) (h56 : m0 0 56 = 0) : ∃ T r, gm_run gM 0 YX11_hand 0 [some (.ref 0), some (.int (m 0 f)), none] [] m (some (.int r)) T ∧ iR m0 (c + 1) (gm_u T 0 f r) := by
  obtain ⟨a1, a2, a3, a4, a5⟩ := h
  have l15 := fix_lt hf
  have f57 : f ≠ 57 := by unfold fldM at hf; omega
  have e57 : m 0 57 + 1 = nI (c + 1) := by rw [a3, nI_1]
  have e37 : m 37 = m0 37 := a1 37 (by decide) (by decide)
  refine ⟨_, _, PX11_hand_2 (j2 := c) (by rw [a2 56 (by decide) (by unfold fldM; omega)]; exact h56) (ix_c a3 (by omega) (by decide)), ?_⟩
  rw [r_u_self]
  refine ⟨fun q h0 h7 => ?_, fun k hk hf' => ?_, ?_, fun q j hq hj hl => ?_, fun k hk hl => ?_⟩
  · simp only [gm_u, if_neg h0]
    exact a1 q h0 h7
  · rw [gm_rk (by rintro rfl; exact hf' hf), gm_rk hk]
    exact a2 k hk hf'
  · rw [gm_rk (by omega), ← e57]
    simp [gm_u]
  · have := rowM_lt hq
    rw [gm_rp (by omega), gm_rp (by omega)]
    have := (rowM_all q (rowM_lt hq).2 hq).2
    exact a4 q j hq hj (by omega)
  · by_cases e : k = f
    · subst e
      rw [← hc, e37]
      simp [gm_u]
    · have : fixM k ≠ fixM f := fun q => e (fix_inj hf hk q)
      rw [gm_rk e, gm_rk (by unfold fldM at hk; omega)]
      exact a5 k hk (by omega)
theorem iK.ends {m0 m : gm_Mem} (h : iK m0 0 m) (h56 : ¬ m0 0 56 = 0) : ∃ m2, gm_run gM 1 YX11_handsEndpoints 0 [some (.ref 0)] [] m none m2 ∧ iK m0 2944 m2 := by
  obtain ⟨T1, e1, i1⟩ := iK.row (c := 0) (n := 2) h (p := 1) (by decide) (by decide) rfl (by decide) (by decide) h56
  obtain ⟨T2, e2, i2⟩ := iK.row (c := 2) (n := 2) i1 (p := 2) (by decide) (by decide) rfl (by decide) (by decide) h56
  obtain ⟨T3, e3, i3⟩ := iK.row (c := 4) (n := 2) i2 (p := 3) (by decide) (by decide) rfl (by decide) (by decide) h56
  obtain ⟨T4, e4, i4⟩ := iK.row (c := 6) (n := 2) i3 (p := 4) (by decide) (by decide) rfl (by decide) (by decide) h56
  obtain ⟨T5, e5, i5⟩ := iK.row (c := 8) (n := 2) i4 (p := 5) (by decide) (by decide) rfl (by decide) (by decide) h56
  obtain ⟨T6, e6, i6⟩ := iK.row (c := 10) (n := 2) i5 (p := 6) (by decide) (by decide) rfl (by decide) (by decide) h56
  obtain ⟨T7, e7, i7⟩ := iK.row (c := 12) (n := 2) i6 (p := 7) (by decide) (by decide) rfl (by decide) (by decide) h56
  obtain ⟨T8, e8, i8⟩ := iK.row (c := 14) (n := 2) i7 (p := 8) (by decide) (by decide) rfl (by decide) (by decide) h56
  obtain ⟨T9, e9, i9⟩ := iK.row (c := 16) (n := 2) i8 (p := 9) (by decide) (by decide) rfl (by decide) (by decide) h56
  obtain ⟨T10, e10, i10⟩ := iK.row (c := 18) (n := 2) i9 (p := 10) (by decide) (by decide) rfl (by decide) (by decide) h56
  obtain ⟨T11, e11, i11⟩ := iK.row (c := 20) (n := 2) i10 (p := 11) (by decide) (by decide) rfl (by decide) (by decide) h56
  obtain ⟨T12, e12, i12⟩ := iK.row (c := 22) (n := 2) i11 (p := 12) (by decide) (by decide) rfl (by decide) (by decide) h56
  obtain ⟨T13, e13, i13⟩ := iK.row (c := 24) (n := 2) i12 (p := 13) (by decide) (by decide) rfl (by decide) (by decide) h56
  obtain ⟨T14, e14, i14⟩ := iK.row (c := 26) (n := 2) i13 (p := 14) (by decide) (by decide) rfl (by decide) (by decide) h56
  obtain ⟨T15, e15, i15⟩ := iK.row (c := 28) (n := 2) i14 (p := 15) (by decide) (by decide) rfl (by decide) (by decide) h56
  obtain ⟨T16, e16, i16⟩ := iK.row (c := 30) (n := 2) i15 (p := 16) (by decide) (by decide) rfl (by decide) (by decide) h56
  obtain ⟨T17, e17, i17⟩ := iK.row (c := 32) (n := 2) i16 (p := 17) (by decide) (by decide) rfl (by decide) (by decide) h56
  obtain ⟨T18, e18, i18⟩ := iK.row (c := 34) (n := 2) i17 (p := 18) (by decide) (by decide) rfl (by decide) (by decide) h56
  obtain ⟨T19, e19, i19⟩ := iK.row (c := 36) (n := 2400) i18 (p := 19) (by decide) (by decide) rfl (by decide) (by decide) h56
  obtain ⟨T20, e20, i20⟩ := iK.row (c := 2436) (n := 32) i19 (p := 20) (by decide) (by decide) rfl (by decide) (by decide) h56
  obtain ⟨T21, e21, i21⟩ := iK.row (c := 2468) (n := 32) i20 (p := 21) (by decide) (by decide) rfl (by decide) (by decide) h56
  obtain ⟨T22, e22, i22⟩ := iK.row (c := 2500) (n := 32) i21 (p := 22) (by decide) (by decide) rfl (by decide) (by decide) h56
  obtain ⟨T23, e23, i23⟩ := iK.row (c := 2532) (n := 32) i22 (p := 23) (by decide) (by decide) rfl (by decide) (by decide) h56
  obtain ⟨T24, e24, i24⟩ := iK.row (c := 2564) (n := 8) i23 (p := 24) (by decide) (by decide) rfl (by decide) (by decide) h56
  obtain ⟨T25, e25, i25⟩ := iK.row (c := 2572) (n := 8) i24 (p := 25) (by decide) (by decide) rfl (by decide) (by decide) h56
  obtain ⟨T26, e26, i26⟩ := iK.row (c := 2580) (n := 8) i25 (p := 26) (by decide) (by decide) rfl (by decide) (by decide) h56
  obtain ⟨T27, e27, i27⟩ := iK.row (c := 2588) (n := 16) i26 (p := 27) (by decide) (by decide) rfl (by decide) (by decide) h56
  obtain ⟨T28, e28, i28⟩ := iK.row (c := 2604) (n := 16) i27 (p := 28) (by decide) (by decide) rfl (by decide) (by decide) h56
  obtain ⟨T29, e29, i29⟩ := iK.row (c := 2620) (n := 18) i28 (p := 32) (by decide) (by decide) rfl (by decide) (by decide) h56
  obtain ⟨T30, e30, i30⟩ := iK.row (c := 2638) (n := 90) i29 (p := 29) (by decide) (by decide) rfl (by decide) (by decide) h56
  obtain ⟨T31, e31, i31⟩ := iK.row (c := 2728) (n := 216) i30 (p := 30) (by decide) (by decide) rfl (by decide) (by decide) h56
  exact ⟨_, PX11_handsEndpoints_1 e1 e2 e3 e4 e5 e6 e7 e8 e9 e10 e11 e12 e13 e14 e15 e16 e17 e18 e19 e20 e21 e22 e23 e24 e25 e26 e27 e28 e29 e30 e31, i31⟩
theorem iK.all (m : gm_Mem) : ∃ m2, gm_run gM 2 YX11_handsAll 0 [some (.ref 0), some (.int 1)] [] m none m2 ∧ iK (gm_u (gm_u m 0 56 1) 0 57 0) 2959 m2 := by
  have h56 : ¬ gm_u (gm_u m 0 56 1) 0 57 0 0 56 = 0 := by rw [gm_rk (by decide)]; simp [gm_u]
  obtain ⟨T1, e1, i1⟩ := iK.ends (m0 := gm_u (gm_u m 0 56 1) 0 57 0) (m := gm_u (gm_u m 0 56 1) 0 57 0) ⟨fun _ _ _ => rfl, fun _ _ => rfl, by simp [gm_u]; rfl, fun q j hq hj hl => absurd hl (by have := rowM_all q (rowM_lt hq).2 hq; omega), fun k hk hl => absurd hl (by omega)⟩ h56
  obtain ⟨T2, r2, e2, i2⟩ := iK.fld (f := 0) (c := 2944) i1 (by unfold fldM; decide) (by decide) h56
  obtain ⟨T3, r3, e3, i3⟩ := iK.fld (f := 1) (c := 2945) i2 (by unfold fldM; decide) (by decide) h56
  obtain ⟨T4, r4, e4, i4⟩ := iK.fld (f := 2) (c := 2946) i3 (by unfold fldM; decide) (by decide) h56
  obtain ⟨T5, r5, e5, i5⟩ := iK.fld (f := 3) (c := 2947) i4 (by unfold fldM; decide) (by decide) h56
  obtain ⟨T6, r6, e6, i6⟩ := iK.fld (f := 4) (c := 2948) i5 (by unfold fldM; decide) (by decide) h56
  obtain ⟨T7, r7, e7, i7⟩ := iK.fld (f := 5) (c := 2949) i6 (by unfold fldM; decide) (by decide) h56
  obtain ⟨T8, r8, e8, i8⟩ := iK.fld (f := 6) (c := 2950) i7 (by unfold fldM; decide) (by decide) h56
  obtain ⟨T9, r9, e9, i9⟩ := iK.fld (f := 7) (c := 2951) i8 (by unfold fldM; decide) (by decide) h56
  obtain ⟨T10, r10, e10, i10⟩ := iK.fld (f := 8) (c := 2952) i9 (by unfold fldM; decide) (by decide) h56
  obtain ⟨T11, r11, e11, i11⟩ := iK.fld (f := 35) (c := 2953) i10 (by unfold fldM; decide) (by decide) h56
  obtain ⟨T12, r12, e12, i12⟩ := iK.fld (f := 36) (c := 2954) i11 (by unfold fldM; decide) (by decide) h56
  obtain ⟨T13, r13, e13, i13⟩ := iK.fld (f := 37) (c := 2955) i12 (by unfold fldM; decide) (by decide) h56
  obtain ⟨T14, r14, e14, i14⟩ := iK.fld (f := 38) (c := 2956) i13 (by unfold fldM; decide) (by decide) h56
  obtain ⟨T15, r15, e15, i15⟩ := iK.fld (f := 42) (c := 2957) i14 (by unfold fldM; decide) (by decide) h56
  obtain ⟨T16, r16, e16, i16⟩ := iK.fld (f := 45) (c := 2958) i15 (by unfold fldM; decide) (by decide) h56
  exact ⟨_, PX11_handsAll_1 gm_fit_1 e1 e2 e3 e4 e5 e6 e7 e8 e9 e10 e11 e12 e13 e14 e15 e16, i16⟩
theorem iR.ends {m0 m : gm_Mem} (h : iR m0 0 m) (h56 : m0 0 56 = 0) : ∃ m2, gm_run gM 1 YX11_handsEndpoints 0 [some (.ref 0)] [] m none m2 ∧ iR m0 2944 m2 := by
  obtain ⟨T1, e1, i1⟩ := iR.row (c := 0) (n := 2) h (p := 1) (by decide) (by decide) rfl (by decide) (by decide) h56
  obtain ⟨T2, e2, i2⟩ := iR.row (c := 2) (n := 2) i1 (p := 2) (by decide) (by decide) rfl (by decide) (by decide) h56
  obtain ⟨T3, e3, i3⟩ := iR.row (c := 4) (n := 2) i2 (p := 3) (by decide) (by decide) rfl (by decide) (by decide) h56
  obtain ⟨T4, e4, i4⟩ := iR.row (c := 6) (n := 2) i3 (p := 4) (by decide) (by decide) rfl (by decide) (by decide) h56
  obtain ⟨T5, e5, i5⟩ := iR.row (c := 8) (n := 2) i4 (p := 5) (by decide) (by decide) rfl (by decide) (by decide) h56
  obtain ⟨T6, e6, i6⟩ := iR.row (c := 10) (n := 2) i5 (p := 6) (by decide) (by decide) rfl (by decide) (by decide) h56
  obtain ⟨T7, e7, i7⟩ := iR.row (c := 12) (n := 2) i6 (p := 7) (by decide) (by decide) rfl (by decide) (by decide) h56
  obtain ⟨T8, e8, i8⟩ := iR.row (c := 14) (n := 2) i7 (p := 8) (by decide) (by decide) rfl (by decide) (by decide) h56
  obtain ⟨T9, e9, i9⟩ := iR.row (c := 16) (n := 2) i8 (p := 9) (by decide) (by decide) rfl (by decide) (by decide) h56
  obtain ⟨T10, e10, i10⟩ := iR.row (c := 18) (n := 2) i9 (p := 10) (by decide) (by decide) rfl (by decide) (by decide) h56
  obtain ⟨T11, e11, i11⟩ := iR.row (c := 20) (n := 2) i10 (p := 11) (by decide) (by decide) rfl (by decide) (by decide) h56
  obtain ⟨T12, e12, i12⟩ := iR.row (c := 22) (n := 2) i11 (p := 12) (by decide) (by decide) rfl (by decide) (by decide) h56
  obtain ⟨T13, e13, i13⟩ := iR.row (c := 24) (n := 2) i12 (p := 13) (by decide) (by decide) rfl (by decide) (by decide) h56
  obtain ⟨T14, e14, i14⟩ := iR.row (c := 26) (n := 2) i13 (p := 14) (by decide) (by decide) rfl (by decide) (by decide) h56
  obtain ⟨T15, e15, i15⟩ := iR.row (c := 28) (n := 2) i14 (p := 15) (by decide) (by decide) rfl (by decide) (by decide) h56
  obtain ⟨T16, e16, i16⟩ := iR.row (c := 30) (n := 2) i15 (p := 16) (by decide) (by decide) rfl (by decide) (by decide) h56
  obtain ⟨T17, e17, i17⟩ := iR.row (c := 32) (n := 2) i16 (p := 17) (by decide) (by decide) rfl (by decide) (by decide) h56
  obtain ⟨T18, e18, i18⟩ := iR.row (c := 34) (n := 2) i17 (p := 18) (by decide) (by decide) rfl (by decide) (by decide) h56
  obtain ⟨T19, e19, i19⟩ := iR.row (c := 36) (n := 2400) i18 (p := 19) (by decide) (by decide) rfl (by decide) (by decide) h56
  obtain ⟨T20, e20, i20⟩ := iR.row (c := 2436) (n := 32) i19 (p := 20) (by decide) (by decide) rfl (by decide) (by decide) h56
  obtain ⟨T21, e21, i21⟩ := iR.row (c := 2468) (n := 32) i20 (p := 21) (by decide) (by decide) rfl (by decide) (by decide) h56
  obtain ⟨T22, e22, i22⟩ := iR.row (c := 2500) (n := 32) i21 (p := 22) (by decide) (by decide) rfl (by decide) (by decide) h56
  obtain ⟨T23, e23, i23⟩ := iR.row (c := 2532) (n := 32) i22 (p := 23) (by decide) (by decide) rfl (by decide) (by decide) h56
  obtain ⟨T24, e24, i24⟩ := iR.row (c := 2564) (n := 8) i23 (p := 24) (by decide) (by decide) rfl (by decide) (by decide) h56
  obtain ⟨T25, e25, i25⟩ := iR.row (c := 2572) (n := 8) i24 (p := 25) (by decide) (by decide) rfl (by decide) (by decide) h56
  obtain ⟨T26, e26, i26⟩ := iR.row (c := 2580) (n := 8) i25 (p := 26) (by decide) (by decide) rfl (by decide) (by decide) h56
  obtain ⟨T27, e27, i27⟩ := iR.row (c := 2588) (n := 16) i26 (p := 27) (by decide) (by decide) rfl (by decide) (by decide) h56
  obtain ⟨T28, e28, i28⟩ := iR.row (c := 2604) (n := 16) i27 (p := 28) (by decide) (by decide) rfl (by decide) (by decide) h56
  obtain ⟨T29, e29, i29⟩ := iR.row (c := 2620) (n := 18) i28 (p := 32) (by decide) (by decide) rfl (by decide) (by decide) h56
  obtain ⟨T30, e30, i30⟩ := iR.row (c := 2638) (n := 90) i29 (p := 29) (by decide) (by decide) rfl (by decide) (by decide) h56
  obtain ⟨T31, e31, i31⟩ := iR.row (c := 2728) (n := 216) i30 (p := 30) (by decide) (by decide) rfl (by decide) (by decide) h56
  exact ⟨_, PX11_handsEndpoints_1 e1 e2 e3 e4 e5 e6 e7 e8 e9 e10 e11 e12 e13 e14 e15 e16 e17 e18 e19 e20 e21 e22 e23 e24 e25 e26 e27 e28 e29 e30 e31, i31⟩
theorem iR.all (m : gm_Mem) : ∃ m2, gm_run gM 2 YX11_handsAll 0 [some (.ref 0), some (.int 0)] [] m none m2 ∧ iR (gm_u (gm_u m 0 56 0) 0 57 0) 2959 m2 := by
  have h56 : gm_u (gm_u m 0 56 0) 0 57 0 0 56 = 0 := by rw [gm_rk (by decide)]; simp [gm_u]
  obtain ⟨T1, e1, i1⟩ := iR.ends (m0 := gm_u (gm_u m 0 56 0) 0 57 0) (m := gm_u (gm_u m 0 56 0) 0 57 0) ⟨fun _ _ _ => rfl, fun _ _ _ => rfl, by simp [gm_u]; rfl, fun q j hq hj hl => absurd hl (by have := rowM_all q (rowM_lt hq).2 hq; omega), fun k hk hl => absurd hl (by omega)⟩ h56
  obtain ⟨T2, r2, e2, i2⟩ := iR.fld (f := 0) (c := 2944) i1 (by unfold fldM; decide) (by decide) h56
  obtain ⟨T3, r3, e3, i3⟩ := iR.fld (f := 1) (c := 2945) i2 (by unfold fldM; decide) (by decide) h56
  obtain ⟨T4, r4, e4, i4⟩ := iR.fld (f := 2) (c := 2946) i3 (by unfold fldM; decide) (by decide) h56
  obtain ⟨T5, r5, e5, i5⟩ := iR.fld (f := 3) (c := 2947) i4 (by unfold fldM; decide) (by decide) h56
  obtain ⟨T6, r6, e6, i6⟩ := iR.fld (f := 4) (c := 2948) i5 (by unfold fldM; decide) (by decide) h56
  obtain ⟨T7, r7, e7, i7⟩ := iR.fld (f := 5) (c := 2949) i6 (by unfold fldM; decide) (by decide) h56
  obtain ⟨T8, r8, e8, i8⟩ := iR.fld (f := 6) (c := 2950) i7 (by unfold fldM; decide) (by decide) h56
  obtain ⟨T9, r9, e9, i9⟩ := iR.fld (f := 7) (c := 2951) i8 (by unfold fldM; decide) (by decide) h56
  obtain ⟨T10, r10, e10, i10⟩ := iR.fld (f := 8) (c := 2952) i9 (by unfold fldM; decide) (by decide) h56
  obtain ⟨T11, r11, e11, i11⟩ := iR.fld (f := 35) (c := 2953) i10 (by unfold fldM; decide) (by decide) h56
  obtain ⟨T12, r12, e12, i12⟩ := iR.fld (f := 36) (c := 2954) i11 (by unfold fldM; decide) (by decide) h56
  obtain ⟨T13, r13, e13, i13⟩ := iR.fld (f := 37) (c := 2955) i12 (by unfold fldM; decide) (by decide) h56
  obtain ⟨T14, r14, e14, i14⟩ := iR.fld (f := 38) (c := 2956) i13 (by unfold fldM; decide) (by decide) h56
  obtain ⟨T15, r15, e15, i15⟩ := iR.fld (f := 42) (c := 2957) i14 (by unfold fldM; decide) (by decide) h56
  obtain ⟨T16, r16, e16, i16⟩ := iR.fld (f := 45) (c := 2958) i15 (by unfold fldM; decide) (by decide) h56
  exact ⟨_, PX11_handsAll_1 gm_fit_0 e1 e2 e3 e4 e5 e6 e7 e8 e9 e10 e11 e12 e13 e14 e15 e16, i16⟩
