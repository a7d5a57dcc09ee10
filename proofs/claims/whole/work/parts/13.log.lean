/-! THE RELATION of the two memories, first rows: what an operation leaves (FM, FC), the log -/
def r_FM (m m2 : gm_Mem) : Prop := m2 31 = m 31 ∧ m2 33 = m 33 ∧ m2 34 = m 34 ∧ m2 35 = m 35 ∧ m2 36 = m 36 ∧ m2 37 = m 37 ∧ m2 0 51 = m 0 51 ∧ m2 0 52 = m 0 52 ∧ m2 0 53 = m 0 53 ∧ m2 0 55 = m 0 55
def r_FC (S S2 : gm_Mem) : Prop := (∀ p : Nat, 59 ≤ p → S2 p = S p) ∧ S2 0 = S 0
theorem r_FM.rf {m : gm_Mem} : r_FM m m := ⟨rfl, rfl, rfl, rfl, rfl, rfl, rfl, rfl, rfl, rfl⟩
theorem r_FC.rf {S : gm_Mem} : r_FC S S := ⟨fun _ _ => rfl, rfl⟩
theorem r_FM.tr {a b c : gm_Mem} (h : r_FM a b) (k : r_FM b c) : r_FM a c := by
  obtain ⟨h1, h2, h3, h4, h5, h6, h7, h8, h9, h10⟩ := h
  obtain ⟨k1, k2, k3, k4, k5, k6, k7, k8, k9, k10⟩ := k
  exact ⟨k1.trans h1, k2.trans h2, k3.trans h3, k4.trans h4, k5.trans h5, k6.trans h6, k7.trans h7, k8.trans h8, k9.trans h9, k10.trans h10⟩
theorem r_FC.tr {a b c : gm_Mem} (h : r_FC a b) (k : r_FC b c) : r_FC a c := ⟨fun p hp => (k.1 p hp).trans (h.1 p hp), k.2.trans h.2⟩
theorem r_up_self (S : gm_Mem) (p : Nat) : va_up S p (S p) = S := by
  funext q
  by_cases h : q = p
  · subst h
    simp [va_up]
  · simp [va_up, h]
theorem r_u_self (S : gm_Mem) (p k : Nat) : gm_u S p k (S p k) = S := by
  rw [gm_u_eq]
  have : upd (S p) k (S p k) = S p := by
    funext j
    by_cases h : j = k
    · subst h
      simp [upd]
    · simp [upd, h]
  rw [this, r_up_self]
/-- a chain of writes at four places, as four rows -/
theorem r_four {S T : gm_Mem} (a b c d : Nat) (h : ∀ p, p ≠ a → p ≠ b → p ≠ c → p ≠ d → T p = S p) : T = va_up (va_up (va_up (va_up S a (T a)) b (T b)) c (T c)) d (T d) := by
  funext p
  simp only [va_up]
  split
  · next e => rw [e]
  · split
    · next e => rw [e]
    · split
      · next e => rw [e]
      · split
        · next e => rw [e]
        · exact h p (by assumption) (by assumption) (by assumption) (by assumption)
def r_log (ml : Nat → Int32) (ev : Int32) (lg ty fi se : Nat → Int32) : Prop := ∃ n la : Nat, n ≤ 30 ∧ la < 30 ∧ ev = nI n ∧ lg 3 = nI n ∧ lg 4 = nI la ∧ ∀ i, i < n → ml (3 * (n - 1 - i)) = ty ((la + 30 - i) % 30) ∧ ml (3 * (n - 1 - i) + 1) = fi ((la + 30 - i) % 30) ∧ ml (3 * (n - 1 - i) + 2) = se ((la + 30 - i) % 30)
/-- the reference's log row, shifted by one event from k on -/
def r_shift (m : gm_Mem) (k : Nat) : gm_Mem := va_up m 29 (fun j => if k ≤ j ∧ j < 87 then m 29 (j + 3) else m 29 j)
theorem r_shift_step (m : gm_Mem) (k : Nat) (hk : k < 87) : r_shift (gm_u m 29 k (m 29 (k + 3))) (k + 1) = r_shift m k := by
  funext p
  by_cases hp : p = 29
  · subst hp
    funext j
    simp only [r_shift, va_up, gm_u, if_true]
    by_cases h1 : j = k
    · subst h1
      simp [hk]
    · by_cases h2 : k + 1 ≤ j ∧ j < 87
      · have h3 : k ≤ j ∧ j < 87 := ⟨by omega, h2.2⟩
        have h4 : ¬ j + 3 = k := by omega
        rw [if_pos h2, if_pos h3, if_neg h4]
      · have h3 : ¬ (k ≤ j ∧ j < 87) := by omega
        rw [if_neg h2, if_neg h1, if_neg h3]
  · simp [r_shift, va_up, gm_u, hp]
theorem r_shift_end (m : gm_Mem) : r_shift m 87 = m := by
  funext p
  by_cases hp : p = 29
  · subst hp
    funext j
    simp only [r_shift, va_up, if_true]
    exact if_neg (by omega)
  · simp [r_shift, va_up, hp]
theorem r_logs_loop (t a b : Int32) : ∀ (d k : Nat), k + d = 87 → ∀ m : gm_Mem, m 0 42 = 29 → gm_run gM 0 YX11_logs 22 [some (.ref 0), some (.int t), some (.int a), some (.int b), some (.int (nI k))] [] m none (gm_u (gm_u (gm_u (gm_u (r_shift m k) 29 87 t) 29 88 a) 29 89 b) 0 42 30)
  | 0, k, hk, m, hm => by
    have hk' : k = 87 := by omega
    subst hk'
    rw [r_shift_end]
    have := PX11_logs_4 (x1 := t) (x2 := a) (x3 := b) (x4 := nI 87) (S := m) (j2 := 87) (j3 := 88) (j4 := 89) (by rw [hm]; decide) (by rw [hm]; exact ⟨by decide, by decide⟩) (by rw [hm]; exact ⟨by decide, by decide⟩) (by rw [hm]; exact ⟨by decide, by decide⟩)
    rw [hm] at this
    exact this
  | d + 1, k, hk, m, hm => by
    refine PX11_logs_3 (j2 := k + 3) (j3 := k) (by rw [hm]; exact (by simp only [Int32.lt_iff_toInt_lt, Int32.le_iff_toInt_le, ← Int32.toInt_inj, Int32.toInt_add, Int32.toInt_sub, Int32.toInt_mul, Int32.reduceToInt, nI, Int32.toInt_ofNat', Int.bmod, Int32.size, gm_ix]; omega)) ⟨(by simp only [Int32.lt_iff_toInt_lt, Int32.le_iff_toInt_le, ← Int32.toInt_inj, Int32.toInt_add, Int32.toInt_sub, Int32.toInt_mul, Int32.reduceToInt, nI, Int32.toInt_ofNat', Int.bmod, Int32.size, gm_ix]; omega), by omega⟩ ⟨(by simp only [Int32.lt_iff_toInt_lt, Int32.le_iff_toInt_le, ← Int32.toInt_inj, Int32.toInt_add, Int32.toInt_sub, Int32.toInt_mul, Int32.reduceToInt, nI, Int32.toInt_ofNat', Int.bmod, Int32.size, gm_ix]; omega), by omega⟩ ?_
    rw [nI_1, ← r_shift_step m k (by omega)]
    exact r_logs_loop t a b d (k + 1) (by omega) _ hm
theorem p_logs {m S : gm_Mem} (h : r_log (m 29) (m 0 42) (S 55) (S 56) (S 57) (S 58)) (t a b : Int32) : ∃ (rl : Nat → Int32) (ev : Int32) (r5 r6 r7 r8 : Nat → Int32),
    gm_run gM 0 YX11_logs 0 [some (.ref 0), some (.int t), some (.int a), some (.int b), none] [] m none (gm_u (va_up m 29 rl) 0 42 ev) ∧
    gm_run gC 0 YX2_add 0 [some (.ref 55), some (.int t), some (.int a), some (.int b)] [] S none (va_up (va_up (va_up (va_up S 55 r5) 56 r6) 57 r7) 58 r8) ∧ r_log rl ev r5 r6 r7 r8 := by
  obtain ⟨n, la, hn, hla, e1, e2, e3, hi⟩ := h
  -- the class
  have hC : ∃ T : gm_Mem, gm_run gC 0 YX2_add 0 [some (.ref 55), some (.int t), some (.int a), some (.int b)] [] S none T ∧ (∀ p, p ≠ 55 → p ≠ 56 → p ≠ 57 → p ≠ 58 → T p = S p) ∧
      T 55 3 = nI (if n < 30 then n + 1 else 30) ∧ T 55 4 = nI ((la + 1) % 30) ∧ T 56 = upd (S 56) ((la + 1) % 30) t ∧ T 57 = upd (S 57) ((la + 1) % 30) a ∧ T 58 = upd (S 58) ((la + 1) % 30) b := by
    have c1 : ¬ (S 55 4) < 0 := (by simp only [Int32.lt_iff_toInt_lt, Int32.le_iff_toInt_le, ← Int32.toInt_inj, Int32.toInt_add, Int32.toInt_sub, Int32.toInt_mul, Int32.reduceToInt, nI, Int32.toInt_ofNat', Int.bmod, Int32.size, gm_ix, e3]; omega)
    by_cases h29 : la < 29
    · have c2 : (S 55 4) < 29 := (by simp only [Int32.lt_iff_toInt_lt, Int32.le_iff_toInt_le, ← Int32.toInt_inj, Int32.toInt_add, Int32.toInt_sub, Int32.toInt_mul, Int32.reduceToInt, nI, Int32.toInt_ofNat', Int.bmod, Int32.size, gm_ix, e3]; omega)
      have hm : (la + 1) % 30 = la + 1 := by omega
      rw [hm]
      by_cases hn30 : n < 30
      · refine ⟨_, PX2_add_1 (j3 := la + 1) (by decide) c1 c2 ⟨(by simp only [Int32.lt_iff_toInt_lt, Int32.le_iff_toInt_le, ← Int32.toInt_inj, Int32.toInt_add, Int32.toInt_sub, Int32.toInt_mul, Int32.reduceToInt, nI, Int32.toInt_ofNat', Int.bmod, Int32.size, gm_ix, e3]; omega), by omega⟩ (by simp only [Int32.lt_iff_toInt_lt, Int32.le_iff_toInt_le, ← Int32.toInt_inj, Int32.toInt_add, Int32.toInt_sub, Int32.toInt_mul, Int32.reduceToInt, nI, Int32.toInt_ofNat', Int.bmod, Int32.size, gm_ix, e2]; omega), fun p h1 h2 h3 h4 => by simp [gm_u, h1, h2, h3, h4], ?_, ?_, ?_, ?_, ?_⟩
        · rw [if_pos hn30, ← nI_1, ← e2]; rfl
        · rw [← nI_1, ← e3]; rfl
        · funext j; simp [gm_u, upd]
        · funext j; simp [gm_u, upd]
        · funext j; simp [gm_u, upd]
      · refine ⟨_, PX2_add_2 (j3 := la + 1) (by decide) c1 c2 ⟨(by simp only [Int32.lt_iff_toInt_lt, Int32.le_iff_toInt_le, ← Int32.toInt_inj, Int32.toInt_add, Int32.toInt_sub, Int32.toInt_mul, Int32.reduceToInt, nI, Int32.toInt_ofNat', Int.bmod, Int32.size, gm_ix, e3]; omega), by omega⟩ (by simp only [Int32.lt_iff_toInt_lt, Int32.le_iff_toInt_le, ← Int32.toInt_inj, Int32.toInt_add, Int32.toInt_sub, Int32.toInt_mul, Int32.reduceToInt, nI, Int32.toInt_ofNat', Int.bmod, Int32.size, gm_ix, e2]; omega), fun p h1 h2 h3 h4 => by simp [gm_u, h1, h2, h3, h4], ?_, ?_, ?_, ?_, ?_⟩
        · rw [if_neg hn30]; show S 55 3 = _; rw [e2, show n = 30 by omega]
        · rw [← nI_1, ← e3]; rfl
        · funext j; simp [gm_u, upd]
        · funext j; simp [gm_u, upd]
        · funext j; simp [gm_u, upd]
    · have c2 : ¬ (S 55 4) < 29 := (by simp only [Int32.lt_iff_toInt_lt, Int32.le_iff_toInt_le, ← Int32.toInt_inj, Int32.toInt_add, Int32.toInt_sub, Int32.toInt_mul, Int32.reduceToInt, nI, Int32.toInt_ofNat', Int.bmod, Int32.size, gm_ix, e3]; omega)
      have hm : (la + 1) % 30 = 0 := by omega
      rw [hm]
      by_cases hn30 : n < 30
      · refine ⟨_, PX2_add_3 (by decide) c1 c2 (by simp only [Int32.lt_iff_toInt_lt, Int32.le_iff_toInt_le, ← Int32.toInt_inj, Int32.toInt_add, Int32.toInt_sub, Int32.toInt_mul, Int32.reduceToInt, nI, Int32.toInt_ofNat', Int.bmod, Int32.size, gm_ix, e2]; omega), fun p h1 h2 h3 h4 => by simp [gm_u, h1, h2, h3, h4], ?_, ?_, ?_, ?_, ?_⟩
        · rw [if_pos hn30, ← nI_1, ← e2]; rfl
        · rfl
        · funext j; simp [gm_u, upd]
        · funext j; simp [gm_u, upd]
        · funext j; simp [gm_u, upd]
      · refine ⟨_, PX2_add_4 (by decide) c1 c2 (by simp only [Int32.lt_iff_toInt_lt, Int32.le_iff_toInt_le, ← Int32.toInt_inj, Int32.toInt_add, Int32.toInt_sub, Int32.toInt_mul, Int32.reduceToInt, nI, Int32.toInt_ofNat', Int.bmod, Int32.size, gm_ix, e2]; omega), fun p h1 h2 h3 h4 => by simp [gm_u, h1, h2, h3, h4], ?_, ?_, ?_, ?_, ?_⟩
        · rw [if_neg hn30]; show S 55 3 = _; rw [e2, show n = 30 by omega]
        · rfl
        · funext j; simp [gm_u, upd]
        · funext j; simp [gm_u, upd]
        · funext j; simp [gm_u, upd]
  obtain ⟨T, hrC, hf, t3, t4, t6, t7, t8⟩ := hC
  rw [r_four 55 56 57 58 hf] at hrC
  -- the reference
  have hM : ∃ (rl : Nat → Int32), gm_run gM 0 YX11_logs 0 [some (.ref 0), some (.int t), some (.int a), some (.int b), none] [] m none (gm_u (va_up m 29 rl) 0 42 (nI (if n < 30 then n + 1 else 30))) ∧
      (∀ i, i < (if n < 30 then n else 29) → ∀ c, c < 3 → rl (3 * i + c) = m 29 (3 * (i + (if n < 30 then 0 else 1)) + c)) ∧ rl (3 * (if n < 30 then n else 29)) = t ∧ rl (3 * (if n < 30 then n else 29) + 1) = a ∧ rl (3 * (if n < 30 then n else 29) + 2) = b := by
    by_cases hn30 : n < 30
    · simp only [if_pos hn30]
      have hr := PX11_logs_2 (a1 := t) (a2 := a) (a3 := b) (S := m) (j2 := 3 * n) (j3 := 3 * n + 1) (j4 := 3 * n + 2) (by simp only [Int32.lt_iff_toInt_lt, Int32.le_iff_toInt_le, ← Int32.toInt_inj, Int32.toInt_add, Int32.toInt_sub, Int32.toInt_mul, Int32.reduceToInt, nI, Int32.toInt_ofNat', Int.bmod, Int32.size, gm_ix, e1]; omega) ⟨(by simp only [Int32.lt_iff_toInt_lt, Int32.le_iff_toInt_le, ← Int32.toInt_inj, Int32.toInt_add, Int32.toInt_sub, Int32.toInt_mul, Int32.reduceToInt, nI, Int32.toInt_ofNat', Int.bmod, Int32.size, gm_ix, e1]; omega), by omega⟩ ⟨(by simp only [Int32.lt_iff_toInt_lt, Int32.le_iff_toInt_le, ← Int32.toInt_inj, Int32.toInt_add, Int32.toInt_sub, Int32.toInt_mul, Int32.reduceToInt, nI, Int32.toInt_ofNat', Int.bmod, Int32.size, gm_ix, e1]; omega), by omega⟩ ⟨(by simp only [Int32.lt_iff_toInt_lt, Int32.le_iff_toInt_le, ← Int32.toInt_inj, Int32.toInt_add, Int32.toInt_sub, Int32.toInt_mul, Int32.reduceToInt, nI, Int32.toInt_ofNat', Int.bmod, Int32.size, gm_ix, e1]; omega), by omega⟩
      refine ⟨upd (upd (upd (m 29) (3 * n) t) (3 * n + 1) a) (3 * n + 2) b, ?_, fun i hi' c hc => ?_, ?_, ?_, ?_⟩
      · have e : gm_u (gm_u (gm_u m 29 (3 * n) t) 29 (3 * n + 1) a) 29 (3 * n + 2) b = va_up m 29 (upd (upd (upd (m 29) (3 * n) t) (3 * n + 1) a) (3 * n + 2) b) := by
          funext p
          by_cases hp : p = 29
          · subst hp
            funext j
            simp [gm_u, va_up, upd]
          · simp [gm_u, va_up, hp]
        rw [e, e1, nI_1] at hr
        exact hr
      · exact (pk_un (by omega)).trans ((pk_un (by omega)).trans (pk_un (by omega)))
      · exact (pk_un (by omega)).trans ((pk_un (by omega)).trans pk_us)
      · exact (pk_un (by omega)).trans pk_us
      · exact pk_us
    · simp only [if_neg hn30]
      have hn' : n = 30 := by omega
      subst hn'
      have hr := PX11_logs_1 (a1 := t) (a2 := a) (a3 := b) (S := m) (r := none) (by rw [e1]; rfl) (r_logs_loop t a b 87 0 (by omega) (gm_u m 0 42 ((m 0 42) - 1)) (by show m 0 42 - 1 = 29; rw [e1]; decide))
      refine ⟨upd (upd (upd (r_shift m 0 29) 87 t) 88 a) 89 b, ?_, fun i hi' c hc => ?_, ?_, ?_, ?_⟩
      · have e : gm_u (gm_u (gm_u (gm_u (r_shift (gm_u m 0 42 ((m 0 42) - 1)) 0) 29 87 t) 29 88 a) 29 89 b) 0 42 30 = gm_u (va_up m 29 (upd (upd (upd (r_shift m 0 29) 87 t) 88 a) 89 b)) 0 42 (nI 30) := by
          funext p
          by_cases hp : p = 29
          · subst hp
            funext j
            simp [gm_u, va_up, upd, r_shift]
          · by_cases hq : p = 0
            · subst hq
              funext j
              by_cases hj : j = 42
              · subst hj
                simp [gm_u]
                rfl
              · simp [gm_u, va_up, r_shift, hj]
            · simp [gm_u, va_up, r_shift, hp, hq]
        rw [e] at hr
        exact hr
      · refine (pk_un (by omega)).trans ((pk_un (by omega)).trans ((pk_un (by omega)).trans ?_))
        refine (if_pos (by omega) : (if 0 ≤ 3 * i + c ∧ 3 * i + c < 87 then m 29 (3 * i + c + 3) else m 29 (3 * i + c)) = _).trans ?_
        congr 1
        omega
      · exact (pk_un (by omega)).trans ((pk_un (by omega)).trans pk_us)
      · exact (pk_un (by omega)).trans pk_us
      · exact pk_us
  obtain ⟨rl, hrM, hs, s1, s2, s3⟩ := hM
  refine ⟨rl, _, T 55, T 56, T 57, T 58, hrM, hrC, (if n < 30 then n + 1 else 30), (la + 1) % 30, by split <;> omega, by omega, rfl, t3, t4, fun i hi' => ?_⟩
  rw [t6, t7, t8]
  have hlast : (if n < 30 then n + 1 else 30) - 1 = (if n < 30 then n else 29) := by split <;> omega
  rw [hlast]
  by_cases h0 : i = 0
  · subst h0
    have hx : ((la + 1) % 30 + 30 - 0) % 30 = (la + 1) % 30 := by omega
    rw [hx, Nat.sub_zero, s1, s2, s3]
    simp [upd]
  · have hil : i ≤ (if n < 30 then n else 29) := by split at hi' <;> split <;> omega
    have h29 : i ≤ 29 := by split at hi' <;> omega
    have hx : ((la + 1) % 30 + 30 - i) % 30 = (la + 30 - (i - 1)) % 30 := by omega
    have hne : (la + 30 - (i - 1)) % 30 ≠ (la + 1) % 30 := by split at hil <;> omega
    have h1 := hi (i - 1) (by split at hil <;> omega)
    have hk : (if n < 30 then n else 29) - i + (if n < 30 then 0 else 1) = n - 1 - (i - 1) := by split <;> omega
    have g0 := hs ((if n < 30 then n else 29) - i) (by split at hil <;> split <;> omega) 0 (by omega)
    have g1 := hs ((if n < 30 then n else 29) - i) (by split at hil <;> split <;> omega) 1 (by omega)
    have g2 := hs ((if n < 30 then n else 29) - i) (by split at hil <;> split <;> omega) 2 (by omega)
    rw [hk] at g0 g1 g2
    rw [hx]
    simp only [upd, if_neg hne]
    exact ⟨g0.trans h1.1, g1.trans h1.2.1, g2.trans h1.2.2⟩
