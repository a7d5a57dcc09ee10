/-! PAIRS: repeat, alter, deliver -/
theorem cp9_in {W : gm_Mem} {p o : Nat} (hne : p ≠ o) : ∀ k, k < 9 → (gm_u (gm_u (gm_u (gm_u (gm_u (gm_u (gm_u (gm_u (gm_u W p 0 (W o 0)) p 1 (W o 1)) p 2 (W o 2)) p 3 (W o 3)) p 4 (W o 4)) p 5 (W o 5)) p 6 (W o 6)) p 7 (W o 7)) p 8 (W o 8)) p k = W o k := by
  intro k hk
  rcases (show k = 0 ∨ k = 1 ∨ k = 2 ∨ k = 3 ∨ k = 4 ∨ k = 5 ∨ k = 6 ∨ k = 7 ∨ k = 8 by omega) with rfl | rfl | rfl | rfl | rfl | rfl | rfl | rfl | rfl <;> simp [gm_u]
theorem cp9_out {W : gm_Mem} {p r : Nat} {a0 a1 a2 a3 a4 a5 a6 a7 a8 : Int32} (hr : r ≠ p) : (gm_u (gm_u (gm_u (gm_u (gm_u (gm_u (gm_u (gm_u (gm_u W p 0 a0) p 1 a1) p 2 a2) p 3 a3) p 4 a4) p 5 a5) p 6 a6) p 7 a7) p 8 a8) r = W r := by simp [gm_u, hr]
theorem cp9_row {W : gm_Mem} {p o : Nat} : ∃ rw9 : Nat → Int32, gm_u (gm_u (gm_u (gm_u (gm_u (gm_u (gm_u (gm_u (gm_u W p 0 (W o 0)) p 1 (W o 1)) p 2 (W o 2)) p 3 (W o 3)) p 4 (W o 4)) p 5 (W o 5)) p 6 (W o 6)) p 7 (W o 7)) p 8 (W o 8) = va_up W p rw9 := ⟨_, r_one p (fun r hr => cp9_out hr)⟩
theorem p_repM {i n : Nat} (hi : i < n) (hn : n < 24) : ∀ d x (m : gm_Mem), x + d = 9 → m 0 45 = nI n → ∃ r30 : Nat → Int32, gm_run gM 1 YX11_repeat 23 [some (.ref 0), some (.int (nI i)), some (.int (nI x))] [] m (some (.int (nI (n + 1)))) (gm_u (gm_u (va_up m 30 r30) 0 45 (nI (n + 1))) 0 8 ((m 0 8) + 1)) ∧ (∀ k, x ≤ k → k < 9 → r30 (9 * n + k) = m 30 (9 * i + k)) ∧ ∀ y, y < 9 * n + x → r30 y = m 30 y := by
  intro d
  induction d with
  | zero =>
    intro x m hx h45
    have x9 : x = 9 := by omega
    subst x9
    refine ⟨m 30, ?_, fun k h1 h2 => absurd h2 (by omega), fun _ _ => rfl⟩
    have q := PX11_repeat_5 (x1 := nI i) (x2 := nI 9) (S := m) (by decide)
    rw [h45, nI_1] at q
    rw [r_up_self]
    exact q
  | succ d ih =>
    intro x m hx h45
    have ej : 9 * (m 0 45) + nI x = nI (9 * n + x) := by rw [h45]; show nI 9 * nI n + nI x = _; rw [pk_mul, nI_add]
    obtain ⟨r30, q1, q2, q3⟩ := ih (x + 1) (gm_u m 30 (9 * n + x) (m 30 (9 * i + x))) (by omega) (by rw [gm_rp (by decide)]; exact h45)
    have e8 : gm_u m 30 (9 * n + x) (m 30 (9 * i + x)) 0 8 = m 0 8 := gm_rp (by decide)
    rw [e8, gm_u_eq m 30, r_upC] at q1
    refine ⟨r30, PX11_repeat_4 (j4 := 9 * n + x) ((nI_ltI (b := 9) (by omega) (by decide)).mpr (by omega)) (p_at (by omega) (by omega)) (ix_c ej (by omega) (by decide)) (by rw [nI_1, gm_u_eq]; exact q1), fun k k1 k2 => ?_, fun y hy => ?_⟩
    · by_cases hk : k = x
      · subst hk
        rw [q3 _ (by omega)]
        simp [gm_u]
      · rw [q2 k (by omega) k2]
        exact gm_rk (by omega)
    · rw [q3 y (by omega)]
      exact gm_rk (by omega)
theorem r_repeat {s b : Nat} {m S : gm_Mem} (h : Rc s b 0 m S) (x : Int32) : PairT 1 1 YX11_repeat YX10_repeat [some (.ref 0), some (.int x), none] [some (.ref 0), some (.int x), none, none] s b s b m S := by
  obtain ⟨hs, hl, hn, ht, hr, h0, g0, g1⟩ := h
  rcases p_packet hn x with ⟨q1, q2⟩ | ⟨i, n, q, h1, h2, rfl, h3, h4, h5, h6, q1, q2, h7, h8⟩
  · exact ⟨_, m, S, PX11_repeat_1 q1 rfl, PX10_repeat_3 q2, ⟨hs, hl, hn, ht, hr, h0, g0, g1⟩, r_FM.rf.fn, r_FC.rf.fd⟩
  · rcases hn.room with ⟨f1, f2⟩ | ⟨n', q', hn24, f1, f2, hq, f3, push⟩
    · obtain ⟨z1, -, z3⟩ := p_noroom (m := m) (S := S) ⟨f1, f2⟩
      exact ⟨_, m, S, PX11_repeat_2 q1 (by decide) z1 rfl, PX10_repeat_2 h5 q2 z3, ⟨hs, hl, hn, ht, hr, h0, g0, g1⟩, r_FM.rf.fn, r_FC.rf.fd⟩
    · have hnn : n' = n := (nI_eq (by omega) (by omega)).mp (f1.symm.trans h3)
      subst hnn
      obtain ⟨z1, -, z3⟩ := p_room (m := m) (S := S) hn24 f1 f2 hq f3
      obtain ⟨r30, t1, t2, t3⟩ := p_repM (i := i) (n := n') h1 hn24 9 0 m (by omega) f1
      have hne : q' ≠ q := by
        intro z
        obtain ⟨n0, pi, a1, a2, a3, a4, a5, a6, a7⟩ := hn
        have e1 : nI (0 + pi i) = nI q := (a4 i (by omega)).2.2.symm.trans h6
        have e2 : nI (0 + pi n') = nI q' := (a4 n' (by omega)).2.2.symm.trans f3
        have b1 := a4 i (by omega)
        have b2 := a4 n' (by omega)
        have e3 := (nI_eq (by omega) (by omega)).mp e1
        have e4 := (nI_eq (by omega) (by omega)).mp e2
        have := a5 i n' (by omega) (by omega) (by omega)
        omega
      have hcp := PX5_copyFrom_1 (p := q') (o := q) (S := gm_u S 26 1 ((S 26 1) + 1)) (Or.inl hq) (Or.inl h5) hne
      have hin := cp9_in (W := gm_u S 26 1 ((S 26 1) + 1)) hne
      obtain ⟨r9, hr9⟩ := cp9_row (W := gm_u S 26 1 ((S 26 1) + 1)) (p := q') (o := q)
      rw [hr9] at hcp hin
      have hq26 : (gm_u S 26 1 ((S 26 1) + 1)) q = S q := bk_u (by decide) h5
      rw [hq26] at hin
      have e26 : (va_up (gm_u S 26 1 ((S 26 1) + 1)) q' r9) 26 = gm_u S 26 1 ((S 26 1) + 1) 26 := by simp only [va_up]; exact if_neg (by omega)
      have e1 : (va_up (gm_u S 26 1 ((S 26 1) + 1)) q' r9) 1 = S 1 := by simp only [va_up]; exact (if_neg (by omega)).trans (by rfl)
      have hC := PX10_repeat_1 (a1 := nI i) h5 q2 hq z3 hcp
      rw [e26, e1] at hC
      have hret : gm_u S 26 1 ((S 26 1) + 1) 26 1 = nI (n' + 1) := by
        show (S 26 1) + 1 = _
        rw [f2, nI_1]
      rw [hret] at hC
      have hin' : ∀ k, k < 9 → r9 k = m 30 (9 * i + k) := fun k hk => by
        have := hin k hk
        simp [va_up] at this
        rw [this]
        exact h7 k hk
      have hS2 : ∀ p, p < 28 ∨ 52 ≤ p → p ≠ 26 → p ≠ 1 → (gm_u (va_up (gm_u S 26 1 ((S 26 1) + 1)) q' r9) 1 13 ((S 1 13) + 1)) p = S p := fun p hp h26 h1p => by
        simp only [gm_u, va_up, if_neg h26, if_neg h1p]
        exact if_neg (by omega)
      have hnew := push (fun k => m 30 (9 * i + k)) r30 (gm_u S 26 1 ((S 26 1) + 1) 26) (gm_u (va_up (gm_u S 26 1 ((S 26 1) + 1)) q' r9) 1 13 ((S 1 13) + 1)) h8 (fun k hk => t2 k (by omega) hk) (fun y hy => t3 y (by omega)) hret
        (fun k hk => by rw [bk_u (by decide) hq]; simp [va_up]; exact hin' k hk)
        (fun p p1 p2 p3 => by rw [bk_u (by decide) ⟨p1, p2⟩]; simp only [va_up, if_neg p3]; exact bk_u (by decide) ⟨p1, p2⟩)
      refine ⟨nI (n' + 1), _, _, PX11_repeat_3 q1 (by decide) z1 (by decide) t1, hC, ?_, ⟨rfl, rfl, rfl, rfl, rfl, rfl, rfl, rfl, rfl⟩, ⟨fun p hp _ => hS2 p (by omega) (by omega) (by omega), hS2 0 (by omega) (by omega) (by omega)⟩⟩
      have eS : gm_u (va_up (gm_u S 26 1 ((S 26 1) + 1)) q' r9) 1 13 ((S 1 13) + 1) = gm_blk (gm_u (gm_u S 26 1 ((S 26 1) + 1)) 1 13 ((S 1 13) + 1)) q' r9 := by
        funext p
        by_cases hpq : p = q'
        · subst hpq
          rw [bk_is hq, bk_u (by decide) hq]
          simp [va_up]
        · rw [bk_no hpq]
          by_cases h1p : p = 1
          · subst h1p
            simp only [gm_u, if_true]
            rw [e1]
            rfl
          · simp only [gm_u, if_neg h1p, va_up, if_neg hpq]
      obtain ⟨s1, s2, s3, s4, s5, s6, s7, s8, s9⟩ := hs
      rw [eS] at hnew ⊢
      exact ⟨⟨s1, s2, s3, s4, s5, s6, s7, s8, congrArg (· + 1) s9⟩, hl, hnew, ht, hr, h0, g0, g1⟩
theorem r_alter {s b : Nat} {m S : gm_Mem} (h : Rc s b 0 m S) (x y : Int32) : PairT 1 1 YX11_alter YX10_alter [some (.ref 0), some (.int x), some (.int y)] [some (.ref 0), some (.int x), some (.int y), none] s b s b m S := by
  obtain ⟨hs, hl, hn, ht, hr, h0, g0, g1⟩ := h
  rcases p_packet hn x with ⟨q1, q2⟩ | ⟨i, n, q, h1, h2, rfl, h3, h4, h5, h6, q1, q2, h7, h8⟩
  · exact ⟨_, m, S, PX11_alter_1 q1 rfl, PX10_alter_4 q2, ⟨hs, hl, hn, ht, hr, h0, g0, g1⟩, r_FM.rf.fn, r_FC.rf.fd⟩
  · have hb := p_between m y (-99) 99
    by_cases c1 : y < -99
    · rw [b2i_f (fun z => z.1 c1)] at hb
      exact ⟨_, m, S, PX11_alter_2 q1 (by decide) hb rfl, PX10_alter_3 h5 q2 c1, ⟨hs, hl, hn, ht, hr, h0, g0, g1⟩, r_FM.rf.fn, r_FC.rf.fd⟩
    by_cases c2 : 99 < y
    · rw [b2i_f (fun z => z.2 c2)] at hb
      exact ⟨_, m, S, PX11_alter_2 q1 (by decide) hb rfl, PX10_alter_1 h5 q2 c1 c2, ⟨hs, hl, hn, ht, hr, h0, g0, g1⟩, r_FM.rf.fn, r_FC.rf.fd⟩
    rw [b2i_t ⟨c1, c2⟩] at hb
    have hi24 : i < 24 := by omega
    have e6 : S q 6 = m 30 (9 * i + 6) := h7 6 (by decide)
    have ix6 : gm_ix ((9 * nI i) + 6) (9 * i + 6) 216 := ix_c (by show nI 9 * nI i + nI 6 = _; rw [pk_mul, nI_add]) (by omega) (by decide)
    have hat := p_at (m := gm_u m 30 (9 * i + 6) ((m 30 (9 * i + 6)) + y)) (pos := i) (k := 6) hi24 (by decide)
    have hval : gm_u m 30 (9 * i + 6) ((m 30 (9 * i + 6)) + y) 30 (9 * i + 6) = (m 30 (9 * i + 6)) + y := by simp [gm_u]
    rw [hval] at hat
    have hC := PX10_alter_2 (a1 := nI i) h5 q2 c1 c2
    rw [e6] at hC
    refine ⟨_, _, _, PX11_alter_3 q1 (by decide) hb (by decide) ix6 hat, hC, ?_, ⟨rfl, rfl, rfl, rfl, rfl, rfl, rfl, rfl, rfl⟩, ?_⟩
    · have eS : gm_u S q 6 ((m 30 (9 * i + 6)) + y) = gm_blk S q (upd (S q) 6 ((m 30 (9 * i + 6)) + y)) := by
        funext p
        by_cases hpq : p = q
        · subst hpq
          rw [bk_is h5, gm_u_eq]
          simp [va_up]
        · rw [bk_no hpq]
          simp only [gm_u, if_neg hpq]
      rw [eS]
      refine ⟨hs, hl, ?_, ht, hr, h0, g0, g1⟩
      show r_net s b 0 (gm_u m 30 (9 * i + 6) ((m 30 (9 * i + 6)) + y) 30) (m 0 45) (S 26) (S 27) _
      obtain ⟨n0, pi, a1, a2, a3, a4, a5, a6, a7⟩ := hn
      have hq : pi i = q := by
        have e1 : nI (0 + pi i) = nI q := (a4 i hi24).2.2.symm.trans h6
        have b1 := a4 i hi24
        have := (nI_eq (by omega) (by omega)).mp e1
        omega
      have hn0 : n0 = n := (nI_eq (by omega) (by omega)).mp (a2.symm.trans h3)
      subst hn0
      have hoth : ∀ j k, j < n0 → k < 9 → (j ≠ i ∨ k ≠ 6) → gm_u m 30 (9 * i + 6) ((m 30 (9 * i + 6)) + y) 30 (9 * j + k) = m 30 (9 * j + k) := fun j k hj hk hne => gm_rk (by omega)
      refine ⟨n0, pi, a1, a2, a3, a4, a5, fun j hj k hk => ?_, fun j hj => ?_⟩
      · by_cases hji : j = i
        · subst hji
          rw [hq, bk_is h5]
          by_cases hk6 : k = 6
          · subst hk6
            rw [hval]
            simp [upd]
          · rw [hoth j k hj hk (Or.inr hk6)]
            simp [upd, hk6]
            exact h7 k hk
        · rw [bk_no (fun z => hji (a5 j i (by omega) hi24 (z.trans hq.symm))), hoth j k hj hk (Or.inl hji)]
          exact a6 j hj k hk
      · obtain ⟨b1, b2, b3, b4, b5⟩ := a7 j hj
        have g : ∀ k, k < 9 → k ≠ 6 → gm_u m 30 (9 * i + 6) ((m 30 (9 * i + 6)) + y) 30 (9 * j + k) = m 30 (9 * j + k) := fun k hk hne => hoth j k hj hk (Or.inr hne)
        refine ⟨?_, ?_, ?_, ?_, ?_⟩ <;> simp only [g 0 (by decide) (by decide), g 1 (by decide) (by decide), g 3 (by decide) (by decide), g 4 (by decide) (by decide), g 5 (by decide) (by decide), g 7 (by decide) (by decide)] <;> assumption
    · refine ⟨fun p hp _ => ?_, ?_⟩
      · simp only [gm_u]; exact if_neg (by omega)
      · simp only [gm_u]; exact if_neg (by omega)
theorem p_delM {i : Nat} {x2 : Int32} {r : Option Value} {m2 : gm_Mem} (hi : i < 24) : ∀ d x (m : gm_Mem), x + d = 9 → (∀ r31 : Nat → Int32, (∀ k, x ≤ k → k < 9 → r31 k = m 30 (9 * i + k)) → (∀ k, k < x → r31 k = m 31 k) → gm_run gM 5 YX11_deliver 19 [some (.ref 0), some (.int (nI i)), some (.int x2), some (.int (nI 9))] [] (va_up m 31 r31) r m2) →
    gm_run gM 5 YX11_deliver 19 [some (.ref 0), some (.int (nI i)), some (.int x2), some (.int (nI x))] [] m r m2 := by
  intro d
  induction d with
  | zero =>
    intro x m hx K
    have x9 : x = 9 := by omega
    subst x9
    have := K (m 31) (fun k h1 h2 => absurd h2 (by omega)) (fun _ _ => rfl)
    rw [r_up_self] at this
    exact this
  | succ d ih =>
    intro x m hx K
    refine PX11_deliver_3 (j4 := x) ((nI_ltI (b := 9) (by omega) (by decide)).mpr (by omega)) (p_at hi (by omega)) (ix_n (by omega) (by decide)) ?_
    rw [nI_1]
    refine ih (x + 1) _ (by omega) (fun r31 z1 z2 => ?_)
    rw [gm_u_eq, r_upC]
    refine K r31 (fun k k1 k2 => ?_) (fun k hk => ?_)
    · by_cases hk : k = x
      · subst hk
        rw [z2 k (by omega)]
        simp [gm_u]
      · rw [z1 k (by omega) k2]
        exact gm_rp (by decide)
    · rw [z2 k (by omega)]
      exact gm_rk (by omega)
