/-! PAIRS: the network's last packet; sendsPlain / sendPlain, sendsProtected / sendProtected -/
def gm_blk (T : gm_Mem) (q : Nat) (rq : Nat → Int32) : gm_Mem := fun p => if 28 ≤ p ∧ p < 52 then (if p = q then rq else T p) else T p
theorem bk_up {T : gm_Mem} {p q : Nat} {r : Nat → Int32} (hp : p < 28 ∨ 52 ≤ p) (hq : 28 ≤ q ∧ q < 52) : va_up T p r q = T q := by simp only [va_up]; exact if_neg (by omega)
theorem bk_u {T : gm_Mem} {p q k : Nat} {x : Int32} (hp : p < 28 ∨ 52 ≤ p) (hq : 28 ≤ q ∧ q < 52) : gm_u T p k x q = T q := by simp only [gm_u]; exact if_neg (by omega)
theorem bk_is {T : gm_Mem} {q : Nat} {rq : Nat → Int32} (hq : 28 ≤ q ∧ q < 52) : gm_blk T q rq q = rq := by simp only [gm_blk, if_pos hq, if_true]
theorem bk_no {T : gm_Mem} {p q : Nat} {rq : Nat → Int32} (hp : p ≠ q) : gm_blk T q rq p = T p := by
  simp only [gm_blk, if_neg hp]
  split <;> rfl
theorem bk_set {T : gm_Mem} {q k : Nat} {x : Int32} {rq : Nat → Int32} (hq : 28 ≤ q ∧ q < 52) : gm_u (gm_blk T q rq) q k x = gm_blk T q (upd rq k x) := by
  funext p
  by_cases h : p = q
  · subst h
    simp only [gm_u, if_true, bk_is hq]
    rfl
  · simp only [gm_u, if_neg h, bk_no h]
def r_nine (a1 a2 a3 a4 a5 a6 a7 a8 a9 : Int32) : Nat → Int32 := fun k => if k = 0 then a1 else if k = 1 then a2 else if k = 2 then a3 else if k = 3 then a4 else if k = 4 then a5 else if k = 5 then a6 else if k = 6 then a7 else if k = 7 then a8 else a9
theorem bk_fill {T : gm_Mem} {q : Nat} {a1 a2 a3 a4 a5 : Int32} (hq : 28 ≤ q ∧ q < 52) : ∃ rq : Nat → Int32, gm_u (gm_u (gm_u (gm_u (gm_u (gm_u (gm_u (gm_u (gm_u T q 0 a1) q 1 a2) q 2 a3) q 3 0) q 4 0) q 5 a4) q 6 a5) q 7 0) q 8 0 = gm_blk T q rq ∧ ∀ k, k < 9 → rq k = r_nine a1 a2 a3 0 0 a4 a5 0 0 k := by
  refine ⟨upd (upd (upd (upd (upd (upd (upd (upd (upd (T q) 0 a1) 1 a2) 2 a3) 3 0) 4 0) 5 a4) 6 a5) 7 0) 8 0, ?_, fun k hk => ?_⟩
  · have h0 : gm_u T q 0 a1 = gm_blk T q (upd (T q) 0 a1) := by
      funext p
      by_cases h : p = q
      · subst h
        rw [bk_is hq]
        simp only [gm_u, if_true]
        rfl
      · rw [bk_no h]
        simp only [gm_u, if_neg h]
    rw [h0, bk_set hq, bk_set hq, bk_set hq, bk_set hq, bk_set hq, bk_set hq, bk_set hq, bk_set hq]
  · rcases (show k = 0 ∨ k = 1 ∨ k = 2 ∨ k = 3 ∨ k = 4 ∨ k = 5 ∨ k = 6 ∨ k = 7 ∨ k = 8 by omega) with rfl | rfl | rfl | rfl | rfl | rfl | rfl | rfl | rfl <;> simp [upd, r_nine]
/-- the reference's nine writes -/
def r_put9 (m : gm_Mem) (n : Nat) (a1 a2 a3 a4 a5 a6 a7 a8 a9 : Int32) : gm_Mem := gm_u (gm_u (gm_u (gm_u (gm_u (gm_u (gm_u (gm_u (gm_u m 30 (9 * n) a1) 30 (9 * n + 1) a2) 30 (9 * n + 2) a3) 30 (9 * n + 3) a4) 30 (9 * n + 4) a5) 30 (9 * n + 5) a6) 30 (9 * n + 6) a7) 30 (9 * n + 7) a8) 30 (9 * n + 8) a9
theorem r_put9_in {m : gm_Mem} {n : Nat} {a1 a2 a3 a4 a5 a6 a7 a8 a9 : Int32} {k : Nat} (hk : k < 9) : r_put9 m n a1 a2 a3 a4 a5 a6 a7 a8 a9 30 (9 * n + k) = r_nine a1 a2 a3 a4 a5 a6 a7 a8 a9 k := by
  rcases (show k = 0 ∨ k = 1 ∨ k = 2 ∨ k = 3 ∨ k = 4 ∨ k = 5 ∨ k = 6 ∨ k = 7 ∨ k = 8 by omega) with rfl | rfl | rfl | rfl | rfl | rfl | rfl | rfl | rfl <;> simp [r_put9, gm_u, r_nine]
theorem r_put9_old {m : gm_Mem} {n : Nat} {a1 a2 a3 a4 a5 a6 a7 a8 a9 : Int32} {i : Nat} (hi : i < 9 * n) : r_put9 m n a1 a2 a3 a4 a5 a6 a7 a8 a9 30 i = m 30 i := by
  simp only [r_put9, gm_u, if_true]
  exact (if_neg (by omega)).trans ((if_neg (by omega)).trans ((if_neg (by omega)).trans ((if_neg (by omega)).trans ((if_neg (by omega)).trans ((if_neg (by omega)).trans ((if_neg (by omega)).trans ((if_neg (by omega)).trans (if_neg (by omega)))))))))
/-- full, or with room: what a new last packet needs -/
theorem r_net.room {s b : Nat} {mn : Nat → Int32} {pk : Int32} {nw ar : Nat → Int32} {P : gm_Mem} (h : r_net s b 0 mn pk nw ar P) :
    (pk = 24 ∧ nw 1 = 24) ∨ ∃ n q : Nat, n < 24 ∧ pk = nI n ∧ nw 1 = nI n ∧ (28 ≤ q ∧ q < 52) ∧ ar n = nI q ∧
      ∀ (v r30 nw2 : Nat → Int32) (T : gm_Mem), r_pk s b v → (∀ k, k < 9 → r30 (9 * n + k) = v k) → (∀ i, i < 9 * n → r30 i = mn i) → nw2 1 = nI (n + 1) → (∀ k, k < 9 → T q k = v k) → (∀ p, 28 ≤ p → p < 52 → p ≠ q → T p = P p) → r_net s b 0 r30 (nI (n + 1)) nw2 ar T := by
  obtain ⟨n, pi, h1, h2, h3, h4, h5, h6, h7⟩ := h
  by_cases hn : n = 24
  · left
    subst hn
    exact ⟨h2, h3⟩
  · right
    have hn' : n < 24 := by omega
    refine ⟨n, pi n, hn', h2, h3, ⟨(h4 n hn').1, (h4 n hn').2.1⟩, by rw [(h4 n hn').2.2, Nat.zero_add], ?_⟩
    intro v r30 nw2 T hv e1 e2 e3 e4 e5
    refine ⟨n + 1, pi, by omega, rfl, e3, h4, h5, fun i hi k hk => ?_, fun i hi => ?_⟩
    · by_cases hin : i = n
      · subst hin
        rw [e4 k hk, e1 k hk]
      · rw [e5 (pi i) (h4 i (by omega)).1 (h4 i (by omega)).2.1 (fun q => hin (h5 i n (by omega) hn' q)), h6 i (by omega) k hk, e2 (9 * i + k) (by omega)]
    · by_cases hin : i = n
      · subst hin
        obtain ⟨a1, a2, a3, a4, a5⟩ := hv
        have g : ∀ k, k < 9 → r30 (9 * i + k) = v k := e1
        refine ⟨?_, ?_, ?_, ?_, ?_⟩ <;> simp only [g 0 (by decide), g 1 (by decide), g 3 (by decide), g 4 (by decide), g 5 (by decide), g 7 (by decide)] <;> assumption
      · obtain ⟨a1, a2, a3, a4, a5⟩ := h7 i (by omega)
        have g : ∀ k, k < 9 → r30 (9 * i + k) = mn (9 * i + k) := fun k hk => e2 _ (by omega)
        refine ⟨?_, ?_, ?_, ?_, ?_⟩ <;> simp only [g 0 (by decide), g 1 (by decide), g 3 (by decide), g 4 (by decide), g 5 (by decide), g 7 (by decide)] <;> assumption
theorem p_appends {m m2 : gm_Mem} {n : Nat} (hn : n < 24) (h : m 0 45 = nI n) {a1 a2 a3 a4 a5 a6 a7 a8 a9 : Int32} (hl : gm_run gM 0 YX11_logs 0 [some (.ref 0), some (.int 0), some (.int a1), some (.int a2), none] [] (gm_u (gm_u (r_put9 m n a1 a2 a3 a4 a5 a6 a7 a8 a9) 0 45 ((m 0 45) + 1)) 0 5 ((m 0 5) + 1)) none m2) :
    gm_run gM 1 YX11_appends 0 [some (.ref 0), some (.int a1), some (.int a2), some (.int a3), some (.int a4), some (.int a5), some (.int a6), some (.int a7), some (.int a8), some (.int a9), none] [] m none m2 :=
  PX11_appends_1 (j1 := 9 * n) (j2 := 9 * n + 1) (j3 := 9 * n + 2) (j4 := 9 * n + 3) (j5 := 9 * n + 4) (j6 := 9 * n + 5) (j7 := 9 * n + 6) (j8 := 9 * n + 7) (j9 := 9 * n + 8) ⟨(by simp only [Int32.lt_iff_toInt_lt, Int32.le_iff_toInt_le, ← Int32.toInt_inj, Int32.toInt_add, Int32.toInt_sub, Int32.toInt_mul, Int32.reduceToInt, nI, Int32.toInt_ofNat', Int.bmod, Int32.size, gm_ix, h]; omega), by omega⟩ ⟨(by simp only [Int32.lt_iff_toInt_lt, Int32.le_iff_toInt_le, ← Int32.toInt_inj, Int32.toInt_add, Int32.toInt_sub, Int32.toInt_mul, Int32.reduceToInt, nI, Int32.toInt_ofNat', Int.bmod, Int32.size, gm_ix, h]; omega), by omega⟩ ⟨(by simp only [Int32.lt_iff_toInt_lt, Int32.le_iff_toInt_le, ← Int32.toInt_inj, Int32.toInt_add, Int32.toInt_sub, Int32.toInt_mul, Int32.reduceToInt, nI, Int32.toInt_ofNat', Int.bmod, Int32.size, gm_ix, h]; omega), by omega⟩ ⟨(by simp only [Int32.lt_iff_toInt_lt, Int32.le_iff_toInt_le, ← Int32.toInt_inj, Int32.toInt_add, Int32.toInt_sub, Int32.toInt_mul, Int32.reduceToInt, nI, Int32.toInt_ofNat', Int.bmod, Int32.size, gm_ix, h]; omega), by omega⟩ ⟨(by simp only [Int32.lt_iff_toInt_lt, Int32.le_iff_toInt_le, ← Int32.toInt_inj, Int32.toInt_add, Int32.toInt_sub, Int32.toInt_mul, Int32.reduceToInt, nI, Int32.toInt_ofNat', Int.bmod, Int32.size, gm_ix, h]; omega), by omega⟩ ⟨(by simp only [Int32.lt_iff_toInt_lt, Int32.le_iff_toInt_le, ← Int32.toInt_inj, Int32.toInt_add, Int32.toInt_sub, Int32.toInt_mul, Int32.reduceToInt, nI, Int32.toInt_ofNat', Int.bmod, Int32.size, gm_ix, h]; omega), by omega⟩ ⟨(by simp only [Int32.lt_iff_toInt_lt, Int32.le_iff_toInt_le, ← Int32.toInt_inj, Int32.toInt_add, Int32.toInt_sub, Int32.toInt_mul, Int32.reduceToInt, nI, Int32.toInt_ofNat', Int.bmod, Int32.size, gm_ix, h]; omega), by omega⟩ ⟨(by simp only [Int32.lt_iff_toInt_lt, Int32.le_iff_toInt_le, ← Int32.toInt_inj, Int32.toInt_add, Int32.toInt_sub, Int32.toInt_mul, Int32.reduceToInt, nI, Int32.toInt_ofNat', Int.bmod, Int32.size, gm_ix, h]; omega), by omega⟩ ⟨(by simp only [Int32.lt_iff_toInt_lt, Int32.le_iff_toInt_le, ← Int32.toInt_inj, Int32.toInt_add, Int32.toInt_sub, Int32.toInt_mul, Int32.reduceToInt, nI, Int32.toInt_ofNat', Int.bmod, Int32.size, gm_ix, h]; omega), by omega⟩ hl
theorem p_noroom {m S : gm_Mem} (h : m 0 45 = 24 ∧ S 26 1 = 24) : gm_run gM 0 YX11_hasRoom 0 [some (.ref 0)] [] m (some (.int 0)) m ∧ gm_run gC 0 YX3_isFull 0 [some (.ref 26)] [] S (some (.int 1)) S ∧ gm_run gC 0 YX3_extend 0 [some (.ref 26)] [] S (some .null) S :=
  ⟨PX11_hasRoom_2 (by rw [h.1]; decide), PX3_isFull_1 (by decide) (by rw [h.2]; decide), PX3_extend_1 (by decide) (by rw [h.2]; decide) (by rw [h.2]; decide)⟩
theorem p_room {m S : gm_Mem} {n q : Nat} (hn : n < 24) (h1 : m 0 45 = nI n) (h2 : S 26 1 = nI n) (hq : 28 ≤ q ∧ q < 52) (ha : S 27 n = nI q) : gm_run gM 0 YX11_hasRoom 0 [some (.ref 0)] [] m (some (.int 1)) m ∧ gm_run gC 0 YX3_isFull 0 [some (.ref 26)] [] S (some (.int 0)) S ∧ gm_run gC 0 YX3_extend 0 [some (.ref 26)] [] S (some (.ref q)) (gm_u S 26 1 ((S 26 1) + 1)) := by
  refine ⟨PX11_hasRoom_1 (by simp only [Int32.lt_iff_toInt_lt, Int32.le_iff_toInt_le, ← Int32.toInt_inj, Int32.toInt_add, Int32.toInt_sub, Int32.toInt_mul, Int32.reduceToInt, nI, Int32.toInt_ofNat', Int.bmod, Int32.size, gm_ix, h1]; omega), PX3_isFull_2 (by decide) (by simp only [Int32.lt_iff_toInt_lt, Int32.le_iff_toInt_le, ← Int32.toInt_inj, Int32.toInt_add, Int32.toInt_sub, Int32.toInt_mul, Int32.reduceToInt, nI, Int32.toInt_ofNat', Int.bmod, Int32.size, gm_ix, h2]; omega), PX3_extend_2 (j3 := n) (by decide) (by simp only [Int32.lt_iff_toInt_lt, Int32.le_iff_toInt_le, ← Int32.toInt_inj, Int32.toInt_add, Int32.toInt_sub, Int32.toInt_mul, Int32.reduceToInt, nI, Int32.toInt_ofNat', Int.bmod, Int32.size, gm_ix, h2]; omega) (by simp only [Int32.lt_iff_toInt_lt, Int32.le_iff_toInt_le, ← Int32.toInt_inj, Int32.toInt_add, Int32.toInt_sub, Int32.toInt_mul, Int32.reduceToInt, nI, Int32.toInt_ofNat', Int.bmod, Int32.size, gm_ix, h2]; omega) ⟨(by simp only [Int32.lt_iff_toInt_lt, Int32.le_iff_toInt_le, ← Int32.toInt_inj, Int32.toInt_add, Int32.toInt_sub, Int32.toInt_mul, Int32.reduceToInt, nI, Int32.toInt_ofNat', Int.bmod, Int32.size, gm_ix, h2]; omega), hn⟩ ?_ (Or.inl hq)⟩
  show (S 27 n).toNatClampNeg = q
  rw [ha, nI_clamp (by omega)]
theorem r_sendsPlain {s b e : Nat} {m S : gm_Mem} (h : Rc s b 0 m S) (he : e = 0 ∨ e = 1) (kd ss a c : Int32) (hk : 0 ≤ kd.toInt ∧ kd.toInt ≤ 2) : ∃ (r : Int32) (m2 S2 : gm_Mem),
    gm_run gM 2 YX11_sendsPlain 0 [some (.ref 0), some (.int (nI e)), some (.int kd), some (.int ss), some (.int a), some (.int c)] [] m (some (.int r)) m2 ∧ gm_run gC 2 YX10_sendPlain 0 [some (.ref 0), some (.ref (2 + 12 * e)), some (.int kd), some (.int ss), some (.int a), some (.int c), none] [] S (some (.int r)) S2 ∧
    Rc s b 0 m2 S2 ∧ r_FM m m2 ∧ r_FC S S2 ∧ (∀ p, p ≠ 0 → p ≠ 29 → p ≠ 30 → m2 p = m p) ∧ (∀ k, k ≠ 42 → k ≠ 45 → k ≠ 5 → m2 0 k = m 0 k) ∧ (r = 0 ∨ r = 1) ∧ (r = 0 ↔ m 0 45 = 24) := by
  obtain ⟨hs, hl, hn, ht, hr, h0, g0, g1⟩ := h
  rcases hn.room with ⟨f1, f2⟩ | ⟨n, q, hn24, f1, f2, hq, f3, push⟩
  · obtain ⟨q1, -, q3⟩ := p_noroom ⟨f1, f2⟩
    exact ⟨0, m, S, PX11_sendsPlain_1 q1 rfl, PX10_sendPlain_2 (by omega) q3, ⟨hs, hl, hn, ht, hr, h0, g0, g1⟩, r_FM.rf, r_FC.rf, fun _ _ _ _ => rfl, fun _ _ _ _ => rfl, Or.inl rfl, ⟨fun _ => f1, fun _ => rfl⟩⟩
  · obtain ⟨q1, -, q3⟩ := p_room hn24 f1 f2 hq f3
    have hx0 : S (2 + 12 * e) 0 = nI e := by
      rcases he with rfl | rfl
      · exact g0.1.2.2.2.2
      · exact g1.1.2.2.2.2
    obtain ⟨rq, hfill, hrq⟩ := bk_fill (T := gm_u S 26 1 ((S 26 1) + 1)) (q := q) (a1 := nI e) (a2 := kd) (a3 := ss) (a4 := a) (a5 := c) hq
    have hl2 : r_log ((gm_u (gm_u (r_put9 m n (nI e) kd ss 0 0 a c 0 0) 0 45 ((m 0 45) + 1)) 0 5 ((m 0 5) + 1)) 29) ((gm_u (gm_u (r_put9 m n (nI e) kd ss 0 0 a c 0 0) 0 45 ((m 0 45) + 1)) 0 5 ((m 0 5) + 1)) 0 42)
        ((gm_u (gm_blk (gm_u S 26 1 ((S 26 1) + 1)) q rq) 1 10 ((S 1 10) + 1)) 55) ((gm_u (gm_blk (gm_u S 26 1 ((S 26 1) + 1)) q rq) 1 10 ((S 1 10) + 1)) 56) ((gm_u (gm_blk (gm_u S 26 1 ((S 26 1) + 1)) q rq) 1 10 ((S 1 10) + 1)) 57) ((gm_u (gm_blk (gm_u S 26 1 ((S 26 1) + 1)) q rq) 1 10 ((S 1 10) + 1)) 58) := hl
    obtain ⟨rl, ev, r5, r6, r7, r8, l1, l2, l3⟩ := p_logs hl2 0 (nI e) kd
    have hrun : gm_run gC 2 YX10_sendPlain 0 [some (.ref 0), some (.ref (2 + 12 * e)), some (.int kd), some (.int ss), some (.int a), some (.int c), none] [] S (some (.int 1)) (va_up (va_up (va_up (va_up (gm_u (gm_blk (gm_u S 26 1 ((S 26 1) + 1)) q rq) 1 10 ((S 1 10) + 1)) 55 r5) 56 r6) 57 r7) 58 r8) := by
      refine PX10_sendPlain_1 (T2 := gm_blk (gm_u S 26 1 ((S 26 1) + 1)) q rq) (by omega) hq q3 ?_ (PX10_noteSent_1 (Or.inl hq) ?_)
      · have hf := PX5_fill_1 (p := q) (a1 := (gm_u S 26 1 ((S 26 1) + 1)) (2 + 12 * e) 0) (a2 := kd) (a3 := ss) (a4 := a) (a5 := c) (S := gm_u S 26 1 ((S 26 1) + 1)) (Or.inl hq)
        have hx1 : (gm_u S 26 1 ((S 26 1) + 1)) (2 + 12 * e) 0 = nI e := by
          rw [← hx0]
          exact gm_rp (by omega)
        rw [hx1, hfill] at hf
        rw [hx1]
        exact hf
      · have h1 : gm_blk (gm_u S 26 1 ((S 26 1) + 1)) q rq q 0 = nI e := by rw [bk_is hq, hrq 0 (by decide)]; rfl
        have h2 : gm_blk (gm_u S 26 1 ((S 26 1) + 1)) q rq q 1 = kd := by rw [bk_is hq, hrq 1 (by decide)]; rfl
        rw [h1, h2]
        exact l2
    have hpk : r_pk s b (r_nine (nI e) kd ss 0 0 a c 0 0) := by
      refine ⟨?_, ⟨hk.1, by show kd.toInt ≤ 7; omega⟩, fun q => absurd q (by show ¬ 3 ≤ kd.toInt; omega), fun q => ?_, fun q => ?_⟩
      · rcases he with rfl | rfl
        · exact Or.inl rfl
        · exact Or.inr rfl
      · have q' : kd = 4 ∨ kd = 7 := q
        rcases q' with q' | q' <;> (rw [q'] at hk; exact absurd hk.2 (by decide))
      · have q' : kd = 6 := q
        rw [q'] at hk
        exact absurd hk.2 (by decide)
    have hn2 := push (r_nine (nI e) kd ss 0 0 a c 0 0) ((gm_u (gm_u (r_put9 m n (nI e) kd ss 0 0 a c 0 0) 0 45 ((m 0 45) + 1)) 0 5 ((m 0 5) + 1)) 30) (gm_u S 26 1 ((S 26 1) + 1) 26) (va_up (va_up (va_up (va_up (gm_u (gm_blk (gm_u S 26 1 ((S 26 1) + 1)) q rq) 1 10 ((S 1 10) + 1)) 55 r5) 56 r6) 57 r7) 58 r8) hpk
      (fun k hk => r_put9_in hk) (fun i hi => r_put9_old hi) (by show S 26 1 + 1 = _; rw [f2, nI_1])
      (fun k hk => by rw [bk_up (by decide) hq, bk_up (by decide) hq, bk_up (by decide) hq, bk_up (by decide) hq, bk_u (by decide) hq, bk_is hq]; exact hrq k hk)
      (fun p p1 p2 p3 => by rw [bk_up (by decide) ⟨p1, p2⟩, bk_up (by decide) ⟨p1, p2⟩, bk_up (by decide) ⟨p1, p2⟩, bk_up (by decide) ⟨p1, p2⟩, bk_u (by decide) ⟨p1, p2⟩, bk_no p3, bk_u (by decide) ⟨p1, p2⟩])
    obtain ⟨s1, s2, s3, s4, s5, s6, s7⟩ := hs
    refine ⟨1, _, _, PX11_sendsPlain_2 q1 (by decide) (p_appends hn24 f1 l1), hrun, ⟨⟨s1, s2, s3, s4, s5, congrArg (· + 1) s6, s7⟩, l3, ?_, ht, hr, h0, g0, g1⟩, ?_, ?_, fun p h1 h2 h3 => ?_, fun k h1 h2 h3 => ?_, Or.inr rfl, ?_⟩
    · have e45 : (gm_u (va_up (gm_u (gm_u (r_put9 m n (nI e) kd ss 0 0 a c 0 0) 0 45 ((m 0 45) + 1)) 0 5 ((m 0 5) + 1)) 29 rl) 0 42 ev) 0 45 = nI (n + 1) := by
        show m 0 45 + 1 = _
        rw [f1, nI_1]
      rw [e45]
      exact hn2
    · exact (by repeat (first | exact r_FM.rf | refine r_FM.u (by omega) ?_ | refine r_FM.up (by omega) ?_))
    · refine ((((r_FC.tr ?_ (r_FC.rf.u (by decide))).up (by decide)).up (by decide)).up (by decide)).up (by decide)
      exact (r_FC.rf.u (p := 26) (k := 1) (by decide)).tr ⟨fun p hp => bk_no (by omega), rfl⟩
    · simp [r_put9, gm_u, va_up, h1, h2, h3]
    · simp [r_put9, gm_u, va_up, h1, h2, h3]
    · refine ⟨fun q => absurd q (by decide), fun q => ?_⟩
      rw [f1] at q
      have : n = 24 := (nI_eq (by omega) (by decide)).mp q
      omega
