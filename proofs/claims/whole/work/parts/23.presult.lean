/-! PAIR: protectedResult / protectedResultOf, resultOf -/
theorem p_bit : ∀ a, a < 256 → ∀ d, d < 8 → ((gm_ushr (nI a) (nI d)) &&& 1) = ((nI a >>> (nI d &&& 31)) &&& 1) := by decide +kernel
/-- one window: behind, held, or neither -/
theorem p_window {m S : gm_Mem} {p n : Nat} {top set a1 a2 a3 a4 : Int32} (kp : p = 12 ∨ p = 13 ∨ p = 24 ∨ p = 25 ∨ p = 70 ∨ p = 71 ∨ p = 82 ∨ p = 83) (hn : n ≤ 20) (h : r_wn top set (S p 0) (S p 1)) :
    (gm_run gM 2 YX11_protectedResult 146 [some (.ref 0), some (.int a1), some (.int a2), some (.int a3), some (.int a4), some (.int (nI n)), some (.int top), none] [.int set] m (some (.int 5)) m ∧ gm_run gC 0 YX8_isBehind 0 [some (.ref p), some (.int (nI n))] [] S (some (.int 1)) S) ∨
    (gm_run gM 2 YX11_protectedResult 146 [some (.ref 0), some (.int a1), some (.int a2), some (.int a3), some (.int a4), some (.int (nI n)), some (.int top), none] [.int set] m (some (.int 6)) m ∧ gm_run gC 0 YX8_isBehind 0 [some (.ref p), some (.int (nI n))] [] S (some (.int 0)) S ∧ gm_run gC 0 YX8_holds 0 [some (.ref p), some (.int (nI n)), none] [] S (some (.int 1)) S) ∨
    ((∀ (r : Option Value) (m2 : gm_Mem), gm_run gM 2 YX11_protectedResult 194 [some (.ref 0), some (.int a1), some (.int a2), some (.int a3), some (.int a4), some (.int (nI n)), some (.int top), some (.int set)] [] m r m2 → gm_run gM 2 YX11_protectedResult 146 [some (.ref 0), some (.int a1), some (.int a2), some (.int a3), some (.int a4), some (.int (nI n)), some (.int top), none] [.int set] m r m2) ∧
      gm_run gC 0 YX8_isBehind 0 [some (.ref p), some (.int (nI n))] [] S (some (.int 0)) S ∧ gm_run gC 0 YX8_holds 0 [some (.ref p), some (.int (nI n)), none] [] S (some (.int 0)) S ∧ (∀ t : Nat, t ≤ 20 → top = nI t → t ≤ n + 7)) := by
  rcases h with ⟨w1, w2⟩ | ⟨t, a, w1, w2, w3, w4, w5, w6, w7⟩
  · right; right
    have k1 : top < 0 := by rw [w1]; decide
    refine ⟨fun r m2 K => PX11_protectedResult_10 k1 (PX11_protectedResult_14 k1 K), PX8_isBehind_3 kp w2, ?_, fun t ht20 ht => ?_⟩
    · -- holds 0: an empty set has no bit
      by_cases c1 : ((S p 0) - nI n) < 0
      · exact PX8_holds_4 kp c1
      · by_cases c2 : 7 < ((S p 0) - nI n)
        · exact PX8_holds_3 kp c1 c2
        · refine PX8_holds_2 kp c1 c2 ?_
          rw [w2]
          have : gm_ushr 0 ((S p 0) - nI n) = 0 := by
            rw [← Int32.toBitVec_inj]
            apply BitVec.eq_of_toNat_eq
            simp [gm_ushr]
          rw [this]
          decide
    · rw [ht] at w1
      have := congrArg Int32.toInt w1
      have z : (-1 : Int32).toInt = -1 := rfl
      rw [nI_toInt (by omega)] at this
      omega
  · have k1 : ¬ top < 0 := by rw [w4]; exact nI_pos (by omega)
    have k1c : ¬ (S p 1) = 0 := by rw [w7]; exact nI_ne0 (by omega) (by omega)
    have x7 : ∀ z : Int32, z = nI t → (z - 7).toInt = (t : Int) - 7 := fun z hz => by
      rw [hz]
      exact pk_sub_toInt (a := t) (b := 7) (by omega) (by decide)
    have nt : (nI n).toInt = n := nI_toInt (by omega)
    by_cases c1 : n + 7 < t
    · left
      refine ⟨PX11_protectedResult_8 k1 ?_, PX8_isBehind_1 kp k1c ?_⟩
      · rw [Int32.lt_iff_toInt_lt, x7 _ w4, nt]; omega
      · rw [Int32.lt_iff_toInt_lt, x7 _ w5, nt]; omega
    · right
      have b1 : ¬ nI n < (top - 7) := by rw [Int32.lt_iff_toInt_lt, x7 _ w4, nt]; omega
      have b2 : gm_run gC 0 YX8_isBehind 0 [some (.ref p), some (.int (nI n))] [] S (some (.int 0)) S := PX8_isBehind_2 kp k1c (by rw [Int32.lt_iff_toInt_lt, x7 _ w5, nt]; omega)
      have htn : ∀ t' : Nat, t' ≤ 20 → top = nI t' → t' ≤ n + 7 := by
        intro t' h20 ht'
        have : t = t' := (nI_eq (by omega) (by omega)).mp (w4.symm.trans ht')
        omega
      by_cases c2 : t < n
      · right
        refine ⟨fun r m2 K => PX11_protectedResult_9 k1 b1 (PX11_protectedResult_13 k1 (by rw [w4]; exact (nI_ltI (by omega) (by omega)).mpr c2) K), b2, PX8_holds_4 kp ?_, htn⟩
        rw [w5]
        exact pk_sneg (by omega) c2
      · have e1 : (top - nI n) = nI (t - n) := by rw [w4, pk_sub (by omega)]
        have e2 : ((S p 0) - nI n) = nI (t - n) := by rw [w5, pk_sub (by omega)]
        have g1 : ¬ ((S p 0) - nI n) < 0 := by rw [e2]; exact nI_pos (by omega)
        have g2 : ¬ 7 < ((S p 0) - nI n) := by rw [e2]; exact (fun q => by have := (nI_ltI (a := 7) (b := t - n) (by decide) (by omega)).mp q; omega)
        have g3 : ¬ top < nI n := by rw [w4, nI_ltI (by omega) (by omega)]; exact c2
        have hbit := p_bit a w3 (t - n) (by omega)
        by_cases c3 : ((nI a >>> (nI (t - n) &&& 31)) &&& 1) = 1
        · left
          refine ⟨PX11_protectedResult_9 k1 b1 (PX11_protectedResult_11 k1 g3 ?_), b2, PX8_holds_1 kp g1 g2 ?_⟩
          · rw [e1, w6]; exact c3
          · rw [e2, w7, hbit]; exact c3
        · right
          refine ⟨fun r m2 K => PX11_protectedResult_9 k1 b1 (PX11_protectedResult_12 k1 g3 ?_ K), b2, PX8_holds_2 kp g1 g2 ?_, htn⟩
          · rw [e1, w6]; exact c3
          · rw [e2, w7, hbit]; exact c3
theorem p_at {m : gm_Mem} {pos k : Nat} (hp : pos < 24) (hk : k < 9) : gm_run gM 0 YX11_at 0 [some (.ref 0), some (.int (nI pos)), some (.int (nI k))] [] m (some (.int (m 30 (9 * pos + k)))) m := by
  refine PX11_at_1 (j1 := 9 * pos + k) (ix_c ?_ (by omega) (by decide))
  show nI 9 * nI pos + nI k = _
  rw [pk_mul, nI_add]
theorem p_tail {m T : gm_Mem} {s e q pos : Nat} {kd x4 x5 x6 x7 : Int32} (he : e = 0 ∨ e = 1) (hq : (28 ≤ q ∧ q < 52) ∨ q = 122) (hpos : pos < 24) (hf : ∀ k, k < 9 → T q k = m 30 (9 * pos + k)) (hkd : m 30 (9 * pos + 1) = kd) (c6 : T (2 + 12 * e + 5) 6 = m 16 e) (hct : m 16 e = -1 ∨ 0 ≤ (m 16 e).toInt) :
    (gm_run gM 2 YX11_protectedResult 194 [some (.ref 0), some (.int (nI pos)), some (.int (nI e)), some (.int kd), some (.int x4), some (.int x5), some (.int x6), some (.int x7)] [] m (some (.int 7)) m ∧ gm_run gC 0 YX5_bringsMessage 0 [some (.ref q)] [] T (some (.int 1)) T ∧ gm_run gC 0 YX1_isAfterClose 0 [some (.ref (2 + 12 * e + 5)), some (.int (T q 5))] [] T (some (.int 1)) T) ∨
    (gm_run gM 2 YX11_protectedResult 194 [some (.ref 0), some (.int (nI pos)), some (.int (nI e)), some (.int kd), some (.int x4), some (.int x5), some (.int x6), some (.int x7)] [] m (some (.int 0)) m ∧
      ((gm_run gC 0 YX5_bringsMessage 0 [some (.ref q)] [] T (some (.int 1)) T ∧ gm_run gC 0 YX1_isAfterClose 0 [some (.ref (2 + 12 * e + 5)), some (.int (T q 5))] [] T (some (.int 0)) T) ∨ gm_run gC 0 YX5_bringsMessage 0 [some (.ref q)] [] T (some (.int 0)) T)) := by
  have kp : 2 + 12 * e + 5 = 7 ∨ 2 + 12 * e + 5 = 19 ∨ 2 + 12 * e + 5 = 65 ∨ 2 + 12 * e + 5 = 77 := by omega
  have kq : (28 ≤ q ∧ q < 52) ∨ (86 ≤ q ∧ q < 110) ∨ q = 122 := by omega
  have f1 : T q 1 = kd := (hf 1 (by decide)).trans hkd
  have f5 : T q 5 = m 30 (9 * pos + 5) := hf 5 (by decide)
  have ha := p_at (m := m) (k := 5) hpos (by decide)
  have go : (∀ (r : Option Value) (m2 : gm_Mem), gm_run gM 2 YX11_protectedResult 205 [some (.ref 0), some (.int (nI pos)), some (.int (nI e)), some (.int kd), some (.int x4), some (.int x5), some (.int x6), some (.int x7)] [] m r m2 → gm_run gM 2 YX11_protectedResult 194 [some (.ref 0), some (.int (nI pos)), some (.int (nI e)), some (.int kd), some (.int x4), some (.int x5), some (.int x6), some (.int x7)] [] m r m2) → gm_run gC 0 YX5_bringsMessage 0 [some (.ref q)] [] T (some (.int 1)) T →
      (gm_run gM 2 YX11_protectedResult 194 [some (.ref 0), some (.int (nI pos)), some (.int (nI e)), some (.int kd), some (.int x4), some (.int x5), some (.int x6), some (.int x7)] [] m (some (.int 7)) m ∧ gm_run gC 0 YX5_bringsMessage 0 [some (.ref q)] [] T (some (.int 1)) T ∧ gm_run gC 0 YX1_isAfterClose 0 [some (.ref (2 + 12 * e + 5)), some (.int (T q 5))] [] T (some (.int 1)) T) ∨
      (gm_run gM 2 YX11_protectedResult 194 [some (.ref 0), some (.int (nI pos)), some (.int (nI e)), some (.int kd), some (.int x4), some (.int x5), some (.int x6), some (.int x7)] [] m (some (.int 0)) m ∧
        ((gm_run gC 0 YX5_bringsMessage 0 [some (.ref q)] [] T (some (.int 1)) T ∧ gm_run gC 0 YX1_isAfterClose 0 [some (.ref (2 + 12 * e + 5)), some (.int (T q 5))] [] T (some (.int 0)) T) ∨ gm_run gC 0 YX5_bringsMessage 0 [some (.ref q)] [] T (some (.int 0)) T)) := by
    intro K hb
    by_cases d1 : m 16 e = -1
    · right
      exact ⟨K _ _ (PX11_protectedResult_20 (ix_e he) (by rw [d1]; decide) PX11_protectedResult_21), Or.inl ⟨hb, PX1_isAfterClose_3 kp (c6.trans d1)⟩⟩
    · have d2 : ¬ m 16 e < 0 := by
        rw [Int32.lt_iff_toInt_lt]
        rcases hct with z | z
        · exact absurd z d1
        · show ¬ (m 16 e).toInt < 0
          omega
      by_cases d3 : m 16 e < m 30 (9 * pos + 5)
      · left
        exact ⟨K _ _ (PX11_protectedResult_18 (ix_e he) d2 ha d3), hb, PX1_isAfterClose_1 kp (by rw [c6]; exact d1) (by rw [c6, f5]; exact d3)⟩
      · right
        exact ⟨K _ _ (PX11_protectedResult_19 (ix_e he) d2 ha d3 PX11_protectedResult_21), Or.inl ⟨hb, PX1_isAfterClose_2 kp (by rw [c6]; exact d1) (by rw [c6, f5]; exact d3)⟩⟩
  by_cases k4 : kd = 4
  · exact go (fun r m2 K => PX11_protectedResult_17 k4 K) (PX5_bringsMessage_3 kq (f1.trans k4))
  · by_cases k7 : kd = 7
    · exact go (fun r m2 K => PX11_protectedResult_15 k4 k7 K) (PX5_bringsMessage_1 kq (by rw [f1]; exact k4) (f1.trans k7))
    · right
      exact ⟨PX11_protectedResult_16 k4 k7 PX11_protectedResult_21, Or.inr (PX5_bringsMessage_2 kq (by rw [f1]; exact k4) (by rw [f1]; exact k7))⟩
theorem p_presult {m T : gm_Mem} {s b e q pos : Nat} {kd : Int32} (hB : b < 1000000000) (he : e = 0 ∨ e = 1) (hq : (28 ≤ q ∧ q < 52) ∨ q = 122) (hpos : pos < 24) (g : RE s b e m T) (hf : ∀ k, k < 9 → T q k = m 30 (9 * pos + k)) (hpk : r_pk s b (fun k => m 30 (9 * pos + k))) (hkd : m 30 (9 * pos + 1) = kd) (hk3 : 3 ≤ kd.toInt) (hse : m 30 (9 * pos + 0) = nI (1 - e)) :
    ∃ r : Int32, gm_run gM 2 YX11_protectedResult 0 [some (.ref 0), some (.int (nI pos)), some (.int (nI e)), some (.int kd), none, none, none, none] [] m (some (.int r)) m ∧ gm_run gC 2 YX10_protectedResultOf 0 [some (.ref 0), some (.ref q), some (.ref (2 + 12 * e)), none] [] T (some (.int r)) T ∧ (0 ≤ r.toInt ∧ r.toInt ≤ 7) ∧
      (r = 0 → ((((m 7 e).toInt ≤ (m 30 (9 * pos + 3)).toInt ∧ (m 30 (9 * pos + 3)).toInt ≤ (m 7 e).toInt + 2) ∨ ((m 30 (9 * pos + 3)).toInt = (m 7 e).toInt - 1 ∧ 1 ≤ (m 12 e).toInt)) ∧
        (m 30 (9 * pos + 3) = m 7 e → ∀ t : Nat, t ≤ 20 → m 8 e = nI t → (t : Int) ≤ (m 30 (9 * pos + 4)).toInt + 7) ∧ ((m 30 (9 * pos + 3)).toInt < (m 7 e).toInt → ∀ t : Nat, t ≤ 20 → m 10 e = nI t → (t : Int) ≤ (m 30 (9 * pos + 4)).toInt + 7))) := by
  obtain ⟨a1, a2, a3, a4, a5⟩ := g.1
  obtain ⟨b1, b2, b3, b4, b5, b6, b7, b8⟩ := g.2.2.2
  obtain ⟨ex, tt, c1, c2, c3, c4, c5, c6, c7, c8, -⟩ := g.2.2.1
  obtain ⟨p1, p2, p3, p4, p5⟩ := hpk
  obtain ⟨p31, p32, p33⟩ := p3 (by show 3 ≤ (m 30 (9 * pos + 1)).toInt; rw [hkd]; exact hk3)
  dsimp only at p31 p32 p33
  have e57 : 2 + 12 * e + 5 = 7 + 12 * e := by omega
  have e10 : 2 + 12 * e + 10 = 12 + 12 * e := by omega
  have e11 : 2 + 12 * e + 11 = 13 + 12 * e := by omega
  have ke : 2 + 12 * e = 2 ∨ 2 + 12 * e = 14 := by omega
  have keb : 2 + 12 * e = 2 ∨ 2 + 12 * e = 14 ∨ 2 + 12 * e = 60 ∨ 2 + 12 * e = 72 := by omega
  obtain ⟨n, hn20, hseq⟩ : ∃ n : Nat, n ≤ 20 ∧ m 30 (9 * pos + 4) = nI n := by
    refine ⟨(m 30 (9 * pos + 4)).toInt.toNat, by omega, ?_⟩
    rw [← Int32.toInt_inj, nI_toInt (by omega)]
    have := p32.1
    omega
  have nt : (nI n).toInt = n := nI_toInt (by omega)
  have hold : (T (2 + 12 * e) 6 = 0 ∧ m 12 e = 0) ∨ (T (2 + 12 * e) 6 = 1 ∧ 1 ≤ (m 12 e).toInt) := by
    rcases b8 with ⟨z1, z2⟩ | ⟨z1, z2, z3, -⟩
    · exact Or.inl ⟨z1, z2⟩
    · exact Or.inr ⟨z1, by rw [z2]; exact z3.1⟩
  obtain ⟨v, hv, v1, v2, v3⟩ := p_epoch hB he (m 30 (9 * pos + 3)) p31 b5 b6 hold
  have f3 : T q 3 = m 30 (9 * pos + 3) := hf 3 (by decide)
  have f4 : T q 4 = nI n := (hf 4 (by decide)).trans hseq
  have at3 := p_at (m := m) (k := 3) hpos (by decide)
  have at4 := p_at (m := m) (k := 4) hpos (by decide)
  have at5 := p_at (m := m) (k := 5) hpos (by decide)
  have at6 := p_at (m := m) (k := 6) hpos (by decide)
  have at7 := p_at (m := m) (k := 7) hpos (by decide)
  have at8 := p_at (m := m) (k := 8) hpos (by decide)
  rw [hseq] at at4
  rw [← f3] at v2
  rcases hv with rfl | rfl
  · exact ⟨3, PX11_protectedResult_1 at3 at4 v1 rfl, PX10_protectedResultOf_1 hq ke v2 rfl, by decide, fun z => absurd z (by decide)⟩
  · have hx1 : (1 - nI e) = nI (1 - e) := by rcases he with rfl | rfl <;> decide
    have tM := p_tagM m (m 4 e) (1 - nI e) (m 30 (9 * pos + 3)) (nI n) kd (m 30 (9 * pos + 5)) (m 30 (9 * pos + 6)) (m 30 (9 * pos + 7))
    have tC := p_tagC (S := T) (q := q) (ba := T (2 + 12 * e) 10) (se := 1 - nI e) (ep := m 30 (9 * pos + 3)) (sq := nI n) (kd := kd) (a := m 30 (9 * pos + 5)) (c := m 30 (9 * pos + 6)) (ak := m 30 (9 * pos + 7)) hq
      (by rw [hf 0 (by decide), hse, hx1]) ((hf 1 (by decide)).trans hkd) f3 f4 (hf 5 (by decide)) (hf 6 (by decide)) (hf 7 (by decide))
    rw [← a4] at tC
    have f8 : T q 8 = m 30 (9 * pos + 8) := hf 8 (by decide)
    by_cases ht : tagF (m 4 e) (1 - nI e) (m 30 (9 * pos + 3)) (nI n) kd (m 30 (9 * pos + 5)) (m 30 (9 * pos + 6)) (m 30 (9 * pos + 7)) = m 30 (9 * pos + 8)
    · have ht' : T q 8 = tagF (m 4 e) (1 - nI e) (m 30 (9 * pos + 3)) (nI n) kd (m 30 (9 * pos + 5)) (m 30 (9 * pos + 6)) (m 30 (9 * pos + 7)) := f8.trans ht.symm
      have tC' : gm_run gC 1 YX10_tagOf 0 [some (.ref q), some (.int (T (2 + 12 * e) 10)), none, none] [] T (some (.int (tagF (m 4 e) (1 - nI e) (m 30 (9 * pos + 3)) (nI n) kd (m 30 (9 * pos + 5)) (m 30 (9 * pos + 6)) (m 30 (9 * pos + 7))))) T := by
        rw [← a4]; exact tC
      have hct : T (2 + 12 * e + 5) 6 = m 16 e := by rw [e57]; exact c7
      by_cases kE : m 30 (9 * pos + 3) = m 7 e
      · -- the receiving epoch's window
        have cw : gm_run gC 0 YX0_windowOf 0 [some (.ref (2 + 12 * e)), some (.int (T q 3))] [] T (some (.ref (2 + 12 * e + 10))) T := PX0_windowOf_1 keb (by rw [f3, kE, b5])
        have c7' : ¬ T (2 + 12 * e) 13 < T q 3 := by rw [f3, kE, b5]; exact Int32.lt_irrefl
        have kq8 : 2 + 12 * e + 10 = 12 ∨ 2 + 12 * e + 10 = 13 ∨ 2 + 12 * e + 10 = 24 ∨ 2 + 12 * e + 10 = 25 ∨ 2 + 12 * e + 10 = 70 ∨ 2 + 12 * e + 10 = 71 ∨ 2 + 12 * e + 10 = 82 ∨ 2 + 12 * e + 10 = 83 := by omega
        have toM : ∀ (r : Option Value) (m2 : gm_Mem), gm_run gM 2 YX11_protectedResult 146 [some (.ref 0), some (.int (nI pos)), some (.int (nI e)), some (.int kd), some (.int (m 30 (9 * pos + 3))), some (.int (nI n)), some (.int (m 8 e)), none] [.int (m 9 e)] m r m2 →
            gm_run gM 2 YX11_protectedResult 0 [some (.ref 0), some (.int (nI pos)), some (.int (nI e)), some (.int kd), none, none, none, none] [] m r m2 := fun r m2 K =>
          PX11_protectedResult_3 at3 at4 v1 (by decide) (ix_e he) at5 at6 at7 tM at8 ht kE (PX11_protectedResult_6 (ix_e he) kE K)
        have hw : r_wn (m 8 e) (m 9 e) (T (2 + 12 * e + 10) 0) (T (2 + 12 * e + 10) 1) := by rw [e10]; exact b7
        rcases p_window (m := m) (S := T) (a1 := nI pos) (a2 := nI e) (a3 := kd) (a4 := m 30 (9 * pos + 3)) kq8 hn20 hw with ⟨w1, w2⟩ | ⟨w1, w2, w3⟩ | ⟨w1, w2, w3, w4⟩
        · rw [← f4] at w2
          exact ⟨5, toM _ _ w1, PX10_protectedResultOf_3 hq ke v2 (by decide) tC' ht' c7' kq8 cw w2 (by decide), by decide, fun z => absurd z (by decide)⟩
        · rw [← f4] at w2 w3
          exact ⟨6, toM _ _ w1, PX10_protectedResultOf_4 hq ke v2 (by decide) tC' ht' c7' kq8 cw w2 rfl w3 (by decide), by decide, fun z => absurd z (by decide)⟩
        · rw [← f4] at w2 w3
          have fin : (0 : Int32) = 0 → ((((m 7 e).toInt ≤ (m 30 (9 * pos + 3)).toInt ∧ (m 30 (9 * pos + 3)).toInt ≤ (m 7 e).toInt + 2) ∨ ((m 30 (9 * pos + 3)).toInt = (m 7 e).toInt - 1 ∧ 1 ≤ (m 12 e).toInt)) ∧ (m 30 (9 * pos + 3) = m 7 e → ∀ t : Nat, t ≤ 20 → m 8 e = nI t → (t : Int) ≤ (m 30 (9 * pos + 4)).toInt + 7) ∧ ((m 30 (9 * pos + 3)).toInt < (m 7 e).toInt → ∀ t : Nat, t ≤ 20 → m 10 e = nI t → (t : Int) ≤ (m 30 (9 * pos + 4)).toInt + 7)) :=
            fun _ => ⟨v3 rfl, fun _ t h20 ht => by have := w4 t h20 ht; rw [hseq, nt]; omega, fun z => absurd z (by rw [kE]; omega)⟩
          rcases p_tail (s := s) (x4 := m 30 (9 * pos + 3)) (x5 := nI n) (x6 := m 8 e) (x7 := m 9 e) he hq hpos hf hkd hct c8 with ⟨t1, t2, t3⟩ | ⟨t1, ⟨t2, t3⟩ | t2⟩
          · exact ⟨7, toM _ _ (w1 _ _ t1), PX10_protectedResultOf_5 hq ke v2 (by decide) tC' ht' c7' kq8 cw w2 rfl w3 rfl t2 (by decide) t3 (by decide), by decide, fun z => absurd z (by decide)⟩
          · exact ⟨0, toM _ _ (w1 _ _ t1), PX10_protectedResultOf_6 hq ke v2 (by decide) tC' ht' c7' kq8 cw w2 rfl w3 rfl t2 (by decide) t3 rfl, by decide, fin⟩
          · exact ⟨0, toM _ _ (w1 _ _ t1), PX10_protectedResultOf_7 hq ke v2 (by decide) tC' ht' c7' kq8 cw w2 rfl w3 rfl t2 rfl, by decide, fin⟩
      · have cw : gm_run gC 0 YX0_windowOf 0 [some (.ref (2 + 12 * e)), some (.int (T q 3))] [] T (some (.ref (2 + 12 * e + 11))) T := PX0_windowOf_2 keb (by rw [f3, ← b5]; exact kE)
        by_cases kL : m 30 (9 * pos + 3) < m 7 e
        · -- the previous window
          have kL' : (m 30 (9 * pos + 3)).toInt < (m 7 e).toInt := Int32.lt_iff_toInt_lt.mp kL
          have hprev : 1 ≤ (m 12 e).toInt := by
            rcases v3 rfl with z | z
            · omega
            · exact z.2
          have hw : r_wn (m 10 e) (m 11 e) (T (2 + 12 * e + 11) 0) (T (2 + 12 * e + 11) 1) := by
            rw [e11]
            rcases b8 with ⟨z1, z2⟩ | ⟨z1, z2, z3, z4⟩
            · rw [z2] at hprev
              exact absurd hprev (by decide)
            · exact z4
          have c7' : ¬ T (2 + 12 * e) 13 < T q 3 := by
            rw [f3, ← b5, Int32.lt_iff_toInt_lt]
            omega
          have kq8 : 2 + 12 * e + 11 = 12 ∨ 2 + 12 * e + 11 = 13 ∨ 2 + 12 * e + 11 = 24 ∨ 2 + 12 * e + 11 = 25 ∨ 2 + 12 * e + 11 = 70 ∨ 2 + 12 * e + 11 = 71 ∨ 2 + 12 * e + 11 = 82 ∨ 2 + 12 * e + 11 = 83 := by omega
          have toM : ∀ (r : Option Value) (m2 : gm_Mem), gm_run gM 2 YX11_protectedResult 146 [some (.ref 0), some (.int (nI pos)), some (.int (nI e)), some (.int kd), some (.int (m 30 (9 * pos + 3))), some (.int (nI n)), some (.int (m 10 e)), none] [.int (m 11 e)] m r m2 →
              gm_run gM 2 YX11_protectedResult 0 [some (.ref 0), some (.int (nI pos)), some (.int (nI e)), some (.int kd), none, none, none, none] [] m r m2 := fun r m2 K =>
            PX11_protectedResult_4 at3 at4 v1 (by decide) (ix_e he) at5 at6 at7 tM at8 ht kE kL (PX11_protectedResult_7 (ix_e he) kE K)
          rcases p_window (m := m) (S := T) (a1 := nI pos) (a2 := nI e) (a3 := kd) (a4 := m 30 (9 * pos + 3)) kq8 hn20 hw with ⟨w1, w2⟩ | ⟨w1, w2, w3⟩ | ⟨w1, w2, w3, w4⟩
          · rw [← f4] at w2
            exact ⟨5, toM _ _ w1, PX10_protectedResultOf_3 hq ke v2 (by decide) tC' ht' c7' kq8 cw w2 (by decide), by decide, fun z => absurd z (by decide)⟩
          · rw [← f4] at w2 w3
            exact ⟨6, toM _ _ w1, PX10_protectedResultOf_4 hq ke v2 (by decide) tC' ht' c7' kq8 cw w2 rfl w3 (by decide), by decide, fun z => absurd z (by decide)⟩
          · rw [← f4] at w2 w3
            have fin : (0 : Int32) = 0 → ((((m 7 e).toInt ≤ (m 30 (9 * pos + 3)).toInt ∧ (m 30 (9 * pos + 3)).toInt ≤ (m 7 e).toInt + 2) ∨ ((m 30 (9 * pos + 3)).toInt = (m 7 e).toInt - 1 ∧ 1 ≤ (m 12 e).toInt)) ∧ (m 30 (9 * pos + 3) = m 7 e → ∀ t : Nat, t ≤ 20 → m 8 e = nI t → (t : Int) ≤ (m 30 (9 * pos + 4)).toInt + 7) ∧ ((m 30 (9 * pos + 3)).toInt < (m 7 e).toInt → ∀ t : Nat, t ≤ 20 → m 10 e = nI t → (t : Int) ≤ (m 30 (9 * pos + 4)).toInt + 7)) :=
              fun _ => ⟨v3 rfl, fun z => absurd z kE, fun _ t h20 ht => by have := w4 t h20 ht; rw [hseq, nt]; omega⟩
            rcases p_tail (s := s) (x4 := m 30 (9 * pos + 3)) (x5 := nI n) (x6 := m 10 e) (x7 := m 11 e) he hq hpos hf hkd hct c8 with ⟨t1, t2, t3⟩ | ⟨t1, ⟨t2, t3⟩ | t2⟩
            · exact ⟨7, toM _ _ (w1 _ _ t1), PX10_protectedResultOf_5 hq ke v2 (by decide) tC' ht' c7' kq8 cw w2 rfl w3 rfl t2 (by decide) t3 (by decide), by decide, fun z => absurd z (by decide)⟩
            · exact ⟨0, toM _ _ (w1 _ _ t1), PX10_protectedResultOf_6 hq ke v2 (by decide) tC' ht' c7' kq8 cw w2 rfl w3 rfl t2 (by decide) t3 rfl, by decide, fin⟩
            · exact ⟨0, toM _ _ (w1 _ _ t1), PX10_protectedResultOf_7 hq ke v2 (by decide) tC' ht' c7' kq8 cw w2 rfl w3 rfl t2 rfl, by decide, fin⟩
        · -- an epoch above
          have kG' : (m 7 e).toInt < (m 30 (9 * pos + 3)).toInt := by
            have z1 : ¬ (m 30 (9 * pos + 3)).toInt < (m 7 e).toInt := fun z => kL (Int32.lt_iff_toInt_lt.mpr z)
            have z2 : ¬ (m 30 (9 * pos + 3)).toInt = (m 7 e).toInt := fun z => kE (Int32.toInt_inj.mp z)
            omega
          have c7' : T (2 + 12 * e) 13 < T q 3 := by
            rw [f3, ← b5, Int32.lt_iff_toInt_lt]
            exact kG'
          have toM : ∀ (r : Option Value) (m2 : gm_Mem), gm_run gM 2 YX11_protectedResult 194 [some (.ref 0), some (.int (nI pos)), some (.int (nI e)), some (.int kd), some (.int (m 30 (9 * pos + 3))), some (.int (nI n)), some (.int (-1)), some (.int (m 11 e))] [] m r m2 →
              gm_run gM 2 YX11_protectedResult 0 [some (.ref 0), some (.int (nI pos)), some (.int (nI e)), some (.int kd), none, none, none, none] [] m r m2 := fun r m2 K =>
            PX11_protectedResult_5 at3 at4 v1 (by decide) (ix_e he) at5 at6 at7 tM at8 ht kE kL (PX11_protectedResult_7 (ix_e he) kE (PX11_protectedResult_10 (by decide) (PX11_protectedResult_14 (by decide) K)))
          have fin : (0 : Int32) = 0 → ((((m 7 e).toInt ≤ (m 30 (9 * pos + 3)).toInt ∧ (m 30 (9 * pos + 3)).toInt ≤ (m 7 e).toInt + 2) ∨ ((m 30 (9 * pos + 3)).toInt = (m 7 e).toInt - 1 ∧ 1 ≤ (m 12 e).toInt)) ∧ (m 30 (9 * pos + 3) = m 7 e → ∀ t : Nat, t ≤ 20 → m 8 e = nI t → (t : Int) ≤ (m 30 (9 * pos + 4)).toInt + 7) ∧ ((m 30 (9 * pos + 3)).toInt < (m 7 e).toInt → ∀ t : Nat, t ≤ 20 → m 10 e = nI t → (t : Int) ≤ (m 30 (9 * pos + 4)).toInt + 7)) :=
            fun _ => ⟨v3 rfl, fun z => absurd z kE, fun z => absurd z (by omega)⟩
          rcases p_tail (s := s) (x4 := m 30 (9 * pos + 3)) (x5 := nI n) (x6 := -1) (x7 := m 11 e) he hq hpos hf hkd hct c8 with ⟨t1, t2, t3⟩ | ⟨t1, ⟨t2, t3⟩ | t2⟩
          · exact ⟨7, toM _ _ t1, PX10_protectedResultOf_8 hq ke v2 (by decide) tC' ht' c7' t2 (by decide) t3 (by decide), by decide, fun z => absurd z (by decide)⟩
          · exact ⟨0, toM _ _ t1, PX10_protectedResultOf_9 hq ke v2 (by decide) tC' ht' c7' t2 (by decide) t3 rfl, by decide, fin⟩
          · exact ⟨0, toM _ _ t1, PX10_protectedResultOf_10 hq ke v2 (by decide) tC' ht' c7' t2 rfl, by decide, fin⟩
    · exact ⟨4, PX11_protectedResult_2 at3 at4 v1 (by decide) (ix_e he) at5 at6 at7 tM at8 ht, PX10_protectedResultOf_2 hq ke v2 (by decide) (by rw [← a4]; exact tC) (fun z => ht ((f8.symm.trans z).symm)), by decide, fun z => absurd z (by decide)⟩
/-- what an accepted packet, and a refused hello, are known to be -/
def r_acc (m : gm_Mem) (e : Nat) (f : Nat → Int32) : Prop :=
  (f 1 = 0 → e = 1 ∧ (f 6 = -1 ∨ ∃ j i : Nat, j < i ∧ i ≤ 16 ∧ m 0 38 = nI i ∧ f 6 = nI j)) ∧ (f 1 = 1 ∨ f 1 = 2 → e = 0) ∧
  (3 ≤ (f 1).toInt → (((m 7 e).toInt ≤ (f 3).toInt ∧ (f 3).toInt ≤ (m 7 e).toInt + 2) ∨ ((f 3).toInt = (m 7 e).toInt - 1 ∧ 1 ≤ (m 12 e).toInt)) ∧
    (f 3 = m 7 e → ∀ t : Nat, t ≤ 20 → m 8 e = nI t → (t : Int) ≤ (f 4).toInt + 7) ∧ ((f 3).toInt < (m 7 e).toInt → ∀ t : Nat, t ≤ 20 → m 10 e = nI t → (t : Int) ≤ (f 4).toInt + 7)) ∧ (f 1 = 6 → e = 0)
theorem p_result {m T : gm_Mem} {s b e q pos : Nat} (hB : b < 1000000000) (he : e = 0 ∨ e = 1) (hq : (28 ≤ q ∧ q < 52) ∨ q = 122) (hpos : pos < 24) (g : RE s b e m T) (tk : r_tick (m 0 38) (m 27) (m 28) (T 52) (T 53) (T 54)) (li : m 0 2 = T 1 7) (ti : m 0 4 = T 1 8) (hf : ∀ k, k < 9 → T q k = m 30 (9 * pos + k)) (hpk : r_pk s b (fun k => m 30 (9 * pos + k))) (hse : m 30 (9 * pos + 0) = nI (1 - e)) :
    ∃ r : Int32, gm_run gM 3 YX11_resultOf 0 [some (.ref 0), some (.int (nI pos)), none, none] [] m (some (.int r)) m ∧ gm_run gC 3 YX10_resultOf 0 [some (.ref 0), some (.ref q), some (.ref (2 + 12 * e))] [] T (some (.int r)) T ∧ (0 ≤ r.toInt ∧ r.toInt ≤ 8) ∧ (r = 0 → r_acc m e (fun k => m 30 (9 * pos + k))) ∧ (r = 8 → e = 1) := by
  obtain ⟨a1, a2, a3, a4, a5⟩ := g.1
  have ke : 2 + 12 * e = 2 ∨ 2 + 12 * e = 14 := by omega
  have kq : (28 ≤ q ∧ q < 52) ∨ (86 ≤ q ∧ q < 110) ∨ q = 122 := by omega
  have hx1 : (1 - m 30 (9 * pos + 0)) = nI e := by rw [hse]; rcases he with rfl | rfl <;> decide
  have f1 : T q 1 = m 30 (9 * pos + 1) := hf 1 (by decide)
  have f2 : T q 2 = m 30 (9 * pos + 2) := hf 2 (by decide)
  have f6 : T q 6 = m 30 (9 * pos + 6) := hf 6 (by decide)
  have at0 := p_at (m := m) (k := 0) hpos (by decide)
  have at1 := p_at (m := m) (k := 1) hpos (by decide)
  have at2 := p_at (m := m) (k := 2) hpos (by decide)
  have at6 := p_at (m := m) (k := 6) hpos (by decide)
  obtain ⟨t1, t2⟩ := p_tk he a5 a1 (m 30 (9 * pos + 1))
  rw [← hx1] at t1
  by_cases ht : tkF e (m 30 (9 * pos + 1)) (m 1 e)
  · rw [b2i_t ht] at t1 t2
    rw [← f1] at t2
    by_cases k0 : m 30 (9 * pos + 1) = 0
    · -- hello
      have e1 : e = 1 := by
        rcases ht with z | z | z | z
        · exact z.2.1
        · rcases z.1 with z1 | z1 <;> (rw [k0] at z1; exact absurd z1 (by decide))
        · rw [k0] at z; exact absurd z.1 (by decide)
        · exact absurd k0 z.1
      have hacc : (m 30 (9 * pos + 6) = -1 ∨ ∃ j i : Nat, j < i ∧ i ≤ 16 ∧ m 0 38 = nI i ∧ m 30 (9 * pos + 6) = nI j) → r_acc m e (fun k => m 30 (9 * pos + k)) := by
        intro z
        refine ⟨fun _ => ⟨e1, z⟩, fun y => ?_, fun y => ?_, fun y => ?_⟩ <;> dsimp only at y <;> rw [k0] at y
        · rcases y with y | y <;> exact absurd y (by decide)
        · exact absurd y (by decide)
        · exact absurd y (by decide)
      have lt3 : m 30 (9 * pos + 1) < 3 := by rw [k0]; decide
      by_cases k6 : m 30 (9 * pos + 6) = -1
      · exact ⟨0, PX11_resultOf_8 at0 at1 t1 (by decide) k0 at6 k6 lt3, PX10_resultOf_3 hq ke t2 (by decide) (f1.trans k0) (PX10_isRefused_3 (f6.trans k6)) rfl, by decide, fun _ => hacc (Or.inl k6), fun z => absurd z (by decide)⟩
      · obtain ⟨v, hv, v1, v2, v3⟩ := p_ticket tk li ti (m 30 (9 * pos + 6))
        rw [← f6] at v2
        have n6 : ¬ T q 6 = -1 := by rw [f6]; exact k6
        rcases hv with rfl | rfl
        · exact ⟨8, PX11_resultOf_5 at0 at1 t1 (by decide) k0 at6 k6 at6 v1 rfl, PX10_resultOf_2 hq ke t2 (by decide) (f1.trans k0) (PX10_isRefused_1 n6 v2 rfl) (by decide), by decide, fun z => absurd z (by decide), fun _ => e1⟩
        · exact ⟨0, PX11_resultOf_6 at0 at1 t1 (by decide) k0 at6 k6 at6 v1 (by decide) lt3, PX10_resultOf_3 hq ke t2 (by decide) (f1.trans k0) (PX10_isRefused_2 n6 v2 (by decide)) rfl, by decide, fun _ => hacc (Or.inr (v3 rfl)), fun z => absurd z (by decide)⟩
    · have n0 : ¬ T q 1 = 0 := by rw [f1]; exact k0
      have ixr : gm_ix (1 - m 30 (9 * pos + 0)) e 2 := by rw [hx1]; exact ix_e he
      by_cases k2 : m 30 (9 * pos + 2) = m 2 e
      · have c2 : T q 2 = T (2 + 12 * e) 9 := by rw [f2, k2, a3]
        by_cases k3 : m 30 (9 * pos + 1) < 3
        · have k3' : (m 30 (9 * pos + 1)).toInt < 3 := Int32.lt_iff_toInt_lt.mp k3
          refine ⟨0, PX11_resultOf_3 at0 at1 t1 (by decide) k0 at2 ixr k2 k3, PX10_resultOf_6 hq ke t2 (by decide) n0 c2 (PX5_isProtected_2 kq (by rw [f1]; exact k3)) rfl, by decide, fun _ => ?_, fun z => absurd z (by decide)⟩
          refine ⟨fun y => absurd y k0, fun y => ?_, fun y => ?_, fun y => ?_⟩
          · rcases ht with z | z | z | z
            · exact absurd z.1 k0
            · exact z.2.1
            · exact z.2.1
            · rcases y with y | y
              · exact absurd y z.2.1
              · exact absurd y z.2.2.1
          · dsimp only at y
            omega
          · dsimp only at y
            rw [y] at k3'
            exact absurd k3' (by decide)
        · have k3' : 3 ≤ (m 30 (9 * pos + 1)).toInt := by
            rw [Int32.lt_iff_toInt_lt] at k3
            have : (3 : Int32).toInt = 3 := rfl
            omega
          obtain ⟨r, r1, r2, r3, r4⟩ := p_presult hB he hq hpos g hf hpk rfl k3' hse
          rw [← hx1] at r1
          refine ⟨r, PX11_resultOf_4 at0 at1 t1 (by decide) k0 at2 ixr k2 k3 r1, PX10_resultOf_5 hq ke t2 (by decide) n0 c2 (PX5_isProtected_1 kq (by rw [f1]; exact k3)) (by decide) r2, ⟨r3.1, by omega⟩, fun z => ⟨fun y => absurd y k0, fun y => ?_, fun _ => r4 z, fun y => ?_⟩, fun z => ?_⟩
          · dsimp only at y
            rcases y with y | y <;> (rw [y] at k3'; exact absurd k3' (by decide))
          · rcases ht with z1 | z1 | z1 | z1
            · exact absurd z1.1 k0
            · exact z1.2.1
            · exact z1.2.1
            · exact absurd y z1.2.2.2.1
          · rw [z] at r3
            exact absurd r3.2 (by decide)
      · refine ⟨2, PX11_resultOf_2 at0 at1 t1 (by decide) k0 at2 ixr k2, PX10_resultOf_4 hq ke t2 (by decide) n0 (by rw [f2, ← a3]; exact k2), by decide, fun z => absurd z (by decide), fun z => absurd z (by decide)⟩
  · rw [b2i_f ht] at t1 t2
    rw [← f1] at t2
    exact ⟨1, PX11_resultOf_1 at0 at1 t1 rfl, PX10_resultOf_1 hq ke t2 rfl, by decide, fun z => absurd z (by decide), fun z => absurd z (by decide)⟩
