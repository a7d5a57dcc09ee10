/-! PAIR: sendsProtected / sendProtected -/
def mixF (x y : Int32) : Int32 := ((x * 31) + y) ^^^ (gm_ushr ((x * 31) + y) 7)
def tagF (ba se ep sq kd a c ak : Int32) : Int32 := mixF (mixF (mixF (mixF (mixF (mixF ba ep) se) sq) (mixF kd a)) c) ak
theorem p_tagM (m : gm_Mem) (ba se ep sq kd a c ak : Int32) : gm_run gM 1 YX11_tagOf 0 [some (.int ba), some (.int se), some (.int ep), some (.int sq), some (.int kd), some (.int a), some (.int c), some (.int ak), none] [] m (some (.int (tagF ba se ep sq kd a c ak))) m :=
  PX11_tagOf_1 PX11_mix_1 PX11_mix_1 PX11_mix_1 PX11_mix_1 PX11_mix_1 PX11_mix_1 PX11_mix_1
theorem p_tagC {S : gm_Mem} {q : Nat} {ba se ep sq kd a c ak : Int32} (hq : (28 ≤ q ∧ q < 52) ∨ q = 122) (h0 : S q 0 = se) (h1 : S q 1 = kd) (h3 : S q 3 = ep) (h4 : S q 4 = sq) (h5 : S q 5 = a) (h6 : S q 6 = c) (h7 : S q 7 = ak) : gm_run gC 1 YX10_tagOf 0 [some (.ref q), some (.int ba), none, none] [] S (some (.int (tagF ba se ep sq kd a c ak))) S := by
  subst h0 h1 h3 h4 h5 h6 h7
  exact PX10_tagOf_1 hq PX10_mix_1 PX10_mix_1 PX10_mix_1 PX10_mix_1 PX10_mix_1 PX10_mix_1 PX10_mix_1
theorem p_prot {e n q : Nat} {m T : gm_Mem} (he : e = 0 ∨ e = 1) (hn : n < 24) (f1 : m 0 45 = nI n) (hq : 28 ≤ q ∧ q < 52) (hl : r_log (m 29) (m 0 42) (T 55) (T 56) (T 57) (T 58))
    (x0 : T (2 + 12 * e) 0 = nI e) (x9 : m 2 e = T (2 + 12 * e) 9) (x10 : m 4 e = T (2 + 12 * e) 10) (x11 : m 5 e = T (2 + 12 * e) 11) (x12 : m 6 e = T (2 + 12 * e) 12) (x5 : m 13 e = T (2 + 12 * e + 5) 5) (kd a c : Int32) :
    ∃ (rq0 rq rl : Nat → Int32) (ev : Int32) (r5 r6 r7 r8 : Nat → Int32) (tg : Int32),
      gm_run gC 0 YX5_fill 0 [some (.ref q), some (.int (T (2 + 12 * e) 0)), some (.int kd), some (.int (T (2 + 12 * e) 9)), some (.int a), some (.int c)] [] T none (gm_blk T q rq0) ∧
      gm_run gC 1 YX10_tagOf 0 [some (.ref q), some (.int ((gm_blk T q rq0) (2 + 12 * e) 10)), none, none] [] (gm_u (gm_u (gm_u (gm_blk T q rq0) q 3 ((gm_blk T q rq0) (2 + 12 * e) 11)) q 4 ((gm_blk T q rq0) (2 + 12 * e) 12)) q 7 ((gm_blk T q rq0) (2 + 12 * e + 5) 5)) (some (.int tg)) (gm_u (gm_u (gm_u (gm_blk T q rq0) q 3 ((gm_blk T q rq0) (2 + 12 * e) 11)) q 4 ((gm_blk T q rq0) (2 + 12 * e) 12)) q 7 ((gm_blk T q rq0) (2 + 12 * e + 5) 5)) ∧
      gm_run gC 1 YX10_noteSent 0 [some (.ref 0), some (.ref q)] [] (gm_u (gm_u (gm_u (gm_u (gm_u (gm_blk T q rq0) q 3 ((gm_blk T q rq0) (2 + 12 * e) 11)) q 4 ((gm_blk T q rq0) (2 + 12 * e) 12)) q 7 ((gm_blk T q rq0) (2 + 12 * e + 5) 5)) q 8 tg) (2 + 12 * e) 12 (((gm_blk T q rq0) (2 + 12 * e) 12) + 1)) none
        (va_up (va_up (va_up (va_up (gm_u (gm_u (gm_blk T q rq) (2 + 12 * e) 12 ((T (2 + 12 * e) 12) + 1)) 1 10 ((T 1 10) + 1)) 55 r5) 56 r6) 57 r7) 58 r8) ∧
      (∀ k, k < 9 → rq k = r_nine (nI e) kd (m 2 e) (m 5 e) (m 6 e) a c (m 13 e) tg k) ∧
      gm_run gM 1 YX11_tagOf 0 [some (.int (m 4 e)), some (.int (nI e)), some (.int (m 5 e)), some (.int (m 6 e)), some (.int kd), some (.int a), some (.int c), some (.int (m 13 e)), none] [] m (some (.int tg)) m ∧
      gm_run gM 1 YX11_appends 0 [some (.ref 0), some (.int (nI e)), some (.int kd), some (.int (m 2 e)), some (.int (m 5 e)), some (.int (m 6 e)), some (.int a), some (.int c), some (.int (m 13 e)), some (.int tg), none] [] m none
        (gm_u (va_up (gm_u (gm_u (r_put9 m n (nI e) kd (m 2 e) (m 5 e) (m 6 e) a c (m 13 e) tg) 0 45 ((m 0 45) + 1)) 0 5 ((m 0 5) + 1)) 29 rl) 0 42 ev) ∧ r_log rl ev r5 r6 r7 r8 := by
  obtain ⟨rq0, hfill, hrq⟩ := bk_fill (T := T) (q := q) (a1 := nI e) (a2 := kd) (a3 := m 2 e) (a4 := a) (a5 := c) hq
  have hf := PX5_fill_1 (p := q) (a1 := nI e) (a2 := kd) (a3 := m 2 e) (a4 := a) (a5 := c) (S := T) (Or.inl hq)
  rw [hfill] at hf
  have o1 : (gm_blk T q rq0) (2 + 12 * e) = T (2 + 12 * e) := bk_no (by omega)
  have o2 : (gm_blk T q rq0) (2 + 12 * e + 5) = T (2 + 12 * e + 5) := bk_no (by omega)
  have hv : ∀ k, k < 9 → (upd (upd (upd rq0 3 (m 5 e)) 4 (m 6 e)) 7 (m 13 e)) k = r_nine (nI e) kd (m 2 e) (m 5 e) (m 6 e) a c (m 13 e) 0 k := by
    intro k hk
    have h9 := hrq k hk
    rcases (show k = 0 ∨ k = 1 ∨ k = 2 ∨ k = 3 ∨ k = 4 ∨ k = 5 ∨ k = 6 ∨ k = 7 ∨ k = 8 by omega) with rfl | rfl | rfl | rfl | rfl | rfl | rfl | rfl | rfl <;> simp [upd, r_nine] at h9 ⊢ <;> exact h9
  have hq8 : ∀ k, k < 9 → gm_blk T q (upd (upd (upd rq0 3 (m 5 e)) 4 (m 6 e)) 7 (m 13 e)) q k = r_nine (nI e) kd (m 2 e) (m 5 e) (m 6 e) a c (m 13 e) 0 k := fun k hk => by rw [bk_is hq]; exact hv k hk
  have ht := p_tagC (S := gm_blk T q (upd (upd (upd rq0 3 (m 5 e)) 4 (m 6 e)) 7 (m 13 e))) (q := q) (ba := m 4 e) (Or.inl hq) (hq8 0 (by decide)) (hq8 1 (by decide)) (hq8 3 (by decide)) (hq8 4 (by decide)) (hq8 5 (by decide)) (hq8 6 (by decide)) (hq8 7 (by decide))
  have hl2 : r_log ((gm_u (gm_u (r_put9 m n (nI e) kd (m 2 e) (m 5 e) (m 6 e) a c (m 13 e) (tagF (m 4 e) (nI e) (m 5 e) (m 6 e) kd a c (m 13 e))) 0 45 ((m 0 45) + 1)) 0 5 ((m 0 5) + 1)) 29) ((gm_u (gm_u (r_put9 m n (nI e) kd (m 2 e) (m 5 e) (m 6 e) a c (m 13 e) (tagF (m 4 e) (nI e) (m 5 e) (m 6 e) kd a c (m 13 e))) 0 45 ((m 0 45) + 1)) 0 5 ((m 0 5) + 1)) 0 42)
      ((gm_u (gm_u (gm_blk T q (upd (upd (upd (upd rq0 3 (m 5 e)) 4 (m 6 e)) 7 (m 13 e)) 8 (tagF (m 4 e) (nI e) (m 5 e) (m 6 e) kd a c (m 13 e)))) (2 + 12 * e) 12 ((m 6 e) + 1)) 1 10 ((T 1 10) + 1)) 55) ((gm_u (gm_u (gm_blk T q (upd (upd (upd (upd rq0 3 (m 5 e)) 4 (m 6 e)) 7 (m 13 e)) 8 (tagF (m 4 e) (nI e) (m 5 e) (m 6 e) kd a c (m 13 e)))) (2 + 12 * e) 12 ((m 6 e) + 1)) 1 10 ((T 1 10) + 1)) 56)
      ((gm_u (gm_u (gm_blk T q (upd (upd (upd (upd rq0 3 (m 5 e)) 4 (m 6 e)) 7 (m 13 e)) 8 (tagF (m 4 e) (nI e) (m 5 e) (m 6 e) kd a c (m 13 e)))) (2 + 12 * e) 12 ((m 6 e) + 1)) 1 10 ((T 1 10) + 1)) 57) ((gm_u (gm_u (gm_blk T q (upd (upd (upd (upd rq0 3 (m 5 e)) 4 (m 6 e)) 7 (m 13 e)) 8 (tagF (m 4 e) (nI e) (m 5 e) (m 6 e) kd a c (m 13 e)))) (2 + 12 * e) 12 ((m 6 e) + 1)) 1 10 ((T 1 10) + 1)) 58) := by
    rcases he with rfl | rfl
    · exact hl
    · exact hl
  obtain ⟨rl, ev, r5, r6, r7, r8, l1, l2, l3⟩ := p_logs hl2 0 (nI e) kd
  refine ⟨rq0, (upd (upd (upd (upd rq0 3 (m 5 e)) 4 (m 6 e)) 7 (m 13 e)) 8 (tagF (m 4 e) (nI e) (m 5 e) (m 6 e) kd a c (m 13 e))), rl, ev, r5, r6, r7, r8, tagF (m 4 e) (nI e) (m 5 e) (m 6 e) kd a c (m 13 e), ?_⟩
  rw [o1, o2, x0, ← x9, ← x10, ← x11, ← x12, ← x5]
  rw [bk_set hq, bk_set hq, bk_set hq]
  refine ⟨hf, ht, ?_, ?_, p_tagM m _ _ _ _ _ _ _ _, p_appends hn f1 l1, l3⟩
  · rw [bk_set hq]
    refine PX10_noteSent_1 (Or.inl hq) ?_
    have n1 : (gm_u (gm_blk T q (upd (upd (upd (upd rq0 3 (m 5 e)) 4 (m 6 e)) 7 (m 13 e)) 8 (tagF (m 4 e) (nI e) (m 5 e) (m 6 e) kd a c (m 13 e)))) (2 + 12 * e) 12 ((m 6 e) + 1)) q = (upd (upd (upd (upd rq0 3 (m 5 e)) 4 (m 6 e)) 7 (m 13 e)) 8 (tagF (m 4 e) (nI e) (m 5 e) (m 6 e) kd a c (m 13 e))) := by
      rw [bk_u (by omega) hq, bk_is hq]
    have n2 : (gm_u (gm_blk T q (upd (upd (upd (upd rq0 3 (m 5 e)) 4 (m 6 e)) 7 (m 13 e)) 8 (tagF (m 4 e) (nI e) (m 5 e) (m 6 e) kd a c (m 13 e)))) (2 + 12 * e) 12 ((m 6 e) + 1)) 1 10 = T 1 10 := by
      rw [gm_rp (by omega), bk_no (by omega)]
    rw [n1, n2]
    have k0 : (upd (upd (upd (upd rq0 3 (m 5 e)) 4 (m 6 e)) 7 (m 13 e)) 8 (tagF (m 4 e) (nI e) (m 5 e) (m 6 e) kd a c (m 13 e))) 0 = nI e := hrq 0 (by decide)
    have k1 : (upd (upd (upd (upd rq0 3 (m 5 e)) 4 (m 6 e)) 7 (m 13 e)) 8 (tagF (m 4 e) (nI e) (m 5 e) (m 6 e) kd a c (m 13 e))) 1 = kd := hrq 1 (by decide)
    rw [k0, k1]
    exact l2
  · intro k hk
    by_cases h8 : k = 8
    · subst h8
      rfl
    · have h7 := hv k hk
      have e1 : (upd (upd (upd (upd rq0 3 (m 5 e)) 4 (m 6 e)) 7 (m 13 e)) 8 (tagF (m 4 e) (nI e) (m 5 e) (m 6 e) kd a c (m 13 e))) k = (upd (upd (upd rq0 3 (m 5 e)) 4 (m 6 e)) 7 (m 13 e)) k := pk_un h8
      rw [e1, h7]
      rcases (show k = 0 ∨ k = 1 ∨ k = 2 ∨ k = 3 ∨ k = 4 ∨ k = 5 ∨ k = 6 ∨ k = 7 by omega) with rfl | rfl | rfl | rfl | rfl | rfl | rfl | rfl <;> rfl
