/-! THE RELATION of the reference's memory m and the class's memory S. s bounds the messages' numbers, b the epochs and the time, o is the place of the snapshot's network -/
def r_pk (s b : Nat) (f : Nat → Int32) : Prop := (f 0 = 0 ∨ f 0 = 1) ∧ (0 ≤ (f 1).toInt ∧ (f 1).toInt ≤ 7) ∧ (3 ≤ (f 1).toInt → (0 ≤ (f 3).toInt ∧ (f 3).toInt ≤ b) ∧ (0 ≤ (f 4).toInt ∧ (f 4).toInt ≤ 20) ∧ (0 ≤ (f 7).toInt ∧ (f 7).toInt ≤ s)) ∧ (f 1 = 4 ∨ f 1 = 7 → 0 ≤ (f 5).toInt ∧ (f 5).toInt < s) ∧ (f 1 = 6 → 0 ≤ (f 5).toInt)
def r_net (s b o : Nat) (mn : Nat → Int32) (pk : Int32) (nw ar : Nat → Int32) (P : gm_Mem) : Prop := ∃ (n : Nat) (pi : Nat → Nat), n ≤ 24 ∧ pk = nI n ∧ nw 1 = nI n ∧ (∀ i, i < 24 → 28 ≤ pi i ∧ pi i < 52 ∧ ar i = nI (o + pi i)) ∧ (∀ i j, i < 24 → j < 24 → pi i = pi j → i = j) ∧ (∀ i, i < n → ∀ k, k < 9 → P (pi i) k = mn (9 * i + k)) ∧ ∀ i, i < n → r_pk s b (fun k => mn (9 * i + k))
def r_out (s e : Nat) (ti kn kc km : Int32) (r20 r21 r22 r23 ob va st : Nat → Int32) : Prop := ∃ n lo : Nat, n ≤ 16 ∧ lo + n ≤ s ∧ km = nI n ∧ kn = nI (lo + n) ∧ ob 2 = nI n ∧ ob 3 = nI lo ∧ ob 4 = kc ∧ (kc = -1 ∨ (1 ≤ lo + n ∧ kc = nI (lo + n - 1))) ∧ ∀ k, k < n → r20 (16 * e + k) = nI (lo + k) ∧ r21 (16 * e + k) = va k ∧ r22 (16 * e + k) = (if ¬ kc = -1 ∧ k + 1 = n then 1 else 0) ∧ r23 (16 * e + k) = st k ∧ (st k = -1 ∨ (0 ≤ (st k).toInt ∧ (st k).toInt ≤ ti.toInt))
def r_in (s e : Nat) (me ct tm : Int32) (r19 r24 r25 r26 ib tv wa wc wv : Nat → Int32) : Prop := ∃ ex t : Nat, ex ≤ s ∧ t ≤ ex ∧ me = nI ex ∧ ib 5 = nI ex ∧ tm = nI t ∧ ib 4 = nI t ∧ ib 6 = ct ∧ (ct = -1 ∨ 0 ≤ ct.toInt) ∧ (∀ i, i < t → r19 (1200 * e + i) = tv i) ∧ (∀ j, j < 4 → r24 (4 * e + j) = wa j ∧ (wa j = 0 ∨ wa j = 1) ∧ (wc j = 0 ∨ wc j = 1) ∧ (wa j = 1 → r25 (4 * e + j) = wv j ∧ r26 (4 * e + j) = wc j)) ∧ (ct = -1 → wa (ex % 4) = 0) ∧ ∀ d, 1 ≤ d → d < 4 → wa ((ex + d) % 4) = 1 → ex + d < s
def r_wn (hi ac ch cs : Int32) : Prop := (hi = -1 ∧ cs = 0) ∨ (∃ h a : Nat, h ≤ 20 ∧ 1 ≤ a ∧ a < 256 ∧ hi = nI h ∧ ch = nI h ∧ ac = nI a ∧ cs = nI a)
def r_win (b : Nat) (se sq ep hi ac oh oa ol x6 x7 x11 x12 x13 : Int32) (w pv : Nat → Int32) : Prop := se = x11 ∧ (0 ≤ x11.toInt ∧ x11.toInt ≤ b) ∧ sq = x12 ∧ (0 ≤ x12.toInt ∧ x12.toInt ≤ 20) ∧ ep = x13 ∧ (0 ≤ x13.toInt ∧ x13.toInt ≤ b) ∧ r_wn hi ac (w 0) (w 1) ∧ ((x6 = 0 ∧ ol = 0) ∨ (x6 = 1 ∧ ol = x7 ∧ (1 ≤ x7.toInt ∧ x7.toInt ≤ 4) ∧ r_wn oh oa (pv 0) (pv 1)))
def r_tick (is : Int32) (r27 r28 tk it us : Nat → Int32) : Prop := ∃ i : Nat, i ≤ 16 ∧ is = nI i ∧ tk 2 = nI i ∧ (∀ t, t < i → r27 t = it t ∧ r28 t = us t) ∧ (∀ t, t < 16 → us t = 0 ∨ us t = 1) ∧ ∀ t, i ≤ t → t < 16 → us t = 0
def r_end (e : Nat) (st se ba x0 x8 x9 x10 : Int32) : Prop := st = x8 ∧ (0 ≤ x8.toInt ∧ x8.toInt ≤ 4 ∧ (e = 0 → ¬ x8 = 2)) ∧ se = x9 ∧ ba = x10 ∧ x0 = nI e
def r_e0 (no ti ht hm x15 x14 x16 x17 : Int32) : Prop := no = x15 ∧ ti = x14 ∧ -1 ≤ x14.toInt ∧ ht = x16 ∧ hm = x17
def r_res (r32 s3 s15 : Nat → Int32) : Prop := ∀ k, k < 9 → r32 k = s3 k ∧ r32 (9 + k) = s15 k
def r_sc (b : Nat) (kl to li ss ti sn de dr re y5 y6 y7 y9 y8 y10 y11 y12 y13 : Int32) : Prop := (kl = y5 ∧ 1 ≤ y5.toInt ∧ y5.toInt ≤ 20) ∧ (to = y6 ∧ 1 ≤ y6.toInt ∧ y6.toInt ≤ 9) ∧ li = y7 ∧ ss = y9 ∧ (ti = y8 ∧ 0 ≤ y8.toInt ∧ y8.toInt ≤ b) ∧ sn = y10 ∧ de = y11 ∧ dr = y12 ∧ re = y13
abbrev RE (s b e : Nat) (m S : gm_Mem) : Prop :=
  r_end e (m 1 e) (m 2 e) (m 4 e) (S (2 + 12 * e) 0) (S (2 + 12 * e) 8) (S (2 + 12 * e) 9) (S (2 + 12 * e) 10) ∧
  r_out s e (m 0 4) (m 14 e) (m 15 e) (m 18 e) (m 20) (m 21) (m 22) (m 23) (S (4 + 12 * e)) (S (5 + 12 * e)) (S (6 + 12 * e)) ∧
  r_in s e (m 13 e) (m 16 e) (m 17 e) (m 19) (m 24) (m 25) (m 26) (S (7 + 12 * e)) (S (8 + 12 * e)) (S (9 + 12 * e)) (S (10 + 12 * e)) (S (11 + 12 * e)) ∧
  r_win b (m 5 e) (m 6 e) (m 7 e) (m 8 e) (m 9 e) (m 10 e) (m 11 e) (m 12 e) (S (2 + 12 * e) 6) (S (2 + 12 * e) 7) (S (2 + 12 * e) 11) (S (2 + 12 * e) 12) (S (2 + 12 * e) 13) (S (12 + 12 * e)) (S (13 + 12 * e))
abbrev Rc (s b o : Nat) (m S : gm_Mem) : Prop :=
  r_sc b (m 0 0) (m 0 1) (m 0 2) (m 0 3) (m 0 4) (m 0 5) (m 0 6) (m 0 7) (m 0 8) (S 1 5) (S 1 6) (S 1 7) (S 1 9) (S 1 8) (S 1 10) (S 1 11) (S 1 12) (S 1 13) ∧
  r_log (m 29) (m 0 42) (S 55) (S 56) (S 57) (S 58) ∧
  r_net s b o (m 30) (m 0 45) (S 26) (S 27) S ∧
  r_tick (m 0 38) (m 27) (m 28) (S 52) (S 53) (S 54) ∧
  r_res (m 32) (S 3) (S 15) ∧
  r_e0 (m 3 0) (m 0 35) (m 0 36) (m 0 37) (S 2 15) (S 2 14) (S 2 16) (S 2 17) ∧
  RE s b 0 m S ∧ RE s b 1 m S
theorem Rc.re {s b o e : Nat} {m S : gm_Mem} (h : Rc s b o m S) (he : e = 0 ∨ e = 1) : RE s b e m S := by
  obtain ⟨-, -, -, -, -, -, h0, h1⟩ := h
  rcases he with rfl | rfl
  · exact h0
  · exact h1
theorem r_net.cg {s b o : Nat} {mn : Nat → Int32} {pk : Int32} {nw ar : Nat → Int32} {P Q : gm_Mem} (h : r_net s b o mn pk nw ar P) (hq : ∀ p, 28 ≤ p → p < 52 → Q p = P p) : r_net s b o mn pk nw ar Q := by
  obtain ⟨n, pi, h1, h2, h3, h4, h5, h6, h7⟩ := h
  exact ⟨n, pi, h1, h2, h3, h4, h5, fun i hi k hk => by rw [hq (pi i) (h4 i (by omega)).1 (h4 i (by omega)).2.1]; exact h6 i hi k hk, h7⟩
theorem r_net.u {s b o : Nat} {mn : Nat → Int32} {pk : Int32} {nw ar : Nat → Int32} {P : gm_Mem} {q k : Nat} {x : Int32} (hq : q < 28 ∨ 52 ≤ q) (h : r_net s b o mn pk nw ar P) : r_net s b o mn pk nw ar (gm_u P q k x) :=
  h.cg (fun p h1 h2 => by simp only [gm_u]; exact if_neg (by omega))
theorem r_net.up {s b o : Nat} {mn : Nat → Int32} {pk : Int32} {nw ar : Nat → Int32} {P : gm_Mem} {q : Nat} {r : Nat → Int32} (hq : q < 28 ∨ 52 ≤ q) (h : r_net s b o mn pk nw ar P) : r_net s b o mn pk nw ar (va_up P q r) :=
  h.cg (fun p h1 h2 => by simp only [va_up]; exact if_neg (by omega))
theorem r_pk.le {s b s2 b2 : Nat} {f : Nat → Int32} (h : r_pk s b f) (hs : s ≤ s2) (hb : b ≤ b2) : r_pk s2 b2 f := by
  obtain ⟨h1, h2, h3, h4, h5⟩ := h
  exact ⟨h1, h2, fun q => ⟨⟨(h3 q).1.1, by have := (h3 q).1.2; omega⟩, (h3 q).2.1, (h3 q).2.2.1, by have := (h3 q).2.2.2; omega⟩, fun q => ⟨(h4 q).1, by have := (h4 q).2; omega⟩, h5⟩
theorem r_net.le {s b o s2 b2 : Nat} {mn : Nat → Int32} {pk : Int32} {nw ar : Nat → Int32} {P : gm_Mem} (h : r_net s b o mn pk nw ar P) (hs : s ≤ s2) (hb : b ≤ b2) : r_net s2 b2 o mn pk nw ar P := by
  obtain ⟨n, pi, h1, h2, h3, h4, h5, h6, h7⟩ := h
  exact ⟨n, pi, h1, h2, h3, h4, h5, h6, fun i hi => (h7 i hi).le hs hb⟩
theorem r_out.le {s s2 e : Nat} {ti kn kc km : Int32} {r20 r21 r22 r23 ob va st : Nat → Int32} (h : r_out s e ti kn kc km r20 r21 r22 r23 ob va st) (hs : s ≤ s2) : r_out s2 e ti kn kc km r20 r21 r22 r23 ob va st := by
  obtain ⟨n, lo, h1, h2, h3⟩ := h
  exact ⟨n, lo, h1, by omega, h3⟩
theorem r_out.time {s e : Nat} {ti t2 kn kc km : Int32} {r20 r21 r22 r23 ob va st : Nat → Int32} (h : r_out s e ti kn kc km r20 r21 r22 r23 ob va st) (ht : ti.toInt ≤ t2.toInt) : r_out s e t2 kn kc km r20 r21 r22 r23 ob va st := by
  obtain ⟨n, lo, h1, h2, h3, h4, h5, h6, h7, h8, h9⟩ := h
  exact ⟨n, lo, h1, h2, h3, h4, h5, h6, h7, h8, fun k hk => ⟨(h9 k hk).1, (h9 k hk).2.1, (h9 k hk).2.2.1, (h9 k hk).2.2.2.1, (h9 k hk).2.2.2.2.elim Or.inl (fun q => Or.inr ⟨q.1, by omega⟩)⟩⟩
theorem r_in.le {s s2 e : Nat} {me ct tm : Int32} {r19 r24 r25 r26 ib tv wa wc wv : Nat → Int32} (h : r_in s e me ct tm r19 r24 r25 r26 ib tv wa wc wv) (hs : s ≤ s2) : r_in s2 e me ct tm r19 r24 r25 r26 ib tv wa wc wv := by
  obtain ⟨ex, t, h1, h2, h3, h4, h5, h6, h7, h8, h9, h10, h11, h12⟩ := h
  exact ⟨ex, t, by omega, h2, h3, h4, h5, h6, h7, h8, h9, h10, h11, fun d a b c => by have := h12 d a b c; omega⟩
theorem r_win.le {b b2 : Nat} {se sq ep hi ac oh oa ol x6 x7 x11 x12 x13 : Int32} {w pv : Nat → Int32} (h : r_win b se sq ep hi ac oh oa ol x6 x7 x11 x12 x13 w pv) (hb : b ≤ b2) : r_win b2 se sq ep hi ac oh oa ol x6 x7 x11 x12 x13 w pv := by
  obtain ⟨h1, h2, h3, h4, h5, h6, h7⟩ := h
  exact ⟨h1, ⟨h2.1, by omega⟩, h3, h4, h5, ⟨h6.1, by omega⟩, h7⟩
theorem RE.le {s b s2 b2 e : Nat} {m S : gm_Mem} (h : RE s b e m S) (hs : s ≤ s2) (hb : b ≤ b2) : RE s2 b2 e m S := ⟨h.1, h.2.1.le hs, h.2.2.1.le hs, h.2.2.2.le hb⟩
theorem Rc.le {s b s2 b2 o : Nat} {m S : gm_Mem} (h : Rc s b o m S) (hs : s ≤ s2) (hb : b ≤ b2) : Rc s2 b2 o m S := by
  obtain ⟨⟨a1, a2, a3, a4, a5, a6⟩, hl, hn, ht, hr, he, h0, h1⟩ := h
  exact ⟨⟨a1, a2, a3, a4, ⟨a5.1, a5.2.1, by omega⟩, a6⟩, hl, hn.le hs hb, ht, hr, he, RE.le h0 hs hb, RE.le h1 hs hb⟩
/-- frames: a write that keeps what isn't an operation's -/
theorem r_FM.u {m a : gm_Mem} {p k : Nat} {x : Int32} (h : r_FM m a) (hp : p ≠ 31 ∧ (p < 33 ∨ 38 ≤ p) ∧ (p = 0 → k < 51)) : r_FM m (gm_u a p k x) := by
  have f : ∀ q, q ≠ p → gm_u a p k x q = a q := fun q hq => by simp [gm_u, hq]
  have g : ∀ j, 51 ≤ j → gm_u a p k x 0 j = a 0 j := fun j hj => by
    by_cases h0 : 0 = p
    · have := hp.2.2 h0.symm
      simp only [gm_u, if_pos h0]
      rw [if_neg (by omega), ← h0]
    · rw [f 0 h0]
  exact h.tr ⟨f _ (by omega), f _ (by omega), f _ (by omega), f _ (by omega), f _ (by omega), f _ (by omega), g _ (by decide), g _ (by decide), g _ (by decide), g _ (by decide)⟩
theorem r_FM.up {m a : gm_Mem} {p : Nat} {r : Nat → Int32} (h : r_FM m a) (hp : p ≠ 31 ∧ (p < 33 ∨ 38 ≤ p) ∧ p ≠ 0) : r_FM m (va_up a p r) := by
  have f : ∀ q, q ≠ p → va_up a p r q = a q := fun q hq => by simp [va_up, hq]
  have f0 : va_up a p r 0 = a 0 := f 0 (by omega)
  exact h.tr ⟨f _ (by omega), f _ (by omega), f _ (by omega), f _ (by omega), f _ (by omega), f _ (by omega), congrFun f0 _, congrFun f0 _, congrFun f0 _, congrFun f0 _⟩
theorem r_FC.u {S a : gm_Mem} {p k : Nat} {x : Int32} (h : r_FC S a) (hp : 0 < p ∧ p < 59) : r_FC S (gm_u a p k x) :=
  h.tr ⟨fun q hq => by simp only [gm_u]; exact if_neg (by omega), by simp only [gm_u]; exact if_neg (by omega)⟩
theorem r_FC.up {S a : gm_Mem} {p : Nat} {r : Nat → Int32} (h : r_FC S a) (hp : 0 < p ∧ p < 59) : r_FC S (va_up a p r) :=
  h.tr ⟨fun q hq => by simp only [va_up]; exact if_neg (by omega), by simp only [va_up]; exact if_neg (by omega)⟩
/-- a truth as an int -/
def b2i (c : Prop) [Decidable c] : Int32 := if c then 1 else 0
theorem b2i_t {c : Prop} [Decidable c] (h : c) : b2i c = 1 := if_pos h
theorem b2i_f {c : Prop} [Decidable c] (h : ¬ c) : b2i c = 0 := if_neg h
theorem b2i_n {c : Prop} [Decidable c] (h : c) : ¬ b2i c = 0 := by rw [b2i_t h]; decide
theorem b2i_fit {c : Prop} [Decidable c] : gm_fit .boolean (b2i c) := by
  by_cases h : c
  · rw [b2i_t h]; exact gm_fit_1
  · rw [b2i_f h]; exact gm_fit_0
