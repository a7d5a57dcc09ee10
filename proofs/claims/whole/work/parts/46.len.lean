/-! The relation depends on the rows' own lengths alone -/
theorem r_log.len {ml ml2 lg ty fi se lg2 ty2 fi2 se2 : Nat → Int32} {ev ev2 : Int32} (h : r_log ml ev lg ty fi se) (h0 : ev2 = ev) (h1 : ∀ j, j < 90 → ml2 j = ml j) (h23 : lg2 3 = lg 3) (h24 : lg2 4 = lg 4) (h3 : ∀ j, j < 30 → ty2 j = ty j) (h4 : ∀ j, j < 30 → fi2 j = fi j) (h5 : ∀ j, j < 30 → se2 j = se j) : r_log ml2 ev2 lg2 ty2 fi2 se2 := by
  obtain ⟨n, la, a1, a2, a3, a4, a5, a6⟩ := h
  refine ⟨n, la, a1, a2, h0.trans a3, h23.trans a4, h24.trans a5, fun i hi => ?_⟩
  have hm : (la + 30 - i) % 30 < 30 := Nat.mod_lt _ (by decide)
  rw [h1 _ (by omega), h1 _ (by omega), h1 _ (by omega), h3 _ hm, h4 _ hm, h5 _ hm]
  exact a6 i hi
theorem r_net.len {s b o : Nat} {mn mn2 nw ar nw2 ar2 : Nat → Int32} {pk pk2 : Int32} {P P2 : gm_Mem} (h : r_net s b o mn pk nw ar P) (h0 : pk2 = pk) (h1 : ∀ j, j < 216 → mn2 j = mn j) (h2 : nw2 1 = nw 1) (h3 : ∀ j, j < 24 → ar2 j = ar j) (h4 : ∀ p k, 28 ≤ p → p < 52 → k < 9 → P2 p k = P p k) : r_net s b o mn2 pk2 nw2 ar2 P2 := by
  obtain ⟨n, pi, a1, a2, a3, a4, a5, a6, a7⟩ := h
  refine ⟨n, pi, a1, h0.trans a2, h2.trans a3, fun i hi => ⟨(a4 i hi).1, (a4 i hi).2.1, (h3 i hi).trans (a4 i hi).2.2⟩, a5, fun i hi k hk => ?_, fun i hi => ?_⟩
  · rw [h4 _ k (a4 i (by omega)).1 (a4 i (by omega)).2.1 hk, h1 _ (by omega)]
    exact a6 i hi k hk
  · obtain ⟨b1, b2, b3, b4, b5⟩ := a7 i hi
    have g : ∀ k, k < 9 → mn2 (9 * i + k) = mn (9 * i + k) := fun k hk => h1 _ (by omega)
    refine ⟨?_, ?_, ?_, ?_, ?_⟩ <;> simp only [g 0 (by decide), g 1 (by decide), g 3 (by decide), g 4 (by decide), g 5 (by decide), g 7 (by decide)] <;> assumption
theorem r_tick.len {is is2 : Int32} {r27 r28 tk it us u27 u28 tk2 it2 us2 : Nat → Int32} (h : r_tick is r27 r28 tk it us) (h0 : is2 = is) (h1 : ∀ j, j < 16 → u27 j = r27 j) (h2 : ∀ j, j < 16 → u28 j = r28 j) (h3 : tk2 2 = tk 2) (h4 : ∀ j, j < 16 → it2 j = it j) (h5 : ∀ j, j < 16 → us2 j = us j) : r_tick is2 u27 u28 tk2 it2 us2 := by
  obtain ⟨i, a1, a2, a3, a4, a5, a6⟩ := h
  refine ⟨i, a1, h0.trans a2, h3.trans a3, fun t ht => ?_, fun t ht => ?_, fun t h1' h2' => ?_⟩
  · rw [h1 t (by omega), h2 t (by omega), h4 t (by omega), h5 t (by omega)]
    exact a4 t ht
  · rw [h5 t ht]
    exact a5 t ht
  · rw [h5 t h2']
    exact a6 t h1' h2'
theorem r_out.len {s e : Nat} {ti kn kc km ti2 kn2 kc2 km2 : Int32} {r20 r21 r22 r23 ob va st u20 u21 u22 u23 ob2 va2 st2 : Nat → Int32} (h : r_out s e ti kn kc km r20 r21 r22 r23 ob va st) (he : e = 0 ∨ e = 1) (h0 : ti2 = ti) (h1 : kn2 = kn) (h2 : kc2 = kc) (h3 : km2 = km) (k0 : ∀ j, j < 32 → u20 j = r20 j) (k1 : ∀ j, j < 32 → u21 j = r21 j) (k2 : ∀ j, j < 32 → u22 j = r22 j) (k3 : ∀ j, j < 32 → u23 j = r23 j) (o2 : ob2 2 = ob 2) (o3 : ob2 3 = ob 3) (o4 : ob2 4 = ob 4) (v : ∀ j, j < 16 → va2 j = va j) (w : ∀ j, j < 16 → st2 j = st j) : r_out s e ti2 kn2 kc2 km2 u20 u21 u22 u23 ob2 va2 st2 := by
  subst h0 h1 h2 h3
  obtain ⟨n, lo, a1, a2, a3, a4, a5, a6, a7, a8, a9⟩ := h
  refine ⟨n, lo, a1, a2, a3, a4, o2.trans a5, o3.trans a6, o4.trans a7, a8, fun k hk => ?_⟩
  rw [k0 _ (by omega), k1 _ (by omega), k2 _ (by omega), k3 _ (by omega), v k (by omega), w k (by omega)]
  exact a9 k hk
theorem r_in.len {s e : Nat} {me ct tm me2 ct2 tm2 : Int32} {r19 r24 r25 r26 ib tv wa wc wv u19 u24 u25 u26 ib2 tv2 wa2 wc2 wv2 : Nat → Int32} (h : r_in s e me ct tm r19 r24 r25 r26 ib tv wa wc wv) (hs : s ≤ 512) (he : e = 0 ∨ e = 1) (h0 : me2 = me) (h1 : ct2 = ct) (h2 : tm2 = tm) (k0 : ∀ j, j < 2400 → u19 j = r19 j) (k1 : ∀ j, j < 8 → u24 j = r24 j) (k2 : ∀ j, j < 8 → u25 j = r25 j) (k3 : ∀ j, j < 8 → u26 j = r26 j) (o4 : ib2 4 = ib 4) (o5 : ib2 5 = ib 5) (o6 : ib2 6 = ib 6) (v : ∀ j, j < 512 → tv2 j = tv j) (w1 : ∀ j, j < 4 → wa2 j = wa j) (w2 : ∀ j, j < 4 → wc2 j = wc j) (w3 : ∀ j, j < 4 → wv2 j = wv j) : r_in s e me2 ct2 tm2 u19 u24 u25 u26 ib2 tv2 wa2 wc2 wv2 := by
  subst h0 h1 h2
  obtain ⟨ex, t, a1, a2, a3, a4, a5, a6, a7, a8, a9, a10, a11, a12⟩ := h
  refine ⟨ex, t, a1, a2, a3, o5.trans a4, a5, o4.trans a6, o6.trans a7, a8, fun i hi => ?_, fun j hj => ?_, fun hc => ?_, fun d h1 h2 hw => ?_⟩
  · rw [k0 _ (by omega), v i (by omega)]
    exact a9 i hi
  · rw [k1 _ (by omega), k2 _ (by omega), k3 _ (by omega), w1 j hj, w2 j hj, w3 j hj]
    exact a10 j hj
  · rw [w1 _ (Nat.mod_lt _ (by decide))]
    exact a11 hc
  · rw [w1 _ (Nat.mod_lt _ (by decide))] at hw
    exact a12 d h1 h2 hw
def lenM (p : Nat) : Nat := if p < 19 then 2 else if p = 19 then 2400 else if p < 24 then 32 else if p < 27 then 8 else if p < 29 then 16 else if p = 29 then 90 else if p = 30 then 216 else 18
def lenC (p : Nat) : Nat := if p = 3 ∨ p = 15 then 9 else if p = 5 ∨ p = 6 ∨ p = 17 ∨ p = 18 then 16 else if p = 8 ∨ p = 20 then 512 else if p = 9 ∨ p = 10 ∨ p = 11 ∨ p = 21 ∨ p = 22 ∨ p = 23 then 4 else if p = 27 then 24 else if 28 ≤ p ∧ p < 52 then 9 else if p = 53 ∨ p = 54 then 16 else if p = 56 ∨ p = 57 ∨ p = 58 then 30 else 18
def usC (p j : Nat) : Bool := if 27 ≤ p && p < 52 then false else if p = 1 then 5 ≤ j && j < 14 else if p = 2 || p = 14 then j == 0 || (6 ≤ j && j < 18) else if p = 4 || p = 16 then 2 ≤ j && j < 5 else if p = 7 || p = 19 then 4 ≤ j && j < 7 else if p = 12 || p = 13 || p = 24 || p = 25 then j < 2 else if p = 26 then j == 1 else if p = 52 then j == 2 else if p = 55 then j == 3 || j == 4 else decide (j < lenC p)
def fldM (k : Nat) : Prop := k < 9 ∨ (35 ≤ k ∧ k < 39) ∨ k = 42 ∨ k = 45
theorem r_wn.len {hi ac ch cs hi2 ac2 ch2 cs2 : Int32} (h : r_wn hi ac ch cs) (h0 : hi2 = hi) (h1 : ac2 = ac) (h2 : ch2 = ch) (h3 : cs2 = cs) : r_wn hi2 ac2 ch2 cs2 := by
  subst h0 h1 h2 h3
  exact h
theorem RE.len {s b e : Nat} {m m2 S S2 : gm_Mem} (h : RE s b e m S) (hs : s ≤ 512) (he : e = 0 ∨ e = 1) (f1 : ∀ p j, 1 ≤ p → p < 31 → j < lenM p → m2 p j = m p j) (f2 : ∀ k, fldM k → m2 0 k = m 0 k) (f3 : ∀ p j, 1 ≤ p → p < 59 → usC p j = true → S2 p j = S p j) : RE s b e m2 S2 := by
  have t4 : m2 0 4 = m 0 4 := f2 4 (Or.inl (by decide))
  have hx (p : Nat) (h1 : 1 ≤ p) (h2 : p < 19) : m2 p e = m p e := f1 p e h1 (by omega) (by unfold lenM; rw [if_pos h2]; omega)
  rcases he with rfl | rfl
  · obtain ⟨a1, a2, a3, a4⟩ := h
    refine ⟨?_, ?_, ?_, ?_⟩
    · rw [hx 1 (by decide) (by decide), hx 2 (by decide) (by decide), hx 4 (by decide) (by decide), f3 (2 + 12 * 0) 0 (by decide) (by decide) (by decide), f3 (2 + 12 * 0) 8 (by decide) (by decide) (by decide), f3 (2 + 12 * 0) 9 (by decide) (by decide) (by decide), f3 (2 + 12 * 0) 10 (by decide) (by decide) (by decide)]
      exact a1
    · exact a2.len (Or.inl rfl) t4 (hx 14 (by decide) (by decide)) (hx 15 (by decide) (by decide)) (hx 18 (by decide) (by decide)) (fun j hj => f1 20 j (by decide) (by decide) hj) (fun j hj => f1 21 j (by decide) (by decide) hj) (fun j hj => f1 22 j (by decide) (by decide) hj) (fun j hj => f1 23 j (by decide) (by decide) hj) (f3 4 2 (by decide) (by decide) rfl) (f3 4 3 (by decide) (by decide) rfl) (f3 4 4 (by decide) (by decide) rfl) (fun j hj => f3 5 j (by decide) (by decide) (decide_eq_true hj)) (fun j hj => f3 6 j (by decide) (by decide) (decide_eq_true hj))
    · exact a3.len hs (Or.inl rfl) (hx 13 (by decide) (by decide)) (hx 16 (by decide) (by decide)) (hx 17 (by decide) (by decide)) (fun j hj => f1 19 j (by decide) (by decide) hj) (fun j hj => f1 24 j (by decide) (by decide) hj) (fun j hj => f1 25 j (by decide) (by decide) hj) (fun j hj => f1 26 j (by decide) (by decide) hj) (f3 7 4 (by decide) (by decide) rfl) (f3 7 5 (by decide) (by decide) rfl) (f3 7 6 (by decide) (by decide) rfl) (fun j hj => f3 8 j (by decide) (by decide) (decide_eq_true hj)) (fun j hj => f3 9 j (by decide) (by decide) (decide_eq_true hj)) (fun j hj => f3 10 j (by decide) (by decide) (decide_eq_true hj)) (fun j hj => f3 11 j (by decide) (by decide) (decide_eq_true hj))
    · obtain ⟨b1, b2, b3, b4, b5, b6, b7, b8⟩ := a4
      unfold r_win
      rw [hx 5 (by decide) (by decide), hx 6 (by decide) (by decide), hx 7 (by decide) (by decide), hx 8 (by decide) (by decide), hx 9 (by decide) (by decide), hx 10 (by decide) (by decide), hx 11 (by decide) (by decide), hx 12 (by decide) (by decide), f3 (2 + 12 * 0) 6 (by decide) (by decide) (by decide), f3 (2 + 12 * 0) 7 (by decide) (by decide) (by decide), f3 (2 + 12 * 0) 11 (by decide) (by decide) (by decide), f3 (2 + 12 * 0) 12 (by decide) (by decide) (by decide), f3 (2 + 12 * 0) 13 (by decide) (by decide) (by decide), f3 (12 + 12 * 0) 0 (by decide) (by decide) (by decide), f3 (12 + 12 * 0) 1 (by decide) (by decide) (by decide), f3 (13 + 12 * 0) 0 (by decide) (by decide) (by decide), f3 (13 + 12 * 0) 1 (by decide) (by decide) (by decide)]
      exact ⟨b1, b2, b3, b4, b5, b6, b7, b8⟩
  · obtain ⟨a1, a2, a3, a4⟩ := h
    refine ⟨?_, ?_, ?_, ?_⟩
    · rw [hx 1 (by decide) (by decide), hx 2 (by decide) (by decide), hx 4 (by decide) (by decide), f3 (2 + 12 * 1) 0 (by decide) (by decide) (by decide), f3 (2 + 12 * 1) 8 (by decide) (by decide) (by decide), f3 (2 + 12 * 1) 9 (by decide) (by decide) (by decide), f3 (2 + 12 * 1) 10 (by decide) (by decide) (by decide)]
      exact a1
    · exact a2.len (Or.inr rfl) t4 (hx 14 (by decide) (by decide)) (hx 15 (by decide) (by decide)) (hx 18 (by decide) (by decide)) (fun j hj => f1 20 j (by decide) (by decide) hj) (fun j hj => f1 21 j (by decide) (by decide) hj) (fun j hj => f1 22 j (by decide) (by decide) hj) (fun j hj => f1 23 j (by decide) (by decide) hj) (f3 16 2 (by decide) (by decide) rfl) (f3 16 3 (by decide) (by decide) rfl) (f3 16 4 (by decide) (by decide) rfl) (fun j hj => f3 17 j (by decide) (by decide) (decide_eq_true hj)) (fun j hj => f3 18 j (by decide) (by decide) (decide_eq_true hj))
    · exact a3.len hs (Or.inr rfl) (hx 13 (by decide) (by decide)) (hx 16 (by decide) (by decide)) (hx 17 (by decide) (by decide)) (fun j hj => f1 19 j (by decide) (by decide) hj) (fun j hj => f1 24 j (by decide) (by decide) hj) (fun j hj => f1 25 j (by decide) (by decide) hj) (fun j hj => f1 26 j (by decide) (by decide) hj) (f3 19 4 (by decide) (by decide) rfl) (f3 19 5 (by decide) (by decide) rfl) (f3 19 6 (by decide) (by decide) rfl) (fun j hj => f3 20 j (by decide) (by decide) (decide_eq_true hj)) (fun j hj => f3 21 j (by decide) (by decide) (decide_eq_true hj)) (fun j hj => f3 22 j (by decide) (by decide) (decide_eq_true hj)) (fun j hj => f3 23 j (by decide) (by decide) (decide_eq_true hj))
    · obtain ⟨b1, b2, b3, b4, b5, b6, b7, b8⟩ := a4
      unfold r_win
      rw [hx 5 (by decide) (by decide), hx 6 (by decide) (by decide), hx 7 (by decide) (by decide), hx 8 (by decide) (by decide), hx 9 (by decide) (by decide), hx 10 (by decide) (by decide), hx 11 (by decide) (by decide), hx 12 (by decide) (by decide), f3 (2 + 12 * 1) 6 (by decide) (by decide) (by decide), f3 (2 + 12 * 1) 7 (by decide) (by decide) (by decide), f3 (2 + 12 * 1) 11 (by decide) (by decide) (by decide), f3 (2 + 12 * 1) 12 (by decide) (by decide) (by decide), f3 (2 + 12 * 1) 13 (by decide) (by decide) (by decide), f3 (12 + 12 * 1) 0 (by decide) (by decide) (by decide), f3 (12 + 12 * 1) 1 (by decide) (by decide) (by decide), f3 (13 + 12 * 1) 0 (by decide) (by decide) (by decide), f3 (13 + 12 * 1) 1 (by decide) (by decide) (by decide)]
      exact ⟨b1, b2, b3, b4, b5, b6, b7, b8⟩
theorem Rc.len {s b o o2 : Nat} {m m2 S S2 : gm_Mem} (h : Rc s b o m S) (hs : s ≤ 512) (f1 : ∀ p j, 1 ≤ p → p < 31 → j < lenM p → m2 p j = m p j) (f32 : ∀ j, j < 18 → m2 32 j = m 32 j) (f2 : ∀ k, fldM k → m2 0 k = m 0 k) (f3 : ∀ p j, 1 ≤ p → p < 59 → usC p j = true → S2 p j = S p j) (fn : r_net s b o2 (m2 30) (m2 0 45) (S2 26) (S2 27) S2) : Rc s b o2 m2 S2 := by
  have g0 := RE.len h.2.2.2.2.2.2.1 hs (Or.inl rfl) f1 f2 f3
  have g1 := RE.len h.2.2.2.2.2.2.2 hs (Or.inr rfl) f1 f2 f3
  obtain ⟨hsc, hl, hn, ht, hr, h0, -, -⟩ := h
  have fl (k : Nat) (hk : k < 9) : m2 0 k = m 0 k := f2 k (Or.inl hk)
  refine ⟨?_, ?_, ?_, ?_, ?_, ?_, g0, g1⟩
  · rw [fl 0 (by decide), fl 1 (by decide), fl 2 (by decide), fl 3 (by decide), fl 4 (by decide), fl 5 (by decide), fl 6 (by decide), fl 7 (by decide), fl 8 (by decide), f3 1 5 (by decide) (by decide) (by decide), f3 1 6 (by decide) (by decide) (by decide), f3 1 7 (by decide) (by decide) (by decide), f3 1 9 (by decide) (by decide) (by decide), f3 1 8 (by decide) (by decide) (by decide), f3 1 10 (by decide) (by decide) (by decide), f3 1 11 (by decide) (by decide) (by decide), f3 1 12 (by decide) (by decide) (by decide), f3 1 13 (by decide) (by decide) (by decide)]
    exact hsc
  · exact hl.len (f2 42 (Or.inr (Or.inr (Or.inl rfl)))) (fun j hj => f1 29 j (by decide) (by decide) hj) (f3 55 3 (by decide) (by decide) rfl) (f3 55 4 (by decide) (by decide) rfl) (fun j hj => f3 56 j (by decide) (by decide) (decide_eq_true hj)) (fun j hj => f3 57 j (by decide) (by decide) (decide_eq_true hj)) (fun j hj => f3 58 j (by decide) (by decide) (decide_eq_true hj))
  · exact fn
  · exact ht.len (f2 38 (Or.inr (Or.inl (by decide)))) (fun j hj => f1 27 j (by decide) (by decide) hj) (fun j hj => f1 28 j (by decide) (by decide) hj) (f3 52 2 (by decide) (by decide) (by decide)) (fun j hj => f3 53 j (by decide) (by decide) (decide_eq_true hj)) (fun j hj => f3 54 j (by decide) (by decide) (decide_eq_true hj))
  · intro k hk
    rw [f32 k (by omega), f32 (9 + k) (by omega), f3 3 k (by decide) (by decide) (decide_eq_true hk), f3 15 k (by decide) (by decide) (decide_eq_true hk)]
    exact hr k hk
  · rw [f1 3 0 (by decide) (by decide) (by decide), f2 35 (Or.inr (Or.inl (by decide))), f2 36 (Or.inr (Or.inl (by decide))), f2 37 (Or.inr (Or.inl (by decide))), f3 2 15 (by decide) (by decide) (by decide), f3 2 14 (by decide) (by decide) (by decide), f3 2 16 (by decide) (by decide) (by decide), f3 2 17 (by decide) (by decide) (by decide)]
    exact h0
