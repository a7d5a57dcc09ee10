/-! The relation depends on the rows' own lengths alone -/
theorem r_log.len {ml ml2 lg ty fi se lg2 ty2 fi2 se2 : Nat → Int32} {ev ev2 : Int32} (h : r_log ml ev lg ty fi se) (h0 : ev2 = ev) (h1 : ∀ j, j < 90 → ml2 j = ml j) (h2 : ∀ k, k < 18 → lg2 k = lg k) (h3 : ∀ j, j < 30 → ty2 j = ty j) (h4 : ∀ j, j < 30 → fi2 j = fi j) (h5 : ∀ j, j < 30 → se2 j = se j) : r_log ml2 ev2 lg2 ty2 fi2 se2 := by
  obtain ⟨n, la, a1, a2, a3, a4, a5, a6⟩ := h
  refine ⟨n, la, a1, a2, h0.trans a3, (h2 3 (by decide)).trans a4, (h2 4 (by decide)).trans a5, fun i hi => ?_⟩
  have hm : (la + 30 - i) % 30 < 30 := Nat.mod_lt _ (by decide)
  rw [h1 _ (by omega), h1 _ (by omega), h1 _ (by omega), h3 _ hm, h4 _ hm, h5 _ hm]
  exact a6 i hi
theorem r_net.len {s b o : Nat} {mn mn2 nw ar nw2 ar2 : Nat → Int32} {pk pk2 : Int32} {P P2 : gm_Mem} (h : r_net s b o mn pk nw ar P) (h0 : pk2 = pk) (h1 : ∀ j, j < 216 → mn2 j = mn j) (h2 : nw2 1 = nw 1) (h3 : ∀ j, j < 24 → ar2 j = ar j) (h4 : ∀ p k, 28 ≤ p → p < 52 → k < 9 → P2 p k = P p k) : r_net s b o mn2 pk2 nw2 ar2 P2 := by
  obtain ⟨n, pi, a1, a2, a3, a4, a5, a6, a7⟩ := h
  refine ⟨n, pi, a1, h0.trans a2, h2.trans a3, fun i hi => ⟨(a4 i hi).1, (a4 i hi).2.1, (h3 i hi).trans (a4 i hi).2.2⟩, a5, fun i hi k hk => ?_, fun i hi => ?_⟩
  · rw [h4 _ k (a4 i (by omega)).1 (a4 i (by omega)).2.1 hk, h1 _ (by omega)]
    exact a6 i hi k hk
  · obtain ⟨b1, b2, b3, b4, b5⟩ := a7 i hi
    have g : ∀ k, k < 9 → mn2 (9 * i + k) = mn (9 * i + k) := fun k hk => h1 _ (by omega)
    refine ⟨?_, ?_, ?_, ?_, ?_⟩ <;> simp only [g 0 (by decide), g 1 (by decide), g 3 (by decide), g 4 (by decide), g 5 (by decide), g 7 (by decide)] <;> assumption
theorem r_tick.len {is is2 : Int32} {r27 r28 tk it us u27 u28 tk2 it2 us2 : Nat → Int32} (h : r_tick is r27 r28 tk it us) (h0 : is2 = is) (h1 : ∀ j, j < 16 → u27 j = r27 j) (h2 : ∀ j, j < 16 → u28 j = r28 j) (h3 : tk2 2 = tk 2) (h4 : ∀ j, j < 16 → it2 j = it j) (h5 : ∀ j, j < 16 → us2 j = us j) : r_tick is2 u27 u28 tk2 it2 us2 := by
  obtain ⟨i, a1, a2, a3, a4, a5, a6⟩ := h
  refine ⟨i, a1, h0.trans a2, h3.trans a3, fun t ht => ?_, fun t ht => ?_, fun t h1' h2' => ?_⟩
  · rw [h1 t (by omega), h2 t (by omega), h4 t (by omega), h5 t (by omega)]
    exact a4 t ht
  · rw [h5 t ht]
    exact a5 t ht
  · rw [h5 t h2']
    exact a6 t h1' h2'
theorem r_out.len {s e : Nat} {ti kn kc km ti2 kn2 kc2 km2 : Int32} {r20 r21 r22 r23 ob va st u20 u21 u22 u23 ob2 va2 st2 : Nat → Int32} (h : r_out s e ti kn kc km r20 r21 r22 r23 ob va st) (he : e = 0 ∨ e = 1) (h0 : ti2 = ti) (h1 : kn2 = kn) (h2 : kc2 = kc) (h3 : km2 = km) (k0 : ∀ j, j < 32 → u20 j = r20 j) (k1 : ∀ j, j < 32 → u21 j = r21 j) (k2 : ∀ j, j < 32 → u22 j = r22 j) (k3 : ∀ j, j < 32 → u23 j = r23 j) (o : ∀ k, k < 18 → ob2 k = ob k) (v : ∀ j, j < 16 → va2 j = va j) (w : ∀ j, j < 16 → st2 j = st j) : r_out s e ti2 kn2 kc2 km2 u20 u21 u22 u23 ob2 va2 st2 := by
  subst h0 h1 h2 h3
  obtain ⟨n, lo, a1, a2, a3, a4, a5, a6, a7, a8, a9⟩ := h
  refine ⟨n, lo, a1, a2, a3, a4, (o 2 (by decide)).trans a5, (o 3 (by decide)).trans a6, (o 4 (by decide)).trans a7, a8, fun k hk => ?_⟩
  rw [k0 _ (by omega), k1 _ (by omega), k2 _ (by omega), k3 _ (by omega), v k (by omega), w k (by omega)]
  exact a9 k hk
theorem r_in.len {s e : Nat} {me ct tm me2 ct2 tm2 : Int32} {r19 r24 r25 r26 ib tv wa wc wv u19 u24 u25 u26 ib2 tv2 wa2 wc2 wv2 : Nat → Int32} (h : r_in s e me ct tm r19 r24 r25 r26 ib tv wa wc wv) (hs : s ≤ 512) (he : e = 0 ∨ e = 1) (h0 : me2 = me) (h1 : ct2 = ct) (h2 : tm2 = tm) (k0 : ∀ j, j < 2400 → u19 j = r19 j) (k1 : ∀ j, j < 8 → u24 j = r24 j) (k2 : ∀ j, j < 8 → u25 j = r25 j) (k3 : ∀ j, j < 8 → u26 j = r26 j) (o : ∀ k, k < 18 → ib2 k = ib k) (v : ∀ j, j < 512 → tv2 j = tv j) (w1 : ∀ j, j < 4 → wa2 j = wa j) (w2 : ∀ j, j < 4 → wc2 j = wc j) (w3 : ∀ j, j < 4 → wv2 j = wv j) : r_in s e me2 ct2 tm2 u19 u24 u25 u26 ib2 tv2 wa2 wc2 wv2 := by
  subst h0 h1 h2
  obtain ⟨ex, t, a1, a2, a3, a4, a5, a6, a7, a8, a9, a10, a11, a12⟩ := h
  refine ⟨ex, t, a1, a2, a3, (o 5 (by decide)).trans a4, a5, (o 4 (by decide)).trans a6, (o 6 (by decide)).trans a7, a8, fun i hi => ?_, fun j hj => ?_, fun hc => ?_, fun d h1 h2 hw => ?_⟩
  · rw [k0 _ (by omega), v i (by omega)]
    exact a9 i hi
  · rw [k1 _ (by omega), k2 _ (by omega), k3 _ (by omega), w1 j hj, w2 j hj, w3 j hj]
    exact a10 j hj
  · rw [w1 _ (Nat.mod_lt _ (by decide))]
    exact a11 hc
  · rw [w1 _ (Nat.mod_lt _ (by decide))] at hw
    exact a12 d h1 h2 hw
