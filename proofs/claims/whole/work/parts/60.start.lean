/-! THE LAW, from its entry -/
theorem kn_known {s : State} {args : Array Value} (hts : ∀ w ∈ gm_TB, w.before args s = true) : ∃ D : va_G, ∀ k q, vwCl[k]? = some q → u_Kn s q.1 q.2.1 q.2.2 (D.1 k) (D.2 k) := by
  have H : ∀ (k : Nat) (q : vw_C), vwCl[k]? = some q → ∃ (cC : ClassId) (iS : Nat → Nat), u_Kn s q.1 q.2.1 q.2.2 cC iS := by
    intro k q hq
    match k, hq with
    | 0, hq => cases hq; exact u_known hts gm_inX0 (hts _ kn_isX0)
    | 1, hq => cases hq; exact u_known hts gm_inX1 (hts _ kn_isX1)
    | 2, hq => cases hq; exact u_known hts gm_inX2 (hts _ kn_isX2)
    | 3, hq => cases hq; exact u_known hts gm_inX3 (hts _ kn_isX3)
    | 4, hq => cases hq; exact u_known hts gm_inX4 (hts _ kn_isX4)
    | 5, hq => cases hq; exact u_known hts gm_inX5 (hts _ kn_isX5)
    | 6, hq => cases hq; exact u_known hts gm_inX6 (hts _ kn_isX6)
    | 7, hq => cases hq; exact u_known hts gm_inX7 (hts _ kn_isX7)
    | 8, hq => cases hq; exact u_known hts gm_inX8 (hts _ kn_isX8)
    | 9, hq => cases hq; exact u_known hts gm_inX9 (hts _ kn_isX9)
    | 10, hq => cases hq; exact u_known hts gm_inX10 (hts _ kn_isX10)
    | 11, hq => cases hq; exact u_known hts gm_inX11 (hts _ kn_isX11)
    | k + 12, hq => simp [vwCl] at hq
  have H2 : ∀ k : Nat, ∃ z : ClassId × (Nat → Nat), ∀ q, vwCl[k]? = some q → u_Kn s q.1 q.2.1 q.2.2 z.1 z.2 := by
    intro k
    cases hq : vwCl[k]? with
    | none => exact ⟨((0 : Nat), fun _ => 0), fun q h => by cases h⟩
    | some q =>
      obtain ⟨cC, iS, h⟩ := H k q hq
      exact ⟨(cC, iS), fun q' h' => by cases h'; exact h⟩
  obtain ⟨f, hf⟩ := Classical.axiomOfChoice H2
  exact ⟨(fun k => (f k).1, fun k => (f k).2), fun k q hq => hf k q hq⟩
theorem kn_arrs {s : State} {args : Array Value} (hts : ∀ w ∈ gm_TB, w.before args s = true) (hov : va_AO RX5 s) : ∃ ca : gm_Ar, ∀ (k : Nat) (q : ClassId × FieldType), (gm_Ty ca)[k]? = some q → ArrOfT s q.1 q.2 ∧ va_RA s q.1 q.2 := by
  obtain ⟨c1, k1, p1, a1, a2, a3⟩ := Cond.arrayClass_spec (hts _ kn_arr_int)
  obtain ⟨c2, k2, p2, b1, b2, b3⟩ := Cond.arrayClass_spec (hts _ kn_arr_boolean)
  obtain ⟨p3, c3, k3, d1, d2, d3, d4, d5⟩ := Cond.arrayOver_spec hov
  refine ⟨(c1, c2, c3), fun k q hk => ?_⟩
  match k, hk with
  | 0, hk => cases hk; exact ⟨fun n z => ⟨fun k h => (by cases h), k1, a2, p1, a3⟩, a1⟩
  | 1, hk => cases hk; exact ⟨fun n z => ⟨fun k h => (by cases h), k2, b2, p2, b3⟩, b1⟩
  | 2, hk => cases hk; exact ⟨fun n z => ⟨fun k h => (by cases h), k3, d3, p3, d4⟩, ⟨k3, p3, d3, d4, d1, d5⟩⟩
  | k + 3, hk => simp at hk
/-- a constructor called by the law, its object just made at B -/
theorem lw_mk {p : Program} {l : Launch} {e : Env} {s : State} {m : MethodId} {below : List Frame} {meth : Method} {c : Code} {b L : Nat} {xs : Nat → Int32} {D : va_G} {ca : gm_Ar} {pc : Nat} {ls : Array Slot} {rest : List Value} {H : Heap} {locs : List Loc} {cells slots : Nat} {Q : State → Prop}
    (C0 : lw_At p s m meth c b L xs) (hK : va_K D vwCl (gm_Ty ca) s) (hX : kn_X s) {g : gm_W} {k1 idx B j τ : Nat} {Y1 : gm_Y} {L1 : List (Option Value)} {S2 : gm_Mem} (hd : decode cL_law pc = .ok (.invokespecial idx, 3)) (hl : Cond.methodLink RL idx Y1.1 ∈ gm_TB) (hm : kn_Mi Y1 0) (hB0 : s.heap.size + cells = B + 1) (hg : 1 ≤ g.length) (hls : ls.size = 4) (hre : (rest.map fun v => v.category).sum ≤ 12) (hk : k1 ≤ 9) (hL1 : gm_ent Y1.2.2.1 [.ref 0] = L1) (hc : kn_run g k1 Y1 0 L1 [] 1 0 0 (fun _ _ => 0) j τ S2)
    (hj : cells + j ≤ 600000) (hτ : slots + τ ≤ 7302249) (hP : va_P D vwCl (kn_Ws ca (kn_ad B) (fun _ _ => 0) g 1) H) (hS : va_S (fun q => s.heap.size ≤ q) s.heap H locs) (hsB : s.heap.size ≤ B)
    (K : ∀ (H1 : Heap) (locs1 : List Loc), va_P D vwCl (kn_Ws ca (kn_ad B) S2 g (1 + j)) H1 → (∀ q : Nat, q < B → H1[q]? = H[q]?) → va_S (fun q => s.heap.size ≤ q) s.heap H1 locs1 → W p l e room_1 s m #[Value.ref b] below meth c H1 locs1 (cells + j) (slots + τ) Q (F0 m (pc + 3) ls rest)) : W p l e room_1 s m #[Value.ref b] below meth c H locs cells slots Q (F0 m pc ls (.ref B :: rest)) := by
  subst hL1
  have x6 : ∀ w ∈ gm_TB, w.before #[Value.ref b] s = true := fun w hw => C0.2.2.2.2.2.1 w (gm_tb_in hw)
  have x5 : s.vm.findClass RL = some m.cls := C0.2.2.2.2.1
  obtain ⟨m1, m2, m3, m4, m5, m6, m7, m8, m9, m10⟩ := id hm
  have hB := kn_back (l := l) (R := room_1) (p := p) (e := e) (below := below) (s := s) (args := #[Value.ref b]) (wo := 12) (As := [.ref 0]) D ca B x6 hm (by simp; omega) (by show k1 + 1 ≤ 10; omega) (by show 12 + (Y1.2.2.1 + 11) + 40 * k1 ≤ 404; omega) hc
  intro T hT X
  have hlow : B + 1 ≤ H.size := by
    have e1 : g[0]? = some (g[0]'(by omega)) := List.getElem?_eq_getElem (by omega)
    have := (hP 0 _ (kn_Ws_get e1 (by omega))).lt
    unfold kn_ad at this
    omega
  have hup := kn_bound X
  rw [hT] at hup
  have z0 : H.size = B + 1 := by omega
  obtain ⟨v, vm₁, ⟨U', l2, cc2, ss2⟩, hW₁, X', ⟨g', mk, t, LL, e1, e2, hq, h1, hLL, h2, h3⟩, stp⟩ := callI X C0.1 (bytes := Y1.2.1) (maxL := Y1.2.2.1) x5 m6 (x6 _ hl) (x6 _ m1) (x6 _ m3) m5 hB (g := F0 m pc ls (.ref B :: rest)) rfl (hls.trans C0.2.2.2.1.symm) (a := B) (argsL := []) (rest := rest)
    (fun sig hsg => by rw [hsg] at m9; exact (Option.some.inj m9).symm) rfl (by show 2 * 0 + _ ≤ 12; omega) (by rw [C0.2.1]; exact hd)
    (fun vm1 hW => ⟨hj, hτ, by show (#[Value.ref B] : Array Value) = #[Value.ref (kn_ad B 0)]; rfl, by show va_P D vwCl _ T.heap; rw [hT]; exact hP, fun _ _ => rfl, by show T.heap.size = _; rw [hT]; exact z0, va_K.moved hW.alike hK, kn_X.warm (U := T.setVm vm1) hW hX⟩)
  dsimp only [Pt.U, Pt.locs, Pt.cells, Pt.slots] at X' e1 e2 h1 h2 h3 stp
  subst h1; subst h2; subst h3
  obtain ⟨ho1, hP1, hz1, hF1⟩ := hq
  have hv : v = none := by injection ho1
  subst hv
  have hsH : ((T.setVm vm₁).calling g' mk (Value.ref B :: ([] : List Value)).toArray).heap = H := hT
  rw [va_F, hsH] at hF1
  obtain ⟨t2, a1, b1⟩ := K U'.heap (locs ++ LL) (by rw [e1]; exact hP1) (fun q hq => by rw [e1]; exact hF1.2 q (by omega) (by omega)) ⟨Nat.le_trans hS.1 (by rw [e1]; exact hF1.1), fun q h1 h2 => by rw [e1, hF1.2 q (Nat.lt_of_lt_of_le h1 hS.1) (by omega)]; exact hS.2.1 q h1 h2, fun q hq => by
      rcases List.mem_append.mp hq with h | h
      · exact hS.2.2 q h
      · have h5 := hLL q h
        show s.heap.size ≤ q.base
        omega⟩ U' rfl X'
  exact ⟨t2, stp t2 a1, b1⟩
theorem kn_one {c : gm_Ar} {ad : Nat → Nat} {ci : Nat} {fl : List (Option Nat)} {g : gm_W} (e : g[0]? = some (.inl (ci, fl))) : kn_Ws c ad (fun _ _ => 0) g 1 = [(ad 0, .inr (ci, kn_dv fl))] := by
  have := kn_Ws_add (c := c) (ad := ad) (S := fun _ _ => 0) e
  rw [Nat.zero_add] at this
  rw [this]
  show [] ++ [(ad 0, Sum.inr (ci, kn_Fs ad (fun _ => 0) 0 fl))] = _
  rw [kn_Fs_zero]
  rfl
theorem gC_len : gC.length = 123 := rfl
theorem gM_len : gM.length = 38 := rfl
theorem whole_start {p : Program} {e : Env} {s : State} {m : MethodId} {below : List Frame} {meth : Method} {c : Code} (l : Launch) (hflags : l.flags = flags0) {b L : Nat} {xs : Nat → Int32} (hL : L ≤ 2048) (C0 : lw_At p s m meth c b L xs) : W p l e room_1 s m #[Value.ref b] below meth c s.heap [] 0 0 (lw_Z below #[Value.ref b] s) (entryFrame m ([Value.ref b] : List Value).toArray 4) := by
  have hts : ∀ w ∈ gm_TB, w.before #[Value.ref b] s = true := fun w hw => C0.2.2.2.2.2.1 w (gm_tb_in hw)
  have hown : s.vm.findClass RL = some m.cls := C0.2.2.2.2.1
  have hov : va_AO RX5 s := C0.2.2.2.2.2.1 _ kn_over
  have hX : kn_X s := ⟨fun w hw => va_Nw.of (kn_links_t w hw) (C0.2.2.2.2.2.1 w (kn_links_in w hw)), hov⟩
  obtain ⟨D, hKc⟩ := kn_known hts
  obtain ⟨ca, hKa⟩ := kn_arrs hts hov
  have hK : va_K D vwCl (gm_Ty ca) s := ⟨hKc, hKa⟩
  have hA : ∀ q : Nat, s.heap.size ≤ q → (fun q : Nat => s.heap.size ≤ q) q := fun _ h => h
  have hl := lv_entry ([.ref b]) (n := 4) (Nat.le_of_ble_eq_true rfl)
  rw [lg_entry_eq]
  generalize (lg_sl ([.ref b]) ++ List.replicate (4 - (lg_sl ([.ref b])).length) Slot.unset).toArray = ls at hl ⊢
  have hl : lv_has ls 4 [(0, .ref b)] := hl
  obtain ⟨C1, T1, N1, ty1, w1, w2, w3, w4, w5, w6, w7, w8⟩ := kn_nwL_7 (q0 := 1) (q1 := 59) (q2 := 117) (q3 := 122)
  subst w7
  refine va_new (D := D) (A := fun q => s.heap.size ≤ q) (ws := []) (tys := gm_Ty ca) (ci := 10) (C := C1) (T := T1) (own := RL) (fs := kn_dv _) C0.1 C0.2.1 hts w5 ty1 w6 hown (hts _ w2) (hts _ w3) (hts _ w4) hK (fun k q h => by simp at h) ⟨fun i j p q h => by simp at h, fun k q h => by simp at h⟩ va_S.rf hA w1 w8 (by decide) (by decide) dL_law_0 (fun q H hP hD hS => ?_)
  have hq : ∀ U : State, U.heap = H → Stand p l e room_1 s m #[Value.ref b] below meth c U [] (0 + 1) (0 + 5) → q = s.heap.size := fun U hU X => by
    have h1 := kn_bound X
    rw [hU] at h1
    exact kn_at (g := gC) (ca := ca) (S := fun _ _ => 0) (n := 0) (B := s.heap.size) (Nat.zero_le _) hP hD (by omega)
  intro U hU X
  have hq0 := hq U hU X
  subst hq0
  refine (?_ : W p l e room_1 s m #[Value.ref b] below meth c H [] 1 5 (lw_Z below #[Value.ref b] s) (F0 m 3 ls [.ref s.heap.size])) U hU X
  clear hq X hU U
  have hP1 : va_P D vwCl (kn_Ws ca (kn_ad s.heap.size) (fun _ _ => 0) gC 1) H := by
    rw [kn_one (fl := [some 1, some 59, some 117, some 122, none]) rfl]
    exact hP
  refine lv_dup C0.1 C0.2.1 dL_law_3 rfl ?_
  refine lw_mk C0 hK hX (g := gC) (k1 := 4) (B := s.heap.size) (Y1 := YX10_init) (j := 122) (τ := 3344) (S2 := mC0) (rest := [.ref s.heap.size]) dL_law_4 kn_mlL_9 kn_miX10_init (by omega) (by rw [gC_len]; decide) hl.1 (Nat.le_of_ble_eq_true rfl) (by decide) rfl (kcX10_0 _) (by decide) (by decide) hP1 hS (Nat.le_refl _) (fun H1 locs1 hP2 _ hS1 => ?_)
  clear hP hD hS hP1
  refine lv_astore_n (lv' := [(1, .ref s.heap.size), (0, .ref b)]) C0.1 C0.2.1 dL_law_7 rfl hl (by decide) rfl (fun ls1 hl1 => ?_)
  obtain ⟨C2, T2, N2, ty2, v1, v2, v3, v4, v5, v6, v7, v8⟩ := kn_nwL_10 (q9 := 1) (q10 := 2) (q11 := 3) (q12 := 4) (q13 := 5) (q14 := 6) (q15 := 7) (q16 := 8) (q17 := 9) (q18 := 10) (q19 := 11) (q20 := 12) (q21 := 13) (q22 := 14) (q23 := 15) (q24 := 16) (q25 := 17) (q26 := 18) (q27 := 19) (q28 := 20) (q29 := 21) (q30 := 22) (q31 := 23) (q32 := 24) (q33 := 25) (q34 := 26) (q39 := 27) (q40 := 28) (q41 := 29) (q43 := 30) (q44 := 31) (q46 := 32) (q47 := 33) (q48 := 34) (q49 := 35) (q50 := 36) (q54 := 37)
  subst v7
  refine va_new (D := D) (A := fun q => s.heap.size ≤ q) (ws := kn_Ws ca (kn_ad s.heap.size) mC0 gC (1 + 122)) (tys := gm_Ty ca) (ci := 11) (C := C2) (T := T2) (own := RL) (fs := kn_dv _) C0.1 C0.2.1 hts v5 ty2 v6 hown (hts _ v2) (hts _ v3) (hts _ v4) hK hP2 kn_D hS1 hA v1 v8 (by decide) (by decide) dL_law_8 (fun q H2 hP3 hD3 hS2 => ?_)
  intro U hU X
  have h1 := kn_bound X
  rw [hU] at h1
  have hq0 : q = s.heap.size + (1 + 122) := kn_at (g := gC) (ca := ca) (S := mC0) (n := 1 + 122) (B := s.heap.size) (by rw [gC_len]; decide) hP3 hD3 (by omega)
  subst hq0
  refine (?_ : W p l e room_1 s m #[Value.ref b] below meth c H2 locs1 124 3407 (lw_Z below #[Value.ref b] s) (F0 m 11 ls1 [.ref (s.heap.size + 123)])) U hU X
  clear h1 X hU U
  have hPc : va_P D vwCl (kn_Ws ca (kn_ad s.heap.size) mC0 gC (1 + 122)) H2 := fun k x hx => hP3 k x (by rw [List.getElem?_append_left (List.getElem?_eq_some_iff.mp hx).1]; exact hx)
  have hPm : va_P D vwCl (kn_Ws ca (kn_ad (s.heap.size + 123)) (fun _ _ => 0) gM 1) H2 := by
    rw [kn_one (ci := 11) (g := gM) sM_0]
    intro k x hx
    have hz : k < 1 := (List.getElem?_eq_some_iff.mp hx).1
    have hlen : (kn_Ws ca (kn_ad s.heap.size) mC0 gC (1 + 122)).length = 123 := by
      unfold kn_Ws
      rw [kn_Cs_len, List.length_take, gC_len]
      decide
    refine hP3 (123 + k) x ?_
    rw [List.getElem?_append_right (by omega), hlen, Nat.add_sub_cancel_left]
    exact hx
  refine lv_dup C0.1 C0.2.1 dL_law_11 rfl ?_
  refine lw_mk C0 hK hX (g := gM) (k1 := 1) (B := s.heap.size + 123) (Y1 := YX11_init) (j := 37) (τ := 6453) (S2 := mM0) (rest := [.ref (s.heap.size + 123)]) dL_law_12 kn_mlL_12 kn_miX11_init (by omega) (by rw [gM_len]; decide) hl1.1 (Nat.le_of_ble_eq_true rfl) (by decide) rfl (kcX11_0 _) (by decide) (by decide) hPm hS2 (Nat.le_add_right _ _) (fun H3 locs3 hP4 hF4 hS4 => ?_)
  have hPC : va_P D vwCl (gm_Ws ca (kn_ad s.heap.size) mC0 gC) H3 := by
    refine kn_done (n := 1 + 122) gC_len.symm ck_C (hPc.kept (fun k x hx => ?_))
    have h1 := kn_Cs_addr (gC.take (1 + 122)) 0 k x hx
    have h2 : k < 123 := by
      have := h1.1
      rw [List.length_take, gC_len] at this
      omega
    refine hF4 x.1 ?_
    rw [h1.2]
    unfold kn_ad
    omega
  have hPM : va_P D vwCl (gm_Ws ca (kn_ad (s.heap.size + 123)) mM0 gM) H3 := kn_done (n := 1 + 37) gM_len.symm ck_M hP4
  refine lv_astore_n (lv' := [(2, .ref (s.heap.size + 123)), (1, .ref s.heap.size), (0, .ref b)]) C0.1 C0.2.1 dL_law_15 rfl hl1 (by decide) rfl (fun ls2 hl2 => ?_)
  refine lv_iconst (v := nI (4 * 0)) C0.1 C0.2.1 dL_law_16 (by decide) ?_
  refine lv_istore_n (lv' := [(3, .int (nI (4 * 0))), (2, .ref (s.heap.size + 123)), (1, .ref s.heap.size), (0, .ref b)]) C0.1 C0.2.1 dL_law_17 rfl hl2 (by decide) rfl (fun ls3 hl3 => ?_)
  refine W.widen (k := 600000) (n := 7302249) (Nat.le_of_ble_eq_true rfl) (Nat.le_of_ble_eq_true rfl) ?_
  exact lw_loop C0 hK hL (L / 4) 0 mM0 mC0 (by omega) LI0 H3 locs3 ls3 ⟨hPC, hPM, hS4⟩ (lv_sub hl3 [3, 2, 1, 0] rfl)
