/-! PAIRS: comes / addMessage, send, close -/
theorem r_out.add {s e n : Nat} {ti kn kc km v fl kc2 : Int32} {r20 r21 r22 r23 ob va st ob2 : Nat → Int32} (hs : s ≤ 1024) (h : r_out s e ti kn kc km r20 r21 r22 r23 ob va st) (hkc : kc = -1) (hkm : km = nI n) (hn : n < 16) (hfl : (fl = 0 ∧ kc2 = -1) ∨ (fl = 1 ∧ kc2 = kn)) (o2 : ob2 2 = km + 1) (o3 : ob2 3 = ob 3) (o4 : ob2 4 = kc2) :
    r_out (s + 1) e ti (kn + 1) kc2 (km + 1) (fun j => if j = 16 * e + n then kn else r20 j) (fun j => if j = 16 * e + n then v else r21 j) (fun j => if j = 16 * e + n then fl else r22 j) (fun j => if j = 16 * e + n then -1 else r23 j) ob2 (fun j => if j = n then v else va j) (fun j => if j = n then -1 else st j) := by
  obtain ⟨n', lo, h1, h2, h3, h4, h5, h6, h7, h8, h9⟩ := h
  have hnn : n' = n := by
    rw [h3] at hkm
    exact (nI_eq (by omega) (by omega)).mp hkm
  subst hnn
  refine ⟨n' + 1, lo, by omega, by omega, by rw [h3, nI_1], by rw [h4, nI_1]; rfl, by rw [o2, h3, nI_1], by rw [o3, h6], o4, ?_, fun i hi => ?_⟩
  · rcases hfl with ⟨-, q⟩ | ⟨-, q⟩
    · exact Or.inl q
    · exact Or.inr ⟨by omega, by rw [q, h4]; rfl⟩
  · by_cases hin : i = n'
    · subst hin
      refine ⟨(if_pos rfl).trans h4, (if_pos rfl).trans (if_pos rfl).symm, (if_pos rfl).trans ?_, (if_pos rfl).trans (if_pos rfl).symm, Or.inl (if_pos rfl)⟩
      rcases hfl with ⟨q1, q2⟩ | ⟨q1, q2⟩
      · rw [q1, if_neg (fun z => z.1 q2)]
      · have : ¬ kc2 = -1 := by
          rw [q2, h4]
          intro z
          have z2 := congrArg Int32.toInt z
          rw [nI_toInt (by omega)] at z2
          have : ((-1 : Int32)).toInt = -1 := rfl
          omega
        rw [q1, if_pos ⟨this, rfl⟩]
    · have hlt : i < n' := by omega
      obtain ⟨k1, k2, k3, k4, k5⟩ := h9 i hlt
      have hne : ¬ 16 * e + i = 16 * e + n' := by omega
      refine ⟨(if_neg hne).trans k1, (if_neg hne).trans (k2.trans (if_neg hin).symm), (if_neg hne).trans (k3.trans ?_), (if_neg hne).trans (k4.trans (if_neg hin).symm), ?_⟩
      · rw [if_neg (fun z => z.1 hkc), if_neg (fun z => hin (by omega))]
      · have hz : (fun j => if j = n' then -1 else st j) i = st i := if_neg hin
        rw [hz]
        exact k5
theorem r_out.row {s e d n : Nat} {ti kn kc km x1 x2 x3 x4 : Int32} {r20 r21 r22 r23 ob va st : Nat → Int32} (h : r_out s e ti kn kc km r20 r21 r22 r23 ob va st) (hd : d ≠ e) (hn : n < 16) :
    r_out (s + 1) e ti kn kc km (fun j => if j = 16 * d + n then x1 else r20 j) (fun j => if j = 16 * d + n then x2 else r21 j) (fun j => if j = 16 * d + n then x3 else r22 j) (fun j => if j = 16 * d + n then x4 else r23 j) ob va st := by
  obtain ⟨n', lo, h1, h2, h3, h4, h5, h6, h7, h8, h9⟩ := h
  refine ⟨n', lo, h1, by omega, h3, h4, h5, h6, h7, h8, fun i hi => ?_⟩
  obtain ⟨k1, k2, k3, k4, k5⟩ := h9 i hi
  have hne : ¬ 16 * e + i = 16 * d + n := by omega
  exact ⟨(if_neg hne).trans k1, (if_neg hne).trans k2, (if_neg hne).trans k3, (if_neg hne).trans k4, k5⟩
theorem r_comes {s b e : Nat} {m S : gm_Mem} (hB : s + 1 ≤ 1024 ∧ b + 3 < 1000000000) (h : Rc s b 0 m S) (he : e = 0 ∨ e = 1) (v cl : Int32) (hcl : cl = 0 ∨ cl = 1) (hkc : m 15 e = -1) (hst : ¬ m 1 e = 4) (hkm : ¬ m 18 e = 16) :
    PairI 4 4 YX11_comes YX10_addMessage [some (.ref 0), some (.int (nI e)), some (.int v), some (.int cl), none, none] [some (.ref 0), some (.ref (2 + 12 * e)), some (.int v), some (.int cl), none, none] s b (s + 1) (b + 3) m S := by
  have hx := (h.re he).1.1
  obtain ⟨n, lo, h1, h2, h3, h4, h5, h6, h7, h8, h9⟩ := (h.re he).2.1
  have hn : n < 16 := by
    by_cases q : n = 16
    · subst q
      exact absurd h3 hkm
    · omega
  have e24 : 2 + 12 * e + 2 = 4 + 12 * e := by omega
  have i2 : gm_ix ((16 * nI e) + (m 18 e)) (16 * e + n) 32 := by
    rw [h3]
    exact ix_c (nI_16 e n) (by omega) (by decide)
  have i3 : gm_ix (S (2 + 12 * e + 2) 2) n 16 := by
    rw [e24, h5]
    exact ix_n hn (by decide)
  have c1 : ¬ S (2 + 12 * e + 2) 2 < 0 := by rw [e24, h5]; exact nI_pos (by omega)
  have c2 : S (2 + 12 * e + 2) 2 < 16 := by rw [e24, h5]; exact (nI_ltI (a := n) (b := 16) (by omega) (by decide)).mpr hn
  have hret : (S (2 + 12 * e + 2) 3) + (S (2 + 12 * e + 2) 2) = m 14 e := by rw [e24, h5, h6, h4, nI_add]
  have a1 : S (2 + 12 * e + 2) 4 = -1 := by rw [e24, h7]; exact hkc
  have rfull : gm_run gC 0 YX4_isFull 0 [some (.ref (2 + 12 * e + 2))] [] S (some (.int 0)) S := PX4_isFull_2 (by omega) c2
  obtain ⟨hs, hl, hnn, ht, hr, h0, g0, g1⟩ := h
  rcases hcl with rfl | rfl
  · have hR : Rc (s + 1) b 0 (gm_u (gm_u (gm_u (gm_u (gm_u (gm_u m 20 (16 * e + n) (m 14 e)) 21 (16 * e + n) v) 22 (16 * e + n) 0) 23 (16 * e + n) (-1)) 18 e ((m 18 e) + 1)) 14 e ((m 14 e) + 1))
        (gm_u (gm_u (gm_u S (2 + 12 * e + 2 + 1) n v) (2 + 12 * e + 2 + 2) n (-1)) (2 + 12 * e + 2) 2 ((S (2 + 12 * e + 2) 2) + 1)) := by
      have hnet : r_net (s + 1) b 0 (m 30) (m 0 45) (S 26) (S 27) S := hnn.le (by omega) (Nat.le_refl _)
      rcases he with rfl | rfl
      · refine ⟨hs, hl, (by repeat (first | exact hnet | refine r_net.u (by decide) ?_ | refine r_net.up (by decide) ?_)), ht, hr, h0, ⟨g0.1, ?_, g0.2.2.1.le (by omega), g0.2.2.2⟩, ⟨g1.1, ?_, g1.2.2.1.le (by omega), g1.2.2.2⟩⟩
        · refine g0.2.1.add (v := v) (fl := 0) (kc2 := m 15 0) (by omega) hkc h3 hn (Or.inl ⟨rfl, hkc⟩) ?_ rfl h7
          show S 4 2 + 1 = m 18 0 + 1
          rw [h3]; exact congrArg (· + 1) h5
        · exact g1.2.1.row (d := 0) (by decide) hn
      · refine ⟨hs, hl, (by repeat (first | exact hnet | refine r_net.u (by decide) ?_ | refine r_net.up (by decide) ?_)), ht, hr, h0, ⟨g0.1, ?_, g0.2.2.1.le (by omega), g0.2.2.2⟩, ⟨g1.1, ?_, g1.2.2.1.le (by omega), g1.2.2.2⟩⟩
        · exact g0.2.1.row (d := 1) (by decide) hn
        · refine g1.2.1.add (v := v) (fl := 0) (kc2 := m 15 1) (by omega) hkc h3 hn (Or.inl ⟨rfl, hkc⟩) ?_ rfl h7
          show S 16 2 + 1 = m 18 1 + 1
          rw [h3]; exact congrArg (· + 1) h5
    obtain ⟨m2, S2, q1, q2, q3, q4, q5⟩ := r_sendsDue ⟨hB.1, hB.2⟩ hR he
    refine ⟨_, m2, S2, PX11_comes_2 (ix_e he) i2 rfl q1, ?_, q3, r_FM.tr (by repeat (first | exact r_FM.rf | refine r_FM.u (by omega) ?_ | refine r_FM.up (by omega) ?_)) q4, (((r_FC.rf.u (p := 2 + 12 * e + 2 + 1) (by omega)).u (p := 2 + 12 * e + 2 + 2) (by omega)).u (p := 2 + 12 * e + 2) (by omega)).tr q5⟩
    have ha := PX4_add_3 (p := 2 + 12 * e + 2) (a1 := v) (a2 := 0) (by omega) c1 c2 i3 rfl
    rw [hret] at ha
    exact PX10_addMessage_3 (by omega) a1 (fun q => hst (hx.trans q)) rfull rfl ha q2
  · have hR : Rc (s + 1) b 0 (gm_u (gm_u (gm_u (gm_u (gm_u (gm_u (gm_u m 20 (16 * e + n) (m 14 e)) 21 (16 * e + n) v) 22 (16 * e + n) 1) 23 (16 * e + n) (-1)) 18 e ((m 18 e) + 1)) 14 e ((m 14 e) + 1)) 15 e (m 14 e))
        (gm_u (gm_u (gm_u (gm_u S (2 + 12 * e + 2 + 1) n v) (2 + 12 * e + 2 + 2) n (-1)) (2 + 12 * e + 2) 2 ((S (2 + 12 * e + 2) 2) + 1)) (2 + 12 * e + 2) 4 ((S (2 + 12 * e + 2) 3) + (S (2 + 12 * e + 2) 2))) := by
      have hnet : r_net (s + 1) b 0 (m 30) (m 0 45) (S 26) (S 27) S := hnn.le (by omega) (Nat.le_refl _)
      rcases he with rfl | rfl
      · refine ⟨hs, hl, (by repeat (first | exact hnet | refine r_net.u (by decide) ?_ | refine r_net.up (by decide) ?_)), ht, hr, h0, ⟨g0.1, ?_, g0.2.2.1.le (by omega), g0.2.2.2⟩, ⟨g1.1, ?_, g1.2.2.1.le (by omega), g1.2.2.2⟩⟩
        · refine g0.2.1.add (v := v) (fl := 1) (kc2 := m 14 0) (by omega) hkc h3 hn (Or.inr ⟨rfl, rfl⟩) ?_ rfl hret
          show S 4 2 + 1 = m 18 0 + 1
          rw [h3]; exact congrArg (· + 1) h5
        · exact g1.2.1.row (d := 0) (by decide) hn
      · refine ⟨hs, hl, (by repeat (first | exact hnet | refine r_net.u (by decide) ?_ | refine r_net.up (by decide) ?_)), ht, hr, h0, ⟨g0.1, ?_, g0.2.2.1.le (by omega), g0.2.2.2⟩, ⟨g1.1, ?_, g1.2.2.1.le (by omega), g1.2.2.2⟩⟩
        · exact g0.2.1.row (d := 1) (by decide) hn
        · refine g1.2.1.add (v := v) (fl := 1) (kc2 := m 14 1) (by omega) hkc h3 hn (Or.inr ⟨rfl, rfl⟩) ?_ rfl hret
          show S 16 2 + 1 = m 18 1 + 1
          rw [h3]; exact congrArg (· + 1) h5
    obtain ⟨m2, S2, q1, q2, q3, q4, q5⟩ := r_sendsDue ⟨hB.1, hB.2⟩ hR he
    refine ⟨_, m2, S2, PX11_comes_1 (ix_e he) i2 (by decide) q1, ?_, q3, r_FM.tr (by repeat (first | exact r_FM.rf | refine r_FM.u (by omega) ?_ | refine r_FM.up (by omega) ?_)) q4, ((((r_FC.rf.u (p := 2 + 12 * e + 2 + 1) (by omega)).u (p := 2 + 12 * e + 2 + 2) (by omega)).u (p := 2 + 12 * e + 2) (by omega)).u (p := 2 + 12 * e + 2) (by omega)).tr q5⟩
    have ha := PX4_add_2 (p := 2 + 12 * e + 2) (a1 := v) (a2 := 1) (by omega) c1 c2 i3 (by decide)
    rw [hret] at ha q2
    exact PX10_addMessage_3 (by omega) a1 (fun q => hst (hx.trans q)) rfull rfl ha q2
/-- why an endpoint takes no message: the same code in both, or none -/
theorem r_msg {s b e : Nat} {m S : gm_Mem} (hB : s + 1 ≤ 1024 ∧ b + 3 < 1000000000) (h : Rc s b 0 m S) (he : e = 0 ∨ e = 1) (v cl : Int32) (hcl : cl = 0 ∨ cl = 1) :
    (∃ r : Int32, ¬ r = 0 ∧ gm_run gM 0 YX11_notSending 0 [some (.ref 0), some (.int (nI e))] [] m (some (.int r)) m ∧ gm_run gC 4 YX10_addMessage 0 [some (.ref 0), some (.ref (2 + 12 * e)), some (.int v), some (.int cl), none, none] [] S (some (.int r)) S) ∨
    (gm_run gM 0 YX11_notSending 0 [some (.ref 0), some (.int (nI e))] [] m (some (.int 0)) m ∧ PairI 4 4 YX11_comes YX10_addMessage [some (.ref 0), some (.int (nI e)), some (.int v), some (.int cl), none, none] [some (.ref 0), some (.ref (2 + 12 * e)), some (.int v), some (.int cl), none, none] s b (s + 1) (b + 3) m S) := by
  have hx := (h.re he).1.1
  obtain ⟨n, lo, h1, h2, h3, h4, h5, h6, h7, h8, h9⟩ := (h.re he).2.1
  have e24 : 2 + 12 * e + 2 = 4 + 12 * e := by omega
  by_cases k1 : m 15 e = -1
  · have l1 : m 15 e < 0 := by rw [k1]; decide
    have a1 : S (2 + 12 * e + 2) 4 = -1 := by rw [e24, h7]; exact k1
    by_cases k2 : m 1 e = 4
    · exact Or.inl ⟨_, by decide, PX11_notSending_1 (ix_e he) l1 k2, PX10_addMessage_1 (by omega) a1 (hx.symm.trans k2)⟩
    · by_cases k3 : m 18 e = 16
      · left
        refine ⟨_, by decide, PX11_notSending_2 (ix_e he) l1 k2 k3, PX10_addMessage_2 (by omega) a1 (fun q => k2 (hx.trans q)) (PX4_isFull_1 (by omega) ?_) (by decide)⟩
        rw [e24, h5, ← h3, k3]
        decide
      · exact Or.inr ⟨PX11_notSending_3 (ix_e he) l1 k2 k3, r_comes hB h he v cl hcl k1 k2 k3⟩
  · left
    refine ⟨_, by decide, PX11_notSending_4 (ix_e he) ?_, PX10_addMessage_4 (by omega) (by rw [e24, h7]; exact k1)⟩
    rcases h8 with q | q
    · exact absurd q k1
    · rw [q.2]
      exact nI_pos (by omega)
theorem p_isEpT {m S : gm_Mem} {e : Nat} (he : e = 0 ∨ e = 1) : gm_run gM 0 YX11_isEndpoint 0 [some (.int (nI e))] [] m (some (.int 1)) m ∧ gm_run gC 0 YX10_isEndpoint 0 [some (.int (nI e))] [] S (some (.int 1)) S ∧ gm_run gC 0 YX10_endpointOf 0 [some (.ref 0), some (.int (nI e))] [] S (some (.ref (2 + 12 * e))) S := by
  rcases he with rfl | rfl
  · exact ⟨PX11_isEndpoint_3 rfl, PX10_isEndpoint_3 rfl, PX10_endpointOf_1 rfl⟩
  · exact ⟨PX11_isEndpoint_1 (by decide) rfl, PX10_isEndpoint_1 (by decide) rfl, PX10_endpointOf_2 (by decide)⟩
theorem p_isEpF {m S : gm_Mem} {a : Int32} (h0 : ¬ a = 0) (h1 : ¬ a = 1) : gm_run gM 0 YX11_isEndpoint 0 [some (.int a)] [] m (some (.int 0)) m ∧ gm_run gC 0 YX10_isEndpoint 0 [some (.int a)] [] S (some (.int 0)) S :=
  ⟨PX11_isEndpoint_2 h0 h1, PX10_isEndpoint_2 h0 h1⟩
theorem ep_cases (a : Int32) : (∃ e : Nat, (e = 0 ∨ e = 1) ∧ a = nI e) ∨ (¬ a = 0 ∧ ¬ a = 1) := by
  by_cases h0 : a = 0
  · exact Or.inl ⟨0, Or.inl rfl, h0⟩
  · by_cases h1 : a = 1
    · exact Or.inl ⟨1, Or.inr rfl, h1⟩
    · exact Or.inr ⟨h0, h1⟩
theorem r_send {s b : Nat} {m S : gm_Mem} (hB : s + 1 ≤ 1024 ∧ b + 3 < 1000000000) (h : Rc s b 0 m S) (a v : Int32) :
    PairI 5 5 YX11_send YX10_send [some (.ref 0), some (.int a), some (.int v), none] [some (.ref 0), some (.int a), some (.int v)] s b (s + 1) (b + 3) m S := by
  have hle : Rc (s + 1) (b + 3) 0 m S := h.le (by omega) (by omega)
  rcases ep_cases a with ⟨e, he, rfl⟩ | ⟨h0, h1⟩
  · obtain ⟨q1, q2, q3⟩ := p_isEpT (m := m) (S := S) he
    have hb := p_between m v (-999) 999
    by_cases c1 : v < -999
    · rw [b2i_f (fun q => q.1 c1)] at hb
      exact ⟨_, m, S, PX11_send_1 q1 (by decide) hb rfl, PX10_send_3 q2 (by decide) c1, hle, r_FM.rf, r_FC.rf⟩
    · by_cases c2 : 999 < v
      · rw [b2i_f (fun q => q.2 c2)] at hb
        exact ⟨_, m, S, PX11_send_1 q1 (by decide) hb rfl, PX10_send_1 q2 (by decide) c1 c2, hle, r_FM.rf, r_FC.rf⟩
      · rw [b2i_t ⟨c1, c2⟩] at hb
        rcases r_msg hB h he v 0 (Or.inl rfl) with ⟨r, r0, p1, p2⟩ | ⟨p1, r, m2, S2, p2, p3, p4, p5, p6⟩
        · exact ⟨r, m, S, PX11_send_2 q1 (by decide) hb (by decide) p1 r0, PX10_send_2 q2 (by decide) c1 c2 (by omega) q3 p2, hle, r_FM.rf, r_FC.rf⟩
        · exact ⟨r, m2, S2, PX11_send_3 q1 (by decide) hb (by decide) p1 rfl p2, PX10_send_2 q2 (by decide) c1 c2 (by omega) q3 p3, p4, p5, p6⟩
  · obtain ⟨q1, q2⟩ := p_isEpF (m := m) (S := S) h0 h1
    exact ⟨_, m, S, PX11_send_4 q1 rfl, PX10_send_4 q2 rfl, hle, r_FM.rf, r_FC.rf⟩
theorem r_close {s b : Nat} {m S : gm_Mem} (hB : s + 1 ≤ 1024 ∧ b + 3 < 1000000000) (h : Rc s b 0 m S) (a : Int32) :
    PairI 5 5 YX11_close YX10_close [some (.ref 0), some (.int a), none] [some (.ref 0), some (.int a)] s b (s + 1) (b + 3) m S := by
  have hle : Rc (s + 1) (b + 3) 0 m S := h.le (by omega) (by omega)
  rcases ep_cases a with ⟨e, he, rfl⟩ | ⟨h0, h1⟩
  · obtain ⟨q1, q2, q3⟩ := p_isEpT (m := m) (S := S) he
    rcases r_msg hB h he 0 1 (Or.inr rfl) with ⟨r, r0, p1, p2⟩ | ⟨p1, r, m2, S2, p2, p3, p4, p5, p6⟩
    · exact ⟨r, m, S, PX11_close_2 q1 (by decide) p1 r0, PX10_close_2 q2 (by decide) (by omega) q3 p2, hle, r_FM.rf, r_FC.rf⟩
    · exact ⟨r, m2, S2, PX11_close_3 q1 (by decide) p1 rfl p2, PX10_close_2 q2 (by decide) (by omega) q3 p3, p4, p5, p6⟩
  · obtain ⟨q1, q2⟩ := p_isEpF (m := m) (S := S) h0 h1
    exact ⟨_, m, S, PX11_close_1 q1 rfl, PX10_close_1 q2 rfl, hle, r_FM.rf, r_FC.rf⟩
