/-! PAIR: one action of a script -/
theorem p_err (r : Int32) : ∃ v : Int32, (v = 0 ∨ v = 1) ∧ (∀ mm : gm_Mem, gm_run gM 0 YX11_isError 0 [some (.int r)] [] mm (some (.int v)) mm) ∧ ∀ SS : gm_Mem, gm_run gC 0 YX10_isError 0 [some (.int r)] [] SS (some (.int v)) SS := by
  by_cases c1 : r = -1000000002
  · exact ⟨1, Or.inr rfl, fun _ => PX11_isError_4 c1, fun _ => PX10_isError_4 c1⟩
  by_cases c2 : r = -1000000003
  · exact ⟨1, Or.inr rfl, fun _ => PX11_isError_3 c1 c2, fun _ => PX10_isError_3 c1 c2⟩
  by_cases c3 : r = -1000000004
  · exact ⟨1, Or.inr rfl, fun _ => PX11_isError_1 c1 c2 c3, fun _ => PX10_isError_1 c1 c2 c3⟩
  · exact ⟨0, Or.inl rfl, fun _ => PX11_isError_2 c1 c2 c3, fun _ => PX10_isError_2 c1 c2 c3⟩
/-- an action's two ends in the class's loop -/
def r_next (j : Nat) (v : Int32) (S S2 : gm_Mem) : Prop := (v = 1 → ∀ x1 : Int32, gm_run gC 7 YX10_runScript 34 [some (.ref 0), some (.int x1), some (.int (nI j)), none, none] [] S (some (.int (nI j))) S2) ∧ (v = 0 → ∀ (x1 : Int32) (r : Option Value) (S3 : gm_Mem), gm_run gC 7 YX10_runScript 34 [some (.ref 0), some (.int x1), some (.int (nI (j + 1))), none, none] [] S2 r S3 → gm_run gC 7 YX10_runScript 34 [some (.ref 0), some (.int x1), some (.int (nI j)), none, none] [] S r S3)
theorem p_does4 {s b j : Nat} {m S : gm_Mem} (hB : s + 1 ≤ 512 ∧ b + 350 < 1000000000) (h : Rc s b 0 m S) (hj : j < 20) (c1 : nI j < S 117 5) (e34 : m 34 j = S 119 j) (e35 : m 35 j = S 121 j) (e36 : m 34 j = 115 → m 36 j = S 120 j) (hset : m 34 j = 100 ∨ m 34 j = 115 ∨ m 34 j = 117 ∨ m 34 j = 120) : ∃ (r v : Int32) (m2 S2 : gm_Mem), (v = 0 ∨ v = 1) ∧ gm_run gM 6 YX11_does 0 [some (.ref 0), some (.int (nI j))] [] m (some (.int r)) m2 ∧ (∀ mm : gm_Mem, gm_run gM 0 YX11_isError 0 [some (.int r)] [] mm (some (.int v)) mm) ∧ r_next j v S S2 ∧ Rc (s + (if m 34 j = 115 then 1 else 0)) (b + 350) 0 m2 S2 ∧ r_FN m m2 ∧ r_FD S S2 := by
  have iM : gm_ix (nI j) j 20 := ix_n hj (by decide)
  have iC : gm_ix (nI j) j 40 := ix_n (by omega) (by decide)
  have c40 : nI j < nI 40 := (nI_ltI (by omega) (by omega)).mpr (by omega)
  rcases hset with c | c | c | c
  · have cC : S 119 j = 100 := e34.symm.trans c
    obtain ⟨r, m2, S2, q1, q2, q3, q4, q5⟩ := r_deliver (by omega) h (m 35 j)
    obtain ⟨v, hv, v1, v2⟩ := p_err r
    rw [e35] at q2
    refine ⟨r, v, m2, S2, hv, PX11_does_1 iM c q1, v1, ⟨fun z x1 => PX10_runScript_3 c1 c40 iC cC q2 (v2 _) (by rw [z]; decide), fun z x1 r3 S3 K => PX10_runScript_4 c1 c40 iC cC q2 (v2 _) z (by rw [nI_1]; exact K)⟩, q3.le (Nat.le_add_right _ _) (by omega), q4, q5⟩
  · have cC : S 119 j = 115 := e34.symm.trans c
    obtain ⟨r, m2, S2, q1, q2, q3, q4, q5⟩ := r_send (by omega) h (m 36 j) (m 35 j)
    obtain ⟨v, hv, v1, v2⟩ := p_err r
    rw [e35, e36 c] at q2
    rw [if_pos c]
    refine ⟨r, v, m2, S2, hv, PX11_does_2 iM c q1, v1, ⟨fun z x1 => PX10_runScript_5 c1 c40 iC cC q2 (v2 _) (by rw [z]; decide), fun z x1 r3 S3 K => PX10_runScript_6 c1 c40 iC cC q2 (v2 _) z (by rw [nI_1]; exact K)⟩, q3.le (Nat.le_refl _) (by omega), q4.fn, q5.fd⟩
  · have cC : S 119 j = 117 := e34.symm.trans c
    obtain ⟨r, m2, S2, q1, q2, q3, q4, q5⟩ := r_repeat h (m 35 j)
    obtain ⟨v, hv, v1, v2⟩ := p_err r
    rw [e35] at q2
    refine ⟨r, v, m2, S2, hv, PX11_does_3 iM c q1, v1, ⟨fun z x1 => PX10_runScript_7 c1 c40 iC cC q2 (v2 _) (by rw [z]; decide), fun z x1 r3 S3 K => PX10_runScript_8 c1 c40 iC cC q2 (v2 _) z (by rw [nI_1]; exact K)⟩, q3.le (Nat.le_add_right _ _) (by omega), q4, q5⟩
  · have cC : S 119 j = 120 := e34.symm.trans c
    obtain ⟨r, m2, S2, q1, q2, q3, q4, q5⟩ := r_drop h (m 35 j)
    obtain ⟨v, hv, v1, v2⟩ := p_err r
    rw [e35] at q2
    refine ⟨r, v, m2, S2, hv, PX11_does_4 iM c q1, v1, ⟨fun z x1 => PX10_runScript_9 c1 c40 iC cC q2 (v2 _) (by rw [z]; decide), fun z x1 r3 S3 K => PX10_runScript_10 c1 c40 iC cC q2 (v2 _) z (by rw [nI_1]; exact K)⟩, q3.le (Nat.le_add_right _ _) (by omega), q4, q5⟩
theorem lk_M {x : Int32} (h : ¬ (x = 100 ∨ x = 115 ∨ x = 117 ∨ x = 120)) : Op.lookupswitch.offset [(100, 42), (115, 75), (117, 64), (120, 53)] 92 x.toInt = 92 := by
  have n1 : ¬ x.toInt = 100 := fun z => h (Or.inl (Int32.toInt_inj.mp z))
  have n2 : ¬ x.toInt = 115 := fun z => h (Or.inr (Or.inl (Int32.toInt_inj.mp z)))
  have n3 : ¬ x.toInt = 117 := fun z => h (Or.inr (Or.inr (Or.inl (Int32.toInt_inj.mp z))))
  have n4 : ¬ x.toInt = 120 := fun z => h (Or.inr (Or.inr (Or.inr (Int32.toInt_inj.mp z))))
  have m1 : ¬ (100 : Int) = x.toInt := fun z => n1 z.symm
  have m2 : ¬ (115 : Int) = x.toInt := fun z => n2 z.symm
  have m3 : ¬ (117 : Int) = x.toInt := fun z => n3 z.symm
  have m4 : ¬ (120 : Int) = x.toInt := fun z => n4 z.symm
  simp [Op.lookupswitch.offset, n1, n2, n3, n4, m1, m2, m3, m4]
theorem lk_C {x : Int32} (h : ¬ (x = 100 ∨ x = 115 ∨ x = 117 ∨ x = 120)) : Op.lookupswitch.offset [(100, 42), (115, 72), (117, 62), (120, 52)] 91 x.toInt = 91 := by
  have n1 : ¬ x.toInt = 100 := fun z => h (Or.inl (Int32.toInt_inj.mp z))
  have n2 : ¬ x.toInt = 115 := fun z => h (Or.inr (Or.inl (Int32.toInt_inj.mp z)))
  have n3 : ¬ x.toInt = 117 := fun z => h (Or.inr (Or.inr (Or.inl (Int32.toInt_inj.mp z))))
  have n4 : ¬ x.toInt = 120 := fun z => h (Or.inr (Or.inr (Or.inr (Int32.toInt_inj.mp z))))
  have m1 : ¬ (100 : Int) = x.toInt := fun z => n1 z.symm
  have m2 : ¬ (115 : Int) = x.toInt := fun z => n2 z.symm
  have m3 : ¬ (117 : Int) = x.toInt := fun z => n3 z.symm
  have m4 : ¬ (120 : Int) = x.toInt := fun z => n4 z.symm
  simp [Op.lookupswitch.offset, n1, n2, n3, n4, m1, m2, m3, m4]
theorem p_does {s b j : Nat} {m S : gm_Mem} (hB : s + 1 ≤ 512 ∨ (s ≤ 512 ∧ ¬ m 34 j = 115)) (hb : b + 350 < 1000000000) (h : Rc s b 0 m S) (hj : j < 20) (c1 : nI j < S 117 5) (e34 : m 34 j = S 119 j) (e35 : m 35 j = S 121 j) (e36 : m 34 j = 115 → m 36 j = S 120 j) : ∃ (r v : Int32) (m2 S2 : gm_Mem), (v = 0 ∨ v = 1) ∧ gm_run gM 6 YX11_does 0 [some (.ref 0), some (.int (nI j))] [] m (some (.int r)) m2 ∧ (∀ mm : gm_Mem, gm_run gM 0 YX11_isError 0 [some (.int r)] [] mm (some (.int v)) mm) ∧ r_next j v S S2 ∧ Rc (s + (if m 34 j = 115 then 1 else 0)) (b + 350) 0 m2 S2 ∧ r_FN m m2 ∧ r_FD S S2 := by
  have iM : gm_ix (nI j) j 20 := ix_n hj (by decide)
  have iC : gm_ix (nI j) j 40 := ix_n (by omega) (by decide)
  have c40 : nI j < nI 40 := (nI_ltI (by omega) (by omega)).mpr (by omega)
  by_cases hset : m 34 j = 100 ∨ m 34 j = 115 ∨ m 34 j = 117 ∨ m 34 j = 120
  · by_cases hs : s + 1 ≤ 512
    · exact p_does4 ⟨hs, hb⟩ h hj c1 e34 e35 e36 hset
    · have hn := (hB.resolve_left hs)
      rcases hset with c | c | c | c
      · have cC : S 119 j = 100 := e34.symm.trans c
        obtain ⟨r, m2, S2, q1, q2, q3, q4, q5⟩ := r_deliver (by omega) h (m 35 j)
        obtain ⟨v, hv, v1, v2⟩ := p_err r
        rw [e35] at q2
        refine ⟨r, v, m2, S2, hv, PX11_does_1 iM c q1, v1, ⟨fun z x1 => PX10_runScript_3 c1 c40 iC cC q2 (v2 _) (by rw [z]; decide), fun z x1 r3 S3 K => PX10_runScript_4 c1 c40 iC cC q2 (v2 _) z (by rw [nI_1]; exact K)⟩, q3.le (Nat.le_add_right _ _) (by omega), q4, q5⟩
      · exact absurd c hn.2
      · have cC : S 119 j = 117 := e34.symm.trans c
        obtain ⟨r, m2, S2, q1, q2, q3, q4, q5⟩ := r_repeat h (m 35 j)
        obtain ⟨v, hv, v1, v2⟩ := p_err r
        rw [e35] at q2
        refine ⟨r, v, m2, S2, hv, PX11_does_3 iM c q1, v1, ⟨fun z x1 => PX10_runScript_7 c1 c40 iC cC q2 (v2 _) (by rw [z]; decide), fun z x1 r3 S3 K => PX10_runScript_8 c1 c40 iC cC q2 (v2 _) z (by rw [nI_1]; exact K)⟩, q3.le (Nat.le_add_right _ _) (by omega), q4, q5⟩
      · have cC : S 119 j = 120 := e34.symm.trans c
        obtain ⟨r, m2, S2, q1, q2, q3, q4, q5⟩ := r_drop h (m 35 j)
        obtain ⟨v, hv, v1, v2⟩ := p_err r
        rw [e35] at q2
        refine ⟨r, v, m2, S2, hv, PX11_does_4 iM c q1, v1, ⟨fun z x1 => PX10_runScript_9 c1 c40 iC cC q2 (v2 _) (by rw [z]; decide), fun z x1 r3 S3 K => PX10_runScript_10 c1 c40 iC cC q2 (v2 _) z (by rw [nI_1]; exact K)⟩, q3.le (Nat.le_add_right _ _) (by omega), q4, q5⟩
  · have dM := lk_M hset
    have dC : Op.lookupswitch.offset [(100, 42), (115, 72), (117, 62), (120, 52)] 91 (S 119 j).toInt = 91 := by rw [← e34]; exact lk_C hset
    by_cases c0 : m 35 j = 0
    · have t := h.1.2.2.2.2.1.2
      have n0 : S 121 j = 0 := by rw [← e35]; exact c0
      have z2 : (-1000000002 : Int32).toInt = -1000000002 := rfl
      have z3 : (-1000000003 : Int32).toInt = -1000000003 := rfl
      have z4 : (-1000000004 : Int32).toInt = -1000000004 := rfl
      have hC : gm_run gC 0 YX10_isError 0 [some (.int (S 1 8))] [] S (some (.int 0)) S := PX10_isError_2 (fun z => by rw [z, z2] at t; omega) (fun z => by rw [z, z3] at t; omega) (fun z => by rw [z, z4] at t; omega)
      exact ⟨0, 0, m, S, Or.inl rfl, PX11_does_5 iM dM c0, fun mm => PX11_isError_2 (by decide) (by decide) (by decide), ⟨fun z => absurd z (by decide), fun _ x1 r3 S3 K => PX10_runScript_12 c1 c40 iC dC n0 hC rfl (by rw [nI_1]; exact K)⟩, h.le (Nat.le_add_right _ _) (by omega), r_FM.rf.fn, r_FC.rf.fd⟩
    · obtain ⟨r, m2, S2, q1, q2, q3, q4, q5⟩ := r_tickC (by omega) h (m 35 j)
      obtain ⟨v, hv, v1, v2⟩ := p_err r
      have n0 : ¬ S 121 j = 0 := by rw [← e35]; exact c0
      rw [e35] at q2
      refine ⟨r, v, m2, S2, hv, PX11_does_6 iM dM c0 q1, v1, ⟨fun z x1 => PX10_runScript_13 c1 c40 iC dC n0 q2 (v2 _) (by rw [z]; decide), fun z x1 r3 S3 K => PX10_runScript_14 c1 c40 iC dC n0 q2 (v2 _) z (by rw [nI_1]; exact K)⟩, q3.le (Nat.le_add_right _ _) (by omega), q4, q5⟩
