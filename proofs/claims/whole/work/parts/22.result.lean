/-! PAIR: resultOf, and all that it asks -/
abbrev tkF (e : Nat) (kd st : Int32) : Prop := (kd = 0 ∧ e = 1 ∧ (st = 0 ∨ st = 2 ∨ st = 4)) ∨ ((kd = 1 ∨ kd = 2) ∧ e = 0 ∧ st = 1) ∨ (kd = 6 ∧ e = 0 ∧ st = 3) ∨ (¬ kd = 0 ∧ ¬ kd = 1 ∧ ¬ kd = 2 ∧ ¬ kd = 6 ∧ (st = 3 ∨ st = 2 ∨ st = 4))
theorem p_tkM0 (m : gm_Mem) (kd : Int32) : gm_run gM 0 YX11_takesKind 0 [some (.ref 0), some (.int (nI 0)), some (.int kd)] [] m (some (.int (b2i (tkF 0 kd (m 1 0))))) m := by
  by_cases c1 : kd = 0
  · rw [show b2i (tkF 0 kd (m 1 0)) = 0 by simp [b2i, tkF, c1]]
    exact PX11_takesKind_5 c1 (by decide)
  · by_cases c2 : kd = 1
    · by_cases c3 : (m 1 0) = 1
      · rw [show b2i (tkF 0 kd (m 1 0)) = 1 by simp [b2i, tkF, c1, c2, c3]]
        exact PX11_takesKind_16 c1 c2 (by decide) c3
      · rw [show b2i (tkF 0 kd (m 1 0)) = 0 by simp [b2i, tkF, c1, c2, c3]]
        exact PX11_takesKind_17 c1 c2 (by decide) c3
    · by_cases c4 : kd = 2
      · by_cases c5 : (m 1 0) = 1
        · rw [show b2i (tkF 0 kd (m 1 0)) = 1 by simp [b2i, tkF, c1, c2, c4, c5]]
          exact PX11_takesKind_6 c1 c2 c4 (by decide) c5
        · rw [show b2i (tkF 0 kd (m 1 0)) = 0 by simp [b2i, tkF, c1, c2, c4, c5]]
          exact PX11_takesKind_7 c1 c2 c4 (by decide) c5
      · by_cases c6 : kd = 6
        · by_cases c7 : (m 1 0) = 3
          · rw [show b2i (tkF 0 kd (m 1 0)) = 1 by simp [b2i, tkF, c1, c2, c4, c6, c7]]
            exact PX11_takesKind_9 c1 c2 c4 c6 (by decide) c7
          · rw [show b2i (tkF 0 kd (m 1 0)) = 0 by simp [b2i, tkF, c1, c2, c4, c6, c7]]
            exact PX11_takesKind_10 c1 c2 c4 c6 (by decide) c7
        · by_cases c8 : (m 1 0) = 3
          · rw [show b2i (tkF 0 kd (m 1 0)) = 1 by simp [b2i, tkF, c1, c2, c4, c6, c8]]
            exact PX11_takesKind_15 c1 c2 c4 c6 (ix_e (Or.inl rfl)) c8
          · by_cases c9 : (m 1 0) = 2
            · rw [show b2i (tkF 0 kd (m 1 0)) = 1 by simp [b2i, tkF, c1, c2, c4, c6, c8, c9]]
              exact PX11_takesKind_14 c1 c2 c4 c6 (ix_e (Or.inl rfl)) c8 c9
            · by_cases c10 : (m 1 0) = 4
              · rw [show b2i (tkF 0 kd (m 1 0)) = 1 by simp [b2i, tkF, c1, c2, c4, c6, c8, c9, c10]]
                exact PX11_takesKind_12 c1 c2 c4 c6 (ix_e (Or.inl rfl)) c8 c9 c10
              · rw [show b2i (tkF 0 kd (m 1 0)) = 0 by simp [b2i, tkF, c1, c2, c4, c6, c8, c9, c10]]
                exact PX11_takesKind_13 c1 c2 c4 c6 (ix_e (Or.inl rfl)) c8 c9 c10
theorem p_tkM1 (m : gm_Mem) (kd : Int32) : gm_run gM 0 YX11_takesKind 0 [some (.ref 0), some (.int (nI 1)), some (.int kd)] [] m (some (.int (b2i (tkF 1 kd (m 1 1))))) m := by
  by_cases c1 : kd = 0
  · by_cases c2 : (m 1 1) = 0
    · rw [show b2i (tkF 1 kd (m 1 1)) = 1 by simp [b2i, tkF, c1, c2]]
      exact PX11_takesKind_4 c1 (by decide) c2
    · by_cases c3 : (m 1 1) = 2
      · rw [show b2i (tkF 1 kd (m 1 1)) = 1 by simp [b2i, tkF, c1, c2, c3]]
        exact PX11_takesKind_3 c1 (by decide) c2 c3
      · by_cases c4 : (m 1 1) = 4
        · rw [show b2i (tkF 1 kd (m 1 1)) = 1 by simp [b2i, tkF, c1, c2, c3, c4]]
          exact PX11_takesKind_1 c1 (by decide) c2 c3 c4
        · rw [show b2i (tkF 1 kd (m 1 1)) = 0 by simp [b2i, tkF, c1, c2, c3, c4]]
          exact PX11_takesKind_2 c1 (by decide) c2 c3 c4
  · by_cases c5 : kd = 1
    · rw [show b2i (tkF 1 kd (m 1 1)) = 0 by simp [b2i, tkF, c1, c5]]
      exact PX11_takesKind_18 c1 c5 (by decide)
    · by_cases c6 : kd = 2
      · rw [show b2i (tkF 1 kd (m 1 1)) = 0 by simp [b2i, tkF, c1, c5, c6]]
        exact PX11_takesKind_8 c1 c5 c6 (by decide)
      · by_cases c7 : kd = 6
        · rw [show b2i (tkF 1 kd (m 1 1)) = 0 by simp [b2i, tkF, c1, c5, c6, c7]]
          exact PX11_takesKind_11 c1 c5 c6 c7 (by decide)
        · by_cases c8 : (m 1 1) = 3
          · rw [show b2i (tkF 1 kd (m 1 1)) = 1 by simp [b2i, tkF, c1, c5, c6, c7, c8]]
            exact PX11_takesKind_15 c1 c5 c6 c7 (ix_e (Or.inr rfl)) c8
          · by_cases c9 : (m 1 1) = 2
            · rw [show b2i (tkF 1 kd (m 1 1)) = 1 by simp [b2i, tkF, c1, c5, c6, c7, c8, c9]]
              exact PX11_takesKind_14 c1 c5 c6 c7 (ix_e (Or.inr rfl)) c8 c9
            · by_cases c10 : (m 1 1) = 4
              · rw [show b2i (tkF 1 kd (m 1 1)) = 1 by simp [b2i, tkF, c1, c5, c6, c7, c8, c9, c10]]
                exact PX11_takesKind_12 c1 c5 c6 c7 (ix_e (Or.inr rfl)) c8 c9 c10
              · rw [show b2i (tkF 1 kd (m 1 1)) = 0 by simp [b2i, tkF, c1, c5, c6, c7, c8, c9, c10]]
                exact PX11_takesKind_13 c1 c5 c6 c7 (ix_e (Or.inr rfl)) c8 c9 c10
theorem p_tkC0 {S : gm_Mem} (h0 : S 2 0 = 0) (kd : Int32) : gm_run gC 0 YX0_takesKind 0 [some (.ref 2), some (.int kd)] [] S (some (.int (b2i (tkF 0 kd (S 2 8))))) S := by
  by_cases c1 : kd = 0
  · rw [show b2i (tkF 0 kd (S 2 8)) = 0 by simp [b2i, tkF, c1]]
    exact PX0_takesKind_5 (by omega) c1 (by rw [h0]; decide)
  · by_cases c2 : kd = 1
    · by_cases c3 : (S 2 8) = 1
      · rw [show b2i (tkF 0 kd (S 2 8)) = 1 by simp [b2i, tkF, c1, c2, h0, c3]]
        exact PX0_takesKind_6 (by omega) c2 h0 c3
      · rw [show b2i (tkF 0 kd (S 2 8)) = 0 by simp [b2i, tkF, c1, c2, h0, c3]]
        exact PX0_takesKind_7 (by omega) c2 h0 c3
    · by_cases c4 : kd = 2
      · by_cases c5 : (S 2 8) = 1
        · rw [show b2i (tkF 0 kd (S 2 8)) = 1 by simp [b2i, tkF, c1, c2, c4, h0, c5]]
          exact PX0_takesKind_9 (by omega) c4 h0 c5
        · rw [show b2i (tkF 0 kd (S 2 8)) = 0 by simp [b2i, tkF, c1, c2, c4, h0, c5]]
          exact PX0_takesKind_10 (by omega) c4 h0 c5
      · by_cases c6 : kd = 3
        · by_cases c7 : (S 2 8) = 3
          · rw [show b2i (tkF 0 kd (S 2 8)) = 1 by simp [b2i, tkF, c1, c2, c4, c6, c7]]
            exact PX0_takesKind_15 (by omega) c6 c7
          · by_cases c8 : (S 2 8) = 2
            · rw [show b2i (tkF 0 kd (S 2 8)) = 1 by simp [b2i, tkF, c1, c2, c4, c6, c7, c8]]
              exact PX0_takesKind_14 (by omega) c6 c7 c8
            · by_cases c9 : (S 2 8) = 4
              · rw [show b2i (tkF 0 kd (S 2 8)) = 1 by simp [b2i, tkF, c1, c2, c4, c6, c7, c8, c9]]
                exact PX0_takesKind_12 (by omega) c6 c7 c8 c9
              · rw [show b2i (tkF 0 kd (S 2 8)) = 0 by simp [b2i, tkF, c1, c2, c4, c6, c7, c8, c9]]
                exact PX0_takesKind_13 (by omega) c6 c7 c8 c9
        · by_cases c10 : kd = 4
          · by_cases c11 : (S 2 8) = 3
            · rw [show b2i (tkF 0 kd (S 2 8)) = 1 by simp [b2i, tkF, c1, c2, c4, c6, c10, c11]]
              exact PX0_takesKind_19 (by omega) c10 c11
            · by_cases c12 : (S 2 8) = 2
              · rw [show b2i (tkF 0 kd (S 2 8)) = 1 by simp [b2i, tkF, c1, c2, c4, c6, c10, c11, c12]]
                exact PX0_takesKind_18 (by omega) c10 c11 c12
              · by_cases c13 : (S 2 8) = 4
                · rw [show b2i (tkF 0 kd (S 2 8)) = 1 by simp [b2i, tkF, c1, c2, c4, c6, c10, c11, c12, c13]]
                  exact PX0_takesKind_16 (by omega) c10 c11 c12 c13
                · rw [show b2i (tkF 0 kd (S 2 8)) = 0 by simp [b2i, tkF, c1, c2, c4, c6, c10, c11, c12, c13]]
                  exact PX0_takesKind_17 (by omega) c10 c11 c12 c13
          · by_cases c14 : kd = 5
            · by_cases c15 : (S 2 8) = 3
              · rw [show b2i (tkF 0 kd (S 2 8)) = 1 by simp [b2i, tkF, c1, c2, c4, c6, c10, c14, c15]]
                exact PX0_takesKind_23 (by omega) c14 c15
              · by_cases c16 : (S 2 8) = 2
                · rw [show b2i (tkF 0 kd (S 2 8)) = 1 by simp [b2i, tkF, c1, c2, c4, c6, c10, c14, c15, c16]]
                  exact PX0_takesKind_22 (by omega) c14 c15 c16
                · by_cases c17 : (S 2 8) = 4
                  · rw [show b2i (tkF 0 kd (S 2 8)) = 1 by simp [b2i, tkF, c1, c2, c4, c6, c10, c14, c15, c16, c17]]
                    exact PX0_takesKind_20 (by omega) c14 c15 c16 c17
                  · rw [show b2i (tkF 0 kd (S 2 8)) = 0 by simp [b2i, tkF, c1, c2, c4, c6, c10, c14, c15, c16, c17]]
                    exact PX0_takesKind_21 (by omega) c14 c15 c16 c17
            · by_cases c18 : kd = 6
              · by_cases c19 : (S 2 8) = 3
                · rw [show b2i (tkF 0 kd (S 2 8)) = 1 by simp [b2i, tkF, c1, c2, c4, c6, c10, c14, c18, h0, c19]]
                  exact PX0_takesKind_24 (by omega) c18 h0 c19
                · rw [show b2i (tkF 0 kd (S 2 8)) = 0 by simp [b2i, tkF, c1, c2, c4, c6, c10, c14, c18, h0, c19]]
                  exact PX0_takesKind_25 (by omega) c18 h0 c19
              · by_cases c20 : (S 2 8) = 3
                · rw [show b2i (tkF 0 kd (S 2 8)) = 1 by simp [b2i, tkF, c1, c2, c4, c6, c10, c14, c18, c20]]
                  exact PX0_takesKind_30 (by omega) (by simp only [← Int32.toInt_inj, Int32.reduceToInt] at c1 c2 c4 c6 c10 c14 c18 c20; omega) c20
                · by_cases c21 : (S 2 8) = 2
                  · rw [show b2i (tkF 0 kd (S 2 8)) = 1 by simp [b2i, tkF, c1, c2, c4, c6, c10, c14, c18, c20, c21]]
                    exact PX0_takesKind_29 (by omega) (by simp only [← Int32.toInt_inj, Int32.reduceToInt] at c1 c2 c4 c6 c10 c14 c18 c20 c21; omega) c20 c21
                  · by_cases c22 : (S 2 8) = 4
                    · rw [show b2i (tkF 0 kd (S 2 8)) = 1 by simp [b2i, tkF, c1, c2, c4, c6, c10, c14, c18, c20, c21, c22]]
                      exact PX0_takesKind_27 (by omega) (by simp only [← Int32.toInt_inj, Int32.reduceToInt] at c1 c2 c4 c6 c10 c14 c18 c20 c21 c22; omega) c20 c21 c22
                    · rw [show b2i (tkF 0 kd (S 2 8)) = 0 by simp [b2i, tkF, c1, c2, c4, c6, c10, c14, c18, c20, c21, c22]]
                      exact PX0_takesKind_28 (by omega) (by simp only [← Int32.toInt_inj, Int32.reduceToInt] at c1 c2 c4 c6 c10 c14 c18 c20 c21 c22; omega) c20 c21 c22
theorem p_tkC1 {S : gm_Mem} (h0 : S 14 0 = 1) (kd : Int32) : gm_run gC 0 YX0_takesKind 0 [some (.ref 14), some (.int kd)] [] S (some (.int (b2i (tkF 1 kd (S 14 8))))) S := by
  by_cases c1 : kd = 0
  · by_cases c2 : (S 14 8) = 0
    · rw [show b2i (tkF 1 kd (S 14 8)) = 1 by simp [b2i, tkF, c1, h0, c2]]
      exact PX0_takesKind_4 (by omega) c1 h0 c2
    · by_cases c3 : (S 14 8) = 2
      · rw [show b2i (tkF 1 kd (S 14 8)) = 1 by simp [b2i, tkF, c1, h0, c2, c3]]
        exact PX0_takesKind_3 (by omega) c1 h0 c2 c3
      · by_cases c4 : (S 14 8) = 4
        · rw [show b2i (tkF 1 kd (S 14 8)) = 1 by simp [b2i, tkF, c1, h0, c2, c3, c4]]
          exact PX0_takesKind_1 (by omega) c1 h0 c2 c3 c4
        · rw [show b2i (tkF 1 kd (S 14 8)) = 0 by simp [b2i, tkF, c1, h0, c2, c3, c4]]
          exact PX0_takesKind_2 (by omega) c1 h0 c2 c3 c4
  · by_cases c5 : kd = 1
    · rw [show b2i (tkF 1 kd (S 14 8)) = 0 by simp [b2i, tkF, c1, c5]]
      exact PX0_takesKind_8 (by omega) c5 (by rw [h0]; decide)
    · by_cases c6 : kd = 2
      · rw [show b2i (tkF 1 kd (S 14 8)) = 0 by simp [b2i, tkF, c1, c5, c6]]
        exact PX0_takesKind_11 (by omega) c6 (by rw [h0]; decide)
      · by_cases c7 : kd = 3
        · by_cases c8 : (S 14 8) = 3
          · rw [show b2i (tkF 1 kd (S 14 8)) = 1 by simp [b2i, tkF, c1, c5, c6, c7, c8]]
            exact PX0_takesKind_15 (by omega) c7 c8
          · by_cases c9 : (S 14 8) = 2
            · rw [show b2i (tkF 1 kd (S 14 8)) = 1 by simp [b2i, tkF, c1, c5, c6, c7, c8, c9]]
              exact PX0_takesKind_14 (by omega) c7 c8 c9
            · by_cases c10 : (S 14 8) = 4
              · rw [show b2i (tkF 1 kd (S 14 8)) = 1 by simp [b2i, tkF, c1, c5, c6, c7, c8, c9, c10]]
                exact PX0_takesKind_12 (by omega) c7 c8 c9 c10
              · rw [show b2i (tkF 1 kd (S 14 8)) = 0 by simp [b2i, tkF, c1, c5, c6, c7, c8, c9, c10]]
                exact PX0_takesKind_13 (by omega) c7 c8 c9 c10
        · by_cases c11 : kd = 4
          · by_cases c12 : (S 14 8) = 3
            · rw [show b2i (tkF 1 kd (S 14 8)) = 1 by simp [b2i, tkF, c1, c5, c6, c7, c11, c12]]
              exact PX0_takesKind_19 (by omega) c11 c12
            · by_cases c13 : (S 14 8) = 2
              · rw [show b2i (tkF 1 kd (S 14 8)) = 1 by simp [b2i, tkF, c1, c5, c6, c7, c11, c12, c13]]
                exact PX0_takesKind_18 (by omega) c11 c12 c13
              · by_cases c14 : (S 14 8) = 4
                · rw [show b2i (tkF 1 kd (S 14 8)) = 1 by simp [b2i, tkF, c1, c5, c6, c7, c11, c12, c13, c14]]
                  exact PX0_takesKind_16 (by omega) c11 c12 c13 c14
                · rw [show b2i (tkF 1 kd (S 14 8)) = 0 by simp [b2i, tkF, c1, c5, c6, c7, c11, c12, c13, c14]]
                  exact PX0_takesKind_17 (by omega) c11 c12 c13 c14
          · by_cases c15 : kd = 5
            · by_cases c16 : (S 14 8) = 3
              · rw [show b2i (tkF 1 kd (S 14 8)) = 1 by simp [b2i, tkF, c1, c5, c6, c7, c11, c15, c16]]
                exact PX0_takesKind_23 (by omega) c15 c16
              · by_cases c17 : (S 14 8) = 2
                · rw [show b2i (tkF 1 kd (S 14 8)) = 1 by simp [b2i, tkF, c1, c5, c6, c7, c11, c15, c16, c17]]
                  exact PX0_takesKind_22 (by omega) c15 c16 c17
                · by_cases c18 : (S 14 8) = 4
                  · rw [show b2i (tkF 1 kd (S 14 8)) = 1 by simp [b2i, tkF, c1, c5, c6, c7, c11, c15, c16, c17, c18]]
                    exact PX0_takesKind_20 (by omega) c15 c16 c17 c18
                  · rw [show b2i (tkF 1 kd (S 14 8)) = 0 by simp [b2i, tkF, c1, c5, c6, c7, c11, c15, c16, c17, c18]]
                    exact PX0_takesKind_21 (by omega) c15 c16 c17 c18
            · by_cases c19 : kd = 6
              · rw [show b2i (tkF 1 kd (S 14 8)) = 0 by simp [b2i, tkF, c1, c5, c6, c7, c11, c15, c19]]
                exact PX0_takesKind_26 (by omega) c19 (by rw [h0]; decide)
              · by_cases c20 : (S 14 8) = 3
                · rw [show b2i (tkF 1 kd (S 14 8)) = 1 by simp [b2i, tkF, c1, c5, c6, c7, c11, c15, c19, c20]]
                  exact PX0_takesKind_30 (by omega) (by simp only [← Int32.toInt_inj, Int32.reduceToInt] at c1 c5 c6 c7 c11 c15 c19 c20; omega) c20
                · by_cases c21 : (S 14 8) = 2
                  · rw [show b2i (tkF 1 kd (S 14 8)) = 1 by simp [b2i, tkF, c1, c5, c6, c7, c11, c15, c19, c20, c21]]
                    exact PX0_takesKind_29 (by omega) (by simp only [← Int32.toInt_inj, Int32.reduceToInt] at c1 c5 c6 c7 c11 c15 c19 c20 c21; omega) c20 c21
                  · by_cases c22 : (S 14 8) = 4
                    · rw [show b2i (tkF 1 kd (S 14 8)) = 1 by simp [b2i, tkF, c1, c5, c6, c7, c11, c15, c19, c20, c21, c22]]
                      exact PX0_takesKind_27 (by omega) (by simp only [← Int32.toInt_inj, Int32.reduceToInt] at c1 c5 c6 c7 c11 c15 c19 c20 c21 c22; omega) c20 c21 c22
                    · rw [show b2i (tkF 1 kd (S 14 8)) = 0 by simp [b2i, tkF, c1, c5, c6, c7, c11, c15, c19, c20, c21, c22]]
                      exact PX0_takesKind_28 (by omega) (by simp only [← Int32.toInt_inj, Int32.reduceToInt] at c1 c5 c6 c7 c11 c15 c19 c20 c21 c22; omega) c20 c21 c22
theorem p_tk {m S : gm_Mem} {e : Nat} (he : e = 0 ∨ e = 1) (h0 : S (2 + 12 * e) 0 = nI e) (hx : m 1 e = S (2 + 12 * e) 8) (kd : Int32) :
    gm_run gM 0 YX11_takesKind 0 [some (.ref 0), some (.int (nI e)), some (.int kd)] [] m (some (.int (b2i (tkF e kd (m 1 e))))) m ∧ gm_run gC 0 YX0_takesKind 0 [some (.ref (2 + 12 * e)), some (.int kd)] [] S (some (.int (b2i (tkF e kd (m 1 e))))) S := by
  rcases he with rfl | rfl
  · refine ⟨p_tkM0 m kd, ?_⟩
    rw [hx]
    exact p_tkC0 h0 kd
  · refine ⟨p_tkM1 m kd, ?_⟩
    rw [hx]
    exact p_tkC1 h0 kd
theorem p_ticket {m S : gm_Mem} (h : r_tick (m 0 38) (m 27) (m 28) (S 52) (S 53) (S 54)) (li : m 0 2 = S 1 7) (ti : m 0 4 = S 1 8) (t : Int32) : ∃ v : Int32, (v = 0 ∨ v = 1) ∧
    gm_run gM 1 YX11_isTicket 0 [some (.ref 0), some (.int t)] [] m (some (.int v)) m ∧ gm_run gC 1 YX7_isValid 0 [some (.ref 52), some (.int t), some (.int (S 1 8)), some (.int (S 1 7))] [] S (some (.int v)) S ∧
    (v = 1 → ∃ j i : Nat, j < i ∧ i ≤ 16 ∧ m 0 38 = nI i ∧ t = nI j) := by
  obtain ⟨i, h1, h2, h3, h4, h5, h6⟩ := h
  have hb := p_between m t 0 ((m 0 38) - 1)
  by_cases c1 : t < 0
  · rw [b2i_f (fun q => q.1 c1)] at hb
    exact ⟨0, Or.inl rfl, PX11_isTicket_4 hb rfl, PX7_isValid_4 (by decide) (PX7_isIssued_4 (by decide) c1) rfl, fun q => absurd q (by decide)⟩
  · obtain ⟨j, hj, rfl⟩ := nI_of c1
    by_cases c2 : j < i
    · have k2 : nI j < S 52 2 := by rw [h3]; exact (nI_ltI (by omega) (by omega)).mpr c2
      have k3 : nI j < 16 := (nI_ltI (a := j) (b := 16) (by omega) (by decide)).mpr (by omega)
      have k4 : ¬ ((m 0 38) - 1) < nI j := by
        rw [h2, show i = (i - 1) + 1 by omega, nI_pred, nI_ltI (by omega) (by omega)]
        omega
      rw [b2i_t ⟨c1, k4⟩] at hb
      have iss := PX7_isIssued_1 (p := 52) (S := S) (by decide) c1 k2 k3
      have ij := ix_n (j := j) (N := 16) (by omega) (by decide)
      obtain ⟨f1, f2⟩ := h4 j c2
      by_cases c5 : m 28 j = 0
      · by_cases c6 : (m 0 2) < ((m 0 4) - (m 27 j))
        · refine ⟨0, Or.inl rfl, PX11_isTicket_2 hb (by decide) ij c5 c6, PX7_isValid_2 (by decide) iss (by decide) ij (f2.symm.trans c5) ?_, fun q => absurd q (by decide)⟩
          rw [← li, ← ti]
          show (m 0 2) < ((m 0 4) - (S 53 j))
          rw [← f1]; exact c6
        · refine ⟨1, Or.inr rfl, PX11_isTicket_1 hb (by decide) ij c5 c6, PX7_isValid_1 (by decide) iss (by decide) ij (f2.symm.trans c5) ?_, fun _ => ⟨j, i, c2, h1, h2, rfl⟩⟩
          rw [← li, ← ti]
          show ¬ (m 0 2) < ((m 0 4) - (S 53 j))
          rw [← f1]; exact c6
      · exact ⟨0, Or.inl rfl, PX11_isTicket_3 hb (by decide) ij c5, PX7_isValid_3 (by decide) iss (by decide) ij (fun q => c5 (f2.trans q)), fun q => absurd q (by decide)⟩
    · have k2 : ¬ nI j < S 52 2 := by rw [h3, nI_ltI (by omega) (by omega)]; exact c2
      have k4 : ((m 0 38) - 1) < nI j := by
        rw [h2]
        by_cases i0 : i = 0
        · subst i0
          rw [Int32.lt_iff_toInt_lt, nI_toInt hj]
          have : (nI 0 - 1).toInt = -1 := by decide
          omega
        · rw [show i = (i - 1) + 1 by omega, nI_pred, nI_ltI (by omega) (by omega)]
          omega
      rw [b2i_f (fun q => q.2 k4)] at hb
      exact ⟨0, Or.inl rfl, PX11_isTicket_4 hb rfl, PX7_isValid_4 (by decide) (PX7_isIssued_3 (by decide) c1 k2) rfl, fun q => absurd q (by decide)⟩
theorem p_epoch {m S : gm_Mem} {e b : Nat} (hb : b < 1000000000) (he : e = 0 ∨ e = 1) (k : Int32) (hk : 0 ≤ k.toInt ∧ k.toInt ≤ b) (e7 : m 7 e = S (2 + 12 * e) 13) (h7 : 0 ≤ (S (2 + 12 * e) 13).toInt ∧ (S (2 + 12 * e) 13).toInt ≤ b)
    (hold : (S (2 + 12 * e) 6 = 0 ∧ m 12 e = 0) ∨ (S (2 + 12 * e) 6 = 1 ∧ 1 ≤ (m 12 e).toInt)) : ∃ v : Int32, (v = 0 ∨ v = 1) ∧
    gm_run gM 1 YX11_isOwnEpoch 0 [some (.ref 0), some (.int (nI e)), some (.int k)] [] m (some (.int v)) m ∧ gm_run gC 0 YX0_takesEpoch 0 [some (.ref (2 + 12 * e)), some (.int k), none] [] S (some (.int v)) S ∧
    (v = 1 → ((m 7 e).toInt ≤ k.toInt ∧ k.toInt ≤ (m 7 e).toInt + 2) ∨ (k.toInt = (m 7 e).toInt - 1 ∧ 1 ≤ (m 12 e).toInt)) := by
  have hbt := p_between m k (m 7 e) ((m 7 e) + 2)
  rw [← e7] at h7
  have ke : 2 + 12 * e = 2 ∨ 2 + 12 * e = 14 ∨ 2 + 12 * e = 60 ∨ 2 + 12 * e = 72 := by omega
  have tadd : ((m 7 e) + 2).toInt = (m 7 e).toInt + 2 := by
    simp only [Int32.toInt_add, Int32.reduceToInt, Int.bmod]
    omega
  have tsub : (k - (m 7 e)).toInt = k.toInt - (m 7 e).toInt := by
    simp only [Int32.toInt_sub, Int.bmod]
    omega
  have tm1 : ((m 7 e) - 1).toInt = (m 7 e).toInt - 1 := by
    simp only [Int32.toInt_sub, Int32.reduceToInt, Int.bmod]
    omega
  have z0 : (0 : Int32).toInt = 0 := rfl
  have z2 : (2 : Int32).toInt = 2 := rfl
  have zm : (-1 : Int32).toInt = -1 := rfl
  have cC (P : Int32 → Prop) (h : P (k - (m 7 e))) : P (k - (S (2 + 12 * e) 13)) := by rw [← e7]; exact h
  by_cases c1 : k.toInt < (m 7 e).toInt
  · have d1 : k < m 7 e := by rw [Int32.lt_iff_toInt_lt]; exact c1
    rw [b2i_f (fun q => q.1 d1)] at hbt
    have x1 : (k - (S (2 + 12 * e) 13)) < 0 := cC (fun z => z < 0) (by rw [Int32.lt_iff_toInt_lt, tsub, z0]; omega)
    rcases hold with ⟨o1, o2⟩ | ⟨o1, o2⟩
    · exact ⟨0, Or.inl rfl, PX11_isOwnEpoch_3 (ix_e he) hbt rfl (PX11_hasOld_2 (ix_e he) (by rw [o2]; decide)) rfl, PX0_takesEpoch_7 ke x1 o1, fun q => absurd q (by decide)⟩
    · have ho := PX11_hasOld_1 (a1 := nI e) (S := m) (ix_e he) (show 0 < m 12 e by rw [Int32.lt_iff_toInt_lt, z0]; omega)
      by_cases c2 : k.toInt = (m 7 e).toInt - 1
      · refine ⟨1, Or.inr rfl, PX11_isOwnEpoch_1 (ix_e he) hbt rfl ho (by decide) ?_, PX0_takesEpoch_5 ke x1 (by rw [o1]; decide) (cC (fun z => z = -1) ?_), fun _ => Or.inr ⟨c2, o2⟩⟩
        · rw [← Int32.toInt_inj, tm1]; exact c2
        · rw [← Int32.toInt_inj, tsub, zm]; omega
      · refine ⟨0, Or.inl rfl, PX11_isOwnEpoch_2 (ix_e he) hbt rfl ho (by decide) ?_, PX0_takesEpoch_6 ke x1 (by rw [o1]; decide) (cC (fun z => ¬ z = -1) ?_), fun q => absurd q (by decide)⟩
        · rw [← Int32.toInt_inj, tm1]; exact c2
        · rw [← Int32.toInt_inj, tsub, zm]; omega
  · have d1 : ¬ k < m 7 e := by rw [Int32.lt_iff_toInt_lt]; exact c1
    have x1 : ¬ (k - (S (2 + 12 * e) 13)) < 0 := cC (fun z => ¬ z < 0) (by rw [Int32.lt_iff_toInt_lt, tsub, z0]; omega)
    by_cases c2 : k.toInt ≤ (m 7 e).toInt + 2
    · rw [b2i_t ⟨d1, by rw [Int32.lt_iff_toInt_lt, tadd]; omega⟩] at hbt
      exact ⟨1, Or.inr rfl, PX11_isOwnEpoch_4 (ix_e he) hbt (by decide), PX0_takesEpoch_4 ke x1 (cC (fun z => ¬ 2 < z) (by rw [Int32.lt_iff_toInt_lt, tsub, z2]; omega)), fun _ => Or.inl ⟨by omega, c2⟩⟩
    · have d2 : ((m 7 e) + 2) < k := by rw [Int32.lt_iff_toInt_lt, tadd]; omega
      rw [b2i_f (fun q => q.2 d2)] at hbt
      have x2 : 2 < (k - (S (2 + 12 * e) 13)) := cC (fun z => 2 < z) (by rw [Int32.lt_iff_toInt_lt, tsub, z2]; omega)
      rcases hold with ⟨o1, o2⟩ | ⟨o1, o2⟩
      · exact ⟨0, Or.inl rfl, PX11_isOwnEpoch_3 (ix_e he) hbt rfl (PX11_hasOld_2 (ix_e he) (by rw [o2]; decide)) rfl, PX0_takesEpoch_3 ke x1 x2 o1, fun q => absurd q (by decide)⟩
      · have ho := PX11_hasOld_1 (a1 := nI e) (S := m) (ix_e he) (show 0 < m 12 e by rw [Int32.lt_iff_toInt_lt, z0]; omega)
        refine ⟨0, Or.inl rfl, PX11_isOwnEpoch_2 (ix_e he) hbt rfl ho (by decide) ?_, PX0_takesEpoch_2 ke x1 x2 (by rw [o1]; decide) (cC (fun z => ¬ z = -1) ?_), fun q => absurd q (by decide)⟩
        · rw [← Int32.toInt_inj, tm1]; omega
        · rw [← Int32.toInt_inj, tsub, zm]; omega
