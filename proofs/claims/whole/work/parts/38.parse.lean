/-! The parsers' small pairs: here, isDigit, takesNumber / readNumber -/
def hr (L R : Nat) (tx : Nat → Int32) : Int32 := if R < L then tx R else -1
abbrev dgP (L R : Nat) (tx : Nat → Int32) : Prop := ¬ hr L R tx < 48 ∧ ¬ 57 < hr L R tx
theorem p_hereC {S : gm_Mem} {L R : Nat} (hL : L ≤ 40) (hR : R ≤ 40) (h4 : S 117 4 = nI L) (h6 : S 117 6 = nI R) : gm_run gC 0 YX6_here 0 [some (.ref 117)] [] S (some (.int (hr L R (S 118)))) S := by
  unfold hr
  by_cases c : R < L
  · rw [if_pos c]
    exact PX6_here_2 (by rw [h6]; exact nI_pos (by omega)) (by rw [h6, h4]; exact (nI_ltI (by omega) (by omega)).mpr c) (by rw [h6]; exact (nI_ltI (b := 40) (by omega) (by decide)).mpr (by omega)) (ix_c h6 (by omega) (by decide))
  · rw [if_neg c]
    exact PX6_here_3 (by rw [h6]; exact nI_pos (by omega)) (by rw [h6, h4, nI_ltI (by omega) (by omega)]; exact c)
theorem p_digitC {S : gm_Mem} {L R : Nat} (hL : L ≤ 40) (hR : R ≤ 40) (h4 : S 117 4 = nI L) (h6 : S 117 6 = nI R) : gm_run gC 1 YX6_isDigit 0 [some (.ref 117)] [] S (some (.int (b2i (dgP L R (S 118))))) S := by
  have hh := p_hereC hL hR h4 h6
  by_cases c1 : hr L R (S 118) < 48
  · rw [b2i_f (fun z => z.1 c1)]
    exact PX6_isDigit_3 hh c1
  · by_cases c2 : 57 < hr L R (S 118)
    · rw [b2i_f (fun z => z.2 c2)]
      exact PX6_isDigit_2 hh c1 hh c2
    · rw [b2i_t ⟨c1, c2⟩]
      exact PX6_isDigit_1 hh c1 hh c2
theorem p_digitM {m : gm_Mem} {L R : Nat} {tx : Nat → Int32} (hL : L ≤ 40) (hR : R ≤ 40) (h51 : m 0 51 = nI L) (h52 : m 0 52 = nI R) (ht : ∀ i, i < L → m 33 i = tx i) : gm_run gM 1 YX11_isDigit 0 [some (.ref 0)] [] m (some (.int (b2i (dgP L R tx)))) m := by
  by_cases c : R < L
  · have c1 : m 0 52 < m 0 51 := by rw [h51, h52]; exact (nI_ltI (by omega) (by omega)).mpr c
    have hb := p_between m (m 33 R) 48 57
    have e1 : hr L R tx = m 33 R := by unfold hr; rw [if_pos c, ht R c]
    by_cases d : ¬ m 33 R < 48 ∧ ¬ 57 < m 33 R
    · rw [b2i_t d] at hb
      rw [b2i_t (by unfold dgP; rw [e1]; exact d)]
      exact PX11_isDigit_1 c1 (ix_c h52 (by omega) (by decide)) hb (by decide)
    · rw [b2i_f d] at hb
      rw [b2i_f (by unfold dgP; rw [e1]; exact d)]
      exact PX11_isDigit_2 c1 (ix_c h52 (by omega) (by decide)) hb rfl
  · have e1 : hr L R tx = -1 := by unfold hr; rw [if_neg c]
    rw [b2i_f (by unfold dgP; rw [e1]; exact fun z => z.1 (by decide))]
    exact PX11_isDigit_3 (by rw [h51, h52, nI_ltI (by omega) (by omega)]; exact c)
theorem hr_in {L R : Nat} {tx : Nat → Int32} (h : dgP L R tx) : R < L := by
  by_cases c : R < L
  · exact c
  · have e1 : hr L R tx = -1 := by unfold hr; rw [if_neg c]
    unfold dgP at h
    rw [e1] at h
    exact absurd (by decide) h.1
/-- the number at a place, and how many codes it takes -/
def nuF (L R : Nat) (tx : Nat → Int32) : Int32 := if dgP L (R + 1) tx then ((tx R - 48) * 10) + (tx (R + 1) - 48) else tx R - 48
def nuN (L R : Nat) (tx : Nat → Int32) : Nat := if dgP L (R + 1) tx then 2 else 1
theorem p_numC {S : gm_Mem} {L R : Nat} (hL : L ≤ 40) (hd : dgP L R (S 118)) (h4 : S 117 4 = nI L) (h6 : S 117 6 = nI R) : gm_run gC 2 YX6_readNumber 0 [some (.ref 117), none] [] S (some (.int (nuF L R (S 118)))) (gm_u S 117 6 (nI (R + nuN L R (S 118)))) ∧ R + nuN L R (S 118) ≤ L := by
  have hR := hr_in hd
  have h1 := PX6_readDigit_1 (p_hereC hL (by omega) h4 h6)
  have e0 : hr L R (S 118) = S 118 R := by unfold hr; rw [if_pos hR]
  rw [e0, h6, nI_1] at h1
  have hT4 : (gm_u S 117 6 (nI (R + 1))) 117 4 = nI L := h4
  have hT6 : (gm_u S 117 6 (nI (R + 1))) 117 6 = nI (R + 1) := by simp [gm_u]
  have hT : (gm_u S 117 6 (nI (R + 1))) 118 = S 118 := rfl
  have h2 := p_digitC (S := gm_u S 117 6 (nI (R + 1))) (R := R + 1) hL (by omega) hT4 hT6
  rw [hT] at h2
  unfold nuF nuN
  by_cases c : dgP L (R + 1) (S 118)
  · have hR1 := hr_in c
    have h3 := PX6_readDigit_1 (p_hereC (S := gm_u S 117 6 (nI (R + 1))) (R := R + 1) hL (by omega) hT4 hT6)
    have e1 : hr L (R + 1) ((gm_u S 117 6 (nI (R + 1))) 118) = S 118 (R + 1) := by unfold hr; rw [if_pos hR1]; rfl
    rw [e1, hT6, nI_1] at h3
    have hu : gm_u (gm_u S 117 6 (nI (R + 1))) 117 6 (nI (R + 1 + 1)) = gm_u S 117 6 (nI (R + 2)) := by
      funext p
      by_cases hp : p = 117
      · subst hp
        funext k
        by_cases hk : k = 6
        · simp [gm_u, hk]
        · simp [gm_u, hk]
      · simp [gm_u, hp]
    rw [hu] at h3
    rw [b2i_t c] at h2
    rw [if_pos c, if_pos c]
    exact ⟨PX6_readNumber_1 h1 h2 (by decide) h3, by omega⟩
  · rw [b2i_f c] at h2
    rw [if_neg c, if_neg c]
    exact ⟨PX6_readNumber_2 h1 h2 rfl, by omega⟩
