/-! The parsers' small pairs: here, isDigit, takesNumber / readNumber -/
def hr (L R : Nat) (tx : Nat → Int32) : Int32 := if R < L then tx R else -1
abbrev dgP (L R : Nat) (tx : Nat → Int32) : Prop := ¬ hr L R tx < 48 ∧ ¬ 57 < hr L R tx
theorem p_hereC {S : gm_Mem} {L R : Nat} (hL : L ≤ 40) (hR : R ≤ 40) (h4 : S 117 4 = nI L) (h6 : S 117 6 = nI R) : gm_run gC 0 YX6_here 0 [some (.ref 117)] [] S (some (.int (hr L R (S 118)))) S := by
  unfold hr
  by_cases c : R < L
  · rw [if_pos c]
    exact PX6_here_2 (by rw [h6]; exact nI_pos (by omega)) (by rw [h6, h4]; exact (nI_ltI (by omega) (by omega)).mpr c) (by rw [h6]; exact (nI_ltI (b := 40) (by omega) (by decide)).mpr (by omega)) (ix_c h6 (by omega) (by decide))
  · rw [if_neg c]
    exact PX6_here_3 (by rw [h6]; exact nI_pos (by omega)) (by rw [h6, h4, nI_ltI (by omega) (by omega)]; exact c)
theorem p_digitC {S : gm_Mem} {L R : Nat} (hL : L ≤ 40) (hR : R ≤ 40) (h4 : S 117 4 = nI L) (h6 : S 117 6 = nI R) : gm_run gC 1 YX6_isDigit 0 [some (.ref 117)] [] S (some (.int (b2i (dgP L R (S 118))))) S := by
  have hh := p_hereC hL hR h4 h6
  by_cases c1 : hr L R (S 118) < 48
  · rw [b2i_f (fun z => z.1 c1)]
    exact PX6_isDigit_3 hh c1
  · by_cases c2 : 57 < hr L R (S 118)
    · rw [b2i_f (fun z => z.2 c2)]
      exact PX6_isDigit_2 hh c1 hh c2
    · rw [b2i_t ⟨c1, c2⟩]
      exact PX6_isDigit_1 hh c1 hh c2
theorem p_digitM {m : gm_Mem} {L R : Nat} {tx : Nat → Int32} (hL : L ≤ 40) (hR : R ≤ 40) (h51 : m 0 51 = nI L) (h52 : m 0 52 = nI R) (ht : ∀ i, i < L → m 33 i = tx i) : gm_run gM 1 YX11_isDigit 0 [some (.ref 0)] [] m (some (.int (b2i (dgP L R tx)))) m := by
  by_cases c : R < L
  · have c1 : m 0 52 < m 0 51 := by rw [h51, h52]; exact (nI_ltI (by omega) (by omega)).mpr c
    have hb := p_between m (m 33 R) 48 57
    have e1 : hr L R tx = m 33 R := by unfold hr; rw [if_pos c, ht R c]
    by_cases d : ¬ m 33 R < 48 ∧ ¬ 57 < m 33 R
    · rw [b2i_t d] at hb
      rw [b2i_t (by unfold dgP; rw [e1]; exact d)]
      exact PX11_isDigit_1 c1 (ix_c h52 (by omega) (by decide)) hb (by decide)
    · rw [b2i_f d] at hb
      rw [b2i_f (by unfold dgP; rw [e1]; exact d)]
      exact PX11_isDigit_2 c1 (ix_c h52 (by omega) (by decide)) hb rfl
  · have e1 : hr L R tx = -1 := by unfold hr; rw [if_neg c]
    rw [b2i_f (by unfold dgP; rw [e1]; exact fun z => z.1 (by decide))]
    exact PX11_isDigit_3 (by rw [h51, h52, nI_ltI (by omega) (by omega)]; exact c)
theorem hr_in {L R : Nat} {tx : Nat → Int32} (h : dgP L R tx) : R < L := by
  by_cases c : R < L
  · exact c
  · have e1 : hr L R tx = -1 := by unfold hr; rw [if_neg c]
    unfold dgP at h
    rw [e1] at h
    exact absurd (by decide) h.1
/-- the number at a place, and how many codes it takes -/
def nuF (L R : Nat) (tx : Nat → Int32) : Int32 := if dgP L (R + 1) tx then ((tx R - 48) * 10) + (tx (R + 1) - 48) else tx R - 48
def nuN (L R : Nat) (tx : Nat → Int32) : Nat := if dgP L (R + 1) tx then 2 else 1
theorem p_numC {S : gm_Mem} {L R : Nat} (hL : L ≤ 40) (hd : dgP L R (S 118)) (h4 : S 117 4 = nI L) (h6 : S 117 6 = nI R) : gm_run gC 2 YX6_readNumber 0 [some (.ref 117), none] [] S (some (.int (nuF L R (S 118)))) (gm_u S 117 6 (nI (R + nuN L R (S 118)))) ∧ R + nuN L R (S 118) ≤ L := by
  have hR := hr_in hd
  have h1 := PX6_readDigit_1 (p_hereC hL (by omega) h4 h6)
  have e0 : hr L R (S 118) = S 118 R := by unfold hr; rw [if_pos hR]
  rw [e0, h6, nI_1] at h1
  have hT4 : (gm_u S 117 6 (nI (R + 1))) 117 4 = nI L := h4
  have hT6 : (gm_u S 117 6 (nI (R + 1))) 117 6 = nI (R + 1) := by simp [gm_u]
  have hT : (gm_u S 117 6 (nI (R + 1))) 118 = S 118 := rfl
  have h2 := p_digitC (S := gm_u S 117 6 (nI (R + 1))) (R := R + 1) hL (by omega) hT4 hT6
  rw [hT] at h2
  unfold nuF nuN
  by_cases c : dgP L (R + 1) (S 118)
  · have hR1 := hr_in c
    have h3 := PX6_readDigit_1 (p_hereC (S := gm_u S 117 6 (nI (R + 1))) (R := R + 1) hL (by omega) hT4 hT6)
    have e1 : hr L (R + 1) ((gm_u S 117 6 (nI (R + 1))) 118) = S 118 (R + 1) := by unfold hr; rw [if_pos hR1]; rfl
    rw [e1, hT6, nI_1] at h3
    have hu : gm_u (gm_u S 117 6 (nI (R + 1))) 117 6 (nI (R + 1 + 1)) = gm_u S 117 6 (nI (R + 2)) := by
      funext p
      by_cases hp : p = 117
      · subst hp
        funext k
        by_cases hk : k = 6
        · simp [gm_u, hk]
        · simp [gm_u, hk]
      · simp [gm_u, hp]
    rw [hu] at h3
    rw [b2i_t c] at h2
    rw [if_pos c, if_pos c]
    exact ⟨PX6_readNumber_1 h1 h2 (by decide) h3, by omega⟩
  · rw [b2i_f c] at h2
    rw [if_neg c, if_neg c]
    exact ⟨PX6_readNumber_2 h1 h2 rfl, by omega⟩
theorem r_uu {S : gm_Mem} {p k : Nat} {x y : Int32} : gm_u (gm_u S p k x) p k y = gm_u S p k y := by
  funext q
  by_cases hp : q = p
  · subst hp
    funext j
    by_cases hk : j = k
    · simp [gm_u, hk]
    · simp [gm_u, hk]
  · simp [gm_u, hp]
theorem r_ucomm {S : gm_Mem} {p q k j : Nat} {x y : Int32} (h : p ≠ q) : gm_u (gm_u S p k x) q j y = gm_u (gm_u S q j y) p k x := by
  funext r
  by_cases h1 : r = p
  · subst h1
    simp [gm_u, h]
  · by_cases h2 : r = q
    · subst h2
      simp [gm_u, h1]
    · simp [gm_u, h1, h2]
theorem p_numM {m : gm_Mem} {L R A : Nat} {tx : Nat → Int32} (hL : L ≤ 40) (hA : A < 20) (h51 : m 0 51 = nI L) (h52 : m 0 52 = nI R) (h53 : m 0 53 = nI A) (ht : ∀ i, i < L → m 33 i = tx i) (hd : dgP L R tx) : gm_run gM 2 YX11_takesNumber 0 [some (.ref 0)] [] m (some (.int 1)) (gm_u (gm_u m 35 A (nuF L R tx)) 0 52 (nI (R + nuN L R tx))) := by
  have hR := hr_in hd
  have h1 := p_digitM hL (by omega) h51 h52 ht
  rw [b2i_t hd] at h1
  have iR : gm_ix (m 0 52) R 40 := ix_c h52 (by omega) (by decide)
  have iA : gm_ix (m 0 53) A 20 := ix_c h53 hA (by decide)
  have h2 := p_digitM (m := gm_u (gm_u m 35 A ((m 33 R) - 48)) 0 52 ((m 0 52) + 1)) (R := R + 1) (tx := tx) hL (by omega) h51 (by show m 0 52 + 1 = _; rw [h52, nI_1]) ht
  unfold nuF nuN
  by_cases c : dgP L (R + 1) tx
  · have hR1 := hr_in c
    rw [b2i_t c] at h2
    have q := PX11_takesNumber_3 h1 (by decide) iR iA h2 (by decide) (ix_c (j := R + 1) (by rw [h52, nI_1]) (by omega) (by decide))
    rw [if_pos c, if_pos c]
    have e1 : ((10 * ((m 33 R) - 48)) + (m 33 (R + 1))) - 48 = ((tx R - 48) * 10) + (tx (R + 1) - 48) := by
      rw [ht R hR, ht (R + 1) hR1, Int32.mul_comm, Int32.sub_eq_add_neg, Int32.add_assoc, ← Int32.sub_eq_add_neg (tx (R + 1))]
    have e2 : (m 0 52) + 1 + 1 = nI (R + 2) := by rw [h52, nI_1, nI_1]
    rw [e1, e2] at q
    have e3 : gm_u (gm_u (gm_u (gm_u m 35 A ((m 33 R) - 48)) 0 52 ((m 0 52) + 1)) 35 A (((tx R - 48) * 10) + (tx (R + 1) - 48))) 0 52 (nI (R + 2)) = gm_u (gm_u m 35 A (((tx R - 48) * 10) + (tx (R + 1) - 48))) 0 52 (nI (R + 2)) := by
      rw [r_ucomm (S := gm_u m 35 A ((m 33 R) - 48)) (p := 0) (q := 35) (by decide), r_uu, r_uu]
    rw [e3] at q
    exact q
  · rw [b2i_f c] at h2
    have q := PX11_takesNumber_2 h1 (by decide) iR iA h2 rfl
    rw [if_neg c, if_neg c]
    rw [ht R hR, h52, nI_1] at q
    exact q
