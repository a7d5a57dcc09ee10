/-! EVERY CALL OF THE LAW keeps the invariant of both memories: LI t after t calls -/
def LI (t : Nat) (m S : gm_Mem) : Prop := ∃ s b L : Nat, Iv s b m S ∧ r_scr L m S ∧ s + runsF (S 118) L ≤ t ∧ b ≤ 7000 * t
theorem r_scr.cg {L : Nat} {m S m2 S2 : gm_Mem} (h : r_scr L m S) (f33 : m2 33 = m 33) (f51 : m2 0 51 = m 0 51) (g7 : S2 117 = S 117) (g8 : S2 118 = S 118) : r_scr L m2 S2 := by
  obtain ⟨h1, h2, h3, h4⟩ := h
  exact ⟨h1, f51.trans h2, by rw [g7]; exact h3, fun i hi => by rw [f33, g8]; exact h4 i hi⟩
theorem LI.up {t : Nat} {m S : gm_Mem} (h : LI t m S) : LI (t + 1) m S := by
  obtain ⟨s, b, L, h1, h2, h3, h4⟩ := h
  exact ⟨s, b, L, h1, h2, by omega, by omega⟩
theorem runsF_cg {f g : Nat → Int32} : ∀ L, (∀ i, i < L → g i = f i) → runsF g L = runsF f L := by
  intro L
  induction L with
  | zero => intro _; rfl
  | succ L ih =>
    intro h
    show runsF g L + _ = runsF f L + _
    rw [ih (fun i hi => h i (by omega)), h L (by omega)]
    by_cases h0 : L = 0
    · subst h0
      simp
    · rw [h (L - 1) (by omega)]
theorem runsF_one {f g : Nat → Int32} {x : Int32} {L : Nat} (h1 : ∀ i, i < L → g i = f i) : ∀ d, (∀ i, L ≤ i → i < L + 1 + d → g i = x) → runsF g (L + 1 + d) ≤ runsF f L + 1 := by
  intro d
  induction d with
  | zero =>
    intro h2
    show runsF g L + _ ≤ _
    rw [runsF_cg L h1]
    split <;> omega
  | succ d ih =>
    intro h2
    have := ih (fun i a b => h2 i a (by omega))
    show runsF g (L + 1 + d) + (if g (L + 1 + d) = 115 ∧ (L + 1 + d = 0 ∨ ¬ g (L + 1 + d - 1) = 115) then 1 else 0) ≤ _
    have e1 : g (L + 1 + d) = x := h2 _ (by omega) (by omega)
    have e2 : g (L + 1 + d - 1) = x := h2 _ (by omega) (by omega)
    rw [if_neg (by rw [e1, e2]; rintro ⟨a, b | b⟩; omega; exact b a)]
    exact this
theorem runsF_app {f g : Nat → Int32} {x : Int32} {L L2 : Nat} (hl : L ≤ L2) (h1 : ∀ i, i < L → g i = f i) (h2 : ∀ i, L ≤ i → i < L2 → g i = x) : runsF g L2 ≤ runsF f L + 1 := by
  by_cases h : L = L2
  · subst h
    rw [runsF_cg L h1]
    omega
  · have := runsF_one (x := x) h1 (L2 - (L + 1)) (fun i a b => h2 i a (by omega))
    rw [show L + 1 + (L2 - (L + 1)) = L2 by omega] at this
    exact this
abbrev gm_LP (kM kC : Nat) (yM yC : gm_Y) (LM LC : List (Option Value)) (t : Nat) (m S : gm_Mem) : Prop := ∃ (r : Int32) (m2 S2 : gm_Mem), gm_run gM kM yM 0 LM [] m (some (.int r)) m2 ∧ gm_run gC kC yC 0 LC [] S (some (.int r)) S2 ∧ LI (t + 1) m2 S2
theorem LI.T {kM kC : Nat} {yM yC : gm_Y} {LM LC : List (Option Value)} {t s b L s2 b2 : Nat} {m S : gm_Mem} (h : Iv s b m S) (hq : r_scr L m S) (h1 : s + runsF (S 118) L ≤ t) (h2 : b ≤ 7000 * t) (hp : PairT kM kC yM yC LM LC s b s2 b2 m S) (e1 : s ≤ s2 ∧ s2 ≤ s + 1) (e2 : b ≤ b2 ∧ b2 ≤ b + 7000) : gm_LP kM kC yM yC LM LC t m S := by
  obtain ⟨r, m2, S2, r1, r2, hr, fn, fd⟩ := hp
  obtain ⟨n1, n2, n3, n4, n5, n6, n7, n8, n9⟩ := fn
  refine ⟨r, m2, S2, r1, r2, s2, b2, L, h.of hr e1.1 e2.1 n5 n9 (fun p p1 p2 => fd.1 p p1 (by omega)) fd.2, hq.cg n1 n6 (fd.1 117 (by decide) (by decide)) (fd.1 118 (by decide) (by decide)), ?_, by omega⟩
  rw [fd.1 118 (by decide) (by decide)]
  omega
theorem LI.I {kM kC : Nat} {yM yC : gm_Y} {LM LC : List (Option Value)} {t s b L s2 b2 : Nat} {m S : gm_Mem} (h : Iv s b m S) (hq : r_scr L m S) (h1 : s + runsF (S 118) L ≤ t) (h2 : b ≤ 7000 * t) (hp : PairI kM kC yM yC LM LC s b s2 b2 m S) (e1 : s ≤ s2 ∧ s2 ≤ s + 1) (e2 : b ≤ b2 ∧ b2 ≤ b + 7000) : gm_LP kM kC yM yC LM LC t m S := by
  obtain ⟨r, m2, S2, r1, r2, hr, fm, fc⟩ := hp
  exact LI.T h hq h1 h2 ⟨r, m2, S2, r1, r2, hr, fm.fn, fc.fd⟩ e1 e2
theorem LI.Q {kM kC : Nat} {yM yC : gm_Y} {LM LC : List (Option Value)} {t : Nat} {m S : gm_Mem} (h : LI t m S) (hp : PairQ kM kC yM yC LM LC m S) : gm_LP kM kC yM yC LM LC t m S := by
  obtain ⟨r, r1, r2⟩ := hp
  exact ⟨r, m, S, r1, r2, h.up⟩
theorem l_connect {t : Nat} {m S : gm_Mem} (ht : t < 512) (h : LI t m S) (a : Int32) : gm_LP 4 5 YX11_connect YX10_connect [some (.ref 0), some (.int a)] [some (.ref 0), some (.int a), none] t m S := by
  have hI := h
  obtain ⟨s, b, L, h1, h2, h3, h4⟩ := h
  exact LI.I h1 h2 h3 h4 (r_connect h1.1 a) (by omega) (by omega)
theorem l_resume {t : Nat} {m S : gm_Mem} (ht : t < 512) (h : LI t m S) (a : Int32) : gm_LP 4 5 YX11_resume YX10_resume [some (.ref 0), some (.int a), none] [some (.ref 0), some (.int a), none, none] t m S := by
  have hI := h
  obtain ⟨s, b, L, h1, h2, h3, h4⟩ := h
  exact LI.I h1 h2 h3 h4 (r_resume h1.1 a) (by omega) (by omega)
theorem l_disconnect {t : Nat} {m S : gm_Mem} (ht : t < 512) (h : LI t m S) : gm_LP 2 3 YX11_disconnect YX10_disconnect [some (.ref 0), none, none] [some (.ref 0), none] t m S := by
  have hI := h
  obtain ⟨s, b, L, h1, h2, h3, h4⟩ := h
  exact LI.I h1 h2 h3 h4 (r_disconnect h1.1 ) (by omega) (by omega)
theorem l_send {t : Nat} {m S : gm_Mem} (ht : t < 512) (h : LI t m S) (a v : Int32) : gm_LP 5 5 YX11_send YX10_send [some (.ref 0), some (.int a), some (.int v), none] [some (.ref 0), some (.int a), some (.int v)] t m S := by
  have hI := h
  obtain ⟨s, b, L, h1, h2, h3, h4⟩ := h
  exact LI.I h1 h2 h3 h4 (r_send (by omega) h1.1 a v) (by omega) (by omega)
theorem l_close {t : Nat} {m S : gm_Mem} (ht : t < 512) (h : LI t m S) (a : Int32) : gm_LP 5 5 YX11_close YX10_close [some (.ref 0), some (.int a), none] [some (.ref 0), some (.int a)] t m S := by
  have hI := h
  obtain ⟨s, b, L, h1, h2, h3, h4⟩ := h
  exact LI.I h1 h2 h3 h4 (r_close (by omega) h1.1 a) (by omega) (by omega)
theorem l_foresee {t : Nat} {m S : gm_Mem} (ht : t < 512) (h : LI t m S) (x : Int32) : gm_LP 4 4 YX11_foresee YX10_foresee [some (.ref 0), some (.int x)] [some (.ref 0), some (.int x), none] t m S := by
  have hI := h
  obtain ⟨s, b, L, h1, h2, h3, h4⟩ := h
  exact LI.T h1 h2 h3 h4 (r_foresee (by omega) h1.1 x) (by omega) (by omega)
theorem l_drop {t : Nat} {m S : gm_Mem} (ht : t < 512) (h : LI t m S) (x : Int32) : gm_LP 1 1 YX11_drop YX10_drop [some (.ref 0), some (.int x)] [some (.ref 0), some (.int x), none] t m S := by
  have hI := h
  obtain ⟨s, b, L, h1, h2, h3, h4⟩ := h
  exact LI.T h1 h2 h3 h4 (r_drop h1.1 x) (by omega) (by omega)
theorem l_repeat {t : Nat} {m S : gm_Mem} (ht : t < 512) (h : LI t m S) (x : Int32) : gm_LP 1 1 YX11_repeat YX10_repeat [some (.ref 0), some (.int x), none] [some (.ref 0), some (.int x), none, none] t m S := by
  have hI := h
  obtain ⟨s, b, L, h1, h2, h3, h4⟩ := h
  exact LI.T h1 h2 h3 h4 (r_repeat h1.1 x) (by omega) (by omega)
theorem l_alter {t : Nat} {m S : gm_Mem} (ht : t < 512) (h : LI t m S) (x y : Int32) : gm_LP 1 1 YX11_alter YX10_alter [some (.ref 0), some (.int x), some (.int y)] [some (.ref 0), some (.int x), some (.int y), none] t m S := by
  have hI := h
  obtain ⟨s, b, L, h1, h2, h3, h4⟩ := h
  exact LI.T h1 h2 h3 h4 (r_alter h1.1 x y) (by omega) (by omega)
theorem l_deliver {t : Nat} {m S : gm_Mem} (ht : t < 512) (h : LI t m S) (x : Int32) : gm_LP 5 6 YX11_deliver YX10_deliver [some (.ref 0), some (.int x), none, none] [some (.ref 0), some (.int x), none, none, none] t m S := by
  have hI := h
  obtain ⟨s, b, L, h1, h2, h3, h4⟩ := h
  exact LI.T h1 h2 h3 h4 (r_deliver (by omega) h1.1 x) (by omega) (by omega)
theorem l_configure {t : Nat} {m S : gm_Mem} (ht : t < 512) (h : LI t m S) (x y z : Int32) : gm_LP 1 0 YX11_configure YX10_configure [some (.ref 0), some (.int x), some (.int y), some (.int z), none] [some (.ref 0), some (.int x), some (.int y), some (.int z), none] t m S := by
  have hI := h
  obtain ⟨s, b, L, h1, h2, h3, h4⟩ := h
  exact LI.T h1 h2 h3 h4 (r_configure h1.1 x y z) (by omega) (by omega)
theorem l_tickC {t : Nat} {m S : gm_Mem} (ht : t < 512) (h : LI t m S) (x : Int32) : gm_LP 5 5 YX11_tick YX10_tick [some (.ref 0), some (.int x), none] [some (.ref 0), some (.int x), none] t m S := by
  have hI := h
  obtain ⟨s, b, L, h1, h2, h3, h4⟩ := h
  exact LI.T h1 h2 h3 h4 (r_tickC (by omega) h1.1 x) (by omega) (by omega)
theorem l_packet {t : Nat} {m S : gm_Mem} (ht : t < 512) (h : LI t m S) (x y : Int32) : gm_LP 1 1 YX11_packet YX10_packet [some (.ref 0), some (.int x), some (.int y)] [some (.ref 0), some (.int x), some (.int y), none] t m S := by
  have hI := h
  obtain ⟨s, b, L, h1, h2, h3, h4⟩ := h
  exact hI.Q (r_packet h1.1 x y)
theorem l_count {t : Nat} {m S : gm_Mem} (ht : t < 512) (h : LI t m S) (x : Int32) : gm_LP 0 0 YX11_count YX10_count [some (.ref 0), some (.int x)] [some (.ref 0), some (.int x)] t m S := by
  have hI := h
  obtain ⟨s, b, L, h1, h2, h3, h4⟩ := h
  exact hI.Q (r_count h1.1 (h2.2.1.trans h2.2.2.1.symm) x)
theorem l_results {t : Nat} {m S : gm_Mem} (ht : t < 512) (h : LI t m S) (x y : Int32) : gm_LP 1 1 YX11_results YX10_results [some (.ref 0), some (.int x), some (.int y)] [some (.ref 0), some (.int x), some (.int y)] t m S := by
  have hI := h
  obtain ⟨s, b, L, h1, h2, h3, h4⟩ := h
  exact hI.Q (r_results h1.1 x y)
theorem l_takenQ {t : Nat} {m S : gm_Mem} (ht : t < 512) (h : LI t m S) (x y : Int32) : gm_LP 1 1 YX11_taken YX10_taken [some (.ref 0), some (.int x), some (.int y)] [some (.ref 0), some (.int x), some (.int y)] t m S := by
  have hI := h
  obtain ⟨s, b, L, h1, h2, h3, h4⟩ := h
  exact hI.Q (r_takenQ (by omega) h1.1 x y)
theorem l_endpoint {t : Nat} {m S : gm_Mem} (ht : t < 512) (h : LI t m S) (x y : Int32) : gm_LP 1 2 YX11_endpoint YX10_endpoint [some (.ref 0), some (.int x), some (.int y)] [some (.ref 0), some (.int x), some (.int y)] t m S := by
  have hI := h
  obtain ⟨s, b, L, h1, h2, h3, h4⟩ := h
  exact hI.Q (r_endpoint h1.1 x y)
theorem l_kept {t : Nat} {m S : gm_Mem} (ht : t < 512) (h : LI t m S) (x y z : Int32) : gm_LP 1 2 YX11_kept YX10_kept [some (.ref 0), some (.int x), some (.int y), some (.int z), none] [some (.ref 0), some (.int x), some (.int y), some (.int z)] t m S := by
  have hI := h
  obtain ⟨s, b, L, h1, h2, h3, h4⟩ := h
  exact hI.Q (r_kept (by omega) h1.1 x y z)
theorem l_event {t : Nat} {m S : gm_Mem} (ht : t < 512) (h : LI t m S) (x y : Int32) : gm_LP 1 2 YX11_event YX10_event [some (.ref 0), some (.int x), some (.int y)] [some (.ref 0), some (.int x), some (.int y)] t m S := by
  have hI := h
  obtain ⟨s, b, L, h1, h2, h3, h4⟩ := h
  exact hI.Q (r_event h1.1 x y)
theorem l_window {t : Nat} {m S : gm_Mem} (ht : t < 512) (h : LI t m S) (x y : Int32) : gm_LP 1 1 YX11_window YX10_window [some (.ref 0), some (.int x), some (.int y), none] [some (.ref 0), some (.int x), some (.int y), none] t m S := by
  have hI := h
  obtain ⟨s, b, L, h1, h2, h3, h4⟩ := h
  exact hI.Q (r_window h1.1 x y)
theorem l_agree {t : Nat} {m S : gm_Mem} (ht : t < 512) (h : LI t m S) : gm_LP 0 0 YX11_agree YX10_agree [some (.ref 0)] [some (.ref 0), none, none, none] t m S := by
  have hI := h
  obtain ⟨s, b, L, h1, h2, h3, h4⟩ := h
  exact hI.Q (r_agree h1.1 )
theorem l_append {t : Nat} {m S : gm_Mem} (ht : t < 512) (h : LI t m S) (x y : Int32) : gm_LP 1 1 YX11_append YX10_append [some (.ref 0), some (.int x), some (.int y), none] [some (.ref 0), some (.int x), some (.int y)] t m S := by
  obtain ⟨s, b, L, h1, h2, h3, h4⟩ := h
  obtain ⟨r, m2, S2, L2, q1, q2, q3, q4, q5, q6, q7, q8, q9⟩ := r_append h1.1 h2 x y
  refine ⟨r, m2, S2, q1, q2, s, b, L2, h1.of q3 (Nat.le_refl _) (Nat.le_refl _) q8.1 q8.2 (fun p p1 p2 => q9 p (by omega)) (q9 0 (by decide)), q4, ?_, by omega⟩
  have := runsF_app (f := S 118) (g := S2 118) (x := x) q5 (fun i hi => by rw [← q4.2.2.2 i (by omega), q6 i hi, h2.2.2.2 i hi]) (fun i i1 i2 => by rw [← q4.2.2.2 i i2]; exact q7 i i1 i2)
  omega
theorem l_runScript {t : Nat} {m S : gm_Mem} (ht : t < 512) (h : LI t m S) : gm_LP 7 7 YX11_runScript YX10_runScript [some (.ref 0), none, none] [some (.ref 0), none, none, none, none] t m S := by
  obtain ⟨s, b, L, h1, h2, h3, h4⟩ := h
  obtain ⟨r, m2, S2, q1, q2, q3, q4, q5, q6⟩ := r_runScript (by omega) (by omega) h1.1 h2
  refine ⟨r, m2, S2, q1, q2, _, _, 0, h1.of q3 (by omega) (by omega) q5.1 q5.2 (fun p p1 p2 => q6 p (Or.inr ⟨p1, p2⟩)) (q6 0 (Or.inl rfl)), q4, ?_, by omega⟩
  show s + runsF (S 118) L + 0 ≤ t + 1
  omega
theorem l_save {t : Nat} {m S : gm_Mem} (ht : t < 512) (h : LI t m S) : gm_LP 3 4 YX11_save YX10_save [some (.ref 0)] [some (.ref 0)] t m S := by
  obtain ⟨s, b, L, h1, h2, h3, h4⟩ := h
  obtain ⟨r, m2, S2, q1, q2, q3, q4, q5⟩ := r_save (by omega) h1
  refine ⟨r, m2, S2, q1, q2, s, b, L, q3, h2.cg q4.1 q4.2 (q5 117 (by decide)) (q5 118 (by decide)), ?_, by omega⟩
  rw [q5 118 (by decide)]
  omega
theorem l_restore {t : Nat} {m S : gm_Mem} (ht : t < 512) (h : LI t m S) : gm_LP 3 4 YX11_restore YX10_restore [some (.ref 0)] [some (.ref 0)] t m S := by
  obtain ⟨s, b, L, h1, h2, h3, h4⟩ := h
  obtain ⟨r, m2, S2, q1, q2, q3, q4, q5⟩ := r_restore (by omega) h1
  refine ⟨r, m2, S2, q1, q2, s, b, L, q3, h2.cg q4.1 q4.2 (q5 117 (by decide)) (q5 118 (by decide)), ?_, by omega⟩
  rw [q5 118 (by decide)]
  omega
