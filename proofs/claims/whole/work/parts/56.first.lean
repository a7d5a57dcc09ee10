/-! THE FIRST MEMORIES: what the constructors leave -/
def mC0 : gm_Mem := kmX10_0 (fun _ _ => 0)
def mM0 : gm_Mem := kmX11_0 (fun _ _ => 0)
def kn_ckF (r : Nat → Int32) : Nat → List (Option Nat) → Bool
  | _, [] => true
  | k, none :: l => kn_ckF r (k + 1) l
  | k, some _ :: l => (r k != 0) && kn_ckF r (k + 1) l
def kn_ck (r : Nat → Int32) (h : gm_Sh) : Bool := match h with
  | .inl (_, fs) => kn_ckF r 0 fs
  | .inr (0, _) => true
  | .inr (1, _) => true
  | .inr (_, n) => (List.range n).all (fun i => r i != 0)
def kn_ckW (S : gm_Mem) : Nat → gm_W → Bool
  | _, [] => true
  | p, h :: l => kn_ck (S p) h && kn_ckW S (p + 1) l
theorem kn_ckF_eq (ad : Nat → Nat) (r : Nat → Int32) : ∀ (l : List (Option Nat)) (k : Nat), kn_ckF r k l = true → kn_Fs ad r k l = gm_Fs ad r k l
  | [], k, _ => rfl
  | none :: l, k, h => by
    simp only [kn_Fs, gm_Fs, kn_ckF_eq ad r l (k + 1) h]
  | some q :: l, k, h => by
    simp only [kn_ckF, Bool.and_eq_true, bne_iff_ne, ne_eq] at h
    simp only [kn_Fs, gm_Fs, kn_ckF_eq ad r l (k + 1) h.2, if_neg h.1]
theorem kn_ck_at {c : gm_Ar} {ad : Nat → Nat} {D : va_G} {a : Nat} {r : Nat → Int32} {H : Heap} : ∀ (h : gm_Sh), kn_ck r h = true → va_at D vwCl (a, kn_Cel c ad r h) H → va_at D vwCl (a, gm_Cel c ad r h) H
  | .inl (ci, fs), e, q => by
    have : kn_Cel c ad r (.inl (ci, fs)) = gm_Cel c ad r (.inl (ci, fs)) := by
      show Sum.inr (ci, kn_Fs ad r 0 fs) = Sum.inr (ci, gm_Fs ad r 0 fs)
      rw [kn_ckF_eq ad r fs 0 e]
    rw [← this]
    exact q
  | .inr (0, n), e, q => q
  | .inr (1, n), e, q => q
  | .inr (t + 2, n), e, q => by
    have e' : (List.range n).all (fun i => r i != 0) = true := e
    rw [List.all_eq_true] at e'
    have q' : H[a]? = some (vp_cell c.2.2 (n, .inr (.inr (.inr (.inr (fun i => if r i = 0 then none else some (ad (r i).toNatClampNeg))))))) := q
    show H[a]? = some (vp_cell c.2.2 (n, .inr (.inr (.inr (.inr (fun i => some (ad (r i).toNatClampNeg)))))))
    rw [q', vp_cell_q, vp_cell_q]
    unfold arrV
    congr 3
    funext j
    have := e' j.1 (List.mem_range.mpr j.2)
    simp only [bne_iff_ne, ne_eq] at this
    simp only [if_neg this]
theorem kn_ckW_get (S : gm_Mem) : ∀ (l : gm_W) (p i : Nat) (h : gm_Sh), kn_ckW S p l = true → l[i]? = some h → kn_ck (S (p + i)) h = true
  | [], p, i, h, _, e => by simp at e
  | a :: l, p, 0, h, e, e2 => by
    simp at e2
    subst e2
    simp only [kn_ckW, Bool.and_eq_true] at e
    exact e.1
  | a :: l, p, i + 1, h, e, e2 => by
    simp only [kn_ckW, Bool.and_eq_true] at e
    have := kn_ckW_get S l (p + 1) i h e.2 (by simpa using e2)
    rw [show p + (i + 1) = p + 1 + i by omega]
    exact this
theorem kn_done {c : gm_Ar} {ad : Nat → Nat} {D : va_G} {S : gm_Mem} {g : gm_W} {n : Nat} {H : Heap} (hn : n = g.length) (hc : kn_ckW S 0 g = true) (hP : va_P D vwCl (kn_Ws c ad S g n) H) : va_P D vwCl (gm_Ws c ad S g) H := by
  intro k q hq
  have h1 := gm_Cs_addr g 0 k q hq
  obtain ⟨x, e⟩ : ∃ x, g[k]? = some x := ⟨_, List.getElem?_eq_getElem h1.1⟩
  have e1 := gm_Ws_get (c := c) (ad := ad) (S := S) e
  have e2 : (gm_Ws c ad S g)[k]? = some q := hq
  rw [e1] at e2
  have e3 := Option.some.inj e2
  rw [← e3]
  have e4 := hP k _ (kn_Ws_get e (by omega))
  have e5 := kn_ckW_get S g 0 k _ hc e
  rw [Nat.zero_add] at e5
  exact kn_ck_at _ e5 e4
theorem ck_C : kn_ckW mC0 0 gC = true := by decide +kernel
theorem ck_M : kn_ckW mM0 0 gM = true := by decide +kernel
theorem c0_27 : ∀ i, i < 24 → mC0 27 i = nI (28 + i) := by decide +kernel
theorem c0_85 : ∀ i, i < 24 → mC0 85 i = nI (58 + (28 + i)) := by decide +kernel
theorem Rc0 : Rc 0 0 0 mM0 mC0 := by
  refine ⟨?_, ?_, ?_, ?_, ?_, ?_, ⟨?_, ?_, ?_, ?_⟩, ?_, ?_, ?_, ?_⟩
  · refine ⟨⟨?_, ?_, ?_⟩, ⟨?_, ?_, ?_⟩, ?_, ?_, ⟨?_, ?_, ?_⟩, ?_, ?_, ?_, ?_⟩ <;> decide +kernel
  · exact ⟨0, 29, by decide, by decide, by decide +kernel, by decide +kernel, by decide +kernel, fun i hi => absurd hi (by omega)⟩
  · exact ⟨0, fun i => 28 + i, by decide, by decide +kernel, by decide +kernel, fun i hi => ⟨Nat.le_add_right _ _, by show 28 + i < 52; omega, by rw [Nat.zero_add]; exact c0_27 i hi⟩, fun i j _ _ h => by have : 28 + i = 28 + j := h; omega, fun i hi => absurd hi (by omega), fun i hi => absurd hi (by omega)⟩
  · exact ⟨0, by decide, by decide +kernel, by decide +kernel, fun i hi => absurd hi (by omega), fun t ht => Or.inl (by revert t; decide +kernel), fun t _ ht => (by decide +kernel : ∀ t, t < 16 → mC0 54 t = 0) t ht⟩
  · intro k hk
    revert k
    decide +kernel
  · refine ⟨?_, ?_, ?_, ?_, ?_⟩ <;> decide +kernel
  · refine ⟨?_, ⟨?_, ?_, ?_⟩, ?_, ?_, ?_⟩ <;> decide +kernel
  · exact ⟨0, 0, by decide, by decide, by decide +kernel, by decide +kernel, by decide +kernel, by decide +kernel, by decide +kernel, Or.inl (by decide +kernel), fun k hk => absurd hk (by omega)⟩
  · refine ⟨0, 0, by decide, by decide, by decide +kernel, by decide +kernel, by decide +kernel, by decide +kernel, by decide +kernel, Or.inl (by decide +kernel), fun i hi => absurd hi (by omega), fun j hj => ?_, fun _ => by decide +kernel, fun d h1 h2 hw => ?_⟩
    · revert j
      decide +kernel
    · exfalso
      obtain rfl | rfl | rfl : d = 1 ∨ d = 2 ∨ d = 3 := by omega
      all_goals exact absurd hw (by decide +kernel)
  · refine ⟨?_, ⟨?_, ?_⟩, ?_, ⟨?_, ?_⟩, ?_, ⟨?_, ?_⟩, Or.inl ⟨?_, ?_⟩, Or.inl ⟨?_, ?_⟩⟩ <;> decide +kernel
  · refine ⟨?_, ⟨?_, ?_, ?_⟩, ?_, ?_, ?_⟩ <;> decide +kernel
  · exact ⟨0, 0, by decide, by decide, by decide +kernel, by decide +kernel, by decide +kernel, by decide +kernel, by decide +kernel, Or.inl (by decide +kernel), fun k hk => absurd hk (by omega)⟩
  · refine ⟨0, 0, by decide, by decide, by decide +kernel, by decide +kernel, by decide +kernel, by decide +kernel, by decide +kernel, Or.inl (by decide +kernel), fun i hi => absurd hi (by omega), fun j hj => ?_, fun _ => by decide +kernel, fun d h1 h2 hw => ?_⟩
    · revert j
      decide +kernel
    · exfalso
      obtain rfl | rfl | rfl : d = 1 ∨ d = 2 ∨ d = 3 := by omega
      all_goals exact absurd hw (by decide +kernel)
  · refine ⟨?_, ⟨?_, ?_⟩, ?_, ⟨?_, ?_⟩, ?_, ⟨?_, ?_⟩, Or.inl ⟨?_, ?_⟩, Or.inl ⟨?_, ?_⟩⟩ <;> decide +kernel
theorem LI0 : LI 0 mM0 mC0 := by
  refine ⟨0, 0, 0, ⟨Rc0, ?_, ?_, ⟨fun i => 28 + i, fun i hi => ⟨Nat.le_add_right _ _, by show 28 + i < 52; omega, c0_85 i hi⟩, fun i j _ _ h => by have : 28 + i = 28 + j := h; omega⟩, Or.inl ⟨?_, ?_⟩⟩, ⟨?_, ?_, ?_, fun i hi => absurd hi (by omega)⟩, ?_, ?_⟩ <;> decide +kernel
