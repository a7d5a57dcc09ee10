/-! THE ABSTRACT MACHINE: a world is a row of shapes g; a memory S gives each place (a number) its row of ints; gm_run: 'from here the method returns r, and the memory is S2' -/
abbrev gm_Mem : Type := Nat → Nat → Int32
abbrev gm_Sh : Type := (Nat × List (Option Nat)) ⊕ (Nat × Nat)
abbrev gm_W : Type := List gm_Sh
abbrev gm_Ar : Type := ClassId × ClassId × ClassId
def gm_V (ad : Nat → Nat) (v : Value) : Value := match v with
  | .int x => .int x
  | .ref q => .ref (ad q)
  | _ => .null
theorem gm_Vcat (ad : Nat → Nat) (v : Value) : (gm_V ad v).category = 1 := by cases v <;> rfl
def gm_Fs (ad : Nat → Nat) (r : Nat → Int32) : Nat → List (Option Nat) → List Value
  | _, [] => []
  | k, none :: l => .int (r k) :: gm_Fs ad r (k + 1) l
  | k, some q :: l => .ref (ad q) :: gm_Fs ad r (k + 1) l
def gm_Cel (c : gm_Ar) (ad : Nat → Nat) (r : Nat → Int32) (h : gm_Sh) : va_E := match h with
  | .inl (ci, fs) => .inr (ci, gm_Fs ad r 0 fs)
  | .inr (0, n) => .inl (c.1, n, .inl r)
  | .inr (1, n) => .inl (c.2.1, n, .inl r)
  | .inr (_, n) => .inl (c.2.2, n, .inr (.inr (.inr (.inr (fun i => some (ad (r i).toNatClampNeg))))))
def gm_Cs (c : gm_Ar) (ad : Nat → Nat) (S : gm_Mem) : Nat → gm_W → va_W
  | _, [] => []
  | p, h :: l => (ad p, gm_Cel c ad (S p) h) :: gm_Cs c ad S (p + 1) l
def gm_Ws (c : gm_Ar) (ad : Nat → Nat) (S : gm_Mem) (g : gm_W) : va_W := gm_Cs c ad S 0 g
/-- one place of a memory is set -/
def gm_u (S : gm_Mem) (p k : Nat) (x : Int32) : gm_Mem := fun q => if q = p then (fun j => if j = k then x else S p j) else S q
theorem gm_u_eq (S : gm_Mem) (p k : Nat) (x : Int32) : gm_u S p k x = va_up S p (upd (S p) k x) := by
  funext q
  by_cases h : q = p
  · simp only [gm_u, va_up, if_pos h]
    funext j
    simp [upd]
  · simp only [gm_u, va_up, if_neg h]
theorem gm_Cs_get (c : gm_Ar) (ad : Nat → Nat) (S : gm_Mem) : ∀ (l : gm_W) (p i : Nat) (h : gm_Sh), l[i]? = some h → (gm_Cs c ad S p l)[i]? = some (ad (p + i), gm_Cel c ad (S (p + i)) h)
  | [], p, i, h, e => by simp at e
  | a :: l, p, 0, h, e => by
    simp at e
    subst e
    simp [gm_Cs]
  | a :: l, p, i + 1, h, e => by
    have e' : l[i]? = some h := by simpa using e
    have := gm_Cs_get c ad S l (p + 1) i h e'
    rw [show p + (i + 1) = p + 1 + i by omega]
    simpa [gm_Cs] using this
theorem gm_Cs_len (c : gm_Ar) (ad : Nat → Nat) (S : gm_Mem) : ∀ (l : gm_W) (p : Nat), (gm_Cs c ad S p l).length = l.length
  | [], p => rfl
  | a :: l, p => by simp [gm_Cs, gm_Cs_len c ad S l (p + 1)]
theorem gm_Cs_other (c : gm_Ar) (ad : Nat → Nat) (S : gm_Mem) (q : Nat) (r : Nat → Int32) : ∀ (l : gm_W) (p : Nat), q < p → gm_Cs c ad (va_up S q r) p l = gm_Cs c ad S p l
  | [], p, h => rfl
  | a :: l, p, h => by
    simp only [gm_Cs]
    rw [gm_Cs_other c ad S q r l (p + 1) (by omega)]
    have : va_up S q r p = S p := by simp [va_up]; omega
    rw [this]
theorem gm_Cs_set (c : gm_Ar) (ad : Nat → Nat) (S : gm_Mem) (r : Nat → Int32) (h : gm_Sh) : ∀ (l : gm_W) (p i : Nat), l[i]? = some h → (gm_Cs c ad S p l).set i (ad (p + i), gm_Cel c ad r h) = gm_Cs c ad (va_up S (p + i) r) p l
  | [], p, i, e => by simp at e
  | a :: l, p, 0, e => by
    simp at e
    subst e
    simp only [gm_Cs, List.set_cons_zero, Nat.add_zero]
    rw [gm_Cs_other c ad S p r l (p + 1) (by omega)]
    have : va_up S p r p = r := by simp [va_up]
    rw [this]
  | a :: l, p, i + 1, e => by
    have e' : l[i]? = some h := by simpa using e
    have := gm_Cs_set c ad S r h l (p + 1) i e'
    simp only [gm_Cs, List.set_cons_succ]
    rw [show p + (i + 1) = p + 1 + i by omega, this]
    have : va_up S (p + 1 + i) r p = S p := by simp [va_up]; omega
    rw [this]
theorem gm_Ws_get {c : gm_Ar} {ad : Nat → Nat} {S : gm_Mem} {g : gm_W} {p : Nat} {h : gm_Sh} (e : g[p]? = some h) : (gm_Ws c ad S g)[p]? = some (ad p, gm_Cel c ad (S p) h) := by
  have := gm_Cs_get c ad S g 0 p h e
  rw [Nat.zero_add] at this
  exact this
theorem gm_Ws_set {c : gm_Ar} {ad : Nat → Nat} {S : gm_Mem} {g : gm_W} {p : Nat} {h : gm_Sh} (e : g[p]? = some h) (r : Nat → Int32) : (gm_Ws c ad S g).set p (ad p, gm_Cel c ad r h) = gm_Ws c ad (va_up S p r) g := by
  have := gm_Cs_set c ad S r h g 0 p e
  rw [Nat.zero_add] at this
  exact this
theorem gm_Fs_get (ad : Nat → Nat) (r : Nat → Int32) : ∀ (l : List (Option Nat)) (k i : Nat), l[i]? = some none → (gm_Fs ad r k l)[i]? = some (.int (r (k + i)))
  | [], k, i, e => by simp at e
  | none :: l, k, 0, e => by simp [gm_Fs]
  | some q :: l, k, 0, e => by simp at e
  | none :: l, k, i + 1, e => by
    have := gm_Fs_get ad r l (k + 1) i (by simpa using e)
    rw [show k + (i + 1) = k + 1 + i by omega]
    simpa [gm_Fs] using this
  | some q :: l, k, i + 1, e => by
    have := gm_Fs_get ad r l (k + 1) i (by simpa using e)
    rw [show k + (i + 1) = k + 1 + i by omega]
    simpa [gm_Fs] using this
theorem gm_Fs_getR (ad : Nat → Nat) (r : Nat → Int32) : ∀ (l : List (Option Nat)) (k i q : Nat), l[i]? = some (some q) → (gm_Fs ad r k l)[i]? = some (.ref (ad q))
  | [], k, i, q, e => by simp at e
  | none :: l, k, 0, q, e => by simp at e
  | some q' :: l, k, 0, q, e => by
    simp at e
    simp [gm_Fs, e]
  | none :: l, k, i + 1, q, e => by
    have := gm_Fs_getR ad r l (k + 1) i q (by simpa using e)
    simpa [gm_Fs] using this
  | some q' :: l, k, i + 1, q, e => by
    have := gm_Fs_getR ad r l (k + 1) i q (by simpa using e)
    simpa [gm_Fs] using this
theorem gm_Fs_len (ad : Nat → Nat) (r : Nat → Int32) : ∀ (l : List (Option Nat)) (k : Nat), (gm_Fs ad r k l).length = l.length
  | [], k => rfl
  | none :: l, k => by simp [gm_Fs, gm_Fs_len ad r l (k + 1)]
  | some q :: l, k => by simp [gm_Fs, gm_Fs_len ad r l (k + 1)]
theorem gm_Fs_other (ad : Nat → Nat) (r : Nat → Int32) (i : Nat) (x : Int32) : ∀ (l : List (Option Nat)) (k : Nat), i < k → gm_Fs ad (upd r i x) k l = gm_Fs ad r k l
  | [], k, h => rfl
  | none :: l, k, h => by
    have : upd r i x k = r k := by simp [upd]; omega
    simp only [gm_Fs, gm_Fs_other ad r i x l (k + 1) (by omega), this]
  | some q :: l, k, h => by
    simp only [gm_Fs, gm_Fs_other ad r i x l (k + 1) (by omega)]
theorem gm_Fs_set (ad : Nat → Nat) (r : Nat → Int32) (x : Int32) : ∀ (l : List (Option Nat)) (k i : Nat), l[i]? = some none → (gm_Fs ad r k l).set i (.int x) = gm_Fs ad (upd r (k + i) x) k l
  | [], k, i, e => by simp at e
  | none :: l, k, 0, e => by
    have : upd r k x k = x := by simp [upd]
    simp only [gm_Fs, List.set_cons_zero, Nat.add_zero, gm_Fs_other ad r k x l (k + 1) (by omega), this]
  | some q :: l, k, 0, e => by simp at e
  | none :: l, k, i + 1, e => by
    have h := gm_Fs_set ad r x l (k + 1) i (by simpa using e)
    have : upd r (k + 1 + i) x k = r k := by simp [upd]; omega
    rw [show k + (i + 1) = k + 1 + i by omega]
    simp only [gm_Fs, List.set_cons_succ, h, this]
  | some q :: l, k, i + 1, e => by
    have h := gm_Fs_set ad r x l (k + 1) i (by simpa using e)
    rw [show k + (i + 1) = k + 1 + i by omega]
    simp only [gm_Fs, List.set_cons_succ, h]
/-- the addresses of a world's places are apart, and the method's own -/
def gm_D (g : gm_W) (ad : Nat → Nat) (A : Nat → Prop) : Prop := (∀ i j : Nat, i < g.length → j < g.length → ad i = ad j → i = j) ∧ ∀ i : Nat, i < g.length → A (ad i)
theorem gm_Cs_addr {c : gm_Ar} {ad : Nat → Nat} {S : gm_Mem} : ∀ (l : gm_W) (p i : Nat) (q : Nat × va_E), (gm_Cs c ad S p l)[i]? = some q → i < l.length ∧ q.1 = ad (p + i)
  | [], p, i, q, e => by simp [gm_Cs] at e
  | a :: l, p, 0, q, e => by
    simp [gm_Cs] at e
    subst e
    simp
  | a :: l, p, i + 1, q, e => by
    have h := gm_Cs_addr l (p + 1) i q (by simpa [gm_Cs] using e)
    refine ⟨by simp; omega, ?_⟩
    rw [show p + (i + 1) = p + 1 + i by omega]
    exact h.2
theorem gm_D.to {g : gm_W} {ad : Nat → Nat} {A : Nat → Prop} (h : gm_D g ad A) (c : gm_Ar) (S : gm_Mem) : va_D A (gm_Ws c ad S g) := by
  refine ⟨fun i j p q hp hq e => ?_, fun k q hq => ?_⟩
  · have h1 := gm_Cs_addr g 0 i p hp
    have h2 := gm_Cs_addr g 0 j q hq
    rw [h1.2, h2.2, Nat.zero_add, Nat.zero_add] at e
    exact h.1 i j h1.1 h2.1 e
  · have h1 := gm_Cs_addr g 0 k q hq
    rw [h1.2, Nat.zero_add]
    exact h.2 k h1.1
abbrev gm_Ty (c : gm_Ar) : List (ClassId × FieldType) := [(c.1, .int), (c.2.1, .boolean), (c.2.2, .object RX5)]
def gm_CX (Y : gm_Y) (p : Program) (s : State) (m : MethodId) (args : Array Value) (meth : Method) (c : Code) (D : va_G) (ca : gm_Ar) : Prop :=
  p.tables.exec = Jvm.exec ∧ c.code = Y.2.1 ∧ meth.sig.returnType = Y.2.2.2 ∧ c.maxLocals = Y.2.2.1 ∧ s.vm.findClass Y.1.cls = some m.cls ∧ (∀ w ∈ gm_TB, w.before args s = true) ∧ va_K D vwCl (gm_Ty ca) s ∧ meth.locks = false
def gm_St (g : gm_W) (ca : gm_Ar) (D : va_G) (ad : Nat → Nat) (A : Nat → Prop) (S : gm_Mem) (s : State) (H : Heap) (locs : List Loc) : Prop :=
  va_P D vwCl (gm_Ws ca ad S g) H ∧ gm_D g ad A ∧ va_S A s.heap H locs ∧ ∀ q : Nat, s.heap.size ≤ q → A q
def gm_Lv (ad : Nat → Nat) (ls : Array Slot) (nL : Nat) (L : List (Option Value)) : Prop := ∃ lv : List (Nat × Value), lv_has ls nL lv ∧ ∀ (i : Nat) (v : Value), L[i]? = some (some v) → (i, gm_V ad v) ∈ lv
def gm_Q (g : gm_W) (ca : gm_Ar) (D : va_G) (ad : Nat → Nat) (A : Nat → Prop) (r : Option Value) (S2 : gm_Mem) : Array Value → State → Outcome → State → Prop :=
  fun _ st oc t => oc = .returned (r.map (gm_V ad)) ∧ va_P D vwCl (gm_Ws ca ad S2 g) t.heap ∧ va_F A st t
def gm_R (h : Nat) : Room := { frames := h, cells := 0, slots := 0, locals := 40 * h }
def gm_run (g : gm_W) (k : Nat) (Y : gm_Y) (pc : Nat) (L : List (Option Value)) (st : List Value) (S : gm_Mem) (r : Option Value) (S2 : gm_Mem) : Prop :=
  ∀ (h : Nat), k ≤ h → ∀ (p : Program) (l : Launch) (e : Env) (s : State) (m : MethodId) (args : Array Value) (below : List Frame) (meth : Method) (c : Code) (D : va_G) (ca : gm_Ar) (ad : Nat → Nat) (A : Nat → Prop), gm_CX Y p s m args meth c D ca →
  ∀ (H : Heap) (locs : List Loc) (ls : Array Slot), gm_St g ca D ad A S s H locs → gm_Lv ad ls Y.2.2.1 L → W p l e (gm_R h) s m args below meth c H locs 0 0 (MQ below (gm_Q g ca D ad A r S2) args s 0 0 A) (F0 m pc ls (st.map (gm_V ad)))
theorem gm_Lv.at {ad : Nat → Nat} {ls : Array Slot} {n : Nat} {L : List (Option Value)} (h : gm_Lv ad ls n L) {i : Nat} {v : Value} (hl : L[i]? = some (some v)) : ls[i]? = some (.val (gm_V ad v)) := by
  obtain ⟨lv, h1, h2⟩ := h
  exact h1.2.2 _ (h2 i v hl)
theorem gm_Lv.set {ad : Nat → Nat} {n i : Nat} {v : Value} {L : List (Option Value)} {lv : List (Nat × Value)} (h2 : ∀ (j : Nat) (w : Value), L[j]? = some (some w) → (j, gm_V ad w) ∈ lv) {ls' : Array Slot}
    (h : lv_has ls' n ((i, gm_V ad v) :: lv.filter (fun q => !(q.1 == i) && !(q.1 + 1 == i && q.2.category == 2)))) : gm_Lv ad ls' n (L.set i (some v)) := by
  refine ⟨_, h, fun j w hj => ?_⟩
  by_cases e : j = i
  · subst e
    rw [List.getElem?_set_self' ] at hj
    cases hL : L[j]? with
    | none => rw [hL] at hj; simp at hj
    | some z =>
      rw [hL] at hj
      simp at hj
      subst hj
      exact List.mem_cons_self
  · rw [List.getElem?_set_ne (fun q => e q.symm)] at hj
    refine List.mem_cons_of_mem _ (List.mem_filter.mpr ⟨h2 j w hj, ?_⟩)
    simp [e, gm_Vcat]
section GM
variable {g : gm_W} {k : Nat} {Y : gm_Y} {pc : Nat} {L : List (Option Value)} {st : List Value} {S : gm_Mem} {r : Option Value} {S2 : gm_Mem}
theorem gm_iload {i : Nat} {x : Int32} (hd : decode Y.2.1 pc = .ok (.iload i, 2)) (hl : L[i]? = some (some (.int x))) (K : gm_run g k Y (pc + 2) L (.int x :: st) S r S2) : gm_run g k Y pc L st S r S2 :=
  fun h hk p l e s m args below meth c D ca ad A C H locs ls hS hL => lv_iload C.1 C.2.1 hd (hL.at hl) (K h hk p l e s m args below meth c D ca ad A C H locs ls hS hL)
theorem gm_iload_n {i : Fin 4} {x : Int32} (hd : decode Y.2.1 pc = .ok (.iload_n i, 1)) (hl : L[(i : Nat)]? = some (some (.int x))) (K : gm_run g k Y (pc + 1) L (.int x :: st) S r S2) : gm_run g k Y pc L st S r S2 :=
  fun h hk p l e s m args below meth c D ca ad A C H locs ls hS hL => lv_iload_n C.1 C.2.1 hd rfl (hL.at hl) (K h hk p l e s m args below meth c D ca ad A C H locs ls hS hL)
theorem gm_aload {i : Nat} {x : Nat} (hd : decode Y.2.1 pc = .ok (.aload i, 2)) (hl : L[i]? = some (some (.ref x))) (K : gm_run g k Y (pc + 2) L (.ref x :: st) S r S2) : gm_run g k Y pc L st S r S2 :=
  fun h hk p l e s m args below meth c D ca ad A C H locs ls hS hL => lv_aload C.1 C.2.1 hd (hL.at hl) (K h hk p l e s m args below meth c D ca ad A C H locs ls hS hL)
theorem gm_aload_n {i : Fin 4} {x : Nat} (hd : decode Y.2.1 pc = .ok (.aload_n i, 1)) (hl : L[(i : Nat)]? = some (some (.ref x))) (K : gm_run g k Y (pc + 1) L (.ref x :: st) S r S2) : gm_run g k Y pc L st S r S2 :=
  fun h hk p l e s m args below meth c D ca ad A C H locs ls hS hL => lv_aload_n C.1 C.2.1 hd rfl (hL.at hl) (K h hk p l e s m args below meth c D ca ad A C H locs ls hS hL)
theorem gm_istore {i : Nat} {x : Int32} {L' : List (Option Value)} (hd : decode Y.2.1 pc = .ok (.istore i, 2)) (hi : i < Y.2.2.1) (hl : L.set i (some (.int x)) = L') (K : gm_run g k Y (pc + 2) L' st S r S2) : gm_run g k Y pc L (.int x :: st) S r S2 := by
  intro h hk p l e s m args below meth c D ca ad A C H locs ls hS hL
  obtain ⟨lv, h1, h2⟩ := hL
  refine lv_istore (x := x) C.1 C.2.1 hd h1 hi rfl (fun ls' hl' => ?_)
  subst hl
  exact K h hk p l e s m args below meth c D ca ad A C H locs ls' hS (gm_Lv.set (v := .int x) h2 hl')
theorem gm_istore_n {i : Fin 4} {x : Int32} {L' : List (Option Value)} (hd : decode Y.2.1 pc = .ok (.istore_n i, 1)) (hi : (i : Nat) < Y.2.2.1) (hl : L.set i (some (.int x)) = L') (K : gm_run g k Y (pc + 1) L' st S r S2) : gm_run g k Y pc L (.int x :: st) S r S2 := by
  intro h hk p l e s m args below meth c D ca ad A C H locs ls hS hL
  obtain ⟨lv, h1, h2⟩ := hL
  refine lv_istore_n (x := x) C.1 C.2.1 hd rfl h1 hi rfl (fun ls' hl' => ?_)
  subst hl
  exact K h hk p l e s m args below meth c D ca ad A C H locs ls' hS (gm_Lv.set (v := .int x) h2 hl')
theorem gm_astore {i : Nat} {x : Nat} {L' : List (Option Value)} (hd : decode Y.2.1 pc = .ok (.astore i, 2)) (hi : i < Y.2.2.1) (hl : L.set i (some (.ref x)) = L') (K : gm_run g k Y (pc + 2) L' st S r S2) : gm_run g k Y pc L (.ref x :: st) S r S2 := by
  intro h hk p l e s m args below meth c D ca ad A C H locs ls hS hL
  obtain ⟨lv, h1, h2⟩ := hL
  refine lv_astore (x := ad x) C.1 C.2.1 hd h1 hi rfl (fun ls' hl' => ?_)
  subst hl
  exact K h hk p l e s m args below meth c D ca ad A C H locs ls' hS (gm_Lv.set (v := .ref x) h2 hl')
theorem gm_astore_n {i : Fin 4} {x : Nat} {L' : List (Option Value)} (hd : decode Y.2.1 pc = .ok (.astore_n i, 1)) (hi : (i : Nat) < Y.2.2.1) (hl : L.set i (some (.ref x)) = L') (K : gm_run g k Y (pc + 1) L' st S r S2) : gm_run g k Y pc L (.ref x :: st) S r S2 := by
  intro h hk p l e s m args below meth c D ca ad A C H locs ls hS hL
  obtain ⟨lv, h1, h2⟩ := hL
  refine lv_astore_n (x := ad x) C.1 C.2.1 hd rfl h1 hi rfl (fun ls' hl' => ?_)
  subst hl
  exact K h hk p l e s m args below meth c D ca ad A C H locs ls' hS (gm_Lv.set (v := .ref x) h2 hl')
theorem gm_iinc {i : Nat} {n : Int} {x v : Int32} {L' : List (Option Value)} (hd : decode Y.2.1 pc = .ok (.iinc i n, 3)) (hx : L[i]? = some (some (.int x))) (hv : x + Int32.ofInt n = v) (hi : i < Y.2.2.1) (hl : L.set i (some (.int v)) = L') (K : gm_run g k Y (pc + 3) L' st S r S2) : gm_run g k Y pc L st S r S2 := by
  intro h hk p l e s m args below meth c D ca ad A C H locs ls hS hL
  obtain ⟨lv, h1, h2⟩ := hL
  obtain ⟨kk, hkk⟩ := List.getElem?_of_mem (h2 i _ hx)
  refine lv_iinc (x := x) (v := v) C.1 C.2.1 hd h1 hkk hv hi rfl (fun ls' hl' => ?_)
  subst hl
  exact K h hk p l e s m args below meth c D ca ad A C H locs ls' hS (gm_Lv.set (v := .int v) h2 hl')
theorem gm_iconst {n : Int} {v : Int32} (hd : decode Y.2.1 pc = .ok (.iconst n, 1)) (hv : Int32.ofInt n = v) (K : gm_run g k Y (pc + 1) L (.int v :: st) S r S2) : gm_run g k Y pc L st S r S2 :=
  fun h hk p l e s m args below meth c D ca ad A C H locs ls hS hL => lv_iconst C.1 C.2.1 hd hv (K h hk p l e s m args below meth c D ca ad A C H locs ls hS hL)
theorem gm_bipush {n : Int} {v : Int32} (hd : decode Y.2.1 pc = .ok (.bipush n, 2)) (hv : (Int8.ofInt n).toInt32 = v) (K : gm_run g k Y (pc + 2) L (.int v :: st) S r S2) : gm_run g k Y pc L st S r S2 :=
  fun h hk p l e s m args below meth c D ca ad A C H locs ls hS hL => lv_bipush C.1 C.2.1 hd hv (K h hk p l e s m args below meth c D ca ad A C H locs ls hS hL)
theorem gm_sipush {n : Int} {v : Int32} (hd : decode Y.2.1 pc = .ok (.sipush n, 3)) (hv : (Int16.ofInt n).toInt32 = v) (K : gm_run g k Y (pc + 3) L (.int v :: st) S r S2) : gm_run g k Y pc L st S r S2 :=
  fun h hk p l e s m args below meth c D ca ad A C H locs ls hS hL => lv_sipush C.1 C.2.1 hd hv (K h hk p l e s m args below meth c D ca ad A C H locs ls hS hL)
theorem gm_ldc {own : String} {i : Nat} {v : Int32} (ho : Y.1.cls = own) (hc : Cond.constant own i v ∈ gm_TB) (hd : decode Y.2.1 pc = .ok (.ldc i, 2)) (K : gm_run g k Y (pc + 2) L (.int v :: st) S r S2) : gm_run g k Y pc L st S r S2 :=
  fun h hk p l e s m args below meth c D ca ad A C H locs ls hS hL => lv_ldc C.1 C.2.1 (by rw [← ho]; exact C.2.2.2.2.1) (C.2.2.2.2.2.1 _ hc) hd (K h hk p l e s m args below meth c D ca ad A C H locs ls hS hL)
theorem gm_dup {v : Value} (hd : decode Y.2.1 pc = .ok (.dup, 1)) (K : gm_run g k Y (pc + 1) L (v :: v :: st) S r S2) : gm_run g k Y pc L (v :: st) S r S2 :=
  fun h hk p l e s m args below meth c D ca ad A C H locs ls hS hL => lv_dup C.1 C.2.1 hd (gm_Vcat ad v) (K h hk p l e s m args below meth c D ca ad A C H locs ls hS hL)
theorem gm_pop {v : Value} (hd : decode Y.2.1 pc = .ok (.pop, 1)) (K : gm_run g k Y (pc + 1) L st S r S2) : gm_run g k Y pc L (v :: st) S r S2 :=
  fun h hk p l e s m args below meth c D ca ad A C H locs ls hS hL => lv_pop C.1 C.2.1 hd (gm_Vcat ad v) (K h hk p l e s m args below meth c D ca ad A C H locs ls hS hL)
theorem gm_dup2 {v w : Value} (hd : decode Y.2.1 pc = .ok (.dup2, 1)) (K : gm_run g k Y (pc + 1) L (v :: w :: v :: w :: st) S r S2) : gm_run g k Y pc L (v :: w :: st) S r S2 :=
  fun h hk p l e s m args below meth c D ca ad A C H locs ls hS hL => lv_dup2_11 C.1 C.2.1 hd (gm_Vcat ad v) (gm_Vcat ad w) (K h hk p l e s m args below meth c D ca ad A C H locs ls hS hL)
theorem gm_goto {off : Int} {tgt : Nat} (hd : decode Y.2.1 pc = .ok (.goto off, 3)) (ht : (pc : Int) + off = (tgt : Int)) (K : gm_run g k Y tgt L st S r S2) : gm_run g k Y pc L st S r S2 :=
  fun h hk p l e s m args below meth c D ca ad A C H locs ls hS hL => lv_goto C.1 C.2.1 hd ht (K h hk p l e s m args below meth c D ca ad A C H locs ls hS hL)
theorem gm_null (hd : decode Y.2.1 pc = .ok (.aconst_null, 1)) (K : gm_run g k Y (pc + 1) L (.null :: st) S r S2) : gm_run g k Y pc L st S r S2 :=
  fun h hk p l e s m args below meth c D ca ad A C H locs ls hS hL => lv_null C.1 C.2.1 hd (K h hk p l e s m args below meth c D ca ad A C H locs ls hS hL)
theorem gm_iadd {x y v : Int32} (hd : decode Y.2.1 pc = .ok (.iadd, 1)) (hv : x + y = v) (K : gm_run g k Y (pc + 1) L (.int v :: st) S r S2) : gm_run g k Y pc L (.int y :: .int x :: st) S r S2 := by
  subst hv
  exact fun h hk p l e s m args below meth c D ca ad A C H locs ls hS hL => lv_iadd C.1 C.2.1 hd (K h hk p l e s m args below meth c D ca ad A C H locs ls hS hL)
theorem gm_isub {x y v : Int32} (hd : decode Y.2.1 pc = .ok (.isub, 1)) (hv : x - y = v) (K : gm_run g k Y (pc + 1) L (.int v :: st) S r S2) : gm_run g k Y pc L (.int y :: .int x :: st) S r S2 := by
  subst hv
  exact fun h hk p l e s m args below meth c D ca ad A C H locs ls hS hL => lv_isub C.1 C.2.1 hd (K h hk p l e s m args below meth c D ca ad A C H locs ls hS hL)
theorem gm_imul {x y v : Int32} (hd : decode Y.2.1 pc = .ok (.imul, 1)) (hv : x * y = v) (K : gm_run g k Y (pc + 1) L (.int v :: st) S r S2) : gm_run g k Y pc L (.int y :: .int x :: st) S r S2 := by
  subst hv
  exact fun h hk p l e s m args below meth c D ca ad A C H locs ls hS hL => lv_imul C.1 C.2.1 hd (K h hk p l e s m args below meth c D ca ad A C H locs ls hS hL)
theorem gm_iand {x y v : Int32} (hd : decode Y.2.1 pc = .ok (.iand, 1)) (hv : x &&& y = v) (K : gm_run g k Y (pc + 1) L (.int v :: st) S r S2) : gm_run g k Y pc L (.int y :: .int x :: st) S r S2 := by
  subst hv
  exact fun h hk p l e s m args below meth c D ca ad A C H locs ls hS hL => lv_iand C.1 C.2.1 hd (K h hk p l e s m args below meth c D ca ad A C H locs ls hS hL)
theorem gm_ior {x y v : Int32} (hd : decode Y.2.1 pc = .ok (.ior, 1)) (hv : x ||| y = v) (K : gm_run g k Y (pc + 1) L (.int v :: st) S r S2) : gm_run g k Y pc L (.int y :: .int x :: st) S r S2 := by
  subst hv
  exact fun h hk p l e s m args below meth c D ca ad A C H locs ls hS hL => lv_ior C.1 C.2.1 hd (K h hk p l e s m args below meth c D ca ad A C H locs ls hS hL)
theorem gm_ixor {x y v : Int32} (hd : decode Y.2.1 pc = .ok (.ixor, 1)) (hv : x ^^^ y = v) (K : gm_run g k Y (pc + 1) L (.int v :: st) S r S2) : gm_run g k Y pc L (.int y :: .int x :: st) S r S2 := by
  subst hv
  exact fun h hk p l e s m args below meth c D ca ad A C H locs ls hS hL => lv_ixor C.1 C.2.1 hd (K h hk p l e s m args below meth c D ca ad A C H locs ls hS hL)
theorem gm_ishl {x y v : Int32} (hd : decode Y.2.1 pc = .ok (.ishl, 1)) (hv : x <<< (y &&& 31) = v) (K : gm_run g k Y (pc + 1) L (.int v :: st) S r S2) : gm_run g k Y pc L (.int y :: .int x :: st) S r S2 := by
  subst hv
  exact fun h hk p l e s m args below meth c D ca ad A C H locs ls hS hL => lv_ishl C.1 C.2.1 hd (K h hk p l e s m args below meth c D ca ad A C H locs ls hS hL)
theorem gm_ishr {x y v : Int32} (hd : decode Y.2.1 pc = .ok (.ishr, 1)) (hv : x >>> (y &&& 31) = v) (K : gm_run g k Y (pc + 1) L (.int v :: st) S r S2) : gm_run g k Y pc L (.int y :: .int x :: st) S r S2 := by
  subst hv
  exact fun h hk p l e s m args below meth c D ca ad A C H locs ls hS hL => lv_ishr C.1 C.2.1 hd (K h hk p l e s m args below meth c D ca ad A C H locs ls hS hL)
theorem gm_iushr {x y v : Int32} (hd : decode Y.2.1 pc = .ok (.iushr, 1)) (hv : (x.toUInt32 >>> (y.toUInt32 &&& Int32.toUInt32 31)).toInt32 = v) (K : gm_run g k Y (pc + 1) L (.int v :: st) S r S2) : gm_run g k Y pc L (.int y :: .int x :: st) S r S2 :=
  fun h hk p l e s m args below meth c D ca ad A C H locs ls hS hL => lv_iushr C.1 C.2.1 hd hv (K h hk p l e s m args below meth c D ca ad A C H locs ls hS hL)
theorem gm_ineg {x v : Int32} (hd : decode Y.2.1 pc = .ok (.ineg, 1)) (hv : -x = v) (K : gm_run g k Y (pc + 1) L (.int v :: st) S r S2) : gm_run g k Y pc L (.int x :: st) S r S2 := by
  subst hv
  exact fun h hk p l e s m args below meth c D ca ad A C H locs ls hS hL => lv_ineg C.1 C.2.1 hd (K h hk p l e s m args below meth c D ca ad A C H locs ls hS hL)
theorem gm_irem {x y v : Int32} (hd : decode Y.2.1 pc = .ok (.irem, 1)) (hne : ¬ y = 0) (hv : x - x / y * y = v) (K : gm_run g k Y (pc + 1) L (.int v :: st) S r S2) : gm_run g k Y pc L (.int y :: .int x :: st) S r S2 := by
  subst hv
  exact fun h hk p l e s m args below meth c D ca ad A C H locs ls hS hL => lv_irem C.1 C.2.1 hd hne (K h hk p l e s m args below meth c D ca ad A C H locs ls hS hL)
theorem gm_icmp_eq_t {x y : Int32} {off : Int} {tgt : Nat} (hd : decode Y.2.1 pc = .ok (.if_icmp .eq off, 3)) (ht : (pc : Int) + off = (tgt : Int)) (c0 : x = y) (K : gm_run g k Y tgt L st S r S2) : gm_run g k Y pc L (.int y :: .int x :: st) S r S2 :=
  fun h hk p l e s m args below meth c D ca ad A C H locs ls hS hL => lv_icmp_eq C.1 C.2.1 hd ht (fun _ => (K h hk p l e s m args below meth c D ca ad A C H locs ls hS hL)) (fun q => absurd c0 q)
theorem gm_icmp_eq_f {x y : Int32} {off : Int} (hd : decode Y.2.1 pc = .ok (.if_icmp .eq off, 3)) (ht : ∃ tgt : Nat, (pc : Int) + off = (tgt : Int)) (c0 : ¬ x = y) (K : gm_run g k Y (pc + 3) L st S r S2) : gm_run g k Y pc L (.int y :: .int x :: st) S r S2 := by
  obtain ⟨tgt, ht⟩ := ht
  exact fun h hk p l e s m args below meth c D ca ad A C H locs ls hS hL => lv_icmp_eq C.1 C.2.1 hd ht (fun q => absurd q c0) (fun _ => (K h hk p l e s m args below meth c D ca ad A C H locs ls hS hL))
theorem gm_icmp_ne_t {x y : Int32} {off : Int} {tgt : Nat} (hd : decode Y.2.1 pc = .ok (.if_icmp .ne off, 3)) (ht : (pc : Int) + off = (tgt : Int)) (c0 : ¬ x = y) (K : gm_run g k Y tgt L st S r S2) : gm_run g k Y pc L (.int y :: .int x :: st) S r S2 :=
  fun h hk p l e s m args below meth c D ca ad A C H locs ls hS hL => lv_icmp_ne C.1 C.2.1 hd ht (fun _ => (K h hk p l e s m args below meth c D ca ad A C H locs ls hS hL)) (fun q => absurd q c0)
theorem gm_icmp_ne_f {x y : Int32} {off : Int} (hd : decode Y.2.1 pc = .ok (.if_icmp .ne off, 3)) (ht : ∃ tgt : Nat, (pc : Int) + off = (tgt : Int)) (c0 : x = y) (K : gm_run g k Y (pc + 3) L st S r S2) : gm_run g k Y pc L (.int y :: .int x :: st) S r S2 := by
  obtain ⟨tgt, ht⟩ := ht
  exact fun h hk p l e s m args below meth c D ca ad A C H locs ls hS hL => lv_icmp_ne C.1 C.2.1 hd ht (fun q => absurd c0 q) (fun _ => (K h hk p l e s m args below meth c D ca ad A C H locs ls hS hL))
theorem gm_icmp_lt_t {x y : Int32} {off : Int} {tgt : Nat} (hd : decode Y.2.1 pc = .ok (.if_icmp .lt off, 3)) (ht : (pc : Int) + off = (tgt : Int)) (c0 : x < y) (K : gm_run g k Y tgt L st S r S2) : gm_run g k Y pc L (.int y :: .int x :: st) S r S2 :=
  fun h hk p l e s m args below meth c D ca ad A C H locs ls hS hL => lv_icmp_lt C.1 C.2.1 hd ht (fun _ => (K h hk p l e s m args below meth c D ca ad A C H locs ls hS hL)) (fun q => absurd c0 q)
theorem gm_icmp_lt_f {x y : Int32} {off : Int} (hd : decode Y.2.1 pc = .ok (.if_icmp .lt off, 3)) (ht : ∃ tgt : Nat, (pc : Int) + off = (tgt : Int)) (c0 : ¬ x < y) (K : gm_run g k Y (pc + 3) L st S r S2) : gm_run g k Y pc L (.int y :: .int x :: st) S r S2 := by
  obtain ⟨tgt, ht⟩ := ht
  exact fun h hk p l e s m args below meth c D ca ad A C H locs ls hS hL => lv_icmp_lt C.1 C.2.1 hd ht (fun q => absurd q c0) (fun _ => (K h hk p l e s m args below meth c D ca ad A C H locs ls hS hL))
theorem gm_icmp_ge_t {x y : Int32} {off : Int} {tgt : Nat} (hd : decode Y.2.1 pc = .ok (.if_icmp .ge off, 3)) (ht : (pc : Int) + off = (tgt : Int)) (c0 : ¬ x < y) (K : gm_run g k Y tgt L st S r S2) : gm_run g k Y pc L (.int y :: .int x :: st) S r S2 :=
  fun h hk p l e s m args below meth c D ca ad A C H locs ls hS hL => lv_icmp_ge C.1 C.2.1 hd ht (fun _ => (K h hk p l e s m args below meth c D ca ad A C H locs ls hS hL)) (fun q => absurd (Int32.not_lt.mp c0) q)
theorem gm_icmp_ge_f {x y : Int32} {off : Int} (hd : decode Y.2.1 pc = .ok (.if_icmp .ge off, 3)) (ht : ∃ tgt : Nat, (pc : Int) + off = (tgt : Int)) (c0 : x < y) (K : gm_run g k Y (pc + 3) L st S r S2) : gm_run g k Y pc L (.int y :: .int x :: st) S r S2 := by
  obtain ⟨tgt, ht⟩ := ht
  exact fun h hk p l e s m args below meth c D ca ad A C H locs ls hS hL => lv_icmp_ge C.1 C.2.1 hd ht (fun q => absurd c0 (Int32.not_lt.mpr q)) (fun _ => (K h hk p l e s m args below meth c D ca ad A C H locs ls hS hL))
theorem gm_icmp_gt_t {x y : Int32} {off : Int} {tgt : Nat} (hd : decode Y.2.1 pc = .ok (.if_icmp .gt off, 3)) (ht : (pc : Int) + off = (tgt : Int)) (c0 : y < x) (K : gm_run g k Y tgt L st S r S2) : gm_run g k Y pc L (.int y :: .int x :: st) S r S2 :=
  fun h hk p l e s m args below meth c D ca ad A C H locs ls hS hL => lv_icmp_gt C.1 C.2.1 hd ht (fun _ => (K h hk p l e s m args below meth c D ca ad A C H locs ls hS hL)) (fun q => absurd c0 q)
theorem gm_icmp_gt_f {x y : Int32} {off : Int} (hd : decode Y.2.1 pc = .ok (.if_icmp .gt off, 3)) (ht : ∃ tgt : Nat, (pc : Int) + off = (tgt : Int)) (c0 : ¬ y < x) (K : gm_run g k Y (pc + 3) L st S r S2) : gm_run g k Y pc L (.int y :: .int x :: st) S r S2 := by
  obtain ⟨tgt, ht⟩ := ht
  exact fun h hk p l e s m args below meth c D ca ad A C H locs ls hS hL => lv_icmp_gt C.1 C.2.1 hd ht (fun q => absurd q c0) (fun _ => (K h hk p l e s m args below meth c D ca ad A C H locs ls hS hL))
theorem gm_icmp_le_t {x y : Int32} {off : Int} {tgt : Nat} (hd : decode Y.2.1 pc = .ok (.if_icmp .le off, 3)) (ht : (pc : Int) + off = (tgt : Int)) (c0 : ¬ y < x) (K : gm_run g k Y tgt L st S r S2) : gm_run g k Y pc L (.int y :: .int x :: st) S r S2 :=
  fun h hk p l e s m args below meth c D ca ad A C H locs ls hS hL => lv_icmp_le C.1 C.2.1 hd ht (fun _ => (K h hk p l e s m args below meth c D ca ad A C H locs ls hS hL)) (fun q => absurd (Int32.not_lt.mp c0) q)
theorem gm_icmp_le_f {x y : Int32} {off : Int} (hd : decode Y.2.1 pc = .ok (.if_icmp .le off, 3)) (ht : ∃ tgt : Nat, (pc : Int) + off = (tgt : Int)) (c0 : y < x) (K : gm_run g k Y (pc + 3) L st S r S2) : gm_run g k Y pc L (.int y :: .int x :: st) S r S2 := by
  obtain ⟨tgt, ht⟩ := ht
  exact fun h hk p l e s m args below meth c D ca ad A C H locs ls hS hL => lv_icmp_le C.1 C.2.1 hd ht (fun q => absurd c0 (Int32.not_lt.mpr q)) (fun _ => (K h hk p l e s m args below meth c D ca ad A C H locs ls hS hL))
theorem gm_if_eq_t {x : Int32} {off : Int} {tgt : Nat} (hd : decode Y.2.1 pc = .ok (.ifCond .eq off, 3)) (ht : (pc : Int) + off = (tgt : Int)) (c0 : x = 0) (K : gm_run g k Y tgt L st S r S2) : gm_run g k Y pc L (.int x :: st) S r S2 :=
  fun h hk p l e s m args below meth c D ca ad A C H locs ls hS hL => lv_if_eq C.1 C.2.1 hd ht (fun _ => (K h hk p l e s m args below meth c D ca ad A C H locs ls hS hL)) (fun q => absurd c0 q)
theorem gm_if_eq_f {x : Int32} {off : Int} (hd : decode Y.2.1 pc = .ok (.ifCond .eq off, 3)) (ht : ∃ tgt : Nat, (pc : Int) + off = (tgt : Int)) (c0 : ¬ x = 0) (K : gm_run g k Y (pc + 3) L st S r S2) : gm_run g k Y pc L (.int x :: st) S r S2 := by
  obtain ⟨tgt, ht⟩ := ht
  exact fun h hk p l e s m args below meth c D ca ad A C H locs ls hS hL => lv_if_eq C.1 C.2.1 hd ht (fun q => absurd q c0) (fun _ => (K h hk p l e s m args below meth c D ca ad A C H locs ls hS hL))
theorem gm_if_ne_t {x : Int32} {off : Int} {tgt : Nat} (hd : decode Y.2.1 pc = .ok (.ifCond .ne off, 3)) (ht : (pc : Int) + off = (tgt : Int)) (c0 : ¬ x = 0) (K : gm_run g k Y tgt L st S r S2) : gm_run g k Y pc L (.int x :: st) S r S2 :=
  fun h hk p l e s m args below meth c D ca ad A C H locs ls hS hL => lv_if_ne C.1 C.2.1 hd ht (fun _ => (K h hk p l e s m args below meth c D ca ad A C H locs ls hS hL)) (fun q => absurd q c0)
theorem gm_if_ne_f {x : Int32} {off : Int} (hd : decode Y.2.1 pc = .ok (.ifCond .ne off, 3)) (ht : ∃ tgt : Nat, (pc : Int) + off = (tgt : Int)) (c0 : x = 0) (K : gm_run g k Y (pc + 3) L st S r S2) : gm_run g k Y pc L (.int x :: st) S r S2 := by
  obtain ⟨tgt, ht⟩ := ht
  exact fun h hk p l e s m args below meth c D ca ad A C H locs ls hS hL => lv_if_ne C.1 C.2.1 hd ht (fun q => absurd c0 q) (fun _ => (K h hk p l e s m args below meth c D ca ad A C H locs ls hS hL))
theorem gm_if_lt_t {x : Int32} {off : Int} {tgt : Nat} (hd : decode Y.2.1 pc = .ok (.ifCond .lt off, 3)) (ht : (pc : Int) + off = (tgt : Int)) (c0 : x < 0) (K : gm_run g k Y tgt L st S r S2) : gm_run g k Y pc L (.int x :: st) S r S2 :=
  fun h hk p l e s m args below meth c D ca ad A C H locs ls hS hL => lv_if_lt C.1 C.2.1 hd ht (fun _ => (K h hk p l e s m args below meth c D ca ad A C H locs ls hS hL)) (fun q => absurd c0 q)
theorem gm_if_lt_f {x : Int32} {off : Int} (hd : decode Y.2.1 pc = .ok (.ifCond .lt off, 3)) (ht : ∃ tgt : Nat, (pc : Int) + off = (tgt : Int)) (c0 : ¬ x < 0) (K : gm_run g k Y (pc + 3) L st S r S2) : gm_run g k Y pc L (.int x :: st) S r S2 := by
  obtain ⟨tgt, ht⟩ := ht
  exact fun h hk p l e s m args below meth c D ca ad A C H locs ls hS hL => lv_if_lt C.1 C.2.1 hd ht (fun q => absurd q c0) (fun _ => (K h hk p l e s m args below meth c D ca ad A C H locs ls hS hL))
theorem gm_if_ge_t {x : Int32} {off : Int} {tgt : Nat} (hd : decode Y.2.1 pc = .ok (.ifCond .ge off, 3)) (ht : (pc : Int) + off = (tgt : Int)) (c0 : ¬ x < 0) (K : gm_run g k Y tgt L st S r S2) : gm_run g k Y pc L (.int x :: st) S r S2 :=
  fun h hk p l e s m args below meth c D ca ad A C H locs ls hS hL => lv_if_ge C.1 C.2.1 hd ht (fun _ => (K h hk p l e s m args below meth c D ca ad A C H locs ls hS hL)) (fun q => absurd (Int32.not_lt.mp c0) q)
theorem gm_if_ge_f {x : Int32} {off : Int} (hd : decode Y.2.1 pc = .ok (.ifCond .ge off, 3)) (ht : ∃ tgt : Nat, (pc : Int) + off = (tgt : Int)) (c0 : x < 0) (K : gm_run g k Y (pc + 3) L st S r S2) : gm_run g k Y pc L (.int x :: st) S r S2 := by
  obtain ⟨tgt, ht⟩ := ht
  exact fun h hk p l e s m args below meth c D ca ad A C H locs ls hS hL => lv_if_ge C.1 C.2.1 hd ht (fun q => absurd c0 (Int32.not_lt.mpr q)) (fun _ => (K h hk p l e s m args below meth c D ca ad A C H locs ls hS hL))
theorem gm_if_gt_t {x : Int32} {off : Int} {tgt : Nat} (hd : decode Y.2.1 pc = .ok (.ifCond .gt off, 3)) (ht : (pc : Int) + off = (tgt : Int)) (c0 : 0 < x) (K : gm_run g k Y tgt L st S r S2) : gm_run g k Y pc L (.int x :: st) S r S2 :=
  fun h hk p l e s m args below meth c D ca ad A C H locs ls hS hL => lv_if_gt C.1 C.2.1 hd ht (fun _ => (K h hk p l e s m args below meth c D ca ad A C H locs ls hS hL)) (fun q => absurd c0 q)
theorem gm_if_gt_f {x : Int32} {off : Int} (hd : decode Y.2.1 pc = .ok (.ifCond .gt off, 3)) (ht : ∃ tgt : Nat, (pc : Int) + off = (tgt : Int)) (c0 : ¬ 0 < x) (K : gm_run g k Y (pc + 3) L st S r S2) : gm_run g k Y pc L (.int x :: st) S r S2 := by
  obtain ⟨tgt, ht⟩ := ht
  exact fun h hk p l e s m args below meth c D ca ad A C H locs ls hS hL => lv_if_gt C.1 C.2.1 hd ht (fun q => absurd q c0) (fun _ => (K h hk p l e s m args below meth c D ca ad A C H locs ls hS hL))
theorem gm_if_le_t {x : Int32} {off : Int} {tgt : Nat} (hd : decode Y.2.1 pc = .ok (.ifCond .le off, 3)) (ht : (pc : Int) + off = (tgt : Int)) (c0 : ¬ 0 < x) (K : gm_run g k Y tgt L st S r S2) : gm_run g k Y pc L (.int x :: st) S r S2 :=
  fun h hk p l e s m args below meth c D ca ad A C H locs ls hS hL => lv_if_le C.1 C.2.1 hd ht (fun _ => (K h hk p l e s m args below meth c D ca ad A C H locs ls hS hL)) (fun q => absurd (Int32.not_lt.mp c0) q)
theorem gm_if_le_f {x : Int32} {off : Int} (hd : decode Y.2.1 pc = .ok (.ifCond .le off, 3)) (ht : ∃ tgt : Nat, (pc : Int) + off = (tgt : Int)) (c0 : 0 < x) (K : gm_run g k Y (pc + 3) L st S r S2) : gm_run g k Y pc L (.int x :: st) S r S2 := by
  obtain ⟨tgt, ht⟩ := ht
  exact fun h hk p l e s m args below meth c D ca ad A C H locs ls hS hL => lv_if_le C.1 C.2.1 hd ht (fun q => absurd c0 (Int32.not_lt.mpr q)) (fun _ => (K h hk p l e s m args below meth c D ca ad A C H locs ls hS hL))
theorem gm_nonnull_t {x : Nat} {off : Int} {tgt : Nat} (hd : decode Y.2.1 pc = .ok (.ifnonnull off, 3)) (ht : (pc : Int) + off = (tgt : Int)) (K : gm_run g k Y tgt L st S r S2) : gm_run g k Y pc L (.ref x :: st) S r S2 :=
  fun h hk p l e s m args below meth c D ca ad A C H locs ls hS hL => lv_ifnonnull C.1 C.2.1 hd ht (K h hk p l e s m args below meth c D ca ad A C H locs ls hS hL)
theorem gm_nonnull_f {off : Int} (hd : decode Y.2.1 pc = .ok (.ifnonnull off, 3)) (K : gm_run g k Y (pc + 3) L st S r S2) : gm_run g k Y pc L (.null :: st) S r S2 :=
  fun h hk p l e s m args below meth c D ca ad A C H locs ls hS hL => lv_ifnonnullN C.1 C.2.1 hd (K h hk p l e s m args below meth c D ca ad A C H locs ls hS hL)
theorem gm_tabIn {dflt lo hi : Int} {offs : Array Int} {len : Nat} {x : Int32} {off : Int} {tgt : Nat} (hd : decode Y.2.1 pc = .ok (.tableswitch dflt lo hi offs, len)) (h1 : ¬ x.toInt < lo) (h2 : ¬ hi < x.toInt) (ho : offs[(x.toInt - lo).toNat]? = some off) (ht : (pc : Int) + off = (tgt : Int)) (K : gm_run g k Y tgt L st S r S2) : gm_run g k Y pc L (.int x :: st) S r S2 :=
  fun h hk p l e s m args below meth c D ca ad A C H locs ls hS hL => lv_tableIn C.1 C.2.1 hd h1 h2 ho ht (K h hk p l e s m args below meth c D ca ad A C H locs ls hS hL)
theorem gm_tabOut {dflt lo hi : Int} {offs : Array Int} {len : Nat} {x : Int32} {tgt : Nat} (hd : decode Y.2.1 pc = .ok (.tableswitch dflt lo hi offs, len)) (h1 : x.toInt < lo ∨ hi < x.toInt) (ht : (pc : Int) + dflt = (tgt : Int)) (K : gm_run g k Y tgt L st S r S2) : gm_run g k Y pc L (.int x :: st) S r S2 :=
  fun h hk p l e s m args below meth c D ca ad A C H locs ls hS hL => lv_tableOut C.1 C.2.1 hd h1 ht (K h hk p l e s m args below meth c D ca ad A C H locs ls hS hL)
theorem gm_look {dflt : Int} {ps : Array (Int × Int)} {len : Nat} {x : Int32} {off : Int} {tgt : Nat} (hd : decode Y.2.1 pc = .ok (.lookupswitch dflt ps, len)) (hp : (ps.toList.zip (ps.toList.drop 1)).all (fun (a, next) => a.1 < next.1) = true) (ho : Op.lookupswitch.offset ps.toList dflt x.toInt = off) (ht : (pc : Int) + off = (tgt : Int)) (K : gm_run g k Y tgt L st S r S2) : gm_run g k Y pc L (.int x :: st) S r S2 :=
  fun h hk p l e s m args below meth c D ca ad A C H locs ls hS hL => lv_lookup C.1 C.2.1 hd hp ho ht (K h hk p l e s m args below meth c D ca ad A C H locs ls hS hL)
theorem gm_getI {p0 i ci f : Nat} {ty : FieldType} {fin : Bool} {fl : List (Option Nat)} {own : String} {x : Int32} (ho : Y.1.cls = own) (hd : decode Y.2.1 pc = .ok (.getfield i, 3)) (hf : gm_Fld own i ci f ty fin) (hs : g[p0]? = some (.inl (ci, fl))) (hk : fl[f]? = some none) (hx : S p0 f = x) (K : gm_run g k Y (pc + 3) L (.int x :: st) S r S2) : gm_run g k Y pc L (.ref p0 :: st) S r S2 := by
  intro h hk2 p l e s m args below meth c D ca ad A C H locs ls hS hL
  obtain ⟨C1, T, N, ty0, e1, e2, e3, e4, e5, e6, e7, e8, e9⟩ := hf
  refine va_get (D := D) (q0 := p0) (ci := ci) (v := .int x) (C := C1) (T := T) (N := N) (own := own) C.1 C.2.1 C.2.2.2.2.2.1 e5 (by rw [← ho]; exact C.2.2.2.2.1) C.2.2.2.2.2.2.1 hS.1 (gm_Ws_get hs) e1 f e2 (C.2.2.2.2.2.1 _ e3) (fun z hz => by rw [← e4]; exact hz) ?_ hd (K h hk2 p l e s m args below meth c D ca ad A C H locs ls hS hL)
  rw [gm_Fs_get ad (S p0) fl 0 f hk, Nat.zero_add, hx]
theorem gm_getR {p0 i ci f q : Nat} {ty : FieldType} {fin : Bool} {fl : List (Option Nat)} {own : String} (ho : Y.1.cls = own) (hd : decode Y.2.1 pc = .ok (.getfield i, 3)) (hf : gm_Fld own i ci f ty fin) (hs : g[p0]? = some (.inl (ci, fl))) (hk : fl[f]? = some (some q)) (K : gm_run g k Y (pc + 3) L (.ref q :: st) S r S2) : gm_run g k Y pc L (.ref p0 :: st) S r S2 := by
  intro h hk2 p l e s m args below meth c D ca ad A C H locs ls hS hL
  obtain ⟨C1, T, N, ty0, e1, e2, e3, e4, e5, e6, e7, e8, e9⟩ := hf
  refine va_get (D := D) (q0 := p0) (ci := ci) (v := .ref (ad q)) (C := C1) (T := T) (N := N) (own := own) C.1 C.2.1 C.2.2.2.2.2.1 e5 (by rw [← ho]; exact C.2.2.2.2.1) C.2.2.2.2.2.2.1 hS.1 (gm_Ws_get hs) e1 f e2 (C.2.2.2.2.2.1 _ e3) (fun z hz => by rw [← e4]; exact hz) ?_ hd (K h hk2 p l e s m args below meth c D ca ad A C H locs ls hS hL)
  exact gm_Fs_getR ad (S p0) fl 0 f q hk
/-- what a store keeps -/
def gm_fit (ty : FieldType) (x : Int32) : Prop := narrow ty (.int x) = .int x ∧ fits ty (.int x) = true
theorem gm_fit_int (x : Int32) : gm_fit .int x := ⟨rfl, rfl⟩
theorem gm_fit_0 : gm_fit .boolean 0 := ⟨rfl, rfl⟩
theorem gm_fit_1 : gm_fit .boolean 1 := ⟨rfl, rfl⟩
theorem gm_put {p0 i ci f : Nat} {ty : FieldType} {fl : List (Option Nat)} {own : String} {x : Int32} (ho : Y.1.cls = own) (hd : decode Y.2.1 pc = .ok (.putfield i, 3)) (hf : gm_Fld own i ci f ty false) (hs : g[p0]? = some (.inl (ci, fl))) (hk : fl[f]? = some none) (hx : gm_fit ty x) (K : gm_run g k Y (pc + 3) L st (gm_u S p0 f x) r S2) : gm_run g k Y pc L (.int x :: .ref p0 :: st) S r S2 := by
  intro h hk2 p l e s m args below meth c D ca ad A C H locs ls hS hL
  obtain ⟨C1, T, N, ty0, e1, e2, e3, e4, e5, e6, e7, e8, e9⟩ := hf
  obtain ⟨s1, s2, s3, s4⟩ := hS
  have hfl : f < fl.length := (List.getElem?_eq_some_iff.mp hk).1
  refine va_put (D := D) (q0 := p0) (ci := ci) (v := .int x) (ty := ty) (C := C1) (T := T) (N := N) (own := own) C.1 C.2.1 C.2.2.2.2.2.1 e5 ty0 e6 e7 (by rw [← ho]; exact C.2.2.2.2.1) C.2.2.2.2.2.2.1 s1 (s2.to ca S) s3 (gm_Ws_get hs) e1 f e2 (C.2.2.2.2.2.1 _ e3) (fun z hz => by rw [← e4]; exact hz) e9 (by rw [e6 f e2, e8]) hx.1 hx.2 (by rw [gm_Fs_len]; exact hfl) hd (fun H1 locs1 hP1 hD1 hS1 => ?_)
  rw [gm_Fs_set ad (S p0) x fl 0 f hk, Nat.zero_add] at hP1
  have hP2 : va_P D vwCl ((gm_Ws ca ad S g).set p0 (ad p0, gm_Cel ca ad (upd (S p0) f x) (.inl (ci, fl)))) H1 := hP1
  rw [gm_Ws_set hs] at hP2
  exact K h hk2 p l e s m args below meth c D ca ad A C H1 locs1 ls ⟨by rw [gm_u_eq]; exact hP2, s2, hS1, s4⟩ hL
/-- an index -/
def gm_ix (i : Int32) (j n : Nat) : Prop := i.toInt = (j : Int) ∧ j < n
theorem gm_ix.in {i : Int32} {j n : Nat} (h : gm_ix i j n) : vp_in i n ∧ i.toNatClampNeg = j := by
  have h1 : i.toNatClampNeg = j := by
    have := Int32.toNat_toInt i
    rw [h.1] at this
    simpa using this.symm
  refine ⟨?_, h1⟩
  rw [vp_in_iff, h.1]
  have := h.2
  omega
theorem gm_iald {p0 j n : Nat} {i x : Int32} (hd : decode Y.2.1 pc = .ok (.iaload, 1)) (hs : g[p0]? = some (.inr (0, n))) (hi : gm_ix i j n) (hx : S p0 j = x) (K : gm_run g k Y (pc + 1) L (.int x :: st) S r S2) : gm_run g k Y pc L (.int i :: .ref p0 :: st) S r S2 := by
  intro h hk2 p l e s m args below meth c D ca ad A C H locs ls hS hL
  refine va_iald (D := D) (q0 := p0) (t0 := 0) (n := n) (f := S p0) (i := i) C.1 C.2.1 C.2.2.2.2.2.2.1 hS.1 (gm_Ws_get hs) rfl hi.in.1 hd ?_
  rw [hi.in.2, hx]
  exact K h hk2 p l e s m args below meth c D ca ad A C H locs ls hS hL
theorem gm_zald {p0 j n : Nat} {i x : Int32} (hd : decode Y.2.1 pc = .ok (.baload, 1)) (hs : g[p0]? = some (.inr (1, n))) (hi : gm_ix i j n) (hx : S p0 j = x) (K : gm_run g k Y (pc + 1) L (.int x :: st) S r S2) : gm_run g k Y pc L (.int i :: .ref p0 :: st) S r S2 := by
  intro h hk2 p l e s m args below meth c D ca ad A C H locs ls hS hL
  refine va_zald (D := D) (q0 := p0) (t0 := 1) (n := n) (f := S p0) (i := i) C.1 C.2.1 C.2.2.2.2.2.2.1 hS.1 (gm_Ws_get hs) rfl hi.in.1 hd ?_
  rw [hi.in.2, hx]
  exact K h hk2 p l e s m args below meth c D ca ad A C H locs ls hS hL
theorem gm_iast {p0 j n : Nat} {i x : Int32} (hd : decode Y.2.1 pc = .ok (.iastore, 1)) (hs : g[p0]? = some (.inr (0, n))) (hi : gm_ix i j n) (K : gm_run g k Y (pc + 1) L st (gm_u S p0 j x) r S2) : gm_run g k Y pc L (.int x :: .int i :: .ref p0 :: st) S r S2 := by
  intro h hk2 p l e s m args below meth c D ca ad A C H locs ls hS hL
  obtain ⟨s1, s2, s3, s4⟩ := hS
  refine va_iast (D := D) (q0 := p0) (t0 := 0) (n := n) (f := S p0) (i := i) (x := x) C.1 C.2.1 C.2.2.2.2.2.2.1 s1 (s2.to ca S) s3 (gm_Ws_get hs) rfl hi.in.1 hd (fun H1 locs1 hP1 hD1 hS1 => ?_)
  rw [hi.in.2] at hP1
  have hP2 : va_P D vwCl ((gm_Ws ca ad S g).set p0 (ad p0, gm_Cel ca ad (upd (S p0) j x) (.inr (0, n)))) H1 := hP1
  rw [gm_Ws_set hs] at hP2
  exact K h hk2 p l e s m args below meth c D ca ad A C H1 locs1 ls ⟨by rw [gm_u_eq]; exact hP2, s2, hS1, s4⟩ hL
theorem gm_zast {p0 j n : Nat} {i x : Int32} (hd : decode Y.2.1 pc = .ok (.bastore, 1)) (hs : g[p0]? = some (.inr (1, n))) (hi : gm_ix i j n) (hx : gm_fit .boolean x) (K : gm_run g k Y (pc + 1) L st (gm_u S p0 j x) r S2) : gm_run g k Y pc L (.int x :: .int i :: .ref p0 :: st) S r S2 := by
  intro h hk2 p l e s m args below meth c D ca ad A C H locs ls hS hL
  obtain ⟨s1, s2, s3, s4⟩ := hS
  refine va_zast (D := D) (q0 := p0) (t0 := 1) (n := n) (f := S p0) (i := i) (x := x) C.1 C.2.1 C.2.2.2.2.2.2.1 s1 (s2.to ca S) s3 (gm_Ws_get hs) rfl hi.in.1 hd (fun H1 locs1 hP1 hD1 hS1 => ?_)
  have hn : vp_nar .boolean x = x := by unfold vp_nar; rw [hx.1]
  rw [hi.in.2, hn] at hP1
  have hP2 : va_P D vwCl ((gm_Ws ca ad S g).set p0 (ad p0, gm_Cel ca ad (upd (S p0) j x) (.inr (1, n)))) H1 := hP1
  rw [gm_Ws_set hs] at hP2
  exact K h hk2 p l e s m args below meth c D ca ad A C H1 locs1 ls ⟨by rw [gm_u_eq]; exact hP2, s2, hS1, s4⟩ hL
theorem gm_aald {p0 j n q : Nat} {i : Int32} (hd : decode Y.2.1 pc = .ok (.aaload, 1)) (hs : g[p0]? = some (.inr (2, n))) (hi : gm_ix i j n) (hx : (S p0 j).toNatClampNeg = q) (K : gm_run g k Y (pc + 1) L (.ref q :: st) S r S2) : gm_run g k Y pc L (.int i :: .ref p0 :: st) S r S2 := by
  intro h hk2 p l e s m args below meth c D ca ad A C H locs ls hS hL
  refine va_aldq (D := D) (q0 := p0) (t0 := 2) (n := n) (f := fun i => some (ad (S p0 i).toNatClampNeg)) (i := i) C.1 C.2.1 C.2.2.2.2.2.2.1 hS.1 (gm_Ws_get hs) rfl hi.in.1 hd ?_
  show W p l e (gm_R h) s m args below meth c H locs 0 0 _ (F0 m (pc + 1) ls (.ref (ad (S p0 i.toNatClampNeg).toNatClampNeg) :: st.map (gm_V ad)))
  rw [hi.in.2, hx]
  exact K h hk2 p l e s m args below meth c D ca ad A C H locs ls hS hL
theorem gm_aast {p0 j n q : Nat} {i x : Int32} {fl : List (Option Nat)} (hd : decode Y.2.1 pc = .ok (.aastore, 1)) (hs : g[p0]? = some (.inr (2, n))) (hq : g[q]? = some (.inl (5, fl))) (hi : gm_ix i j n) (hx : x.toNatClampNeg = q) (K : gm_run g k Y (pc + 1) L st (gm_u S p0 j x) r S2) : gm_run g k Y pc L (.ref q :: .int i :: .ref p0 :: st) S r S2 := by
  intro h hk2 p l e s m args below meth c D ca ad A C H locs ls hS hL
  obtain ⟨s1, s2, s3, s4⟩ := hS
  refine va_astq (D := D) (q0 := p0) (t0 := 2) (qk := q) (ci := 5) (r := (RX5, TX5, 9)) (n := n) (f := fun i => some (ad (S p0 i).toNatClampNeg)) (i := i) (v := ad q) C.1 C.2.1 C.2.2.2.2.2.2.1 s1 (s2.to ca S) s3 (gm_Ws_get hs) rfl (gm_Ws_get hq) rfl hi.in.1 hd (fun H1 locs1 hP1 hD1 hS1 => ?_)
  rw [hi.in.2] at hP1
  have he : (va_up (fun i => some (ad (S p0 i).toNatClampNeg)) j (some (ad q))) = (fun i => some (ad (upd (S p0) j x i).toNatClampNeg)) := by
    funext i
    by_cases e : i = j
    · subst e
      simp [va_up, upd, hx]
    · simp [va_up, upd, e]
  rw [he] at hP1
  have hP2 : va_P D vwCl ((gm_Ws ca ad S g).set p0 (ad p0, gm_Cel ca ad (upd (S p0) j x) (.inr (2, n)))) H1 := hP1
  rw [gm_Ws_set hs] at hP2
  exact K h hk2 p l e s m args below meth c D ca ad A C H1 locs1 ls ⟨by rw [gm_u_eq]; exact hP2, s2, hS1, s4⟩ hL
theorem gm_alen {p0 n : Nat} {x : Int32} (hd : decode Y.2.1 pc = .ok (.arraylength, 1)) (hs : g[p0]? = some (.inr (0, n))) (hx : Int32.ofNat n = x) (K : gm_run g k Y (pc + 1) L (.int x :: st) S r S2) : gm_run g k Y pc L (.ref p0 :: st) S r S2 := by
  intro h hk2 p l e s m args below meth c D ca ad A C H locs ls hS hL
  exact va_alen (D := D) (q0 := p0) (t0 := 0) (ty := .int) C.1 C.2.1 C.2.2.2.2.2.2.1 hS.1 (gm_Ws_get hs) rfl hx hd (K h hk2 p l e s m args below meth c D ca ad A C H locs ls hS hL)
theorem gm_iret {v : Int32} (hd : decode Y.2.1 pc = .ok (.ireturn, 1)) (hr : Y.2.2.2 = some .int) : gm_run g k Y pc L [.int v] S (some (.int v)) S := by
  intro h hk p l e s m args below meth c D ca ad A C H locs ls hS hL
  exact W.iret C.1 C.2.1 (by rw [C.2.2.1, hr]) (fun t ht hW => ⟨rfl, by rw [ht]; exact hS.1, hS.2.2.1.F ht⟩) hS.2.2.1.2.2 hd C.2.2.2.2.2.2.2
theorem gm_zret {v : Int32} (hd : decode Y.2.1 pc = .ok (.ireturn, 1)) (hr : Y.2.2.2 = some .boolean) (hv : gm_fit .boolean v) : gm_run g k Y pc L [.int v] S (some (.int v)) S := by
  intro h hk p l e s m args below meth c D ca ad A C H locs ls hS hL
  exact W.zret C.1 C.2.1 (by rw [C.2.2.1, hr]) hv.1 (fun t ht hW => ⟨rfl, by rw [ht]; exact hS.1, hS.2.2.1.F ht⟩) hS.2.2.1.2.2 hd C.2.2.2.2.2.2.2
theorem gm_vret (hd : decode Y.2.1 pc = .ok (.return_, 1)) (hr : Y.2.2.2 = none) : gm_run g k Y pc L [] S none S := by
  intro h hk p l e s m args below meth c D ca ad A C H locs ls hS hL
  exact W.vret C.1 C.2.1 (by rw [C.2.2.1, hr]) (fun t ht hW => ⟨rfl, by rw [ht]; exact hS.1, hS.2.2.1.F ht⟩) hS.2.2.1.2.2 hd C.2.2.2.2.2.2.2
theorem gm_aret {q : Nat} {cn : String} (hd : decode Y.2.1 pc = .ok (.areturn, 1)) (hr : Y.2.2.2 = some (.object cn)) : gm_run g k Y pc L [.ref q] S (some (.ref q)) S := by
  intro h hk p l e s m args below meth c D ca ad A C H locs ls hS hL
  exact W.aret (v := .ref (ad q)) C.1 C.2.1 (by rw [C.2.2.1, hr]) (Or.inl ⟨_, rfl⟩) (Or.inr ⟨_, rfl⟩) (fun t ht hW => ⟨rfl, by rw [ht]; exact hS.1, hS.2.2.1.F ht⟩) hS.2.2.1.2.2 hd C.2.2.2.2.2.2.2
theorem gm_nret {cn : String} (hd : decode Y.2.1 pc = .ok (.areturn, 1)) (hr : Y.2.2.2 = some (.object cn)) : gm_run g k Y pc L [.null] S (some .null) S := by
  intro h hk p l e s m args below meth c D ca ad A C H locs ls hS hL
  exact W.aret (v := .null) C.1 C.2.1 (by rw [C.2.2.1, hr]) (Or.inl ⟨_, rfl⟩) (Or.inl rfl) (fun t ht hW => ⟨rfl, by rw [ht]; exact hS.1, hS.2.2.1.F ht⟩) hS.2.2.1.2.2 hd C.2.2.2.2.2.2.2
/-- a method's entry: its arguments, then unset locals -/
def gm_ent (n : Nat) (As : List Value) : List (Option Value) := As.map some ++ List.replicate (n - As.length) none
end GM
theorem gm_sl_len (ad : Nat → Nat) : ∀ (As : List Value), (lg_sl (As.map (gm_V ad))).length = As.length
  | [] => rfl
  | v :: As => by
    have h := gm_sl_len ad As
    have hc : ¬ (gm_V ad v).category = 2 := by rw [gm_Vcat]; decide
    simp only [lg_sl, List.map_cons, List.flatMap_cons, hc, if_false, List.length_append, List.length_cons, List.length_nil] at h ⊢
    omega
theorem gm_args_in (ad : Nat → Nat) : ∀ (As : List Value) (o i : Nat) (v : Value), As[i]? = some v → (o + i, gm_V ad v) ∈ lv_args o (As.map (gm_V ad))
  | [], o, i, v, e => by simp at e
  | a :: As, o, 0, v, e => by
    simp at e
    subst e
    simp [lv_args]
  | a :: As, o, i + 1, v, e => by
    have h := gm_args_in ad As (o + 1) i v (by simpa using e)
    have hc : ¬ (gm_V ad a).category = 2 := by rw [gm_Vcat]; decide
    simp only [List.map_cons, lv_args, hc, if_false]
    rw [show o + (i + 1) = o + 1 + i by omega]
    exact List.mem_cons_of_mem _ h
/-- Met.ofW, for a method of any class that has no native row -/
theorem gm_ofW {l : Launch} {y : MethodName} {ws ws' : List Cond} {rm : Room} {Pc : Array Value → State → Prop} {Qc : Array Value → State → Outcome → State → Prop} {mc ms : Nat} {free : Addr → Prop} {cc : ByteArray} {maxL : Nat} {ret : Option FieldType}
    (hy : plainFor y = true) (hw : ws = Cond.code y cc maxL ret :: ws')
    (body : ∀ p e s m args below meth c s₁, BodyLoose p l y (headSpec ws rm) cc maxL ret e s m args below meth c s₁ → c.maxLocals = maxL → Pc args s →
      W p l e (headSpec ws rm).room s m args below meth c s.heap [] 0 0 (MQ below Qc args s mc ms free) (entryFrame m args maxL)) : Met l y ws rm Pc Qc mc ms free := by
  refine MetFree.of_bodySF (code := cc) (maxLocals := maxL) (ret := ret) hy ?_ ?_
  · intro args s m h hn
    obtain ⟨meth, c, h1, h2, h3, h4, h5, h6, -, -⟩ := Cond.code_spec hn (atoms_spec (ws := ws) h _ (by rw [hw]; exact List.mem_cons_self))
    exact ⟨meth, c, h1, h2, h3, h4, h5, h6⟩
  · intro p e s m args below meth c s₁ B hml hP _
    have hh0 : s₁.heap = s.heap := by rw [B.state]; rfl
    obtain ⟨t, a1, o, b1, b2, b3⟩ := body p e s m args below meth c s₁ B hml hP s₁ hh0 (Stand.of_body B)
    exact ⟨t, o, a1, b1, b2, ⟨b3.1, b3.2⟩⟩
def gm_Pc (g : gm_W) (D : va_G) (ca : gm_Ar) (ad : Nat → Nat) (A : Nat → Prop) (As : List Value) (S : gm_Mem) : Array Value → State → Prop :=
  fun v U => v = (As.map (gm_V ad)).toArray ∧ va_P D vwCl (gm_Ws ca ad S g) U.heap ∧ va_K D vwCl (gm_Ty ca) U ∧ gm_D g ad A ∧ ∀ q : Nat, U.heap.size ≤ q → A q
abbrev gm_wd (Y : gm_Y) : List Cond := Cond.code Y.1 Y.2.1 Y.2.2.1 Y.2.2.2 :: gm_TB
theorem gm_met {g : gm_W} {k : Nat} {Y : gm_Y} {As : List Value} {S S2 : gm_Mem} {r : Option Value} (l : Launch) (D : va_G) (ca : gm_Ar) (ad : Nat → Nat) (A : Nat → Prop) (hp : plainFor Y.1 = true) (hn : As.length ≤ Y.2.2.1) (hc : gm_run g k Y 0 (gm_ent Y.2.2.1 As) [] S r S2) :
    Met l Y.1 (gm_wd Y) (gm_R k) (gm_Pc g D ca ad A As S) (gm_Q g ca D ad A r S2) 0 0 A := by
  refine gm_ofW (cc := Y.2.1) (maxL := Y.2.2.1) (ret := Y.2.2.2) hp rfl ?_
  intro p e s m args below meth c s₁ B hml hv
  obtain ⟨rfl, hP, hK, hD, hA⟩ := hv
  have hts := atoms_spec (ws := gm_wd Y) B.pre
  have hl := lv_entry (As.map (gm_V ad)) (n := Y.2.2.1) (by rw [gm_sl_len]; exact hn)
  rw [lg_entry_eq]
  refine hc k (Nat.le_refl k) p l e s m _ below meth c D ca ad A ⟨B.exec, B.bytes, B.returns, hml, findClass_of_methodNamed B.named, fun w hw => hts w (List.mem_cons_of_mem _ hw), hK, B.notSynchronized⟩ s.heap [] _ ⟨hP, hD, va_S.rf, hA⟩ ⟨_, hl, fun i v hi => ?_⟩
  unfold gm_ent at hi
  by_cases hlt : i < As.length
  · rw [List.getElem?_append_left (by simpa using hlt), List.getElem?_map] at hi
    cases ha : As[i]? with
    | none => rw [ha] at hi; cases hi
    | some w =>
      rw [ha] at hi
      have hw : w = v := Option.some.inj (Option.some.inj hi)
      subst hw
      have := gm_args_in ad As 0 i w ha
      rw [Nat.zero_add] at this
      exact this
  · rw [List.getElem?_append_right (by simpa using Nat.not_lt.mp hlt), List.getElem?_replicate] at hi
    split at hi <;> cases hi
theorem gm_blind {g : gm_W} {D : va_G} {ca : gm_Ar} {ad : Nat → Nat} {A : Nat → Prop} {As : List Value} {S : gm_Mem} : FrameBlind (gm_Pc g D ca ad A As S) :=
  fun a U f mk q => ⟨q.1, q.2.1, va_K.moved (u := U) (U := U.calling f mk a) (Vm.Alike.refl U.vm) q.2.2.1, q.2.2.2.1, q.2.2.2.2⟩
theorem gm_back {g : gm_W} {k : Nat} {Y : gm_Y} {As : List Value} {S S2 : gm_Mem} {r : Option Value} {l : Launch} {R : Room} {p : Program} {e : Env} {below : List Frame} {s : State} {args : Array Value} {wo : Nat} (D : va_G) (ca : gm_Ar) (ad : Nat → Nat) (A : Nat → Prop)
    (hts : ∀ w ∈ gm_TB, w.before args s = true) (hcode : Cond.code Y.1 Y.2.1 Y.2.2.1 Y.2.2.2 ∈ gm_TB) (hini : Cond.initialized Y.1.cls ∈ gm_TB) (hp : plainFor Y.1 = true) (hn : As.length ≤ Y.2.2.1) (hf : k + 1 ≤ R.frames) (hl : wo + (Y.2.2.1 + 11) + 40 * k ≤ R.locals)
    (hc : gm_run g k Y 0 (gm_ent Y.2.2.1 As) [] S r S2) : Back l R p e below s args Y.1 3 wo (PreOf R 0 0 (gm_Pc g D ca ad A As S)) (PostOf (gm_Q g ca D ad A r S2) 0 0 A) := by
  have hG : GoodIn gm_TB (gm_wd Y) := gm_good (fun w hw => (List.mem_cons.mp hw).elim (fun q => by rw [q]; exact hcode) id)
  exact back_of (ws := gm_wd Y) (rm := gm_R k) (bytes := Y.2.1) (maxL := Y.2.2.1) (ret := Y.2.2.2) (gm_met l D ca ad A hp hn hc) gm_blind rfl rfl hf hl (pay_in hts hG) List.mem_cons_self
    (fun a' U hW => word_at hW (Or.inl (by first | rfl | simp [Cond.onTables, Cond.keeps, Cond.steady])) (hts _ hini))
theorem gm_sum (ad : Nat → Nat) : ∀ (st : List Value), ((st.map (gm_V ad)).map fun v => v.category).sum = st.length
  | [] => rfl
  | v :: st => by
    have h := gm_sum ad st
    simp only [List.map_cons, List.sum_cons, List.length_cons, gm_Vcat] at h ⊢
    omega
section GM2
variable {g : gm_W} {k : Nat} {Y : gm_Y} {pc : Nat} {L : List (Option Value)} {st : List Value} {S : gm_Mem} {r : Option Value} {S2 : gm_Mem}
theorem gm_callV {k1 i b ci n : Nat} {Y1 : gm_Y} {st0 st1 : List Value} {L1 : List (Option Value)} {r1 : Option Value} {S1 : gm_Mem} {fl : List (Option Nat)} {own : String} (ho : Y.1.cls = own) (hd : decode Y.2.1 pc = .ok (.invokevirtual i, 3)) (hl : Cond.methodLink own i Y1.1 ∈ gm_TB) (hm : gm_Mv Y1 n) (hs : g[b]? = some (.inl (ci, fl))) (hcl : (vwCl[ci]?).map (fun q => q.1) = some Y1.1.cls)
    (As : List Value) (rest : List Value) (hst : st0 = As.reverse ++ .ref b :: rest) (hn : As.length = n) (hre : rest.length ≤ 12) (hk : k1 + 1 ≤ k) (hL1 : gm_ent Y1.2.2.1 (.ref b :: As) = L1) (hc : gm_run g k1 Y1 0 L1 [] S r1 S1) (hst1 : r1.toList ++ rest = st1)
    (K : gm_run g k Y (pc + 3) L st1 S1 r S2) : gm_run g k Y pc L st0 S r S2 := by
  intro h hkh p l e s m args below meth c D ca ad A C H locs ls hS hL
  subst hL1
  subst hst1
  subst hst
  obtain ⟨m1, m2, m3, m4, m5, m6, m7, m8, m9⟩ := hm
  obtain ⟨x1, x2, x3, x4, x5, x6, x7, x8⟩ := id C
  obtain ⟨s1, s2, s3, s4⟩ := hS
  have hAH : ∀ q : Nat, H.size ≤ q → A q := fun q hq => s4 q (Nat.le_trans s3.1 hq)
  obtain ⟨q', hq'⟩ : ∃ q', vwCl[ci]? = some q' := by
    cases hv : vwCl[ci]? with
    | none => rw [hv] at hcl; cases hcl
    | some q' => exact ⟨q', rfl⟩
  have hq1 : q'.1 = Y1.1.cls := by rw [hq'] at hcl; exact Option.some.inj hcl
  obtain ⟨cell, c1, c2, c3⟩ := va_recv x7 s1 hq' (gm_Ws_get hs)
  have hlen : (Value.ref b :: As).length ≤ Y1.2.2.1 := by simp; omega
  have hB := gm_back (l := l) (R := gm_R h) (p := p) (e := e) (below := below) (s := s) (args := args) (wo := 12) D ca ad A x6 m4 m3 m5 hlen (by show k1 + 1 ≤ h; omega) (by show 12 + (Y1.2.2.1 + 11) + 40 * k1 ≤ 40 * h; omega) hc
  intro T hT X
  have hstk : (F0 m pc ls ((As.reverse ++ Value.ref b :: rest).map (gm_V ad))).stack = (As.map (gm_V ad)).reverse ++ .ref (ad b) :: rest.map (gm_V ad) := by
    show (As.reverse ++ Value.ref b :: rest).map (gm_V ad) = _
    rw [List.map_append, List.map_reverse, List.map_cons]
    rfl
  have hsz : (F0 m pc ls ((As.reverse ++ Value.ref b :: rest).map (gm_V ad))).locals.size = c.maxLocals := by
    rw [x4]
    obtain ⟨lv, h1, -⟩ := hL
    exact h1.1
  obtain ⟨v, vm₁, ⟨U', l2, cc2, ss2⟩, hW₁, X', ⟨g', mk, t, LL, e1, e2, hq, h1, hLL, h2, h3⟩, stp⟩ := callV X x1 (C := q'.1) (bytes := Y1.2.1) (maxL := Y1.2.2.1) (ret := Y1.2.2.2) (by rw [← ho]; exact x5) (x6 _ hl) (x6 _ m1) (by rw [hq1]; exact x6 _ m2) (x6 _ m4) m6 hB (by rw [hT]; exact c1) c2 c3 (g := F0 m pc ls ((As.reverse ++ Value.ref b :: rest).map (gm_V ad))) rfl hsz (argsL := As.map (gm_V ad)) (rest := rest.map (gm_V ad))
    (fun sig hsg => by rw [hsg] at m8; rw [List.length_map, hn]; exact (Option.some.inj m8).symm) hstk (by show 2 * 0 + _ ≤ 12; rw [gm_sum]; omega) (by rw [x2]; exact hd)
    (fun vm1 hW => ⟨Nat.le_refl 0, Nat.le_refl 0, rfl, by show va_P D vwCl _ T.heap; rw [hT]; exact s1, va_K.moved hW.alike x7, s2, by show ∀ q : Nat, T.heap.size ≤ q → A q; rw [hT]; exact hAH⟩)
  dsimp only [Pt.U, Pt.locs, Pt.cells, Pt.slots] at X' e1 e2 h1 h2 h3 stp
  subst h1; subst h2; subst h3
  obtain ⟨ho1, hP1, hF1⟩ := hq
  have hv : v = r1.map (gm_V ad) := by injection ho1
  subst hv
  have hsH : ((T.setVm vm₁).calling g' mk (Value.ref (ad b) :: As.map (gm_V ad)).toArray).heap = H := hT
  rw [va_F, hsH] at hF1
  obtain ⟨t2, a1, b1⟩ := K h hkh p l e s m args below meth c D ca ad A C U'.heap (locs ++ LL) ls ⟨by rw [e1]; exact hP1, s2, ⟨Nat.le_trans s3.1 (by rw [e1]; exact hF1.1), fun q h1 h2 => by rw [e1, hF1.2 q (Nat.lt_of_lt_of_le h1 s3.1) h2]; exact s3.2.1 q h1 h2, fun q hq => by
      rcases List.mem_append.mp hq with h | h
      · exact s3.2.2 q h
      · exact hLL q h⟩, s4⟩ hL U' rfl X'
  refine ⟨t2, stp t2 ?_, b1⟩
  have hst2 : (r1.map (gm_V ad)).toList ++ rest.map (gm_V ad) = (r1.toList ++ rest).map (gm_V ad) := by
    cases r1 <;> simp
  rw [hst2]
  exact a1
theorem gm_callS {k1 i n : Nat} {Y1 : gm_Y} {st0 st1 : List Value} {L1 : List (Option Value)} {r1 : Option Value} {S1 : gm_Mem} {own : String} (ho : Y.1.cls = own) (hd : decode Y.2.1 pc = .ok (.invokestatic i, 3)) (hl : Cond.methodLink own i Y1.1 ∈ gm_TB) (hm : gm_Ms Y1 n)
    (As : List Value) (rest : List Value) (hst : st0 = As.reverse ++ rest) (hn : As.length = n) (hre : rest.length ≤ 12) (hk : k1 + 1 ≤ k) (hL1 : gm_ent Y1.2.2.1 As = L1) (hc : gm_run g k1 Y1 0 L1 [] S r1 S1) (hst1 : r1.toList ++ rest = st1)
    (K : gm_run g k Y (pc + 3) L st1 S1 r S2) : gm_run g k Y pc L st0 S r S2 := by
  intro h hkh p l e s m args below meth c D ca ad A C H locs ls hS hL
  subst hL1
  subst hst1
  subst hst
  obtain ⟨m1, m3, m4, m5, m6, m7, m8, m9⟩ := hm
  obtain ⟨x1, x2, x3, x4, x5, x6, x7, x8⟩ := id C
  obtain ⟨s1, s2, s3, s4⟩ := hS
  have hAH : ∀ q : Nat, H.size ≤ q → A q := fun q hq => s4 q (Nat.le_trans s3.1 hq)
  have hlen : As.length ≤ Y1.2.2.1 := by omega
  have hB := gm_back (l := l) (R := gm_R h) (p := p) (e := e) (below := below) (s := s) (args := args) (wo := 12) D ca ad A x6 m4 m3 m5 hlen (by show k1 + 1 ≤ h; omega) (by show 12 + (Y1.2.2.1 + 11) + 40 * k1 ≤ 40 * h; omega) hc
  intro T hT X
  have hstk : (F0 m pc ls ((As.reverse ++ rest).map (gm_V ad))).stack = (As.map (gm_V ad)).reverse ++ rest.map (gm_V ad) := by
    show (As.reverse ++ rest).map (gm_V ad) = _
    rw [List.map_append, List.map_reverse]
  have hsz : (F0 m pc ls ((As.reverse ++ rest).map (gm_V ad))).locals.size = c.maxLocals := by
    rw [x4]
    obtain ⟨lv, h1, -⟩ := hL
    exact h1.1
  obtain ⟨v, vm₁, ⟨U', l2, cc2, ss2⟩, hW₁, X', ⟨g', mk, t, LL, e1, e2, hq, h1, hLL, h2, h3⟩, stp⟩ := callS X x1 (bytes := Y1.2.1) (maxL := Y1.2.2.1) (ret := Y1.2.2.2) (by rw [← ho]; exact x5) (x6 _ hl) (x6 _ m1) (x6 _ m3) (x6 _ m4) m6 hB (g := F0 m pc ls ((As.reverse ++ rest).map (gm_V ad))) rfl hsz (argsL := As.map (gm_V ad)) (rest := rest.map (gm_V ad))
    (fun sig hsg => by rw [hsg] at m8; rw [List.length_map, hn]; exact (Option.some.inj m8).symm) hstk (by show 2 * 0 + _ ≤ 12; rw [gm_sum]; omega) (by rw [x2]; exact hd)
    (fun vm1 hW => ⟨Nat.le_refl 0, Nat.le_refl 0, rfl, by show va_P D vwCl _ T.heap; rw [hT]; exact s1, va_K.moved hW.alike x7, s2, by show ∀ q : Nat, T.heap.size ≤ q → A q; rw [hT]; exact hAH⟩)
  dsimp only [Pt.U, Pt.locs, Pt.cells, Pt.slots] at X' e1 e2 h1 h2 h3 stp
  subst h1; subst h2; subst h3
  obtain ⟨ho1, hP1, hF1⟩ := hq
  have hv : v = r1.map (gm_V ad) := by injection ho1
  subst hv
  have hsH : ((T.setVm vm₁).calling g' mk (As.map (gm_V ad)).toArray).heap = H := hT
  rw [va_F, hsH] at hF1
  obtain ⟨t2, a1, b1⟩ := K h hkh p l e s m args below meth c D ca ad A C U'.heap (locs ++ LL) ls ⟨by rw [e1]; exact hP1, s2, ⟨Nat.le_trans s3.1 (by rw [e1]; exact hF1.1), fun q h1 h2 => by rw [e1, hF1.2 q (Nat.lt_of_lt_of_le h1 s3.1) h2]; exact s3.2.1 q h1 h2, fun q hq => by
      rcases List.mem_append.mp hq with h | h
      · exact s3.2.2 q h
      · exact hLL q h⟩, s4⟩ hL U' rfl X'
  refine ⟨t2, stp t2 ?_, b1⟩
  have hst2 : (r1.map (gm_V ad)).toList ++ rest.map (gm_V ad) = (r1.toList ++ rest).map (gm_V ad) := by
    cases r1 <;> simp
  rw [hst2]
  exact a1
/-- System.arraycopy of a whole row of ints or booleans, from 0 to 0 -/
def gm_cpy (S : gm_Mem) (p1 p0 n : Nat) : gm_Mem := fun q => if q = p1 then (fun j => if j < n then S p0 j else S p1 j) else S q
theorem gm_copy {i p0 p1 t n : Nat} {x : Int32} {own : String} (ho : Y.1.cls = own) (hd : decode Y.2.1 pc = .ok (.invokestatic i, 3)) (hl : Cond.methodLink own i arraycopyName ∈ gm_TB) (h0 : g[p0]? = some (.inr (t, n))) (h1 : g[p1]? = some (.inr (t, n))) (ht : t = 0 ∨ t = 1) (hx : gm_ix x n (n + 1)) (hz : t = 1 → ∀ j : Nat, j < n → gm_fit .boolean (S p0 j)) (hre : st.length ≤ 12) (hk : 1 ≤ k)
    (hn1 : Cond.native arraycopyName ∈ gm_TB) (hn2 : Cond.static arraycopyName ∈ gm_TB) (hn3 : Cond.initialized "java/lang/System" ∈ gm_TB) (K : gm_run g k Y (pc + 3) L st (gm_cpy S p1 p0 n) r S2) : gm_run g k Y pc L (.int x :: .int 0 :: .ref p1 :: .int 0 :: .ref p0 :: st) S r S2 := by
  intro h hkh p l e s m args below meth c D ca ad A C H locs ls hS hL
  obtain ⟨s1, s2, s3, s4⟩ := hS
  obtain ⟨x1, x2, x3, x4, x5, x6, x7, x8⟩ := id C
  have hsz : c.maxLocals = ls.size := by
    rw [x4]
    obtain ⟨lv, h1, -⟩ := hL
    exact h1.1.symm
  have hxn : x.toNatClampNeg = n := hx.in.2
  have hx0 : ¬ x < 0 := fun q => hx.in.1 (Or.inl q)
  have z0 : (0 : Int32).toNatClampNeg = 0 := by decide
  have hcel : ∃ (cA : ClassId) (ty : FieldType), gm_Cel ca ad (S p0) (.inr (t, n)) = .inl (cA, n, .inl (S p0)) ∧ gm_Cel ca ad (S p1) (.inr (t, n)) = .inl (cA, n, .inl (S p1)) ∧ (∀ f : Nat → Int32, gm_Cel ca ad f (.inr (t, n)) = .inl (cA, n, .inl f)) ∧ (gm_Ty ca)[t]? = some (cA, ty) ∧ refKind ty = false ∧ (∀ j, j < n → fits ty (.int (S p0 j)) = true) := by
    rcases ht with rfl | rfl
    · exact ⟨ca.1, .int, rfl, rfl, fun _ => rfl, rfl, rfl, fun _ _ => rfl⟩
    · exact ⟨ca.2.1, .boolean, rfl, rfl, fun _ => rfl, rfl, rfl, fun j hj => (hz rfl j hj).2⟩
  obtain ⟨cA, ty, k1, k2, k3, k4, k5, k6⟩ := hcel
  have g0 := gm_Ws_get (c := ca) (ad := ad) (S := S) h0
  have g1 := gm_Ws_get (c := ca) (ad := ad) (S := S) h1
  rw [k1] at g0
  rw [k2] at g1
  have hw : nativeFrameWords "java/lang/System" "arraycopy" 5 = 7 := by decide
  have hlo : ((st.map (gm_V ad)).map fun v => v.category).sum + (nativeFrameWords "java/lang/System" "arraycopy" 5 + 11) ≤ (gm_R h).locals := by
    rw [gm_sum, hw]
    show st.length + (7 + 11) ≤ 40 * h
    omega
  have hfr : 1 ≤ (gm_R h).frames := by
    show 1 ≤ h
    omega
  refine va_copyi (R := gm_R h) (rest := st.map (gm_V ad)) (D := D) (q0 := p0) (q1 := p1) (t0 := t) (t1 := t) (sp := 0) (dp := 0) (n := x) x1 x2 hsz (own := own) (by rw [← ho]; exact x5) (x6 _ hl) (x6 _ hn1) (x6 _ hn2) (x6 _ hn3) x7 s1 (s2.to ca S) s3 g0 g1 k4 k4 k5 (by decide) (by decide) hx0 (by rw [z0, hxn]; omega) (by rw [z0, hxn]; omega) (fun j hj => by rw [z0, Nat.zero_add]; exact k6 j (by rw [← hxn]; exact hj)) hfr hlo hd (fun H1 locs1 hP1 hD1 hS1 => ?_)
  have hrow : va_cpy (S p0) (S p1) (0 : Int32).toNatClampNeg (0 : Int32).toNatClampNeg x.toNatClampNeg = fun j => if j < n then S p0 j else S p1 j := by
    funext j
    rw [z0, hxn]
    simp [va_cpy]
  rw [hrow, ← k3] at hP1
  rw [gm_Ws_set h1] at hP1
  have he : va_up S p1 (fun j => if j < n then S p0 j else S p1 j) = gm_cpy S p1 p0 n := by
    funext q
    by_cases hq : q = p1 <;> simp [va_up, gm_cpy, hq]
  rw [he] at hP1
  exact K h hkh p l e s m args below meth c D ca ad A C H1 locs1 ls ⟨hP1, s2, hS1, s4⟩ hL
end GM2
