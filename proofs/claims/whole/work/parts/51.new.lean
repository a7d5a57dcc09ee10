/-! THE CONSTRUCTORS' MACHINE: a world of which the first n places are made, at the addresses B, B + 1 ..; a field that holds a place is null while its word is 0 -/
def kn_Fs (ad : Nat → Nat) (r : Nat → Int32) : Nat → List (Option Nat) → List Value
  | _, [] => []
  | k, none :: l => .int (r k) :: kn_Fs ad r (k + 1) l
  | k, some q :: l => (if r k = 0 then .null else .ref (ad q)) :: kn_Fs ad r (k + 1) l
def kn_Cel (c : gm_Ar) (ad : Nat → Nat) (r : Nat → Int32) (h : gm_Sh) : va_E := match h with
  | .inl (ci, fs) => .inr (ci, kn_Fs ad r 0 fs)
  | .inr (0, n) => .inl (c.1, n, .inl r)
  | .inr (1, n) => .inl (c.2.1, n, .inl r)
  | .inr (_, n) => .inl (c.2.2, n, .inr (.inr (.inr (.inr (fun i => if r i = 0 then none else some (ad (r i).toNatClampNeg))))))
def kn_Cs (c : gm_Ar) (ad : Nat → Nat) (S : gm_Mem) : Nat → gm_W → va_W
  | _, [] => []
  | p, h :: l => (ad p, kn_Cel c ad (S p) h) :: kn_Cs c ad S (p + 1) l
def kn_Ws (c : gm_Ar) (ad : Nat → Nat) (S : gm_Mem) (g : gm_W) (n : Nat) : va_W := kn_Cs c ad S 0 (g.take n)
theorem kn_Cs_get (c : gm_Ar) (ad : Nat → Nat) (S : gm_Mem) : ∀ (l : gm_W) (p i : Nat) (h : gm_Sh), l[i]? = some h → (kn_Cs c ad S p l)[i]? = some (ad (p + i), kn_Cel c ad (S (p + i)) h)
  | [], p, i, h, e => by simp at e
  | a :: l, p, 0, h, e => by
    simp at e
    subst e
    simp [kn_Cs]
  | a :: l, p, i + 1, h, e => by
    have e' : l[i]? = some h := by simpa using e
    have := kn_Cs_get c ad S l (p + 1) i h e'
    rw [show p + (i + 1) = p + 1 + i by omega]
    simpa [kn_Cs] using this
theorem kn_Cs_other (c : gm_Ar) (ad : Nat → Nat) (S : gm_Mem) (q : Nat) (r : Nat → Int32) : ∀ (l : gm_W) (p : Nat), q < p → kn_Cs c ad (va_up S q r) p l = kn_Cs c ad S p l
  | [], p, h => rfl
  | a :: l, p, h => by
    simp only [kn_Cs]
    rw [kn_Cs_other c ad S q r l (p + 1) (by omega)]
    have : va_up S q r p = S p := by simp [va_up]; omega
    rw [this]
theorem kn_Cs_set (c : gm_Ar) (ad : Nat → Nat) (S : gm_Mem) (r : Nat → Int32) (h : gm_Sh) : ∀ (l : gm_W) (p i : Nat), l[i]? = some h → (kn_Cs c ad S p l).set i (ad (p + i), kn_Cel c ad r h) = kn_Cs c ad (va_up S (p + i) r) p l
  | [], p, i, e => by simp at e
  | a :: l, p, 0, e => by
    simp at e
    subst e
    simp only [kn_Cs, List.set_cons_zero, Nat.add_zero]
    rw [kn_Cs_other c ad S p r l (p + 1) (by omega)]
    have : va_up S p r p = r := by simp [va_up]
    rw [this]
  | a :: l, p, i + 1, e => by
    have e' : l[i]? = some h := by simpa using e
    have := kn_Cs_set c ad S r h l (p + 1) i e'
    simp only [kn_Cs, List.set_cons_succ]
    rw [show p + (i + 1) = p + 1 + i by omega, this]
    have : va_up S (p + 1 + i) r p = S p := by simp [va_up]; omega
    rw [this]
theorem kn_Cs_addr {c : gm_Ar} {ad : Nat → Nat} {S : gm_Mem} : ∀ (l : gm_W) (p i : Nat) (q : Nat × va_E), (kn_Cs c ad S p l)[i]? = some q → i < l.length ∧ q.1 = ad (p + i)
  | [], p, i, q, e => by simp [kn_Cs] at e
  | a :: l, p, 0, q, e => by
    simp [kn_Cs] at e
    subst e
    simp
  | a :: l, p, i + 1, q, e => by
    have h := kn_Cs_addr l (p + 1) i q (by simpa [kn_Cs] using e)
    refine ⟨by simp; omega, ?_⟩
    rw [show p + (i + 1) = p + 1 + i by omega]
    exact h.2
theorem kn_Cs_app (c : gm_Ar) (ad : Nat → Nat) (S : gm_Mem) (h : gm_Sh) : ∀ (l : gm_W) (p : Nat), kn_Cs c ad S p (l ++ [h]) = kn_Cs c ad S p l ++ [(ad (p + l.length), kn_Cel c ad (S (p + l.length)) h)]
  | [], p => by simp [kn_Cs]
  | a :: l, p => by
    have := kn_Cs_app c ad S h l (p + 1)
    simp only [List.cons_append, kn_Cs, this, List.length_cons]
    rw [show p + 1 + l.length = p + (l.length + 1) by omega]
theorem kn_tk {g : gm_W} {n p : Nat} {h : gm_Sh} (e : g[p]? = some h) (hp : p < n) : (g.take n)[p]? = some h := by
  rw [List.getElem?_take, if_pos hp]
  exact e
theorem kn_Ws_get {c : gm_Ar} {ad : Nat → Nat} {S : gm_Mem} {g : gm_W} {n p : Nat} {h : gm_Sh} (e : g[p]? = some h) (hp : p < n) : (kn_Ws c ad S g n)[p]? = some (ad p, kn_Cel c ad (S p) h) := by
  have := kn_Cs_get c ad S (g.take n) 0 p h (kn_tk e hp)
  rw [Nat.zero_add] at this
  exact this
theorem kn_Ws_set {c : gm_Ar} {ad : Nat → Nat} {S : gm_Mem} {g : gm_W} {n p : Nat} {h : gm_Sh} (e : g[p]? = some h) (hp : p < n) (r : Nat → Int32) : (kn_Ws c ad S g n).set p (ad p, kn_Cel c ad r h) = kn_Ws c ad (va_up S p r) g n := by
  have := kn_Cs_set c ad S r h (g.take n) 0 p (kn_tk e hp)
  rw [Nat.zero_add] at this
  exact this
theorem kn_Ws_add {c : gm_Ar} {ad : Nat → Nat} {S : gm_Mem} {g : gm_W} {n : Nat} {h : gm_Sh} (e : g[n]? = some h) : kn_Ws c ad S g (n + 1) = kn_Ws c ad S g n ++ [(ad n, kn_Cel c ad (S n) h)] := by
  have hl : n < g.length := (List.getElem?_eq_some_iff.mp e).1
  unfold kn_Ws
  rw [List.take_succ, e]
  have := kn_Cs_app c ad S h (g.take n) 0
  rw [Nat.zero_add, List.length_take, Nat.min_eq_left (Nat.le_of_lt hl)] at this
  exact this
theorem kn_Fs_len (ad : Nat → Nat) (r : Nat → Int32) : ∀ (l : List (Option Nat)) (k : Nat), (kn_Fs ad r k l).length = l.length
  | [], k => rfl
  | none :: l, k => by simp [kn_Fs, kn_Fs_len ad r l (k + 1)]
  | some q :: l, k => by simp [kn_Fs, kn_Fs_len ad r l (k + 1)]
theorem kn_Fs_getR (ad : Nat → Nat) (r : Nat → Int32) : ∀ (l : List (Option Nat)) (k i q : Nat), l[i]? = some (some q) → ¬ r (k + i) = 0 → (kn_Fs ad r k l)[i]? = some (.ref (ad q))
  | [], k, i, q, e, _ => by simp at e
  | none :: l, k, 0, q, e, _ => by simp at e
  | some q' :: l, k, 0, q, e, h => by
    simp at e
    rw [Nat.add_zero] at h
    simp [kn_Fs, e, h]
  | none :: l, k, i + 1, q, e, h => by
    have := kn_Fs_getR ad r l (k + 1) i q (by simpa using e) (by rw [show k + 1 + i = k + (i + 1) by omega]; exact h)
    simpa [kn_Fs] using this
  | some q' :: l, k, i + 1, q, e, h => by
    have := kn_Fs_getR ad r l (k + 1) i q (by simpa using e) (by rw [show k + 1 + i = k + (i + 1) by omega]; exact h)
    simpa [kn_Fs] using this
theorem kn_Fs_other (ad : Nat → Nat) (r : Nat → Int32) (i : Nat) (x : Int32) : ∀ (l : List (Option Nat)) (k : Nat), i < k → kn_Fs ad (upd r i x) k l = kn_Fs ad r k l
  | [], k, h => rfl
  | none :: l, k, h => by
    have : upd r i x k = r k := by simp [upd]; omega
    simp only [kn_Fs, kn_Fs_other ad r i x l (k + 1) (by omega), this]
  | some q :: l, k, h => by
    have : upd r i x k = r k := by simp [upd]; omega
    simp only [kn_Fs, kn_Fs_other ad r i x l (k + 1) (by omega), this]
theorem kn_Fs_set (ad : Nat → Nat) (r : Nat → Int32) (x : Int32) : ∀ (l : List (Option Nat)) (k i : Nat), l[i]? = some none → (kn_Fs ad r k l).set i (.int x) = kn_Fs ad (upd r (k + i) x) k l
  | [], k, i, e => by simp at e
  | none :: l, k, 0, e => by
    have : upd r k x k = x := by simp [upd]
    simp only [kn_Fs, List.set_cons_zero, Nat.add_zero, kn_Fs_other ad r k x l (k + 1) (by omega), this]
  | some q :: l, k, 0, e => by simp at e
  | none :: l, k, i + 1, e => by
    have h := kn_Fs_set ad r x l (k + 1) i (by simpa using e)
    have : upd r (k + 1 + i) x k = r k := by simp [upd]; omega
    rw [show k + (i + 1) = k + 1 + i by omega]
    simp only [kn_Fs, List.set_cons_succ, h, this]
  | some q :: l, k, i + 1, e => by
    have h := kn_Fs_set ad r x l (k + 1) i (by simpa using e)
    have : upd r (k + 1 + i) x k = r k := by simp [upd]; omega
    rw [show k + (i + 1) = k + 1 + i by omega]
    simp only [kn_Fs, List.set_cons_succ, h, this]
theorem kn_Fs_setR (ad : Nat → Nat) (r : Nat → Int32) : ∀ (l : List (Option Nat)) (k i q : Nat), l[i]? = some (some q) → (kn_Fs ad r k l).set i (.ref (ad q)) = kn_Fs ad (upd r (k + i) 1) k l
  | [], k, i, q, e => by simp at e
  | none :: l, k, 0, q, e => by simp at e
  | some q' :: l, k, 0, q, e => by
    simp at e
    subst e
    have : upd r k 1 k = 1 := by simp [upd]
    have h1 : ¬ (1 : Int32) = 0 := by decide
    simp only [kn_Fs, List.set_cons_zero, Nat.add_zero, kn_Fs_other ad r k 1 l (k + 1) (by omega), this, if_neg h1]
  | none :: l, k, i + 1, q, e => by
    have h := kn_Fs_setR ad r l (k + 1) i q (by simpa using e)
    have : upd r (k + 1 + i) 1 k = r k := by simp [upd]; omega
    rw [show k + (i + 1) = k + 1 + i by omega]
    simp only [kn_Fs, List.set_cons_succ, h, this]
  | some q' :: l, k, i + 1, q, e => by
    have h := kn_Fs_setR ad r l (k + 1) i q (by simpa using e)
    have : upd r (k + 1 + i) 1 k = r k := by simp [upd]; omega
    rw [show k + (i + 1) = k + 1 + i by omega]
    simp only [kn_Fs, List.set_cons_succ, h, this]
theorem kn_Fs_zero (ad : Nat → Nat) : ∀ (l : List (Option Nat)) (k : Nat), kn_Fs ad (fun _ => 0) k l = kn_dv l
  | [], k => rfl
  | none :: l, k => by simp [kn_Fs, kn_dv, kn_Fs_zero ad l (k + 1)]
  | some q :: l, k => by simp [kn_Fs, kn_dv, kn_Fs_zero ad l (k + 1)]
/-- the addresses -/
def kn_ad (B : Nat) : Nat → Nat := fun q => B + q
theorem kn_D {c : gm_Ar} {S : gm_Mem} {g : gm_W} {B n : Nat} : va_D (fun q => B ≤ q) (kn_Ws c (kn_ad B) S g n) := by
  refine ⟨fun i j p q hp hq e => ?_, fun k q hq => ?_⟩
  · have h1 := kn_Cs_addr (g.take n) 0 i p hp
    have h2 := kn_Cs_addr (g.take n) 0 j q hq
    rw [h1.2, h2.2] at e
    unfold kn_ad at e
    omega
  · have h1 := kn_Cs_addr (g.take n) 0 k q hq
    show B ≤ q.1
    rw [h1.2]
    unfold kn_ad
    omega
def zS (n : Nat) (S : gm_Mem) : Prop := ∀ q, n ≤ q → S q = fun _ => 0
def kn_X (U : State) : Prop := (∀ w ∈ kn_links, va_Nw w U) ∧ va_AO RX5 U
theorem kn_X.same {u U : State} (e : u.vm = U.vm) (h : kn_X u) : kn_X U := by
  refine ⟨fun w hw => ?_, h.2.moved (by rw [e]; exact Vm.Alike.refl _)⟩
  exact va_Nw.same (kn_links_t w hw) e (h.1 w hw)
def kn_CX (B n0 : Nat) (Y : gm_Y) (p : Program) (s : State) (m : MethodId) (args : Array Value) (meth : Method) (c : Code) (D : va_G) (ca : gm_Ar) : Prop :=
  gm_CX Y p s m args meth c D ca ∧ meth.name = "<init>" ∧ kn_X s ∧ s.heap.size = B + n0
def kn_St (g : gm_W) (ca : gm_Ar) (D : va_G) (B n : Nat) (S : gm_Mem) (s : State) (H : Heap) (locs : List Loc) : Prop :=
  va_P D vwCl (kn_Ws ca (kn_ad B) S g n) H ∧ va_S (fun q => B ≤ q) s.heap H locs ∧ zS n S
def kn_Q (g : gm_W) (ca : gm_Ar) (D : va_G) (B n2 : Nat) (S2 : gm_Mem) : Array Value → State → Outcome → State → Prop :=
  fun _ st oc t => oc = .returned none ∧ va_P D vwCl (kn_Ws ca (kn_ad B) S2 g n2) t.heap ∧ zS n2 S2 ∧ va_F (fun q => B ≤ q) st t
def kn_run (g : gm_W) (k : Nat) (Y : gm_Y) (pc : Nat) (L : List (Option Value)) (st : List Value) (n0 i σ : Nat) (S : gm_Mem) (j τ : Nat) (S2 : gm_Mem) : Prop :=
  ∀ (R : Room), k ≤ R.frames → 40 * k ≤ R.locals → j ≤ R.cells → τ ≤ R.slots → ∀ (p : Program) (l : Launch) (e : Env) (s : State) (m : MethodId) (args : Array Value) (below : List Frame) (meth : Method) (c : Code) (D : va_G) (ca : gm_Ar) (B : Nat), kn_CX B n0 Y p s m args meth c D ca →
  ∀ (H : Heap) (locs : List Loc) (ls : Array Slot), kn_St g ca D B (n0 + i) S s H locs → gm_Lv (kn_ad B) ls Y.2.2.1 L → W p l e R s m args below meth c H locs i σ (MQ below (kn_Q g ca D B (n0 + j) S2) args s j τ (fun q => B ≤ q)) (F0 m pc ls (st.map (gm_V (kn_ad B))))
theorem kn_top {g : gm_W} {ca : gm_Ar} {D : va_G} {B n : Nat} {S : gm_Mem} {s : State} {H : Heap} {locs : List Loc} (h : kn_St g ca D B n S s H locs) (h0 : 0 < n) (hn : n ≤ g.length) : B + n ≤ H.size := by
  have e : g[n - 1]? = some (g[n - 1]'(by omega)) := List.getElem?_eq_getElem (by omega)
  have := (h.1 (n - 1) _ (kn_Ws_get e (by omega))).lt
  unfold kn_ad at this
  omega
theorem kn_bound {p : Program} {l : Launch} {e : Env} {R : Room} {s : State} {m : MethodId} {args : Array Value} {below : List Frame} {meth : Method} {c : Code} {T : State} {locs : List Loc} {cells slots : Nat} (X : Stand p l e R s m args below meth c T locs cells slots) : T.heap.size ≤ s.heap.size + cells := X.same.2.2.1
theorem kn_St.grow {g : gm_W} {ca : gm_Ar} {D : va_G} {B n : Nat} {S : gm_Mem} {s : State} {H H1 : Heap} {locs : List Loc} {h : gm_Sh} (hS : kn_St g ca D B n S s H locs) (hh : g[n]? = some h) (z0 : H.size = B + n) (z1 : H1.size = H.size + 1) (o1 : ∀ q, q < H.size → H1[q]? = H[q]?) (hc : va_at D vwCl (B + n, kn_Cel ca (kn_ad B) (fun _ => 0) h) H1) : kn_St g ca D B (n + 1) S s H1 locs := by
  obtain ⟨s1, s2, s3⟩ := hS
  refine ⟨?_, ⟨Nat.le_trans s2.1 (by omega), fun x h1 h2 => (o1 x (Nat.lt_of_lt_of_le h1 s2.1)).trans (s2.2.1 x h1 h2), s2.2.2⟩, fun q hq => s3 q (by omega)⟩
  rw [kn_Ws_add hh, s3 n (Nat.le_refl _)]
  refine (s1.kept (fun k x hx => o1 x.1 ((s1 k x hx).lt))).app (fun k x hx => ?_)
  have hz : k < 1 := (List.getElem?_eq_some_iff.mp hx).1
  rw [show k = 0 by omega] at hx
  cases hx
  exact hc
section KN
variable {g : gm_W} {k : Nat} {Y : gm_Y} {pc : Nat} {L : List (Option Value)} {st : List Value} {n0 i σ : Nat} {S : gm_Mem} {j τ : Nat} {S2 : gm_Mem}
theorem kn_aload_n {a : Fin 4} {x : Nat} (hd : decode Y.2.1 pc = .ok (.aload_n a, 1)) (hl : L[(a : Nat)]? = some (some (.ref x))) (K : kn_run g k Y (pc + 1) L (.ref x :: st) n0 i σ S j τ S2) : kn_run g k Y pc L st n0 i σ S j τ S2 :=
  fun R r1 r2 r3 r4 p l e s m args below meth c D ca B C H locs ls hS hL => lv_aload_n C.1.1 C.1.2.1 hd rfl (hL.at hl) (K R r1 r2 r3 r4 p l e s m args below meth c D ca B C H locs ls hS hL)
theorem kn_iload_n {a : Fin 4} {x : Int32} (hd : decode Y.2.1 pc = .ok (.iload_n a, 1)) (hl : L[(a : Nat)]? = some (some (.int x))) (K : kn_run g k Y (pc + 1) L (.int x :: st) n0 i σ S j τ S2) : kn_run g k Y pc L st n0 i σ S j τ S2 :=
  fun R r1 r2 r3 r4 p l e s m args below meth c D ca B C H locs ls hS hL => lv_iload_n C.1.1 C.1.2.1 hd rfl (hL.at hl) (K R r1 r2 r3 r4 p l e s m args below meth c D ca B C H locs ls hS hL)
theorem kn_iconst {n : Int} {v : Int32} (hd : decode Y.2.1 pc = .ok (.iconst n, 1)) (hv : Int32.ofInt n = v) (K : kn_run g k Y (pc + 1) L (.int v :: st) n0 i σ S j τ S2) : kn_run g k Y pc L st n0 i σ S j τ S2 :=
  fun R r1 r2 r3 r4 p l e s m args below meth c D ca B C H locs ls hS hL => lv_iconst C.1.1 C.1.2.1 hd hv (K R r1 r2 r3 r4 p l e s m args below meth c D ca B C H locs ls hS hL)
theorem kn_bipush {n : Int} {v : Int32} (hd : decode Y.2.1 pc = .ok (.bipush n, 2)) (hv : (Int8.ofInt n).toInt32 = v) (K : kn_run g k Y (pc + 2) L (.int v :: st) n0 i σ S j τ S2) : kn_run g k Y pc L st n0 i σ S j τ S2 :=
  fun R r1 r2 r3 r4 p l e s m args below meth c D ca B C H locs ls hS hL => lv_bipush C.1.1 C.1.2.1 hd hv (K R r1 r2 r3 r4 p l e s m args below meth c D ca B C H locs ls hS hL)
theorem kn_sipush {n : Int} {v : Int32} (hd : decode Y.2.1 pc = .ok (.sipush n, 3)) (hv : (Int16.ofInt n).toInt32 = v) (K : kn_run g k Y (pc + 3) L (.int v :: st) n0 i σ S j τ S2) : kn_run g k Y pc L st n0 i σ S j τ S2 :=
  fun R r1 r2 r3 r4 p l e s m args below meth c D ca B C H locs ls hS hL => lv_sipush C.1.1 C.1.2.1 hd hv (K R r1 r2 r3 r4 p l e s m args below meth c D ca B C H locs ls hS hL)
theorem kn_dup {v : Value} (hd : decode Y.2.1 pc = .ok (.dup, 1)) (K : kn_run g k Y (pc + 1) L (v :: v :: st) n0 i σ S j τ S2) : kn_run g k Y pc L (v :: st) n0 i σ S j τ S2 :=
  fun R r1 r2 r3 r4 p l e s m args below meth c D ca B C H locs ls hS hL => lv_dup C.1.1 C.1.2.1 hd (gm_Vcat (kn_ad B) v) (K R r1 r2 r3 r4 p l e s m args below meth c D ca B C H locs ls hS hL)
theorem kn_istore_n {a : Fin 4} {x : Int32} {L' : List (Option Value)} (hd : decode Y.2.1 pc = .ok (.istore_n a, 1)) (hi : (a : Nat) < Y.2.2.1) (hl : L.set a (some (.int x)) = L') (K : kn_run g k Y (pc + 1) L' st n0 i σ S j τ S2) : kn_run g k Y pc L (.int x :: st) n0 i σ S j τ S2 := by
  intro R r1 r2 r3 r4 p l e s m args below meth c D ca B C H locs ls hS hL
  obtain ⟨lv, h1, h2⟩ := hL
  refine lv_istore_n (x := x) C.1.1 C.1.2.1 hd rfl h1 hi rfl (fun ls' hl' => ?_)
  subst hl
  exact K R r1 r2 r3 r4 p l e s m args below meth c D ca B C H locs ls' hS (gm_Lv.set (v := .int x) h2 hl')
theorem kn_iinc {a : Nat} {n : Int} {x v : Int32} {L' : List (Option Value)} (hd : decode Y.2.1 pc = .ok (.iinc a n, 3)) (hx : L[a]? = some (some (.int x))) (hv : x + Int32.ofInt n = v) (hi : a < Y.2.2.1) (hl : L.set a (some (.int v)) = L') (K : kn_run g k Y (pc + 3) L' st n0 i σ S j τ S2) : kn_run g k Y pc L st n0 i σ S j τ S2 := by
  intro R r1 r2 r3 r4 p l e s m args below meth c D ca B C H locs ls hS hL
  obtain ⟨lv, h1, h2⟩ := hL
  obtain ⟨kk, hkk⟩ := List.getElem?_of_mem (h2 a _ hx)
  refine lv_iinc (x := x) (v := v) C.1.1 C.1.2.1 hd h1 hkk hv hi rfl (fun ls' hl' => ?_)
  subst hl
  exact K R r1 r2 r3 r4 p l e s m args below meth c D ca B C H locs ls' hS (gm_Lv.set (v := .int v) h2 hl')
theorem kn_goto {off : Int} {tgt : Nat} (hd : decode Y.2.1 pc = .ok (.goto off, 3)) (ht : (pc : Int) + off = (tgt : Int)) (K : kn_run g k Y tgt L st n0 i σ S j τ S2) : kn_run g k Y pc L st n0 i σ S j τ S2 :=
  fun R r1 r2 r3 r4 p l e s m args below meth c D ca B C H locs ls hS hL => lv_goto C.1.1 C.1.2.1 hd ht (K R r1 r2 r3 r4 p l e s m args below meth c D ca B C H locs ls hS hL)
theorem kn_getR {p0 a ci f q : Nat} {ty : FieldType} {fin : Bool} {fl : List (Option Nat)} {own : String} (ho : Y.1.cls = own) (hd : decode Y.2.1 pc = .ok (.getfield a, 3)) (hf : gm_Fld own a ci f ty fin) (hs : g[p0]? = some (.inl (ci, fl))) (hp : p0 < n0 + i) (hk : fl[f]? = some (some q)) (hz : ¬ S p0 f = 0) (K : kn_run g k Y (pc + 3) L (.ref q :: st) n0 i σ S j τ S2) : kn_run g k Y pc L (.ref p0 :: st) n0 i σ S j τ S2 := by
  intro R r1 r2 r3 r4 p l e s m args below meth c D ca B C H locs ls hS hL
  obtain ⟨C1, T, N, ty0, e1, e2, e3, e4, e5, e6, e7, e8, e9⟩ := hf
  refine va_get (D := D) (q0 := p0) (ci := ci) (v := .ref (kn_ad B q)) (C := C1) (T := T) (N := N) (own := own) C.1.1 C.1.2.1 C.1.2.2.2.2.2.1 e5 (by rw [← ho]; exact C.1.2.2.2.2.1) C.1.2.2.2.2.2.2.1 hS.1 (kn_Ws_get hs hp) e1 f e2 (C.1.2.2.2.2.2.1 _ e3) (fun z hz => by rw [← e4]; exact hz) ?_ hd (K R r1 r2 r3 r4 p l e s m args below meth c D ca B C H locs ls hS hL)
  exact kn_Fs_getR (kn_ad B) (S p0) fl 0 f q hk (by rw [Nat.zero_add]; exact hz)
theorem zS.u {n p k : Nat} {x : Int32} {S : gm_Mem} (h : zS n S) (hp : p < n) : zS n (gm_u S p k x) := fun q hq => by
  simp only [gm_u]
  rw [if_neg (by omega)]
  exact h q hq
theorem kn_putI {p0 a ci f : Nat} {ty : FieldType} {fin : Bool} {fl : List (Option Nat)} {own : String} {x : Int32} (ho : Y.1.cls = own) (hd : decode Y.2.1 pc = .ok (.putfield a, 3)) (hf : gm_Fld own a ci f ty fin) (hs : g[p0]? = some (.inl (ci, fl))) (hp : p0 < n0 + i) (hk : fl[f]? = some none) (hx : gm_fit ty x) (hown : fin = true → ((vwCl[ci]?).map (fun q => q.1)) = some own) (K : kn_run g k Y (pc + 3) L st n0 i σ (gm_u S p0 f x) j τ S2) : kn_run g k Y pc L (.int x :: .ref p0 :: st) n0 i σ S j τ S2 := by
  intro R r1 r2 r3 r4 p l e s m args below meth c D ca B C H locs ls hS hL
  obtain ⟨C1, T, N, ty0, e1, e2, e3, e4, e5, e6, e7, e8, e9⟩ := hf
  obtain ⟨s1, s2, s3⟩ := hS
  have hfl : f < fl.length := (List.getElem?_eq_some_iff.mp hk).1
  have fin1 : ∀ (H1 : Heap) (locs1 : List Loc), va_P D vwCl ((kn_Ws ca (kn_ad B) S g (n0 + i)).set p0 (kn_ad B p0, .inr (ci, (kn_Fs (kn_ad B) (S p0) 0 fl).set f (.int x)))) H1 → va_S (fun q => B ≤ q) s.heap H1 locs1 → W p l e R s m args below meth c H1 locs1 i σ (MQ below (kn_Q g ca D B (n0 + j) S2) args s j τ (fun q => B ≤ q)) (F0 m (pc + 3) ls (st.map (gm_V (kn_ad B)))) := by
    intro H1 locs1 hP1 hS1
    rw [kn_Fs_set (kn_ad B) (S p0) x fl 0 f hk, Nat.zero_add] at hP1
    have hP2 : va_P D vwCl ((kn_Ws ca (kn_ad B) S g (n0 + i)).set p0 (kn_ad B p0, kn_Cel ca (kn_ad B) (upd (S p0) f x) (.inl (ci, fl)))) H1 := hP1
    rw [kn_Ws_set hs hp] at hP2
    exact K R r1 r2 r3 r4 p l e s m args below meth c D ca B C H1 locs1 ls ⟨by rw [gm_u_eq]; exact hP2, hS1, s3.u hp⟩ hL
  cases fin with
  | false => exact va_put (D := D) (q0 := p0) (ci := ci) (v := .int x) (ty := ty) (C := C1) (T := T) (N := N) (own := own) C.1.1 C.1.2.1 C.1.2.2.2.2.2.1 e5 ty0 e6 e7 (by rw [← ho]; exact C.1.2.2.2.2.1) C.1.2.2.2.2.2.2.1 s1 kn_D s2 (kn_Ws_get hs hp) e1 f e2 (C.1.2.2.2.2.2.1 _ e3) (fun z hz => by rw [← e4]; exact hz) e9 (by rw [e6 f e2, e8]) hx.1 hx.2 (by rw [kn_Fs_len]; exact hfl) hd (fun H1 locs1 hP1 _ hS1 => fin1 H1 locs1 hP1 hS1)
  | true =>
    have hc1 : C1 = own := by
      have := hown rfl
      rw [e1] at this
      exact Option.some.inj this
    exact va_putF (D := D) (q0 := p0) (ci := ci) (v := .int x) (ty := ty) (C := C1) (T := T) (N := N) (own := own) C.1.1 C.1.2.1 C.1.2.2.2.2.2.1 e5 ty0 e6 e7 (by rw [← ho]; exact C.1.2.2.2.2.1) C.1.2.2.2.2.2.2.1 s1 kn_D s2 (kn_Ws_get hs hp) e1 f e2 (C.1.2.2.2.2.2.1 _ e3) (fun z hz => by rw [← e4]; exact hz) e9 C.2.1 (by rw [e4, hc1]) (by rw [e6 f e2, e8]) hx.1 hx.2 (by rw [kn_Fs_len]; exact hfl) hd (fun H1 locs1 hP1 _ hS1 => fin1 H1 locs1 hP1 hS1)
theorem kn_putR {p0 a ci f q : Nat} {ty : FieldType} {fl : List (Option Nat)} {own : String} (ho : Y.1.cls = own) (hd : decode Y.2.1 pc = .ok (.putfield a, 3)) (hf : gm_Fld own a ci f ty true) (hs : g[p0]? = some (.inl (ci, fl))) (hp : p0 < n0 + i) (hk : fl[f]? = some (some q)) (hx : ∀ a, narrow ty (.ref a) = .ref a ∧ fits ty (.ref a) = true) (hown : ((vwCl[ci]?).map (fun q => q.1)) = some own) (K : kn_run g k Y (pc + 3) L st n0 i σ (gm_u S p0 f 1) j τ S2) : kn_run g k Y pc L (.ref q :: .ref p0 :: st) n0 i σ S j τ S2 := by
  intro R r1 r2 r3 r4 p l e s m args below meth c D ca B C H locs ls hS hL
  obtain ⟨C1, T, N, ty0, e1, e2, e3, e4, e5, e6, e7, e8, e9⟩ := hf
  obtain ⟨s1, s2, s3⟩ := hS
  have hfl : f < fl.length := (List.getElem?_eq_some_iff.mp hk).1
  have hc1 : C1 = own := by
    rw [e1] at hown
    exact Option.some.inj hown
  refine va_putF (D := D) (q0 := p0) (ci := ci) (v := .ref (kn_ad B q)) (ty := ty) (C := C1) (T := T) (N := N) (own := own) C.1.1 C.1.2.1 C.1.2.2.2.2.2.1 e5 ty0 e6 e7 (by rw [← ho]; exact C.1.2.2.2.2.1) C.1.2.2.2.2.2.2.1 s1 kn_D s2 (kn_Ws_get hs hp) e1 f e2 (C.1.2.2.2.2.2.1 _ e3) (fun z hz => by rw [← e4]; exact hz) e9 C.2.1 (by rw [e4, hc1]) (by rw [e6 f e2, e8]) (hx _).1 (hx _).2 (by rw [kn_Fs_len]; exact hfl) hd (fun H1 locs1 hP1 _ hS1 => ?_)
  rw [kn_Fs_setR (kn_ad B) (S p0) fl 0 f q hk, Nat.zero_add] at hP1
  have hP2 : va_P D vwCl ((kn_Ws ca (kn_ad B) S g (n0 + i)).set p0 (kn_ad B p0, kn_Cel ca (kn_ad B) (upd (S p0) f 1) (.inl (ci, fl)))) H1 := hP1
  rw [kn_Ws_set hs hp] at hP2
  exact K R r1 r2 r3 r4 p l e s m args below meth c D ca B C H1 locs1 ls ⟨by rw [gm_u_eq]; exact hP2, hS1, s3.u hp⟩ hL
end KN
