/-! THE CONSTRUCTORS' MACHINE, the rows that make and call -/
theorem kn_Cs_len (c : gm_Ar) (ad : Nat → Nat) (S : gm_Mem) : ∀ (l : gm_W) (p : Nat), (kn_Cs c ad S p l).length = l.length
  | [], p => rfl
  | a :: l, p => by simp [kn_Cs, kn_Cs_len c ad S l (p + 1)]
theorem kn_sz {g : gm_W} {ca : gm_Ar} {D : va_G} {B n0 i : Nat} {S : gm_Mem} {p : Program} {l : Launch} {e : Env} {R : Room} {s : State} {m : MethodId} {args : Array Value} {below : List Frame} {meth : Method} {c : Code} {T : State} {H : Heap} {locs : List Loc} {slots : Nat} (hS : kn_St g ca D B (n0 + i) S s H locs) (hB : s.heap.size = B + n0) (h0 : 0 < n0) (hg : n0 + i ≤ g.length) (hT : T.heap = H) (X : Stand p l e R s m args below meth c T locs i slots) : H.size = B + (n0 + i) := by
  have h1 := kn_top hS (by omega) hg
  have h2 := kn_bound X
  rw [hT] at h2
  omega
/-- the address of what was made, by the bound of the heap -/
theorem kn_at {g : gm_W} {ca : gm_Ar} {D : va_G} {B n : Nat} {S : gm_Mem} {H1 : Heap} {q : Nat} {x : va_E} (hg : n ≤ g.length) (hP : va_P D vwCl (kn_Ws ca (kn_ad B) S g n ++ [(q, x)]) H1) (hD : va_D (fun q => B ≤ q) (kn_Ws ca (kn_ad B) S g n ++ [(q, x)])) (hz : H1.size ≤ B + n + 1) : q = B + n := by
  have hlen : (kn_Ws ca (kn_ad B) S g n).length = n := by
    unfold kn_Ws
    rw [kn_Cs_len, List.length_take]
    omega
  have e1 : (kn_Ws ca (kn_ad B) S g n ++ [(q, x)])[n]? = some (q, x) := by
    rw [List.getElem?_append_right (by omega), hlen, Nat.sub_self]
    rfl
  have h1 := (hP n _ e1).lt
  have h2 : B ≤ q := hD.2 n _ e1
  by_cases h3 : q = B + n
  · exact h3
  · exfalso
    have h4 : q - B < n := by
      have : q < H1.size := h1
      omega
    have e : g[q - B]? = some (g[q - B]'(by omega)) := List.getElem?_eq_getElem (by omega)
    have e2 : (kn_Ws ca (kn_ad B) S g n ++ [(q, x)])[q - B]? = some (kn_ad B (q - B), kn_Cel ca (kn_ad B) (S (q - B)) (g[q - B]'(by omega))) := by
      rw [List.getElem?_append_left (by omega)]
      exact kn_Ws_get e h4
    have := hD.1 n (q - B) _ _ e1 e2 (by show q = kn_ad B (q - B); unfold kn_ad; omega)
    omega
theorem kn_by {N k : Nat} (h : N ≤ 3400) (hk : k ≤ 8) : N * k ≤ 536870912 := Nat.le_trans (Nat.mul_le_mul h hk) (Nat.le_of_ble_eq_true rfl)
section KN2
variable {g : gm_W} {k : Nat} {Y : gm_Y} {pc : Nat} {L : List (Option Value)} {st : List Value} {n0 i σ : Nat} {S : gm_Mem} {j τ : Nat} {S2 : gm_Mem}
theorem kn_icmp_ge_t {x y : Int32} {off : Int} {tgt : Nat} (hd : decode Y.2.1 pc = .ok (.if_icmp .ge off, 3)) (ht : (pc : Int) + off = (tgt : Int)) (c0 : ¬ x < y) (K : kn_run g k Y tgt L st n0 i σ S j τ S2) : kn_run g k Y pc L (.int y :: .int x :: st) n0 i σ S j τ S2 :=
  fun R r1 r2 r3 r4 p l e s m args below meth c D ca B C H locs ls hS hL => lv_icmp_ge C.1.1 C.1.2.1 hd ht (fun _ => (K R r1 r2 r3 r4 p l e s m args below meth c D ca B C H locs ls hS hL)) (fun q => absurd (Int32.not_lt.mp c0) q)
theorem kn_icmp_ge_f {x y : Int32} {off : Int} (hd : decode Y.2.1 pc = .ok (.if_icmp .ge off, 3)) (ht : ∃ tgt : Nat, (pc : Int) + off = (tgt : Int)) (c0 : x < y) (K : kn_run g k Y (pc + 3) L st n0 i σ S j τ S2) : kn_run g k Y pc L (.int y :: .int x :: st) n0 i σ S j τ S2 := by
  obtain ⟨tgt, ht⟩ := ht
  exact fun R r1 r2 r3 r4 p l e s m args below meth c D ca B C H locs ls hS hL => lv_icmp_ge C.1.1 C.1.2.1 hd ht (fun q => absurd c0 (Int32.not_lt.mpr q)) (fun _ => (K R r1 r2 r3 r4 p l e s m args below meth c D ca B C H locs ls hS hL))
theorem kn_objInit {a b : Nat} {own : String} (ho : Y.1.cls = own) (hl : Cond.methodLink own a objectInit ∈ gm_TB) (hd : decode Y.2.1 pc = .ok (.invokespecial a, 3)) (hk : 1 ≤ k) (hre : st.length ≤ 12) (K : kn_run g k Y (pc + 3) L st n0 i σ S j τ S2) : kn_run g k Y pc L (.ref b :: st) n0 i σ S j τ S2 := by
  intro R r1 r2 r3 r4 p l e s m args below meth c D ca B C H locs ls hS hL
  have hsz : ls.size = c.maxLocals := by
    rw [C.1.2.2.2.1]
    obtain ⟨lv, h1, -⟩ := hL
    exact h1.1
  refine W.objInit (own := own) C.1.1 C.1.2.1 (by rw [← ho]; exact C.1.2.2.2.2.1) (C.1.2.2.2.2.2.1 _ hl) (C.1.2.2.2.2.2.1 _ kn_obi) (C.1.2.2.2.2.2.1 _ kn_obc) rfl hsz (a := kn_ad B b) (rest := st.map (gm_V (kn_ad B))) rfl hd (by omega) ?_ ?_
  · show 2 * 0 + _ + 12 ≤ _
    rw [gm_sum]
    omega
  · exact K R r1 r2 r3 r4 p l e s m args below meth c D ca B C H locs ls hS hL
theorem kn_vret (hd : decode Y.2.1 pc = .ok (.return_, 1)) (hr : Y.2.2.2 = none) (hj : i = j) (hτ : σ = τ) (hS2 : S = S2) : kn_run g k Y pc L [] n0 i σ S j τ S2 := by
  subst hj hτ hS2
  intro R r1 r2 r3 r4 p l e s m args below meth c D ca B C H locs ls hS hL
  exact W.vret C.1.1 C.1.2.1 (by rw [C.1.2.2.1, hr]) (fun t ht hW => ⟨rfl, by rw [ht]; exact hS.1, hS.2.2, hS.2.1.F ht⟩) hS.2.1.2.2 hd C.1.2.2.2.2.2.2.2
theorem kn_new {a ci q : Nat} {fl : List (Option Nat)} {own : String} (ho : Y.1.cls = own) (hd : decode Y.2.1 pc = .ok (.new a, 3)) (hw : kn_Nw own a ci fl) (hs : g[q]? = some (.inl (ci, fl))) (hq : n0 + i = q) (hj : i + 1 ≤ j) (hτ : σ + fl.length ≤ τ) (K : kn_run g k Y (pc + 3) L (.ref q :: st) n0 (i + 1) (σ + fl.length) S j τ S2) : kn_run g k Y pc L st n0 i σ S j τ S2 := by
  subst hq
  intro R r1 r2 r3 r4 p l e s m args below meth c D ca B C H locs ls hS hL
  obtain ⟨C1, T, N, ty, w1, w2, w3, w4, w5, w6, w7, w8⟩ := hw
  subst w7
  obtain ⟨s1, s2, s3⟩ := hS
  have hts : ∀ w ∈ gm_TB, w.before args s = true := C.1.2.2.2.2.2.1
  have hlt : n0 + i < g.length := (List.getElem?_eq_some_iff.mp hs).1
  refine va_new (D := D) (A := fun q => B ≤ q) (ci := ci) (C := C1) (T := T) (N := fl.length) (own := own) (fs := kn_dv fl) C.1.1 C.1.2.1 hts w5 ty w6 (by rw [← ho]; exact C.1.2.2.2.2.1) (hts _ w2) (hts _ w3) (hts _ w4) C.1.2.2.2.2.2.2.1 s1 kn_D s2 (fun x hx => by have := C.2.2.2; show B ≤ x; omega) w1 w8 (by omega) (by omega) hd (fun x H1 hP1 hD1 hS1 => ?_)
  intro T1 hT1 X1
  have hb := kn_bound X1
  rw [hT1, C.2.2.2] at hb
  have hx : x = B + (n0 + i) := kn_at (Nat.le_of_lt hlt) hP1 hD1 (by omega)
  subst hx
  have hP2 : va_P D vwCl (kn_Ws ca (kn_ad B) S g (n0 + (i + 1))) H1 := by
    rw [← Nat.add_assoc, kn_Ws_add hs]
    have : kn_Cel ca (kn_ad B) (S (n0 + i)) (.inl (ci, fl)) = .inr (ci, kn_dv fl) := by
      rw [s3 _ (Nat.le_refl _)]
      show Sum.inr (ci, kn_Fs (kn_ad B) (fun _ => 0) 0 fl) = _
      rw [kn_Fs_zero]
    rw [this]
    exact hP1
  exact K R r1 r2 r3 r4 p l e s m args below meth c D ca B C H1 locs ls ⟨hP2, hS1, fun q hq => s3 q (by omega)⟩ hL T1 hT1 X1
theorem kn_newi {q N : Nat} {n : Int32} (hd : decode Y.2.1 pc = .ok (.newarray .int, 2)) (hs : g[q]? = some (.inr (0, N))) (hq : n0 + i = q) (h0 : 0 < n0) (hn : ¬ n < 0) (hN : n.toNatClampNeg = N) (hb : N ≤ 3400) (hj : i + 1 ≤ j) (hτ : σ + N ≤ τ) (K : kn_run g k Y (pc + 2) L (.ref q :: st) n0 (i + 1) (σ + N) S j τ S2) : kn_run g k Y pc L (.int n :: st) n0 i σ S j τ S2 := by
  subst hq
  intro R r1 r2 r3 r4 p l e s m args below meth c D ca B C H locs ls hS hL T hT X
  have hts : ∀ w ∈ gm_TB, w.before args s = true := C.1.2.2.2.2.2.1
  have hlt : n0 + i < g.length := (List.getElem?_eq_some_iff.mp hs).1
  have z0 := kn_sz hS C.2.2.2 h0 (Nat.le_of_lt hlt) hT X
  refine va_newaK (atype := .int) (g := F0 m pc ls (.int n :: st.map (gm_V (kn_ad B)))) (N := N) (h := B + (n0 + i)) (rest := st.map (gm_V (kn_ad B))) C.1.1 C.1.2.1 (hts _ kn_arr_int) rfl hd rfl hn hN (kn_by hb (by decide)) (by omega) (by omega) z0 (fun H1 cA e1 z1 o1 hAr hNm => ?_) T hT X
  have hK := (C.1.2.2.2.2.2.2.1.2 0 _ rfl).2
  have hcA : cA = ca.1 := Option.some.inj (hNm.symm.trans hK)
  subst hcA
  have hc0 : va_at D vwCl (B + (n0 + i), kn_Cel ca (kn_ad B) (fun _ => 0) (.inr (0, N))) H1 := by
    show H1[B + (n0 + i)]? = some (vp_cell _ _)
    rw [e1]
    rfl
  have g1 := hS.grow hs z0 (z1.trans (by rw [z0])) (fun x hx => o1 x (by omega)) hc0
  exact K R r1 r2 r3 r4 p l e s m args below meth c D ca B C H1 locs ls g1 hL
theorem kn_newz {q N : Nat} {n : Int32} (hd : decode Y.2.1 pc = .ok (.newarray .boolean, 2)) (hs : g[q]? = some (.inr (1, N))) (hq : n0 + i = q) (h0 : 0 < n0) (hn : ¬ n < 0) (hN : n.toNatClampNeg = N) (hb : N ≤ 3400) (hj : i + 1 ≤ j) (hτ : σ + N ≤ τ) (K : kn_run g k Y (pc + 2) L (.ref q :: st) n0 (i + 1) (σ + N) S j τ S2) : kn_run g k Y pc L (.int n :: st) n0 i σ S j τ S2 := by
  subst hq
  intro R r1 r2 r3 r4 p l e s m args below meth c D ca B C H locs ls hS hL T hT X
  have hts : ∀ w ∈ gm_TB, w.before args s = true := C.1.2.2.2.2.2.1
  have hlt : n0 + i < g.length := (List.getElem?_eq_some_iff.mp hs).1
  have z0 := kn_sz hS C.2.2.2 h0 (Nat.le_of_lt hlt) hT X
  refine va_newaK (atype := .boolean) (g := F0 m pc ls (.int n :: st.map (gm_V (kn_ad B)))) (N := N) (h := B + (n0 + i)) (rest := st.map (gm_V (kn_ad B))) C.1.1 C.1.2.1 (hts _ kn_arr_boolean) rfl hd rfl hn hN (kn_by hb (by decide)) (by omega) (by omega) z0 (fun H1 cA e1 z1 o1 hAr hNm => ?_) T hT X
  have hK := (C.1.2.2.2.2.2.2.1.2 1 _ rfl).2
  have hcA : cA = ca.2.1 := Option.some.inj (hNm.symm.trans hK)
  subst hcA
  have hc0 : va_at D vwCl (B + (n0 + i), kn_Cel ca (kn_ad B) (fun _ => 0) (.inr (1, N))) H1 := by
    show H1[B + (n0 + i)]? = some (vp_cell _ _)
    rw [e1]
    rfl
  have g1 := hS.grow hs z0 (z1.trans (by rw [z0])) (fun x hx => o1 x (by omega)) hc0
  exact K R r1 r2 r3 r4 p l e s m args below meth c D ca B C H1 locs ls g1 hL
theorem kn_newq {a q N : Nat} {n : Int32} (ho : Y.1.cls = RX3) (hd : decode Y.2.1 pc = .ok (.anewarray 9, 3)) (hs : g[q]? = some (.inr (2, N))) (hq : n0 + i = q) (hn : ¬ n < 0) (hN : n.toNatClampNeg = N) (hb : N ≤ 3400) (hj : i + 1 ≤ j) (hτ : σ + N ≤ τ) (K : kn_run g k Y (pc + 3) L (.ref q :: st) n0 (i + 1) (σ + N) S j τ S2) : kn_run g k Y pc L (.int n :: st) n0 i σ S j τ S2 := by
  subst hq
  intro R r1 r2 r3 r4 p l e s m args below meth c D ca B C H locs ls hS hL
  have hts : ∀ w ∈ gm_TB, w.before args s = true := C.1.2.2.2.2.2.1
  have hlt : n0 + i < g.length := (List.getElem?_eq_some_iff.mp hs).1
  obtain ⟨s1, s2, s3⟩ := hS
  refine va_newq (D := D) (A := fun q => B ≤ q) (own := RX3) (C := RX5) C.1.1 C.1.2.1 (by rw [← ho]; exact C.1.2.2.2.2.1) (hts _ kn_clX3) C.2.2.1.2 C.1.2.2.2.2.2.2.1 s1 kn_D s2 (fun x hx => by have := C.2.2.2; show B ≤ x; omega) hn hN (by omega) (by omega) (by omega) hd (fun x cA H1 hK1 hP1 hD1 hS1 => ?_)
  intro T1 hT1 X1
  have hb := kn_bound X1
  rw [hT1, C.2.2.2] at hb
  have hx : x = B + (n0 + i) := kn_at (Nat.le_of_lt hlt) hP1 hD1 (by omega)
  subst hx
  have hcA : cA = ca.2.2 := by
    obtain ⟨_, _, -, -, -, h1⟩ := (C.1.2.2.2.2.2.2.1.2 2 _ rfl).2
    obtain ⟨_, _, -, -, -, h2⟩ := (hK1.2 3 _ rfl).2
    exact Option.some.inj (h2.symm.trans h1)
  subst hcA
  have hP2 : va_P D vwCl (kn_Ws ca (kn_ad B) S g (n0 + (i + 1))) H1 := by
    rw [← Nat.add_assoc, kn_Ws_add hs]
    have : kn_Cel ca (kn_ad B) (S (n0 + i)) (.inr (2, N)) = .inl (ca.2.2, N, .inr (.inr (.inr (.inr (fun _ => none))))) := by
      rw [s3 _ (Nat.le_refl _)]
      show Sum.inl (ca.2.2, N, Sum.inr (Sum.inr (Sum.inr (Sum.inr (fun i => if (0 : Int32) = 0 then none else _))))) = _
      simp
    rw [this]
    exact hP1
  exact K R r1 r2 r3 r4 p l e s m args below meth c D ca B C H1 locs ls ⟨hP2, hS1, fun q hq => s3 q (by omega)⟩ hL T1 hT1 X1
theorem kn_iast {p0 b n : Nat} {a x : Int32} (hd : decode Y.2.1 pc = .ok (.iastore, 1)) (hs : g[p0]? = some (.inr (0, n))) (hp : p0 < n0 + i) (hi : gm_ix a b n) (K : kn_run g k Y (pc + 1) L st n0 i σ (gm_u S p0 b x) j τ S2) : kn_run g k Y pc L (.int x :: .int a :: .ref p0 :: st) n0 i σ S j τ S2 := by
  intro R r1 r2 r3 r4 p l e s m args below meth c D ca B C H locs ls hS hL
  obtain ⟨s1, s2, s3⟩ := hS
  refine va_iast (D := D) (q0 := p0) (t0 := 0) (n := n) (f := S p0) (i := a) (x := x) C.1.1 C.1.2.1 C.1.2.2.2.2.2.2.1 s1 kn_D s2 (kn_Ws_get hs hp) rfl hi.in.1 hd (fun H1 locs1 hP1 hD1 hS1 => ?_)
  rw [hi.in.2] at hP1
  have hP2 : va_P D vwCl ((kn_Ws ca (kn_ad B) S g (n0 + i)).set p0 (kn_ad B p0, kn_Cel ca (kn_ad B) (upd (S p0) b x) (.inr (0, n)))) H1 := hP1
  rw [kn_Ws_set hs hp] at hP2
  exact K R r1 r2 r3 r4 p l e s m args below meth c D ca B C H1 locs1 ls ⟨by rw [gm_u_eq]; exact hP2, hS1, s3.u hp⟩ hL
theorem kn_aast {p0 b n q : Nat} {a x : Int32} {fl : List (Option Nat)} (hd : decode Y.2.1 pc = .ok (.aastore, 1)) (hs : g[p0]? = some (.inr (2, n))) (hp : p0 < n0 + i) (hq : g[q]? = some (.inl (5, fl))) (hq2 : q < n0 + i) (hi : gm_ix a b n) (hx : x.toNatClampNeg = q) (hx0 : ¬ x = 0) (K : kn_run g k Y (pc + 1) L st n0 i σ (gm_u S p0 b x) j τ S2) : kn_run g k Y pc L (.ref q :: .int a :: .ref p0 :: st) n0 i σ S j τ S2 := by
  intro R r1 r2 r3 r4 p l e s m args below meth c D ca B C H locs ls hS hL
  obtain ⟨s1, s2, s3⟩ := hS
  refine va_astq (D := D) (q0 := p0) (t0 := 2) (qk := q) (ci := 5) (r := (RX5, TX5, 9)) (n := n) (f := fun i => if S p0 i = 0 then none else some (kn_ad B (S p0 i).toNatClampNeg)) (i := a) (v := kn_ad B q) C.1.1 C.1.2.1 C.1.2.2.2.2.2.2.1 s1 kn_D s2 (kn_Ws_get hs hp) rfl (kn_Ws_get hq hq2) rfl hi.in.1 hd (fun H1 locs1 hP1 hD1 hS1 => ?_)
  rw [hi.in.2] at hP1
  have he : (va_up (fun i => if S p0 i = 0 then none else some (kn_ad B (S p0 i).toNatClampNeg)) b (some (kn_ad B q))) = (fun i => if upd (S p0) b x i = 0 then none else some (kn_ad B (upd (S p0) b x i).toNatClampNeg)) := by
    funext i
    by_cases e : i = b
    · subst e
      simp [va_up, upd, hx, hx0]
    · simp [va_up, upd, e]
  rw [he] at hP1
  have hP2 : va_P D vwCl ((kn_Ws ca (kn_ad B) S g (n0 + i)).set p0 (kn_ad B p0, kn_Cel ca (kn_ad B) (upd (S p0) b x) (.inr (2, n)))) H1 := hP1
  rw [kn_Ws_set hs hp] at hP2
  exact K R r1 r2 r3 r4 p l e s m args below meth c D ca B C H1 locs1 ls ⟨by rw [gm_u_eq]; exact hP2, hS1, s3.u hp⟩ hL
end KN2
def kn_Pc (g : gm_W) (D : va_G) (ca : gm_Ar) (B n0 : Nat) (As : List Value) (S : gm_Mem) : Array Value → State → Prop :=
  fun v U => v = (As.map (gm_V (kn_ad B))).toArray ∧ va_P D vwCl (kn_Ws ca (kn_ad B) S g n0) U.heap ∧ zS n0 S ∧ U.heap.size = B + n0 ∧ va_K D vwCl (gm_Ty ca) U ∧ kn_X U
def kn_R (k j τ : Nat) : Room := { frames := k, cells := j, slots := τ, locals := 40 * k }
theorem kn_met {g : gm_W} {k : Nat} {Y : gm_Y} {n0 j τ : Nat} {As : List Value} {S S2 : gm_Mem} (l : Launch) (D : va_G) (ca : gm_Ar) (B : Nat) (hp : plainFor Y.1 = true) (hi : Y.1.name = "<init>") (hn : As.length ≤ Y.2.2.1) (hc : kn_run g k Y 0 (gm_ent Y.2.2.1 As) [] n0 0 0 S j τ S2) :
    Met l Y.1 (gm_wd Y) (kn_R k j τ) (kn_Pc g D ca B n0 As S) (kn_Q g ca D B (n0 + j) S2) j τ (fun q => B ≤ q) := by
  refine gm_ofW (cc := Y.2.1) (maxL := Y.2.2.1) (ret := Y.2.2.2) hp rfl ?_
  intro p e s m args below meth c s₁ Bd hml hv
  obtain ⟨rfl, hP, hz, hsz, hK, hX⟩ := hv
  have hts := atoms_spec (ws := gm_wd Y) Bd.pre
  have hl := lv_entry (As.map (gm_V (kn_ad B))) (n := Y.2.2.1) (by rw [gm_sl_len]; exact hn)
  rw [lg_entry_eq]
  refine hc (kn_R k j τ) (Nat.le_refl k) (Nat.le_refl _) (Nat.le_refl _) (Nat.le_refl _) p l e s m _ below meth c D ca B ⟨⟨Bd.exec, Bd.bytes, Bd.returns, hml, findClass_of_methodNamed Bd.named, fun w hw => hts w (List.mem_cons_of_mem _ hw), hK, Bd.notSynchronized⟩, ((name_of_methodNamed Bd.named Bd.method).1).trans hi, hX, hsz⟩ s.heap [] _ ⟨hP, va_S.rf, hz⟩ ⟨_, hl, fun i v hi => ?_⟩
  unfold gm_ent at hi
  by_cases hlt : i < As.length
  · rw [List.getElem?_append_left (by simpa using hlt), List.getElem?_map] at hi
    cases ha : As[i]? with
    | none => rw [ha] at hi; cases hi
    | some w =>
      rw [ha] at hi
      have hw : w = v := Option.some.inj (Option.some.inj hi)
      subst hw
      have := gm_args_in (kn_ad B) As 0 i w ha
      rw [Nat.zero_add] at this
      exact this
  · rw [List.getElem?_append_right (by simpa using Nat.not_lt.mp hlt), List.getElem?_replicate] at hi
    split at hi <;> cases hi
theorem kn_blind {g : gm_W} {D : va_G} {ca : gm_Ar} {B n0 : Nat} {As : List Value} {S : gm_Mem} : FrameBlind (kn_Pc g D ca B n0 As S) :=
  fun a U f mk q => ⟨q.1, q.2.1, q.2.2.1, q.2.2.2.1, va_K.moved (u := U) (U := U.calling f mk a) (Vm.Alike.refl U.vm) q.2.2.2.2.1, kn_X.same (u := U) (U := U.calling f mk a) rfl q.2.2.2.2.2⟩
theorem kn_X.warm {s U : State} (hW : s.WarmedH U.vm) (h : kn_X s) : kn_X U := ⟨fun w hw => kn_links_w w hw s U hW (h.1 w hw), h.2.moved hW.alike⟩
theorem kn_back {g : gm_W} {k : Nat} {Y : gm_Y} {n0 j τ : Nat} {As : List Value} {S S2 : gm_Mem} {l : Launch} {R : Room} {p : Program} {e : Env} {below : List Frame} {s : State} {args : Array Value} {wo : Nat} (D : va_G) (ca : gm_Ar) (B : Nat)
    (hts : ∀ w ∈ gm_TB, w.before args s = true) {n : Nat} (hm : kn_Mi Y n) (hn : As.length ≤ Y.2.2.1) (hf : k + 1 ≤ R.frames) (hl : wo + (Y.2.2.1 + 11) + 40 * k ≤ R.locals)
    (hc : kn_run g k Y 0 (gm_ent Y.2.2.1 As) [] n0 0 0 S j τ S2) : Back l R p e below s args Y.1 3 wo (PreOf R j τ (kn_Pc g D ca B n0 As S)) (PostOf (kn_Q g ca D B (n0 + j) S2) j τ (fun q => B ≤ q)) := by
  obtain ⟨m1, m2, m3, m4, m5, m6, m7, -⟩ := hm
  have hG : GoodIn gm_TB (gm_wd Y) := gm_good (fun w hw => (List.mem_cons.mp hw).elim (fun q => by rw [q, m7]; exact m3) id)
  exact back_of (ws := gm_wd Y) (rm := kn_R k j τ) (bytes := Y.2.1) (maxL := Y.2.2.1) (ret := Y.2.2.2) (kn_met l D ca B m4 m6 hn hc) kn_blind rfl rfl hf hl (pay_in hts hG) List.mem_cons_self
    (fun a' U hW => word_at hW (Or.inl (by first | rfl | simp [Cond.onTables, Cond.keeps, Cond.steady])) (hts _ m2))
section KN3
variable {g : gm_W} {k : Nat} {Y : gm_Y} {pc : Nat} {L : List (Option Value)} {st : List Value} {n0 i σ : Nat} {S : gm_Mem} {j τ : Nat} {S2 : gm_Mem}
theorem kn_call {k1 a b n j1 τ1 : Nat} {Y1 : gm_Y} {st0 : List Value} {L1 : List (Option Value)} {S1 : gm_Mem} {own : String} (ho : Y.1.cls = own) (hd : decode Y.2.1 pc = .ok (.invokespecial a, 3)) (hl : Cond.methodLink own a Y1.1 ∈ gm_TB) (hm : kn_Mi Y1 n) (As rest : List Value) (hst : st0 = As.reverse ++ .ref b :: rest) (hn : As.length = n) (hre : rest.length ≤ 12) (hk : k1 + 1 ≤ k) (h0 : 0 < n0) (hg : n0 + i ≤ g.length) (hL1 : gm_ent Y1.2.2.1 (.ref b :: As) = L1) (hj : i + j1 ≤ j) (hτ : σ + τ1 ≤ τ) (hc : kn_run g k1 Y1 0 L1 [] (n0 + i) 0 0 S j1 τ1 S1) (K : kn_run g k Y (pc + 3) L rest n0 (i + j1) (σ + τ1) S1 j τ S2) : kn_run g k Y pc L st0 n0 i σ S j τ S2 := by
  intro R r1 r2 r3 r4 p l e s m args below meth c D ca B C H locs ls hS hL
  subst hL1
  subst hst
  obtain ⟨x1, x2, x3, x4, x5, x6, x7, x8⟩ := id C.1
  obtain ⟨m1, m2, m3, m4, m5, m6, m7, m8, m9, m10⟩ := id hm
  have hSs := hS
  obtain ⟨s1, s2, s3⟩ := hS
  have hlen : (Value.ref b :: As).length ≤ Y1.2.2.1 := by simp; omega
  have hB := kn_back (l := l) (R := R) (p := p) (e := e) (below := below) (s := s) (args := args) (wo := 12) D ca B x6 hm hlen (by omega) (by omega) hc
  intro T hT X
  have z0 := kn_sz hSs C.2.2.2 h0 hg hT X
  have hstk : (F0 m pc ls ((As.reverse ++ Value.ref b :: rest).map (gm_V (kn_ad B)))).stack = (As.map (gm_V (kn_ad B))).reverse ++ .ref (kn_ad B b) :: rest.map (gm_V (kn_ad B)) := by
    show (As.reverse ++ Value.ref b :: rest).map (gm_V (kn_ad B)) = _
    rw [List.map_append, List.map_reverse, List.map_cons]
    rfl
  have hsz : (F0 m pc ls ((As.reverse ++ Value.ref b :: rest).map (gm_V (kn_ad B)))).locals.size = c.maxLocals := by
    rw [x4]
    obtain ⟨lv, h1, -⟩ := hL
    exact h1.1
  obtain ⟨v, vm₁, ⟨U', l2, cc2, ss2⟩, hW₁, X', ⟨g', mk, t, LL, e1, e2, hq, h1, hLL, h2, h3⟩, stp⟩ := callI X x1 (bytes := Y1.2.1) (maxL := Y1.2.2.1) (by rw [← ho]; exact x5) m6 (x6 _ hl) (x6 _ m1) (x6 _ m3) m5 hB (g := F0 m pc ls ((As.reverse ++ Value.ref b :: rest).map (gm_V (kn_ad B)))) rfl hsz (a := kn_ad B b) (argsL := As.map (gm_V (kn_ad B))) (rest := rest.map (gm_V (kn_ad B)))
    (fun sig hsg => by rw [hsg] at m9; rw [List.length_map, hn]; exact (Option.some.inj m9).symm) hstk (by show 2 * 0 + _ ≤ 12; rw [gm_sum]; omega) (by rw [x2]; exact hd)
    (fun vm1 hW => ⟨by show i + j1 ≤ R.cells; omega, by show σ + τ1 ≤ R.slots; omega, rfl, by show va_P D vwCl _ T.heap; rw [hT]; exact s1, s3, by show T.heap.size = _; rw [hT]; exact z0, va_K.moved hW.alike x7, kn_X.warm (U := T.setVm vm1) hW C.2.2.1⟩)
  dsimp only [Pt.U, Pt.locs, Pt.cells, Pt.slots] at X' e1 e2 h1 h2 h3 stp
  subst h1; subst h2; subst h3
  obtain ⟨ho1, hP1, hz1, hF1⟩ := hq
  have hv : v = none := by injection ho1
  subst hv
  have hsH : ((T.setVm vm₁).calling g' mk (Value.ref (kn_ad B b) :: As.map (gm_V (kn_ad B))).toArray).heap = H := hT
  rw [va_F, hsH] at hF1
  obtain ⟨t2, a1, b1⟩ := K R r1 r2 r3 r4 p l e s m args below meth c D ca B C U'.heap (locs ++ LL) ls ⟨by rw [e1, ← Nat.add_assoc]; exact hP1, ⟨Nat.le_trans s2.1 (by rw [e1]; exact hF1.1), fun q h1 h2 => by rw [e1, hF1.2 q (Nat.lt_of_lt_of_le h1 s2.1) h2]; exact s2.2.1 q h1 h2, fun q hq => by
      rcases List.mem_append.mp hq with h | h
      · exact s2.2.2 q h
      · exact hLL q h⟩, by rw [← Nat.add_assoc]; exact hz1⟩ hL U' rfl X'
  exact ⟨t2, stp t2 a1, b1⟩
theorem kn_callN {k1 a b n j1 τ1 : Nat} {Y1 : gm_Y} {st0 : List Value} {L1 : List (Option Value)} {S1 : gm_Mem} {own host : String} (ho : Y.1.cls = own) (hd : decode Y.2.1 pc = .ok (.invokespecial a, 3)) (hl : Cond.methodLinkNest own a Y1.1 host ∈ kn_links) (hm : kn_Mi Y1 n) (As rest : List Value) (hst : st0 = As.reverse ++ .ref b :: rest) (hn : As.length = n) (hre : rest.length ≤ 12) (hk : k1 + 1 ≤ k) (h0 : 0 < n0) (hg : n0 + i ≤ g.length) (hL1 : gm_ent Y1.2.2.1 (.ref b :: As) = L1) (hj : i + j1 ≤ j) (hτ : σ + τ1 ≤ τ) (hc : kn_run g k1 Y1 0 L1 [] (n0 + i) 0 0 S j1 τ1 S1) (K : kn_run g k Y (pc + 3) L rest n0 (i + j1) (σ + τ1) S1 j τ S2) : kn_run g k Y pc L st0 n0 i σ S j τ S2 := by
  intro R r1 r2 r3 r4 p l e s m args below meth c D ca B C H locs ls hS hL
  subst hL1
  subst hst
  obtain ⟨x1, x2, x3, x4, x5, x6, x7, x8⟩ := id C.1
  obtain ⟨m1, m2, m3, m4, m5, m6, m7, m8, m9, m10⟩ := id hm
  have hSs := hS
  obtain ⟨s1, s2, s3⟩ := hS
  have hlen : (Value.ref b :: As).length ≤ Y1.2.2.1 := by simp; omega
  have hB := kn_back (l := l) (R := R) (p := p) (e := e) (below := below) (s := s) (args := args) (wo := 12) D ca B x6 hm hlen (by omega) (by omega) hc
  intro T hT X
  have z0 := kn_sz hSs C.2.2.2 h0 hg hT X
  have hstk : (F0 m pc ls ((As.reverse ++ Value.ref b :: rest).map (gm_V (kn_ad B)))).stack = (As.map (gm_V (kn_ad B))).reverse ++ .ref (kn_ad B b) :: rest.map (gm_V (kn_ad B)) := by
    show (As.reverse ++ Value.ref b :: rest).map (gm_V (kn_ad B)) = _
    rw [List.map_append, List.map_reverse, List.map_cons]
    rfl
  have hsz : (F0 m pc ls ((As.reverse ++ Value.ref b :: rest).map (gm_V (kn_ad B)))).locals.size = c.maxLocals := by
    rw [x4]
    obtain ⟨lv, h1, -⟩ := hL
    exact h1.1
  obtain ⟨v, vm₁, ⟨U', l2, cc2, ss2⟩, hW₁, X', ⟨g', mk, t, LL, e1, e2, hq, h1, hLL, h2, h3⟩, stp⟩ := va_callIN X x1 (bytes := Y1.2.1) (maxL := Y1.2.2.1) (by rw [← ho]; exact x5) m6 (va_Nw.use rfl (C.2.2.1.1 _ hl)) (x6 _ m1) (x6 _ m3) m5 hB (g := F0 m pc ls ((As.reverse ++ Value.ref b :: rest).map (gm_V (kn_ad B)))) rfl hsz (a := kn_ad B b) (argsL := As.map (gm_V (kn_ad B))) (rest := rest.map (gm_V (kn_ad B)))
    (fun sig hsg => by rw [hsg] at m9; rw [List.length_map, hn]; exact (Option.some.inj m9).symm) hstk (by show 2 * 0 + _ ≤ 12; rw [gm_sum]; omega) (by rw [x2]; exact hd)
    (fun vm1 hW => ⟨by show i + j1 ≤ R.cells; omega, by show σ + τ1 ≤ R.slots; omega, rfl, by show va_P D vwCl _ T.heap; rw [hT]; exact s1, s3, by show T.heap.size = _; rw [hT]; exact z0, va_K.moved hW.alike x7, kn_X.warm (U := T.setVm vm1) hW C.2.2.1⟩)
  dsimp only [Pt.U, Pt.locs, Pt.cells, Pt.slots] at X' e1 e2 h1 h2 h3 stp
  subst h1; subst h2; subst h3
  obtain ⟨ho1, hP1, hz1, hF1⟩ := hq
  have hv : v = none := by injection ho1
  subst hv
  have hsH : ((T.setVm vm₁).calling g' mk (Value.ref (kn_ad B b) :: As.map (gm_V (kn_ad B))).toArray).heap = H := hT
  rw [va_F, hsH] at hF1
  obtain ⟨t2, a1, b1⟩ := K R r1 r2 r3 r4 p l e s m args below meth c D ca B C U'.heap (locs ++ LL) ls ⟨by rw [e1, ← Nat.add_assoc]; exact hP1, ⟨Nat.le_trans s2.1 (by rw [e1]; exact hF1.1), fun q h1 h2 => by rw [e1, hF1.2 q (Nat.lt_of_lt_of_le h1 s2.1) h2]; exact s2.2.1 q h1 h2, fun q hq => by
      rcases List.mem_append.mp hq with h | h
      · exact s2.2.2 q h
      · exact hLL q h⟩, by rw [← Nat.add_assoc]; exact hz1⟩ hL U' rfl X'
  exact ⟨t2, stp t2 a1, b1⟩
end KN3
