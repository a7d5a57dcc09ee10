/-! THE LAW'S MACHINE: both worlds in one heap -/
def lwS (D : va_G) (ca : gm_Ar) (s : State) (H : Heap) (locs : List Loc) (T S : gm_Mem) : Prop := va_P D vwCl (gm_Ws ca (kn_ad s.heap.size) S gC) H ∧ va_P D vwCl (gm_Ws ca (kn_ad (s.heap.size + 123)) T gM) H ∧ va_S (fun q => s.heap.size ≤ q) s.heap H locs
def lw_go (p : Program) (l : Launch) (e : Env) (s : State) (m : MethodId) (below : List Frame) (meth : Method) (c : Code) (b : Nat) (D : va_G) (ca : gm_Ar) (pc : Nat) (st : List Value) (j : Nat) (T S : gm_Mem) : Prop :=
  ∀ (H : Heap) (locs : List Loc) (ls : Array Slot), lwS D ca s H locs T S → lv_has ls 4 [(0, .ref b), (1, .ref s.heap.size), (2, .ref (s.heap.size + 123)), (3, .int (nI j))] → W p l e room_1 s m #[Value.ref b] below meth c H locs 600000 7302249 (lw_Z below #[Value.ref b] s) (F0 m pc ls st)
section LG
variable {p : Program} {l : Launch} {e : Env} {s : State} {m : MethodId} {below : List Frame} {meth : Method} {c : Code} {b L : Nat} {xs : Nat → Int32} {D : va_G} {ca : gm_Ar} {pc : Nat} {st : List Value} {j : Nat} {T S : gm_Mem}
theorem lg_aload0 (C0 : lw_At p s m meth c b L xs) (hd : decode cL_law pc = .ok (.aload_n 0, 1)) (K : lw_go p l e s m below meth c b D ca (pc + 1) (.ref b :: st) j T S) : lw_go p l e s m below meth c b D ca pc st j T S :=
  fun H locs ls hS hL => lv_aload_n C0.1 C0.2.1 hd rfl (lv_at hL 0 rfl) (K H locs ls hS hL)
theorem lg_aload1 (C0 : lw_At p s m meth c b L xs) (hd : decode cL_law pc = .ok (.aload_n 1, 1)) (K : lw_go p l e s m below meth c b D ca (pc + 1) (.ref s.heap.size :: st) j T S) : lw_go p l e s m below meth c b D ca pc st j T S :=
  fun H locs ls hS hL => lv_aload_n C0.1 C0.2.1 hd rfl (lv_at hL 1 rfl) (K H locs ls hS hL)
theorem lg_aload2 (C0 : lw_At p s m meth c b L xs) (hd : decode cL_law pc = .ok (.aload_n 2, 1)) (K : lw_go p l e s m below meth c b D ca (pc + 1) (.ref (s.heap.size + 123) :: st) j T S) : lw_go p l e s m below meth c b D ca pc st j T S :=
  fun H locs ls hS hL => lv_aload_n C0.1 C0.2.1 hd rfl (lv_at hL 2 rfl) (K H locs ls hS hL)
theorem lg_iload3 (C0 : lw_At p s m meth c b L xs) (hd : decode cL_law pc = .ok (.iload_n 3, 1)) (K : lw_go p l e s m below meth c b D ca (pc + 1) (.int (nI j) :: st) j T S) : lw_go p l e s m below meth c b D ca pc st j T S :=
  fun H locs ls hS hL => lv_iload_n C0.1 C0.2.1 hd rfl (lv_at hL 3 rfl) (K H locs ls hS hL)
theorem lg_iconst (C0 : lw_At p s m meth c b L xs) {n : Int} {v : Int32} (hd : decode cL_law pc = .ok (.iconst n, 1)) (hv : Int32.ofInt n = v) (K : lw_go p l e s m below meth c b D ca (pc + 1) (.int v :: st) j T S) : lw_go p l e s m below meth c b D ca pc st j T S :=
  fun H locs ls hS hL => lv_iconst C0.1 C0.2.1 hd hv (K H locs ls hS hL)
theorem lg_bipush (C0 : lw_At p s m meth c b L xs) {n : Int} {v : Int32} (hd : decode cL_law pc = .ok (.bipush n, 2)) (hv : (Int8.ofInt n).toInt32 = v) (K : lw_go p l e s m below meth c b D ca (pc + 2) (.int v :: st) j T S) : lw_go p l e s m below meth c b D ca pc st j T S :=
  fun H locs ls hS hL => lv_bipush C0.1 C0.2.1 hd hv (K H locs ls hS hL)
theorem lg_iadd (C0 : lw_At p s m meth c b L xs) {x y : Int32} (hd : decode cL_law pc = .ok (.iadd, 1)) (K : lw_go p l e s m below meth c b D ca (pc + 1) (.int (x + y) :: st) j T S) : lw_go p l e s m below meth c b D ca pc (.int y :: .int x :: st) j T S :=
  fun H locs ls hS hL => lv_iadd C0.1 C0.2.1 hd (K H locs ls hS hL)
theorem lg_isub (C0 : lw_At p s m meth c b L xs) {x y : Int32} (hd : decode cL_law pc = .ok (.isub, 1)) (K : lw_go p l e s m below meth c b D ca (pc + 1) (.int (x - y) :: st) j T S) : lw_go p l e s m below meth c b D ca pc (.int y :: .int x :: st) j T S :=
  fun H locs ls hS hL => lv_isub C0.1 C0.2.1 hd (K H locs ls hS hL)
theorem lg_iand (C0 : lw_At p s m meth c b L xs) {x y : Int32} (hd : decode cL_law pc = .ok (.iand, 1)) (K : lw_go p l e s m below meth c b D ca (pc + 1) (.int (x &&& y) :: st) j T S) : lw_go p l e s m below meth c b D ca pc (.int y :: .int x :: st) j T S :=
  fun H locs ls hS hL => lv_iand C0.1 C0.2.1 hd (K H locs ls hS hL)
theorem lg_sld (C0 : lw_At p s m meth c b L xs) {k : Nat} (hk : k < L) (hL0 : L ≤ 2048) {x : Int32} (hx : x = nI k) (hd : decode cL_law pc = .ok (.iaload, 1)) (K : lw_go p l e s m below meth c b D ca (pc + 1) (.int (xs k) :: st) j T S) : lw_go p l e s m below meth c b D ca pc (.int x :: .ref b :: st) j T S := by
  intro H locs ls hS hL
  subst hx
  refine va_sld C0.1 C0.2.1 C0.2.2.2.2.2.2.1 C0.2.2.2.2.2.2.2.1 (A := fun q => s.heap.size ≤ q) (Nat.not_le.mpr C0.2.2.2.2.2.2.2.1) hS.2.2 (vp_in_nI hk (by omega)) hd ?_
  rw [nI_clamp (by omega)]
  exact K H locs ls hS hL
theorem lg_slen (C0 : lw_At p s m meth c b L xs) (hd : decode cL_law pc = .ok (.arraylength, 1)) (K : lw_go p l e s m below meth c b D ca (pc + 1) (.int (nI L) :: st) j T S) : lw_go p l e s m below meth c b D ca pc (.ref b :: st) j T S := by
  intro H locs ls hS hL
  exact va_slen C0.1 C0.2.1 C0.2.2.2.2.2.2.1 C0.2.2.2.2.2.2.2.1 (A := fun q => s.heap.size ≤ q) (Nat.not_le.mpr C0.2.2.2.2.2.2.2.1) hS.2.2 hd (K H locs ls hS hL)
theorem lg_arg (C0 : lw_At p s m meth c b L xs) (k : Nat) {n : Int} (d1 : decode cL_law pc = .ok (.aload_n 0, 1)) (d2 : decode cL_law (pc + 1) = .ok (.iload_n 3, 1)) (d3 : decode cL_law (pc + 2) = .ok (.iconst n, 1)) (d4 : decode cL_law (pc + 3) = .ok (.iadd, 1)) (d5 : decode cL_law (pc + 4) = .ok (.iaload, 1)) (hn : Int32.ofInt n = nI k) (hk : j + k < L) (hL0 : L ≤ 2048) (K : lw_go p l e s m below meth c b D ca (pc + 5) (.int (xs (j + k)) :: st) j T S) : lw_go p l e s m below meth c b D ca pc st j T S :=
  lg_aload0 C0 d1 (lg_iload3 C0 d2 (lg_iconst C0 d3 hn (lg_iadd C0 d4 (lg_sld C0 hk hL0 (nI_add _ _) d5 K))))
theorem lg_icmpeq (C0 : lw_At p s m meth c b L xs) {x : Int32} {off : Int} {tgt : Nat} (hd : decode cL_law pc = .ok (.if_icmp .eq off, 3)) (ht : (pc : Int) + off = (tgt : Int)) (K : lw_go p l e s m below meth c b D ca tgt st j T S) : lw_go p l e s m below meth c b D ca pc (.int x :: .int x :: st) j T S :=
  fun H locs ls hS hL => lv_icmp_eq C0.1 C0.2.1 hd ht (fun _ => K H locs ls hS hL) (fun q => absurd rfl q)
theorem lg_icmpgt (C0 : lw_At p s m meth c b L xs) {x y : Int32} {off : Int} {tgt : Nat} (hd : decode cL_law pc = .ok (.if_icmp .gt off, 3)) (ht : (pc : Int) + off = (tgt : Int)) (K1 : y < x → lw_go p l e s m below meth c b D ca tgt st j T S) (K2 : ¬ y < x → lw_go p l e s m below meth c b D ca (pc + 3) st j T S) : lw_go p l e s m below meth c b D ca pc (.int y :: .int x :: st) j T S :=
  fun H locs ls hS hL => lv_icmp_gt C0.1 C0.2.1 hd ht (fun q => K1 q H locs ls hS hL) (fun q => K2 q H locs ls hS hL)
theorem lg_tabIn (C0 : lw_At p s m meth c b L xs) {dflt lo hi : Int} {offs : Array Int} {len : Nat} {x : Int32} {off : Int} {tgt : Nat} (hd : decode cL_law pc = .ok (.tableswitch dflt lo hi offs, len)) (h1 : ¬ x.toInt < lo) (h2 : ¬ hi < x.toInt) (ho : offs[(x.toInt - lo).toNat]? = some off) (ht : (pc : Int) + off = (tgt : Int)) (K : lw_go p l e s m below meth c b D ca tgt st j T S) : lw_go p l e s m below meth c b D ca pc (.int x :: st) j T S :=
  fun H locs ls hS hL => lv_tableIn C0.1 C0.2.1 hd h1 h2 ho ht (K H locs ls hS hL)
theorem lg_tabOut (C0 : lw_At p s m meth c b L xs) {dflt lo hi : Int} {offs : Array Int} {len : Nat} {x : Int32} {tgt : Nat} (hd : decode cL_law pc = .ok (.tableswitch dflt lo hi offs, len)) (h1 : x.toInt < lo ∨ hi < x.toInt) (ht : (pc : Int) + dflt = (tgt : Int)) (K : lw_go p l e s m below meth c b D ca tgt st j T S) : lw_go p l e s m below meth c b D ca pc (.int x :: st) j T S :=
  fun H locs ls hS hL => lv_tableOut C0.1 C0.2.1 hd h1 ht (K H locs ls hS hL)
theorem lg_goto (C0 : lw_At p s m meth c b L xs) {off : Int} {tgt : Nat} (hd : decode cL_law pc = .ok (.goto off, 3)) (ht : (pc : Int) + off = (tgt : Int)) (K : lw_go p l e s m below meth c b D ca tgt st j T S) : lw_go p l e s m below meth c b D ca pc st j T S :=
  fun H locs ls hS hL => lv_goto C0.1 C0.2.1 hd ht (K H locs ls hS hL)
theorem lg_iinc (C0 : lw_At p s m meth c b L xs) (hd : decode cL_law pc = .ok (.iinc 3 4, 3)) (K : lw_go p l e s m below meth c b D ca (pc + 3) st (j + 4) T S) : lw_go p l e s m below meth c b D ca pc st j T S := by
  intro H locs ls hS hL
  refine lv_iinc (v := nI (j + 4)) (lv' := [(3, .int (nI (j + 4))), (0, .ref b), (1, .ref s.heap.size), (2, .ref (s.heap.size + 123))]) C0.1 C0.2.1 hd hL (k := 3) rfl (by rw [← nI_add]; rfl) (by decide) rfl (fun ls' hl' => ?_)
  exact K H locs ls' hS (lv_sub hl' [1, 2, 3, 0] rfl)
theorem lg_ret (C0 : lw_At p s m meth c b L xs) (hd : decode cL_law pc = .ok (.ireturn, 1)) : lw_go p l e s m below meth c b D ca pc [.int 1] j T S := by
  intro H locs ls hS hL
  refine va_forget (fun q hq => hS.2.2.2.2 q hq) ?_
  exact lw_ret C0.1 C0.2.1 C0.2.2.1 C0.2.2.2.2.2.2.2.2.1 hd
theorem lg_D {g : gm_W} {B n : Nat} {H : Heap} (hn : g.length = n) : gm_D g (kn_ad B) (fun q => (B ≤ q ∧ q < B + n) ∨ H.size ≤ q) :=
  ⟨fun i j _ _ h => by unfold kn_ad at h; omega, fun i hi => Or.inl ⟨by unfold kn_ad; omega, by unfold kn_ad; omega⟩⟩
theorem lg_keep {g : gm_W} {D : va_G} {ca : gm_Ar} {B B2 n : Nat} {S : gm_Mem} {H H1 : Heap} (hP : va_P D vwCl (gm_Ws ca (kn_ad B) S g) H) (hF : ∀ q, q < H.size → ¬ ((B2 ≤ q ∧ q < B2 + n) ∨ H.size ≤ q) → H1[q]? = H[q]?) (hB : B + g.length ≤ B2 ∨ B2 + n ≤ B) : va_P D vwCl (gm_Ws ca (kn_ad B) S g) H1 := by
  refine hP.kept (fun k q hq => ?_)
  have h1 := gm_Cs_addr g 0 k q hq
  have h2 : q.1 < H.size := (hP k q hq).lt
  have h3 : q.1 = B + k := by rw [h1.2]; unfold kn_ad; omega
  exact hF q.1 h2 (by have := h1.1; omega)
theorem lg_callC (C0 : lw_At p s m meth c b L xs) (hK : va_K D vwCl (gm_Ty ca) s) {idx n k1 : Nat} {Y1 : gm_Y} (As : List Int32) {rest st0 : List Value} {L1 : List (Option Value)} {r : Int32} {S2 : gm_Mem} (hd : decode cL_law pc = .ok (.invokevirtual idx, 3)) (hl : Cond.methodLink RL idx Y1.1 ∈ gm_TB) (hm : gm_Mv Y1 n) (hcl : Y1.1.cls = RX10) (hst : st0 = (As.map Value.int).reverse ++ .ref s.heap.size :: rest) (hn : As.length = n) (hre : (rest.map fun v => v.category).sum ≤ 12) (hk : k1 ≤ 9) (hL1 : gm_ent Y1.2.2.1 (.ref 0 :: As.map Value.int) = L1) (hc : gm_run gC k1 Y1 0 L1 [] S (some (.int r)) S2) (K : lw_go p l e s m below meth c b D ca (pc + 3) (.int r :: rest) j T S2) : lw_go p l e s m below meth c b D ca pc st0 j T S := by
  intro H locs ls hS hL
  subst hL1
  subst hst
  obtain ⟨m1, m2, m3, m4, m5, m6, m7, m8, m9⟩ := hm
  have x6 : ∀ w ∈ gm_TB, w.before #[Value.ref b] s = true := fun w hw => C0.2.2.2.2.2.1 w (gm_tb_in hw)
  have x5 : s.vm.findClass RL = some m.cls := C0.2.2.2.2.1
  obtain ⟨s1, s2, s3⟩ := hS
  have hsz0 : s.heap.size + 123 + 38 ≤ H.size := by
    have := (s2 37 _ (gm_Ws_get (p := 37) sM_37)).lt
    unfold kn_ad at this
    omega
  have hmp : ∀ ad : Nat → Nat, (As.map Value.int).map (gm_V ad) = As.map Value.int := fun ad => by
    rw [List.map_map]
    rfl
  obtain ⟨cell, c1, c2, c3⟩ := va_recv (q := (RX10, TX10, 5)) hK s1 (ci := 10) rfl (gm_Ws_get (p := 0) sC_0)
  have hlen : (Value.ref 0 :: As.map Value.int).length ≤ Y1.2.2.1 := by simp; omega
  have hB := gm_back (l := l) (R := room_1) (p := p) (e := e) (below := below) (s := s) (args := #[Value.ref b]) (wo := 12) (As := .ref 0 :: As.map Value.int) D ca (kn_ad s.heap.size) (fun q => (s.heap.size ≤ q ∧ q < s.heap.size + 123) ∨ H.size ≤ q) x6 m4 m3 m5 hlen (by show k1 + 1 ≤ 10; omega) (by show 12 + (Y1.2.2.1 + 11) + 40 * k1 ≤ 404; omega) hc
  intro U hT X
  have hstk : (F0 m pc ls ((As.map Value.int).reverse ++ Value.ref s.heap.size :: rest)).stack = (As.map Value.int).reverse ++ .ref s.heap.size :: rest := rfl
  have hsz : (F0 m pc ls ((As.map Value.int).reverse ++ Value.ref s.heap.size :: rest)).locals.size = c.maxLocals := by
    rw [C0.2.2.2.1]
    exact hL.1
  have hpre : ((.ref 0 :: As.map Value.int).map (gm_V (kn_ad s.heap.size))).toArray = (Value.ref s.heap.size :: As.map Value.int).toArray := by
    show (Value.ref (kn_ad s.heap.size 0) :: (As.map Value.int).map (gm_V (kn_ad s.heap.size))).toArray = _
    rw [hmp]
    rfl
  obtain ⟨v, vm₁, ⟨U', l2, cc2, ss2⟩, hW₁, X', ⟨g', mk, t, LL, e1, e2, hq, h1, hLL, h2, h3⟩, stp⟩ := callV X C0.1 (C := RX10) (bytes := Y1.2.1) (maxL := Y1.2.2.1) (ret := Y1.2.2.2) x5 (x6 _ hl) (x6 _ m1) (by rw [← hcl]; exact x6 _ m2) (x6 _ m4) m6 hB (b := s.heap.size) (by rw [hT]; exact c1) c2 c3 (g := F0 m pc ls ((As.map Value.int).reverse ++ Value.ref s.heap.size :: rest)) rfl hsz (argsL := As.map Value.int) (rest := rest)
    (fun sig hsg => by rw [hsg] at m8; rw [List.length_map, hn]; exact (Option.some.inj m8).symm) hstk (by show 2 * 0 + _ ≤ 12; omega) (by rw [C0.2.1]; exact hd)
    (fun vm1 hW => ⟨Nat.le_refl _, Nat.le_refl _, hpre.symm, by show va_P D vwCl _ U.heap; rw [hT]; exact s1, va_K.moved hW.alike hK, lg_D rfl, by show ∀ q : Nat, U.heap.size ≤ q → _; rw [hT]; exact fun q hq => Or.inr hq⟩)
  dsimp only [Pt.U, Pt.locs, Pt.cells, Pt.slots] at X' e1 e2 h1 h2 h3 stp
  subst h1; subst h2; subst h3
  obtain ⟨ho1, hP1, hF1⟩ := hq
  have hv : v = some (.int r) := by injection ho1
  subst hv
  have hsH : ((U.setVm vm₁).calling g' mk (Value.ref s.heap.size :: As.map Value.int).toArray).heap = H := hT
  rw [va_F, hsH] at hF1
  obtain ⟨t2, a1, b1⟩ := K U'.heap (locs ++ LL) ls ⟨by rw [e1]; exact hP1, by rw [e1]; exact lg_keep s2 hF1.2 (Or.inr (Nat.le_refl _)), ⟨Nat.le_trans s3.1 (by rw [e1]; exact hF1.1), fun q h1 h2 => by rw [e1, hF1.2 q (Nat.lt_of_lt_of_le h1 s3.1) (by have := s3.1; omega)]; exact s3.2.1 q h1 h2, fun q hq => by
      rcases List.mem_append.mp hq with h | h
      · exact s3.2.2 q h
      · have h5 := hLL q h
        show s.heap.size ≤ q.base
        omega⟩⟩ hL U' rfl X'
  exact ⟨t2, stp t2 a1, b1⟩
theorem lg_callM (C0 : lw_At p s m meth c b L xs) (hK : va_K D vwCl (gm_Ty ca) s) {idx n k1 : Nat} {Y1 : gm_Y} (As : List Int32) {rest st0 : List Value} {L1 : List (Option Value)} {r : Int32} {S2 : gm_Mem} (hd : decode cL_law pc = .ok (.invokevirtual idx, 3)) (hl : Cond.methodLink RL idx Y1.1 ∈ gm_TB) (hm : gm_Mv Y1 n) (hcl : Y1.1.cls = RX11) (hst : st0 = (As.map Value.int).reverse ++ .ref (s.heap.size + 123) :: rest) (hn : As.length = n) (hre : (rest.map fun v => v.category).sum ≤ 12) (hk : k1 ≤ 9) (hL1 : gm_ent Y1.2.2.1 (.ref 0 :: As.map Value.int) = L1) (hc : gm_run gM k1 Y1 0 L1 [] T (some (.int r)) S2) (K : lw_go p l e s m below meth c b D ca (pc + 3) (.int r :: rest) j S2 S) : lw_go p l e s m below meth c b D ca pc st0 j T S := by
  intro H locs ls hS hL
  subst hL1
  subst hst
  obtain ⟨m1, m2, m3, m4, m5, m6, m7, m8, m9⟩ := hm
  have x6 : ∀ w ∈ gm_TB, w.before #[Value.ref b] s = true := fun w hw => C0.2.2.2.2.2.1 w (gm_tb_in hw)
  have x5 : s.vm.findClass RL = some m.cls := C0.2.2.2.2.1
  obtain ⟨s1, s2, s3⟩ := hS
  have hsz0 : s.heap.size + 123 + 38 ≤ H.size := by
    have := (s2 37 _ (gm_Ws_get (p := 37) sM_37)).lt
    unfold kn_ad at this
    omega
  have hmp : ∀ ad : Nat → Nat, (As.map Value.int).map (gm_V ad) = As.map Value.int := fun ad => by
    rw [List.map_map]
    rfl
  obtain ⟨cell, c1, c2, c3⟩ := va_recv (q := (RX11, TX11, 58)) hK s2 (ci := 11) rfl (gm_Ws_get (p := 0) sM_0)
  have hlen : (Value.ref 0 :: As.map Value.int).length ≤ Y1.2.2.1 := by simp; omega
  have hB := gm_back (l := l) (R := room_1) (p := p) (e := e) (below := below) (s := s) (args := #[Value.ref b]) (wo := 12) (As := .ref 0 :: As.map Value.int) D ca (kn_ad (s.heap.size + 123)) (fun q => ((s.heap.size + 123) ≤ q ∧ q < (s.heap.size + 123) + 38) ∨ H.size ≤ q) x6 m4 m3 m5 hlen (by show k1 + 1 ≤ 10; omega) (by show 12 + (Y1.2.2.1 + 11) + 40 * k1 ≤ 404; omega) hc
  intro U hT X
  have hstk : (F0 m pc ls ((As.map Value.int).reverse ++ Value.ref (s.heap.size + 123) :: rest)).stack = (As.map Value.int).reverse ++ .ref (s.heap.size + 123) :: rest := rfl
  have hsz : (F0 m pc ls ((As.map Value.int).reverse ++ Value.ref (s.heap.size + 123) :: rest)).locals.size = c.maxLocals := by
    rw [C0.2.2.2.1]
    exact hL.1
  have hpre : ((.ref 0 :: As.map Value.int).map (gm_V (kn_ad (s.heap.size + 123)))).toArray = (Value.ref (s.heap.size + 123) :: As.map Value.int).toArray := by
    show (Value.ref (kn_ad (s.heap.size + 123) 0) :: (As.map Value.int).map (gm_V (kn_ad (s.heap.size + 123)))).toArray = _
    rw [hmp]
    rfl
  obtain ⟨v, vm₁, ⟨U', l2, cc2, ss2⟩, hW₁, X', ⟨g', mk, t, LL, e1, e2, hq, h1, hLL, h2, h3⟩, stp⟩ := callV X C0.1 (C := RX11) (bytes := Y1.2.1) (maxL := Y1.2.2.1) (ret := Y1.2.2.2) x5 (x6 _ hl) (x6 _ m1) (by rw [← hcl]; exact x6 _ m2) (x6 _ m4) m6 hB (b := (s.heap.size + 123)) (by rw [hT]; exact c1) c2 c3 (g := F0 m pc ls ((As.map Value.int).reverse ++ Value.ref (s.heap.size + 123) :: rest)) rfl hsz (argsL := As.map Value.int) (rest := rest)
    (fun sig hsg => by rw [hsg] at m8; rw [List.length_map, hn]; exact (Option.some.inj m8).symm) hstk (by show 2 * 0 + _ ≤ 12; omega) (by rw [C0.2.1]; exact hd)
    (fun vm1 hW => ⟨Nat.le_refl _, Nat.le_refl _, hpre.symm, by show va_P D vwCl _ U.heap; rw [hT]; exact s2, va_K.moved hW.alike hK, lg_D rfl, by show ∀ q : Nat, U.heap.size ≤ q → _; rw [hT]; exact fun q hq => Or.inr hq⟩)
  dsimp only [Pt.U, Pt.locs, Pt.cells, Pt.slots] at X' e1 e2 h1 h2 h3 stp
  subst h1; subst h2; subst h3
  obtain ⟨ho1, hP1, hF1⟩ := hq
  have hv : v = some (.int r) := by injection ho1
  subst hv
  have hsH : ((U.setVm vm₁).calling g' mk (Value.ref (s.heap.size + 123) :: As.map Value.int).toArray).heap = H := hT
  rw [va_F, hsH] at hF1
  obtain ⟨t2, a1, b1⟩ := K U'.heap (locs ++ LL) ls ⟨by rw [e1]; exact lg_keep s1 hF1.2 (Or.inl (Nat.le_refl _)), by rw [e1]; exact hP1, ⟨Nat.le_trans s3.1 (by rw [e1]; exact hF1.1), fun q h1 h2 => by rw [e1, hF1.2 q (Nat.lt_of_lt_of_le h1 s3.1) (by have := s3.1; omega)]; exact s3.2.1 q h1 h2, fun q hq => by
      rcases List.mem_append.mp hq with h | h
      · exact s3.2.2 q h
      · have h5 := hLL q h
        show s.heap.size ≤ q.base
        omega⟩⟩ hL U' rfl X'
  exact ⟨t2, stp t2 a1, b1⟩
end LG
