/-! MORE ROWS: reading a memory, switches, joins -/
theorem gm_rS (S : gm_Mem) (p k : Nat) (x : Int32) : gm_u S p k x p k = x := by simp [gm_u]
theorem gm_rk {S : gm_Mem} {p k j : Nat} {x : Int32} (h : j ≠ k) : gm_u S p k x p j = S p j := by simp [gm_u, h]
theorem gm_rp {S : gm_Mem} {p q k j : Nat} {x : Int32} (h : q ≠ p) : gm_u S p k x q j = S q j := by simp [gm_u, h]
theorem gm_cq {S : gm_Mem} {p1 p0 n q j : Nat} (h : q ≠ p1) : gm_cpy S p1 p0 n q j = S q j := by simp [gm_cpy, h]
def gm_ushr (x y : Int32) : Int32 := (x.toUInt32 >>> (y.toUInt32 &&& Int32.toUInt32 31)).toInt32
def gm_rem (x y : Int32) : Int32 := x - x / y * y
def gm_sub : List (Option Value) → List (Option Value) → Prop
  | [], _ => True
  | none :: a, _ :: b => gm_sub a b
  | some v :: a, y :: b => y = some v ∧ gm_sub a b
  | _ :: _, [] => False
theorem gm_sub_get : ∀ (a b : List (Option Value)) (i : Nat) (v : Value), gm_sub a b → a[i]? = some (some v) → b[i]? = some (some v)
  | [], b, i, v, h, e => by simp at e
  | none :: a, [], i, v, h, e => absurd h (by simp [gm_sub])
  | some w :: a, [], i, v, h, e => absurd h (by simp [gm_sub])
  | none :: a, x :: b, 0, v, h, e => by simp at e
  | some w :: a, x :: b, 0, v, h, e => by
    simp at e
    subst e
    simpa using h.1
  | none :: a, x :: b, i + 1, v, h, e => by
    simpa using gm_sub_get a b i v h (by simpa using e)
  | some w :: a, x :: b, i + 1, v, h, e => by
    simpa using gm_sub_get a b i v h.2 (by simpa using e)
section GM3
variable {g : gm_W} {k : Nat} {Y : gm_Y} {pc : Nat} {L : List (Option Value)} {st : List Value} {S : gm_Mem} {r : Option Value} {S2 : gm_Mem}
theorem gm_forget {L2 : List (Option Value)} (h : gm_sub L2 L) (K : gm_run g k Y pc L2 st S r S2) : gm_run g k Y pc L st S r S2 :=
  fun n hk p l e s m args below meth c D ca ad A C H locs ls hS hL => K n hk p l e s m args below meth c D ca ad A C H locs ls hS (by
    obtain ⟨lv, h1, h2⟩ := hL
    exact ⟨lv, h1, fun i v hi => h2 i v (gm_sub_get L2 L i v h hi)⟩)
theorem gm_tabEq {dflt lo hi : Int} {offs : Array Int} {len : Nat} {x v : Int32} {off : Int} {tgt : Nat} (hd : decode Y.2.1 pc = .ok (.tableswitch dflt lo hi offs, len)) (c : x = v) (h1 : ¬ v.toInt < lo) (h2 : ¬ hi < v.toInt) (ho : offs[(v.toInt - lo).toNat]? = some off) (ht : (pc : Int) + off = (tgt : Int)) (K : gm_run g k Y tgt L st S r S2) : gm_run g k Y pc L (.int x :: st) S r S2 := by
  subst c
  exact gm_tabIn hd h1 h2 ho ht K
theorem gm_lookEq {dflt : Int} {ps : Array (Int × Int)} {len : Nat} {x v : Int32} {off : Int} {tgt : Nat} (hd : decode Y.2.1 pc = .ok (.lookupswitch dflt ps, len)) (hp : (ps.toList.zip (ps.toList.drop 1)).all (fun (a, next) => a.1 < next.1) = true) (c : x = v) (ho : Op.lookupswitch.offset ps.toList dflt v.toInt = off) (ht : (pc : Int) + off = (tgt : Int)) (K : gm_run g k Y tgt L st S r S2) : gm_run g k Y pc L (.int x :: st) S r S2 := by
  subst c
  exact gm_look hd hp ho ht K
theorem gm_mono {j : Nat} (h : k ≤ j) (K : gm_run g k Y pc L st S r S2) : gm_run g j Y pc L st S r S2 := fun n hn => K n (Nat.le_trans h hn)
theorem gm_aload_nN {i : Fin 4} (hd : decode Y.2.1 pc = .ok (.aload_n i, 1)) (hl : L[(i : Nat)]? = some (some .null)) (K : gm_run g k Y (pc + 1) L (.null :: st) S r S2) : gm_run g k Y pc L st S r S2 :=
  fun h hk p l e s m args below meth c D ca ad A C H locs ls hS hL => lv_aload_nN C.1 C.2.1 hd rfl (hL.at hl) (K h hk p l e s m args below meth c D ca ad A C H locs ls hS hL)
theorem gm_aloadN {i : Nat} (hd : decode Y.2.1 pc = .ok (.aload i, 2)) (hl : L[i]? = some (some .null)) (K : gm_run g k Y (pc + 2) L (.null :: st) S r S2) : gm_run g k Y pc L st S r S2 :=
  fun h hk p l e s m args below meth c D ca ad A C H locs ls hS hL => lv_aloadN C.1 C.2.1 hd (hL.at hl) (K h hk p l e s m args below meth c D ca ad A C H locs ls hS hL)
theorem gm_astoreN {i : Nat} {L' : List (Option Value)} (hd : decode Y.2.1 pc = .ok (.astore i, 2)) (hi : i < Y.2.2.1) (hl : L.set i (some .null) = L') (K : gm_run g k Y (pc + 2) L' st S r S2) : gm_run g k Y pc L (.null :: st) S r S2 := by
  intro h hk p l e s m args below meth c D ca ad A C H locs ls hS hL
  obtain ⟨lv, h1, h2⟩ := hL
  refine lv_astoreN C.1 C.2.1 hd h1 hi rfl (fun ls' hl' => ?_)
  subst hl
  exact K h hk p l e s m args below meth c D ca ad A C H locs ls' hS (gm_Lv.set (v := .null) h2 hl')
theorem gm_astore_nN {i : Fin 4} {L' : List (Option Value)} (hd : decode Y.2.1 pc = .ok (.astore_n i, 1)) (hi : (i : Nat) < Y.2.2.1) (hl : L.set i (some .null) = L') (K : gm_run g k Y (pc + 1) L' st S r S2) : gm_run g k Y pc L (.null :: st) S r S2 := by
  intro h hk p l e s m args below meth c D ca ad A C H locs ls hS hL
  obtain ⟨lv, h1, h2⟩ := hL
  refine lv_astore_nN C.1 C.2.1 hd rfl h1 hi rfl (fun ls' hl' => ?_)
  subst hl
  exact K h hk p l e s m args below meth c D ca ad A C H locs ls' hS (gm_Lv.set (v := .null) h2 hl')
end GM3
/-! THE TWO WORLDS: the shape of each place; the class (gC), the reference (gM) -/
def gC : gm_W := [.inl (10, [some 1, some 59, some 117, some 122, none]), .inl (9, [some 2, some 14, some 26, some 52, some 55, none, none, none, none, none, none, none, none, none]), .inl (0, [none, some 3, some 4, some 7, some 12, some 13, none, none, none, none, none, none, none, none, none, none, none, none]), .inr (0, 9), .inl (4, [some 5, some 6, none, none, none]), .inr (0, 16), .inr (0, 16), .inl (1, [some 8, some 9, some 10, some 11, none, none, none]), .inr (0, 512), .inr (1, 4), .inr (1, 4), .inr (0, 4), .inl (8, [none, none]), .inl (8, [none, none]), .inl (0, [none, some 15, some 16, some 19, some 24, some 25, none, none, none, none, none, none, none, none, none, none, none, none]), .inr (0, 9), .inl (4, [some 17, some 18, none, none, none]), .inr (0, 16), .inr (0, 16), .inl (1, [some 20, some 21, some 22, some 23, none, none, none]), .inr (0, 512), .inr (1, 4), .inr (1, 4), .inr (0, 4), .inl (8, [none, none]), .inl (8, [none, none]), .inl (3, [some 27, none]), .inr (2, 24), .inl (5, [none, none, none, none, none, none, none, none, none]), .inl (5, [none, none, none, none, none, none, none, none, none]), .inl (5, [none, none, none, none, none, none, none, none, none]), .inl (5, [none, none, none, none, none, none, none, none, none]), .inl (5, [none, none, none, none, none, none, none, none, none]), .inl (5, [none, none, none, none, none, none, none, none, none]), .inl (5, [none, none, none, none, none, none, none, none, none]), .inl (5, [none, none, none, none, none, none, none, none, none]), .inl (5, [none, none, none, none, none, none, none, none, none]), .inl (5, [none, none, none, none, none, none, none, none, none]), .inl (5, [none, none, none, none, none, none, none, none, none]), .inl (5, [none, none, none, none, none, none, none, none, none]), .inl (5, [none, none, none, none, none, none, none, none, none]), .inl (5, [none, none, none, none, none, none, none, none, none]), .inl (5, [none, none, none, none, none, none, none, none, none]), .inl (5, [none, none, none, none, none, none, none, none, none]), .inl (5, [none, none, none, none, none, none, none, none, none]), .inl (5, [none, none, none, none, none, none, none, none, none]), .inl (5, [none, none, none, none, none, none, none, none, none]), .inl (5, [none, none, none, none, none, none, none, none, none]), .inl (5, [none, none, none, none, none, none, none, none, none]), .inl (5, [none, none, none, none, none, none, none, none, none]), .inl (5, [none, none, none, none, none, none, none, none, none]), .inl (5, [none, none, none, none, none, none, none, none, none]), .inl (7, [some 53, some 54, none]), .inr (0, 16), .inr (1, 16), .inl (2, [some 56, some 57, some 58, none, none]), .inr (0, 30), .inr (0, 30), .inr (0, 30), .inl (9, [some 60, some 72, some 84, some 110, some 113, none, none, none, none, none, none, none, none, none]), .inl (0, [none, some 61, some 62, some 65, some 70, some 71, none, none, none, none, none, none, none, none, none, none, none, none]), .inr (0, 9), .inl (4, [some 63, some 64, none, none, none]), .inr (0, 16), .inr (0, 16), .inl (1, [some 66, some 67, some 68, some 69, none, none, none]), .inr (0, 512), .inr (1, 4), .inr (1, 4), .inr (0, 4), .inl (8, [none, none]), .inl (8, [none, none]), .inl (0, [none, some 73, some 74, some 77, some 82, some 83, none, none, none, none, none, none, none, none, none, none, none, none]), .inr (0, 9), .inl (4, [some 75, some 76, none, none, none]), .inr (0, 16), .inr (0, 16), .inl (1, [some 78, some 79, some 80, some 81, none, none, none]), .inr (0, 512), .inr (1, 4), .inr (1, 4), .inr (0, 4), .inl (8, [none, none]), .inl (8, [none, none]), .inl (3, [some 85, none]), .inr (2, 24), .inl (5, [none, none, none, none, none, none, none, none, none]), .inl (5, [none, none, none, none, none, none, none, none, none]), .inl (5, [none, none, none, none, none, none, none, none, none]), .inl (5, [none, none, none, none, none, none, none, none, none]), .inl (5, [none, none, none, none, none, none, none, none, none]), .inl (5, [none, none, none, none, none, none, none, none, none]), .inl (5, [none, none, none, none, none, none, none, none, none]), .inl (5, [none, none, none, none, none, none, none, none, none]), .inl (5, [none, none, none, none, none, none, none, none, none]), .inl (5, [none, none, none, none, none, none, none, none, none]), .inl (5, [none, none, none, none, none, none, none, none, none]), .inl (5, [none, none, none, none, none, none, none, none, none]), .inl (5, [none, none, none, none, none, none, none, none, none]), .inl (5, [none, none, none, none, none, none, none, none, none]), .inl (5, [none, none, none, none, none, none, none, none, none]), .inl (5, [none, none, none, none, none, none, none, none, none]), .inl (5, [none, none, none, none, none, none, none, none, none]), .inl (5, [none, none, none, none, none, none, none, none, none]), .inl (5, [none, none, none, none, none, none, none, none, none]), .inl (5, [none, none, none, none, none, none, none, none, none]), .inl (5, [none, none, none, none, none, none, none, none, none]), .inl (5, [none, none, none, none, none, none, none, none, none]), .inl (5, [none, none, none, none, none, none, none, none, none]), .inl (5, [none, none, none, none, none, none, none, none, none]), .inl (7, [some 111, some 112, none]), .inr (0, 16), .inr (1, 16), .inl (2, [some 114, some 115, some 116, none, none]), .inr (0, 30), .inr (0, 30), .inr (0, 30), .inl (6, [some 118, some 119, some 120, some 121, none, none, none]), .inr (0, 40), .inr (0, 40), .inr (0, 40), .inr (0, 40), .inl (5, [none, none, none, none, none, none, none, none, none])]
def gM : gm_W := [.inl (11, [none, none, none, none, none, none, none, none, none, some 1, some 2, some 3, some 4, some 5, some 6, some 7, some 8, some 9, some 10, some 11, some 12, some 13, some 14, some 15, some 16, some 17, some 18, some 19, some 20, some 21, some 22, some 23, some 24, some 25, some 26, none, none, none, none, some 27, some 28, some 29, none, some 30, some 31, none, some 32, some 33, some 34, some 35, some 36, none, none, none, some 37, none, none, none]), .inr (0, 2), .inr (0, 2), .inr (0, 2), .inr (0, 2), .inr (0, 2), .inr (0, 2), .inr (0, 2), .inr (0, 2), .inr (0, 2), .inr (0, 2), .inr (0, 2), .inr (0, 2), .inr (0, 2), .inr (0, 2), .inr (0, 2), .inr (0, 2), .inr (0, 2), .inr (0, 2), .inr (0, 2400), .inr (0, 32), .inr (0, 32), .inr (0, 32), .inr (0, 32), .inr (0, 8), .inr (0, 8), .inr (0, 8), .inr (0, 16), .inr (0, 16), .inr (0, 90), .inr (0, 216), .inr (0, 9), .inr (0, 18), .inr (0, 40), .inr (0, 20), .inr (0, 20), .inr (0, 20), .inr (0, 3400)]
theorem sC_0 : gC[0]? = some (.inl (10, [some 1, some 59, some 117, some 122, none])) := rfl
theorem sC_1 : gC[1]? = some (.inl (9, [some 2, some 14, some 26, some 52, some 55, none, none, none, none, none, none, none, none, none])) := rfl
theorem sC_2 : gC[2]? = some (.inl (0, [none, some 3, some 4, some 7, some 12, some 13, none, none, none, none, none, none, none, none, none, none, none, none])) := rfl
theorem sC_3 : gC[3]? = some (.inr (0, 9)) := rfl
theorem sC_4 : gC[4]? = some (.inl (4, [some 5, some 6, none, none, none])) := rfl
theorem sC_5 : gC[5]? = some (.inr (0, 16)) := rfl
theorem sC_6 : gC[6]? = some (.inr (0, 16)) := rfl
theorem sC_7 : gC[7]? = some (.inl (1, [some 8, some 9, some 10, some 11, none, none, none])) := rfl
theorem sC_8 : gC[8]? = some (.inr (0, 512)) := rfl
theorem sC_9 : gC[9]? = some (.inr (1, 4)) := rfl
theorem sC_10 : gC[10]? = some (.inr (1, 4)) := rfl
theorem sC_11 : gC[11]? = some (.inr (0, 4)) := rfl
theorem sC_12 : gC[12]? = some (.inl (8, [none, none])) := rfl
theorem sC_13 : gC[13]? = some (.inl (8, [none, none])) := rfl
theorem sC_14 : gC[14]? = some (.inl (0, [none, some 15, some 16, some 19, some 24, some 25, none, none, none, none, none, none, none, none, none, none, none, none])) := rfl
theorem sC_15 : gC[15]? = some (.inr (0, 9)) := rfl
theorem sC_16 : gC[16]? = some (.inl (4, [some 17, some 18, none, none, none])) := rfl
theorem sC_17 : gC[17]? = some (.inr (0, 16)) := rfl
theorem sC_18 : gC[18]? = some (.inr (0, 16)) := rfl
theorem sC_19 : gC[19]? = some (.inl (1, [some 20, some 21, some 22, some 23, none, none, none])) := rfl
theorem sC_20 : gC[20]? = some (.inr (0, 512)) := rfl
theorem sC_21 : gC[21]? = some (.inr (1, 4)) := rfl
theorem sC_22 : gC[22]? = some (.inr (1, 4)) := rfl
theorem sC_23 : gC[23]? = some (.inr (0, 4)) := rfl
theorem sC_24 : gC[24]? = some (.inl (8, [none, none])) := rfl
theorem sC_25 : gC[25]? = some (.inl (8, [none, none])) := rfl
theorem sC_26 : gC[26]? = some (.inl (3, [some 27, none])) := rfl
theorem sC_27 : gC[27]? = some (.inr (2, 24)) := rfl
theorem sC_28 : gC[28]? = some (.inl (5, [none, none, none, none, none, none, none, none, none])) := rfl
theorem sC_29 : gC[29]? = some (.inl (5, [none, none, none, none, none, none, none, none, none])) := rfl
theorem sC_30 : gC[30]? = some (.inl (5, [none, none, none, none, none, none, none, none, none])) := rfl
theorem sC_31 : gC[31]? = some (.inl (5, [none, none, none, none, none, none, none, none, none])) := rfl
theorem sC_32 : gC[32]? = some (.inl (5, [none, none, none, none, none, none, none, none, none])) := rfl
theorem sC_33 : gC[33]? = some (.inl (5, [none, none, none, none, none, none, none, none, none])) := rfl
theorem sC_34 : gC[34]? = some (.inl (5, [none, none, none, none, none, none, none, none, none])) := rfl
theorem sC_35 : gC[35]? = some (.inl (5, [none, none, none, none, none, none, none, none, none])) := rfl
theorem sC_36 : gC[36]? = some (.inl (5, [none, none, none, none, none, none, none, none, none])) := rfl
theorem sC_37 : gC[37]? = some (.inl (5, [none, none, none, none, none, none, none, none, none])) := rfl
theorem sC_38 : gC[38]? = some (.inl (5, [none, none, none, none, none, none, none, none, none])) := rfl
theorem sC_39 : gC[39]? = some (.inl (5, [none, none, none, none, none, none, none, none, none])) := rfl
theorem sC_40 : gC[40]? = some (.inl (5, [none, none, none, none, none, none, none, none, none])) := rfl
theorem sC_41 : gC[41]? = some (.inl (5, [none, none, none, none, none, none, none, none, none])) := rfl
theorem sC_42 : gC[42]? = some (.inl (5, [none, none, none, none, none, none, none, none, none])) := rfl
theorem sC_43 : gC[43]? = some (.inl (5, [none, none, none, none, none, none, none, none, none])) := rfl
theorem sC_44 : gC[44]? = some (.inl (5, [none, none, none, none, none, none, none, none, none])) := rfl
theorem sC_45 : gC[45]? = some (.inl (5, [none, none, none, none, none, none, none, none, none])) := rfl
theorem sC_46 : gC[46]? = some (.inl (5, [none, none, none, none, none, none, none, none, none])) := rfl
theorem sC_47 : gC[47]? = some (.inl (5, [none, none, none, none, none, none, none, none, none])) := rfl
theorem sC_48 : gC[48]? = some (.inl (5, [none, none, none, none, none, none, none, none, none])) := rfl
theorem sC_49 : gC[49]? = some (.inl (5, [none, none, none, none, none, none, none, none, none])) := rfl
theorem sC_50 : gC[50]? = some (.inl (5, [none, none, none, none, none, none, none, none, none])) := rfl
theorem sC_51 : gC[51]? = some (.inl (5, [none, none, none, none, none, none, none, none, none])) := rfl
theorem sC_52 : gC[52]? = some (.inl (7, [some 53, some 54, none])) := rfl
theorem sC_53 : gC[53]? = some (.inr (0, 16)) := rfl
theorem sC_54 : gC[54]? = some (.inr (1, 16)) := rfl
theorem sC_55 : gC[55]? = some (.inl (2, [some 56, some 57, some 58, none, none])) := rfl
theorem sC_56 : gC[56]? = some (.inr (0, 30)) := rfl
theorem sC_57 : gC[57]? = some (.inr (0, 30)) := rfl
theorem sC_58 : gC[58]? = some (.inr (0, 30)) := rfl
theorem sC_59 : gC[59]? = some (.inl (9, [some 60, some 72, some 84, some 110, some 113, none, none, none, none, none, none, none, none, none])) := rfl
theorem sC_60 : gC[60]? = some (.inl (0, [none, some 61, some 62, some 65, some 70, some 71, none, none, none, none, none, none, none, none, none, none, none, none])) := rfl
theorem sC_61 : gC[61]? = some (.inr (0, 9)) := rfl
theorem sC_62 : gC[62]? = some (.inl (4, [some 63, some 64, none, none, none])) := rfl
theorem sC_63 : gC[63]? = some (.inr (0, 16)) := rfl
theorem sC_64 : gC[64]? = some (.inr (0, 16)) := rfl
theorem sC_65 : gC[65]? = some (.inl (1, [some 66, some 67, some 68, some 69, none, none, none])) := rfl
theorem sC_66 : gC[66]? = some (.inr (0, 512)) := rfl
theorem sC_67 : gC[67]? = some (.inr (1, 4)) := rfl
theorem sC_68 : gC[68]? = some (.inr (1, 4)) := rfl
theorem sC_69 : gC[69]? = some (.inr (0, 4)) := rfl
theorem sC_70 : gC[70]? = some (.inl (8, [none, none])) := rfl
theorem sC_71 : gC[71]? = some (.inl (8, [none, none])) := rfl
theorem sC_72 : gC[72]? = some (.inl (0, [none, some 73, some 74, some 77, some 82, some 83, none, none, none, none, none, none, none, none, none, none, none, none])) := rfl
theorem sC_73 : gC[73]? = some (.inr (0, 9)) := rfl
theorem sC_74 : gC[74]? = some (.inl (4, [some 75, some 76, none, none, none])) := rfl
theorem sC_75 : gC[75]? = some (.inr (0, 16)) := rfl
theorem sC_76 : gC[76]? = some (.inr (0, 16)) := rfl
theorem sC_77 : gC[77]? = some (.inl (1, [some 78, some 79, some 80, some 81, none, none, none])) := rfl
theorem sC_78 : gC[78]? = some (.inr (0, 512)) := rfl
theorem sC_79 : gC[79]? = some (.inr (1, 4)) := rfl
theorem sC_80 : gC[80]? = some (.inr (1, 4)) := rfl
theorem sC_81 : gC[81]? = some (.inr (0, 4)) := rfl
theorem sC_82 : gC[82]? = some (.inl (8, [none, none])) := rfl
theorem sC_83 : gC[83]? = some (.inl (8, [none, none])) := rfl
theorem sC_84 : gC[84]? = some (.inl (3, [some 85, none])) := rfl
theorem sC_85 : gC[85]? = some (.inr (2, 24)) := rfl
theorem sC_86 : gC[86]? = some (.inl (5, [none, none, none, none, none, none, none, none, none])) := rfl
theorem sC_87 : gC[87]? = some (.inl (5, [none, none, none, none, none, none, none, none, none])) := rfl
theorem sC_88 : gC[88]? = some (.inl (5, [none, none, none, none, none, none, none, none, none])) := rfl
theorem sC_89 : gC[89]? = some (.inl (5, [none, none, none, none, none, none, none, none, none])) := rfl
theorem sC_90 : gC[90]? = some (.inl (5, [none, none, none, none, none, none, none, none, none])) := rfl
theorem sC_91 : gC[91]? = some (.inl (5, [none, none, none, none, none, none, none, none, none])) := rfl
theorem sC_92 : gC[92]? = some (.inl (5, [none, none, none, none, none, none, none, none, none])) := rfl
theorem sC_93 : gC[93]? = some (.inl (5, [none, none, none, none, none, none, none, none, none])) := rfl
theorem sC_94 : gC[94]? = some (.inl (5, [none, none, none, none, none, none, none, none, none])) := rfl
theorem sC_95 : gC[95]? = some (.inl (5, [none, none, none, none, none, none, none, none, none])) := rfl
theorem sC_96 : gC[96]? = some (.inl (5, [none, none, none, none, none, none, none, none, none])) := rfl
theorem sC_97 : gC[97]? = some (.inl (5, [none, none, none, none, none, none, none, none, none])) := rfl
theorem sC_98 : gC[98]? = some (.inl (5, [none, none, none, none, none, none, none, none, none])) := rfl
theorem sC_99 : gC[99]? = some (.inl (5, [none, none, none, none, none, none, none, none, none])) := rfl
theorem sC_100 : gC[100]? = some (.inl (5, [none, none, none, none, none, none, none, none, none])) := rfl
theorem sC_101 : gC[101]? = some (.inl (5, [none, none, none, none, none, none, none, none, none])) := rfl
theorem sC_102 : gC[102]? = some (.inl (5, [none, none, none, none, none, none, none, none, none])) := rfl
theorem sC_103 : gC[103]? = some (.inl (5, [none, none, none, none, none, none, none, none, none])) := rfl
theorem sC_104 : gC[104]? = some (.inl (5, [none, none, none, none, none, none, none, none, none])) := rfl
theorem sC_105 : gC[105]? = some (.inl (5, [none, none, none, none, none, none, none, none, none])) := rfl
theorem sC_106 : gC[106]? = some (.inl (5, [none, none, none, none, none, none, none, none, none])) := rfl
theorem sC_107 : gC[107]? = some (.inl (5, [none, none, none, none, none, none, none, none, none])) := rfl
theorem sC_108 : gC[108]? = some (.inl (5, [none, none, none, none, none, none, none, none, none])) := rfl
theorem sC_109 : gC[109]? = some (.inl (5, [none, none, none, none, none, none, none, none, none])) := rfl
theorem sC_110 : gC[110]? = some (.inl (7, [some 111, some 112, none])) := rfl
theorem sC_111 : gC[111]? = some (.inr (0, 16)) := rfl
theorem sC_112 : gC[112]? = some (.inr (1, 16)) := rfl
theorem sC_113 : gC[113]? = some (.inl (2, [some 114, some 115, some 116, none, none])) := rfl
theorem sC_114 : gC[114]? = some (.inr (0, 30)) := rfl
theorem sC_115 : gC[115]? = some (.inr (0, 30)) := rfl
theorem sC_116 : gC[116]? = some (.inr (0, 30)) := rfl
theorem sC_117 : gC[117]? = some (.inl (6, [some 118, some 119, some 120, some 121, none, none, none])) := rfl
theorem sC_118 : gC[118]? = some (.inr (0, 40)) := rfl
theorem sC_119 : gC[119]? = some (.inr (0, 40)) := rfl
theorem sC_120 : gC[120]? = some (.inr (0, 40)) := rfl
theorem sC_121 : gC[121]? = some (.inr (0, 40)) := rfl
theorem sC_122 : gC[122]? = some (.inl (5, [none, none, none, none, none, none, none, none, none])) := rfl
theorem sM_0 : gM[0]? = some (.inl (11, [none, none, none, none, none, none, none, none, none, some 1, some 2, some 3, some 4, some 5, some 6, some 7, some 8, some 9, some 10, some 11, some 12, some 13, some 14, some 15, some 16, some 17, some 18, some 19, some 20, some 21, some 22, some 23, some 24, some 25, some 26, none, none, none, none, some 27, some 28, some 29, none, some 30, some 31, none, some 32, some 33, some 34, some 35, some 36, none, none, none, some 37, none, none, none])) := rfl
theorem sM_1 : gM[1]? = some (.inr (0, 2)) := rfl
theorem sM_2 : gM[2]? = some (.inr (0, 2)) := rfl
theorem sM_3 : gM[3]? = some (.inr (0, 2)) := rfl
theorem sM_4 : gM[4]? = some (.inr (0, 2)) := rfl
theorem sM_5 : gM[5]? = some (.inr (0, 2)) := rfl
theorem sM_6 : gM[6]? = some (.inr (0, 2)) := rfl
theorem sM_7 : gM[7]? = some (.inr (0, 2)) := rfl
theorem sM_8 : gM[8]? = some (.inr (0, 2)) := rfl
theorem sM_9 : gM[9]? = some (.inr (0, 2)) := rfl
theorem sM_10 : gM[10]? = some (.inr (0, 2)) := rfl
theorem sM_11 : gM[11]? = some (.inr (0, 2)) := rfl
theorem sM_12 : gM[12]? = some (.inr (0, 2)) := rfl
theorem sM_13 : gM[13]? = some (.inr (0, 2)) := rfl
theorem sM_14 : gM[14]? = some (.inr (0, 2)) := rfl
theorem sM_15 : gM[15]? = some (.inr (0, 2)) := rfl
theorem sM_16 : gM[16]? = some (.inr (0, 2)) := rfl
theorem sM_17 : gM[17]? = some (.inr (0, 2)) := rfl
theorem sM_18 : gM[18]? = some (.inr (0, 2)) := rfl
theorem sM_19 : gM[19]? = some (.inr (0, 2400)) := rfl
theorem sM_20 : gM[20]? = some (.inr (0, 32)) := rfl
theorem sM_21 : gM[21]? = some (.inr (0, 32)) := rfl
theorem sM_22 : gM[22]? = some (.inr (0, 32)) := rfl
theorem sM_23 : gM[23]? = some (.inr (0, 32)) := rfl
theorem sM_24 : gM[24]? = some (.inr (0, 8)) := rfl
theorem sM_25 : gM[25]? = some (.inr (0, 8)) := rfl
theorem sM_26 : gM[26]? = some (.inr (0, 8)) := rfl
theorem sM_27 : gM[27]? = some (.inr (0, 16)) := rfl
theorem sM_28 : gM[28]? = some (.inr (0, 16)) := rfl
theorem sM_29 : gM[29]? = some (.inr (0, 90)) := rfl
theorem sM_30 : gM[30]? = some (.inr (0, 216)) := rfl
theorem sM_31 : gM[31]? = some (.inr (0, 9)) := rfl
theorem sM_32 : gM[32]? = some (.inr (0, 18)) := rfl
theorem sM_33 : gM[33]? = some (.inr (0, 40)) := rfl
theorem sM_34 : gM[34]? = some (.inr (0, 20)) := rfl
theorem sM_35 : gM[35]? = some (.inr (0, 20)) := rfl
theorem sM_36 : gM[36]? = some (.inr (0, 20)) := rfl
theorem sM_37 : gM[37]? = some (.inr (0, 3400)) := rfl
theorem sC_E_0 {p : Nat} (h : p = 2 ∨ p = 14 ∨ p = 60 ∨ p = 72) : gC[p]? = some (.inl (0, [none, some (p + 1), some (p + 2), some (p + 5), some (p + 10), some (p + 11), none, none, none, none, none, none, none, none, none, none, none, none])) := by rcases h with rfl | rfl | rfl | rfl <;> rfl
theorem sC_E_1 {p : Nat} (h : p = 2 ∨ p = 14 ∨ p = 60 ∨ p = 72) : gC[p + 1]? = some (.inr (0, 9)) := by rcases h with rfl | rfl | rfl | rfl <;> rfl
theorem sC_E_2 {p : Nat} (h : p = 2 ∨ p = 14 ∨ p = 60 ∨ p = 72) : gC[p + 2]? = some (.inl (4, [some (p + 3), some (p + 4), none, none, none])) := by rcases h with rfl | rfl | rfl | rfl <;> rfl
theorem sC_E_3 {p : Nat} (h : p = 2 ∨ p = 14 ∨ p = 60 ∨ p = 72) : gC[p + 3]? = some (.inr (0, 16)) := by rcases h with rfl | rfl | rfl | rfl <;> rfl
theorem sC_E_4 {p : Nat} (h : p = 2 ∨ p = 14 ∨ p = 60 ∨ p = 72) : gC[p + 4]? = some (.inr (0, 16)) := by rcases h with rfl | rfl | rfl | rfl <;> rfl
theorem sC_E_5 {p : Nat} (h : p = 2 ∨ p = 14 ∨ p = 60 ∨ p = 72) : gC[p + 5]? = some (.inl (1, [some (p + 6), some (p + 7), some (p + 8), some (p + 9), none, none, none])) := by rcases h with rfl | rfl | rfl | rfl <;> rfl
theorem sC_E_6 {p : Nat} (h : p = 2 ∨ p = 14 ∨ p = 60 ∨ p = 72) : gC[p + 6]? = some (.inr (0, 512)) := by rcases h with rfl | rfl | rfl | rfl <;> rfl
theorem sC_E_7 {p : Nat} (h : p = 2 ∨ p = 14 ∨ p = 60 ∨ p = 72) : gC[p + 7]? = some (.inr (1, 4)) := by rcases h with rfl | rfl | rfl | rfl <;> rfl
theorem sC_E_8 {p : Nat} (h : p = 2 ∨ p = 14 ∨ p = 60 ∨ p = 72) : gC[p + 8]? = some (.inr (1, 4)) := by rcases h with rfl | rfl | rfl | rfl <;> rfl
theorem sC_E_9 {p : Nat} (h : p = 2 ∨ p = 14 ∨ p = 60 ∨ p = 72) : gC[p + 9]? = some (.inr (0, 4)) := by rcases h with rfl | rfl | rfl | rfl <;> rfl
theorem sC_E_10 {p : Nat} (h : p = 2 ∨ p = 14 ∨ p = 60 ∨ p = 72) : gC[p + 10]? = some (.inl (8, [none, none])) := by rcases h with rfl | rfl | rfl | rfl <;> rfl
theorem sC_E_11 {p : Nat} (h : p = 2 ∨ p = 14 ∨ p = 60 ∨ p = 72) : gC[p + 11]? = some (.inl (8, [none, none])) := by rcases h with rfl | rfl | rfl | rfl <;> rfl
theorem sC_Ob_0 {p : Nat} (h : p = 4 ∨ p = 16 ∨ p = 62 ∨ p = 74) : gC[p]? = some (.inl (4, [some (p + 1), some (p + 2), none, none, none])) := by rcases h with rfl | rfl | rfl | rfl <;> rfl
theorem sC_Ob_1 {p : Nat} (h : p = 4 ∨ p = 16 ∨ p = 62 ∨ p = 74) : gC[p + 1]? = some (.inr (0, 16)) := by rcases h with rfl | rfl | rfl | rfl <;> rfl
theorem sC_Ob_2 {p : Nat} (h : p = 4 ∨ p = 16 ∨ p = 62 ∨ p = 74) : gC[p + 2]? = some (.inr (0, 16)) := by rcases h with rfl | rfl | rfl | rfl <;> rfl
theorem sC_Ib_0 {p : Nat} (h : p = 7 ∨ p = 19 ∨ p = 65 ∨ p = 77) : gC[p]? = some (.inl (1, [some (p + 1), some (p + 2), some (p + 3), some (p + 4), none, none, none])) := by rcases h with rfl | rfl | rfl | rfl <;> rfl
theorem sC_Ib_1 {p : Nat} (h : p = 7 ∨ p = 19 ∨ p = 65 ∨ p = 77) : gC[p + 1]? = some (.inr (0, 512)) := by rcases h with rfl | rfl | rfl | rfl <;> rfl
theorem sC_Ib_2 {p : Nat} (h : p = 7 ∨ p = 19 ∨ p = 65 ∨ p = 77) : gC[p + 2]? = some (.inr (1, 4)) := by rcases h with rfl | rfl | rfl | rfl <;> rfl
theorem sC_Ib_3 {p : Nat} (h : p = 7 ∨ p = 19 ∨ p = 65 ∨ p = 77) : gC[p + 3]? = some (.inr (1, 4)) := by rcases h with rfl | rfl | rfl | rfl <;> rfl
theorem sC_Ib_4 {p : Nat} (h : p = 7 ∨ p = 19 ∨ p = 65 ∨ p = 77) : gC[p + 4]? = some (.inr (0, 4)) := by rcases h with rfl | rfl | rfl | rfl <;> rfl
theorem sC_Wi_0 {p : Nat} (h : p = 12 ∨ p = 13 ∨ p = 24 ∨ p = 25 ∨ p = 70 ∨ p = 71 ∨ p = 82 ∨ p = 83) : gC[p]? = some (.inl (8, [none, none])) := by rcases h with rfl | rfl | rfl | rfl | rfl | rfl | rfl | rfl <;> rfl
theorem sC_pkA : ∀ k : Nat, k < 24 → gC[28 + k]? = some (.inl (5, [none, none, none, none, none, none, none, none, none]))
  | 0, _ => rfl
  | 1, _ => rfl
  | 2, _ => rfl
  | 3, _ => rfl
  | 4, _ => rfl
  | 5, _ => rfl
  | 6, _ => rfl
  | 7, _ => rfl
  | 8, _ => rfl
  | 9, _ => rfl
  | 10, _ => rfl
  | 11, _ => rfl
  | 12, _ => rfl
  | 13, _ => rfl
  | 14, _ => rfl
  | 15, _ => rfl
  | 16, _ => rfl
  | 17, _ => rfl
  | 18, _ => rfl
  | 19, _ => rfl
  | 20, _ => rfl
  | 21, _ => rfl
  | 22, _ => rfl
  | 23, _ => rfl
  | k + 24, h => absurd h (by omega)
theorem sC_pkB : ∀ k : Nat, k < 24 → gC[86 + k]? = some (.inl (5, [none, none, none, none, none, none, none, none, none]))
  | 0, _ => rfl
  | 1, _ => rfl
  | 2, _ => rfl
  | 3, _ => rfl
  | 4, _ => rfl
  | 5, _ => rfl
  | 6, _ => rfl
  | 7, _ => rfl
  | 8, _ => rfl
  | 9, _ => rfl
  | 10, _ => rfl
  | 11, _ => rfl
  | 12, _ => rfl
  | 13, _ => rfl
  | 14, _ => rfl
  | 15, _ => rfl
  | 16, _ => rfl
  | 17, _ => rfl
  | 18, _ => rfl
  | 19, _ => rfl
  | 20, _ => rfl
  | 21, _ => rfl
  | 22, _ => rfl
  | 23, _ => rfl
  | k + 24, h => absurd h (by omega)
theorem sC_Pk_0 {p : Nat} (h : (28 ≤ p ∧ p < 52) ∨ (86 ≤ p ∧ p < 110) ∨ p = 122) : gC[p]? = some (.inl (5, [none, none, none, none, none, none, none, none, none])) := by
  rcases h with h | h | rfl
  · obtain ⟨k, rfl⟩ : ∃ k, p = 28 + k := ⟨p - 28, by omega⟩
    exact sC_pkA k (by omega)
  · obtain ⟨k, rfl⟩ : ∃ k, p = 86 + k := ⟨p - 86, by omega⟩
    exact sC_pkB k (by omega)
  · rfl
theorem sC_Ne_0 {p : Nat} (h : p = 26 ∨ p = 84) : gC[p]? = some (.inl (3, [some (p + 1), none])) := by rcases h with rfl | rfl <;> rfl
theorem sC_Ne_1 {p : Nat} (h : p = 26 ∨ p = 84) : gC[p + 1]? = some (.inr (2, 24)) := by rcases h with rfl | rfl <;> rfl
theorem sC_Ti_0 {p : Nat} (h : p = 52 ∨ p = 110) : gC[p]? = some (.inl (7, [some (p + 1), some (p + 2), none])) := by rcases h with rfl | rfl <;> rfl
theorem sC_Ti_1 {p : Nat} (h : p = 52 ∨ p = 110) : gC[p + 1]? = some (.inr (0, 16)) := by rcases h with rfl | rfl <;> rfl
theorem sC_Ti_2 {p : Nat} (h : p = 52 ∨ p = 110) : gC[p + 2]? = some (.inr (1, 16)) := by rcases h with rfl | rfl <;> rfl
theorem sC_Lo_0 {p : Nat} (h : p = 55 ∨ p = 113) : gC[p]? = some (.inl (2, [some (p + 1), some (p + 2), some (p + 3), none, none])) := by rcases h with rfl | rfl <;> rfl
theorem sC_Lo_1 {p : Nat} (h : p = 55 ∨ p = 113) : gC[p + 1]? = some (.inr (0, 30)) := by rcases h with rfl | rfl <;> rfl
theorem sC_Lo_2 {p : Nat} (h : p = 55 ∨ p = 113) : gC[p + 2]? = some (.inr (0, 30)) := by rcases h with rfl | rfl <;> rfl
theorem sC_Lo_3 {p : Nat} (h : p = 55 ∨ p = 113) : gC[p + 3]? = some (.inr (0, 30)) := by rcases h with rfl | rfl <;> rfl
theorem sC_W_0 {p : Nat} (h : p = 1 ∨ p = 59) : gC[p]? = some (.inl (9, [some (p + 1), some (p + 13), some (p + 25), some (p + 51), some (p + 54), none, none, none, none, none, none, none, none, none])) := by rcases h with rfl | rfl <;> rfl
theorem sC_W_1 {p : Nat} (h : p = 1 ∨ p = 59) : gC[p + 1]? = some (.inl (0, [none, some (p + 2), some (p + 3), some (p + 6), some (p + 11), some (p + 12), none, none, none, none, none, none, none, none, none, none, none, none])) := by rcases h with rfl | rfl <;> rfl
theorem sC_W_2 {p : Nat} (h : p = 1 ∨ p = 59) : gC[p + 2]? = some (.inr (0, 9)) := by rcases h with rfl | rfl <;> rfl
theorem sC_W_3 {p : Nat} (h : p = 1 ∨ p = 59) : gC[p + 3]? = some (.inl (4, [some (p + 4), some (p + 5), none, none, none])) := by rcases h with rfl | rfl <;> rfl
theorem sC_W_4 {p : Nat} (h : p = 1 ∨ p = 59) : gC[p + 4]? = some (.inr (0, 16)) := by rcases h with rfl | rfl <;> rfl
theorem sC_W_5 {p : Nat} (h : p = 1 ∨ p = 59) : gC[p + 5]? = some (.inr (0, 16)) := by rcases h with rfl | rfl <;> rfl
theorem sC_W_6 {p : Nat} (h : p = 1 ∨ p = 59) : gC[p + 6]? = some (.inl (1, [some (p + 7), some (p + 8), some (p + 9), some (p + 10), none, none, none])) := by rcases h with rfl | rfl <;> rfl
theorem sC_W_7 {p : Nat} (h : p = 1 ∨ p = 59) : gC[p + 7]? = some (.inr (0, 512)) := by rcases h with rfl | rfl <;> rfl
theorem sC_W_8 {p : Nat} (h : p = 1 ∨ p = 59) : gC[p + 8]? = some (.inr (1, 4)) := by rcases h with rfl | rfl <;> rfl
theorem sC_W_9 {p : Nat} (h : p = 1 ∨ p = 59) : gC[p + 9]? = some (.inr (1, 4)) := by rcases h with rfl | rfl <;> rfl
theorem sC_W_10 {p : Nat} (h : p = 1 ∨ p = 59) : gC[p + 10]? = some (.inr (0, 4)) := by rcases h with rfl | rfl <;> rfl
theorem sC_W_11 {p : Nat} (h : p = 1 ∨ p = 59) : gC[p + 11]? = some (.inl (8, [none, none])) := by rcases h with rfl | rfl <;> rfl
theorem sC_W_12 {p : Nat} (h : p = 1 ∨ p = 59) : gC[p + 12]? = some (.inl (8, [none, none])) := by rcases h with rfl | rfl <;> rfl
theorem sC_W_13 {p : Nat} (h : p = 1 ∨ p = 59) : gC[p + 13]? = some (.inl (0, [none, some (p + 14), some (p + 15), some (p + 18), some (p + 23), some (p + 24), none, none, none, none, none, none, none, none, none, none, none, none])) := by rcases h with rfl | rfl <;> rfl
theorem sC_W_14 {p : Nat} (h : p = 1 ∨ p = 59) : gC[p + 14]? = some (.inr (0, 9)) := by rcases h with rfl | rfl <;> rfl
theorem sC_W_15 {p : Nat} (h : p = 1 ∨ p = 59) : gC[p + 15]? = some (.inl (4, [some (p + 16), some (p + 17), none, none, none])) := by rcases h with rfl | rfl <;> rfl
theorem sC_W_16 {p : Nat} (h : p = 1 ∨ p = 59) : gC[p + 16]? = some (.inr (0, 16)) := by rcases h with rfl | rfl <;> rfl
theorem sC_W_17 {p : Nat} (h : p = 1 ∨ p = 59) : gC[p + 17]? = some (.inr (0, 16)) := by rcases h with rfl | rfl <;> rfl
theorem sC_W_18 {p : Nat} (h : p = 1 ∨ p = 59) : gC[p + 18]? = some (.inl (1, [some (p + 19), some (p + 20), some (p + 21), some (p + 22), none, none, none])) := by rcases h with rfl | rfl <;> rfl
theorem sC_W_19 {p : Nat} (h : p = 1 ∨ p = 59) : gC[p + 19]? = some (.inr (0, 512)) := by rcases h with rfl | rfl <;> rfl
theorem sC_W_20 {p : Nat} (h : p = 1 ∨ p = 59) : gC[p + 20]? = some (.inr (1, 4)) := by rcases h with rfl | rfl <;> rfl
theorem sC_W_21 {p : Nat} (h : p = 1 ∨ p = 59) : gC[p + 21]? = some (.inr (1, 4)) := by rcases h with rfl | rfl <;> rfl
theorem sC_W_22 {p : Nat} (h : p = 1 ∨ p = 59) : gC[p + 22]? = some (.inr (0, 4)) := by rcases h with rfl | rfl <;> rfl
theorem sC_W_23 {p : Nat} (h : p = 1 ∨ p = 59) : gC[p + 23]? = some (.inl (8, [none, none])) := by rcases h with rfl | rfl <;> rfl
theorem sC_W_24 {p : Nat} (h : p = 1 ∨ p = 59) : gC[p + 24]? = some (.inl (8, [none, none])) := by rcases h with rfl | rfl <;> rfl
theorem sC_W_25 {p : Nat} (h : p = 1 ∨ p = 59) : gC[p + 25]? = some (.inl (3, [some (p + 26), none])) := by rcases h with rfl | rfl <;> rfl
theorem sC_W_26 {p : Nat} (h : p = 1 ∨ p = 59) : gC[p + 26]? = some (.inr (2, 24)) := by rcases h with rfl | rfl <;> rfl
theorem sC_W_27 {p : Nat} (h : p = 1 ∨ p = 59) : gC[p + 27]? = some (.inl (5, [none, none, none, none, none, none, none, none, none])) := by rcases h with rfl | rfl <;> rfl
theorem sC_W_28 {p : Nat} (h : p = 1 ∨ p = 59) : gC[p + 28]? = some (.inl (5, [none, none, none, none, none, none, none, none, none])) := by rcases h with rfl | rfl <;> rfl
theorem sC_W_29 {p : Nat} (h : p = 1 ∨ p = 59) : gC[p + 29]? = some (.inl (5, [none, none, none, none, none, none, none, none, none])) := by rcases h with rfl | rfl <;> rfl
theorem sC_W_30 {p : Nat} (h : p = 1 ∨ p = 59) : gC[p + 30]? = some (.inl (5, [none, none, none, none, none, none, none, none, none])) := by rcases h with rfl | rfl <;> rfl
theorem sC_W_31 {p : Nat} (h : p = 1 ∨ p = 59) : gC[p + 31]? = some (.inl (5, [none, none, none, none, none, none, none, none, none])) := by rcases h with rfl | rfl <;> rfl
theorem sC_W_32 {p : Nat} (h : p = 1 ∨ p = 59) : gC[p + 32]? = some (.inl (5, [none, none, none, none, none, none, none, none, none])) := by rcases h with rfl | rfl <;> rfl
theorem sC_W_33 {p : Nat} (h : p = 1 ∨ p = 59) : gC[p + 33]? = some (.inl (5, [none, none, none, none, none, none, none, none, none])) := by rcases h with rfl | rfl <;> rfl
theorem sC_W_34 {p : Nat} (h : p = 1 ∨ p = 59) : gC[p + 34]? = some (.inl (5, [none, none, none, none, none, none, none, none, none])) := by rcases h with rfl | rfl <;> rfl
theorem sC_W_35 {p : Nat} (h : p = 1 ∨ p = 59) : gC[p + 35]? = some (.inl (5, [none, none, none, none, none, none, none, none, none])) := by rcases h with rfl | rfl <;> rfl
theorem sC_W_36 {p : Nat} (h : p = 1 ∨ p = 59) : gC[p + 36]? = some (.inl (5, [none, none, none, none, none, none, none, none, none])) := by rcases h with rfl | rfl <;> rfl
theorem sC_W_37 {p : Nat} (h : p = 1 ∨ p = 59) : gC[p + 37]? = some (.inl (5, [none, none, none, none, none, none, none, none, none])) := by rcases h with rfl | rfl <;> rfl
theorem sC_W_38 {p : Nat} (h : p = 1 ∨ p = 59) : gC[p + 38]? = some (.inl (5, [none, none, none, none, none, none, none, none, none])) := by rcases h with rfl | rfl <;> rfl
theorem sC_W_39 {p : Nat} (h : p = 1 ∨ p = 59) : gC[p + 39]? = some (.inl (5, [none, none, none, none, none, none, none, none, none])) := by rcases h with rfl | rfl <;> rfl
theorem sC_W_40 {p : Nat} (h : p = 1 ∨ p = 59) : gC[p + 40]? = some (.inl (5, [none, none, none, none, none, none, none, none, none])) := by rcases h with rfl | rfl <;> rfl
theorem sC_W_41 {p : Nat} (h : p = 1 ∨ p = 59) : gC[p + 41]? = some (.inl (5, [none, none, none, none, none, none, none, none, none])) := by rcases h with rfl | rfl <;> rfl
theorem sC_W_42 {p : Nat} (h : p = 1 ∨ p = 59) : gC[p + 42]? = some (.inl (5, [none, none, none, none, none, none, none, none, none])) := by rcases h with rfl | rfl <;> rfl
theorem sC_W_43 {p : Nat} (h : p = 1 ∨ p = 59) : gC[p + 43]? = some (.inl (5, [none, none, none, none, none, none, none, none, none])) := by rcases h with rfl | rfl <;> rfl
theorem sC_W_44 {p : Nat} (h : p = 1 ∨ p = 59) : gC[p + 44]? = some (.inl (5, [none, none, none, none, none, none, none, none, none])) := by rcases h with rfl | rfl <;> rfl
theorem sC_W_45 {p : Nat} (h : p = 1 ∨ p = 59) : gC[p + 45]? = some (.inl (5, [none, none, none, none, none, none, none, none, none])) := by rcases h with rfl | rfl <;> rfl
theorem sC_W_46 {p : Nat} (h : p = 1 ∨ p = 59) : gC[p + 46]? = some (.inl (5, [none, none, none, none, none, none, none, none, none])) := by rcases h with rfl | rfl <;> rfl
theorem sC_W_47 {p : Nat} (h : p = 1 ∨ p = 59) : gC[p + 47]? = some (.inl (5, [none, none, none, none, none, none, none, none, none])) := by rcases h with rfl | rfl <;> rfl
theorem sC_W_48 {p : Nat} (h : p = 1 ∨ p = 59) : gC[p + 48]? = some (.inl (5, [none, none, none, none, none, none, none, none, none])) := by rcases h with rfl | rfl <;> rfl
theorem sC_W_49 {p : Nat} (h : p = 1 ∨ p = 59) : gC[p + 49]? = some (.inl (5, [none, none, none, none, none, none, none, none, none])) := by rcases h with rfl | rfl <;> rfl
theorem sC_W_50 {p : Nat} (h : p = 1 ∨ p = 59) : gC[p + 50]? = some (.inl (5, [none, none, none, none, none, none, none, none, none])) := by rcases h with rfl | rfl <;> rfl
theorem sC_W_51 {p : Nat} (h : p = 1 ∨ p = 59) : gC[p + 51]? = some (.inl (7, [some (p + 52), some (p + 53), none])) := by rcases h with rfl | rfl <;> rfl
theorem sC_W_52 {p : Nat} (h : p = 1 ∨ p = 59) : gC[p + 52]? = some (.inr (0, 16)) := by rcases h with rfl | rfl <;> rfl
theorem sC_W_53 {p : Nat} (h : p = 1 ∨ p = 59) : gC[p + 53]? = some (.inr (1, 16)) := by rcases h with rfl | rfl <;> rfl
theorem sC_W_54 {p : Nat} (h : p = 1 ∨ p = 59) : gC[p + 54]? = some (.inl (2, [some (p + 55), some (p + 56), some (p + 57), none, none])) := by rcases h with rfl | rfl <;> rfl
theorem sC_W_55 {p : Nat} (h : p = 1 ∨ p = 59) : gC[p + 55]? = some (.inr (0, 30)) := by rcases h with rfl | rfl <;> rfl
theorem sC_W_56 {p : Nat} (h : p = 1 ∨ p = 59) : gC[p + 56]? = some (.inr (0, 30)) := by rcases h with rfl | rfl <;> rfl
theorem sC_W_57 {p : Nat} (h : p = 1 ∨ p = 59) : gC[p + 57]? = some (.inr (0, 30)) := by rcases h with rfl | rfl <;> rfl
