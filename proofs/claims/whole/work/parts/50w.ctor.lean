/-! THE WORDS of the constructors and of the law: nest links, objects made, arrays made -/
def kn_dv (l : List (Option Nat)) : List Value := l.map (fun o => match o with | none => .int 0 | some _ => .null)
theorem lw_t1 {w : Cond} (h : w ∈ tables_1_1) : w ∈ lw_tbl := List.mem_append_right _ (List.mem_append_left _ h)
theorem lw_t2 {w : Cond} (h : w ∈ tables_1_2) : w ∈ lw_tbl := List.mem_append_right _ (List.mem_append_right _ (List.mem_append_left _ h))
theorem lw_t3 {w : Cond} (h : w ∈ tables_1_3) : w ∈ lw_tbl := List.mem_append_right _ (List.mem_append_right _ (List.mem_append_right _ (List.mem_append_left _ h)))
theorem lw_t4 {w : Cond} (h : w ∈ tables_1_4) : w ∈ lw_tbl := List.mem_append_right _ (List.mem_append_right _ (List.mem_append_right _ (List.mem_append_right _ (List.mem_append_left _ h))))
theorem lw_t5 {w : Cond} (h : w ∈ tables_1_5) : w ∈ lw_tbl := List.mem_append_right _ (List.mem_append_right _ (List.mem_append_right _ (List.mem_append_right _ (List.mem_append_right _ (List.mem_append_left _ h)))))
theorem lw_t6 {w : Cond} (h : w ∈ tables_1_6) : w ∈ lw_tbl := List.mem_append_right _ (List.mem_append_right _ (List.mem_append_right _ (List.mem_append_right _ (List.mem_append_right _ (List.mem_append_right _ (h))))))
def kn_links : List Cond := [Cond.methodLinkNest RX10 9 yX9_init "SessionSimulator", Cond.methodLinkNest RX0 17 yX4_init "SessionSimulator", Cond.methodLinkNest RX0 24 yX1_init "SessionSimulator", Cond.methodLinkNest RX0 31 yX8_init "SessionSimulator", Cond.methodLinkNest RX3 17 yX5_init "SessionSimulator", Cond.methodLinkNest RX9 30 yX7_init "SessionSimulator", Cond.methodLinkNest RX9 37 yX2_init "SessionSimulator", Cond.methodLinkNest RX10 21 yX6_init "SessionSimulator", Cond.methodLinkNest RX10 28 yX5_init "SessionSimulator"]
theorem kn_links_t : ∀ w ∈ kn_links, w.onTables = true := by
  intro w hw
  simp only [kn_links, List.mem_cons, List.not_mem_nil, or_false] at hw
  rcases hw with rfl | rfl | rfl | rfl | rfl | rfl | rfl | rfl | rfl <;> rfl
theorem kn_links_in : ∀ w ∈ kn_links, w ∈ lw_tbl := by
  intro w hw
  simp only [kn_links, List.mem_cons, List.not_mem_nil, or_false] at hw
  rcases hw with rfl | rfl | rfl | rfl | rfl | rfl | rfl | rfl | rfl
  · exact lw_t1 (List.mem_of_getElem? (i := 25) (by decide +kernel))
  · exact lw_t1 (List.mem_of_getElem? (i := 37) (by decide +kernel))
  · exact lw_t1 (List.mem_of_getElem? (i := 66) (by decide +kernel))
  · exact lw_t1 (List.mem_of_getElem? (i := 99) (by decide +kernel))
  · exact lw_t1 (List.mem_of_getElem? (i := 191) (by decide +kernel))
  · exact lw_t2 (List.mem_of_getElem? (i := 2) (by decide +kernel))
  · exact lw_t2 (List.mem_of_getElem? (i := 19) (by decide +kernel))
  · exact lw_t2 (List.mem_of_getElem? (i := 98) (by decide +kernel))
  · exact lw_t2 (List.mem_of_getElem? (i := 131) (by decide +kernel))
theorem kn_links_w : ∀ w ∈ kn_links, ∀ s U : State, s.WarmedH U.vm → va_Nw w s → va_Nw w U := by
  intro w hw s U hW h
  simp only [kn_links, List.mem_cons, List.not_mem_nil, or_false] at hw
  rcases hw with rfl | rfl | rfl | rfl | rfl | rfl | rfl | rfl | rfl <;> exact va_Nw.warmM hW h
theorem nlX10_9 : Cond.methodLinkNest RX10 9 yX9_init "SessionSimulator" ∈ kn_links := List.mem_of_getElem? (i := 0) rfl
theorem nlX0_17 : Cond.methodLinkNest RX0 17 yX4_init "SessionSimulator" ∈ kn_links := List.mem_of_getElem? (i := 1) rfl
theorem nlX0_24 : Cond.methodLinkNest RX0 24 yX1_init "SessionSimulator" ∈ kn_links := List.mem_of_getElem? (i := 2) rfl
theorem nlX0_31 : Cond.methodLinkNest RX0 31 yX8_init "SessionSimulator" ∈ kn_links := List.mem_of_getElem? (i := 3) rfl
theorem nlX3_17 : Cond.methodLinkNest RX3 17 yX5_init "SessionSimulator" ∈ kn_links := List.mem_of_getElem? (i := 4) rfl
theorem nlX9_30 : Cond.methodLinkNest RX9 30 yX7_init "SessionSimulator" ∈ kn_links := List.mem_of_getElem? (i := 5) rfl
theorem nlX9_37 : Cond.methodLinkNest RX9 37 yX2_init "SessionSimulator" ∈ kn_links := List.mem_of_getElem? (i := 6) rfl
theorem nlX10_21 : Cond.methodLinkNest RX10 21 yX6_init "SessionSimulator" ∈ kn_links := List.mem_of_getElem? (i := 7) rfl
theorem nlX10_28 : Cond.methodLinkNest RX10 28 yX5_init "SessionSimulator" ∈ kn_links := List.mem_of_getElem? (i := 8) rfl
theorem kn_over : Cond.arrayOver (.object RX5) ∈ lw_tbl := lw_t1 (List.mem_of_getElem? (i := 189) (by decide +kernel))
theorem kn_obX10 : Cond.methodLink RX10 1 objectInit ∈ gm_TB := gm_t1 (List.mem_of_getElem? (i := 20) (by decide +kernel)) rfl
theorem kn_obX9 : Cond.methodLink RX9 1 objectInit ∈ gm_TB := gm_t1 (List.mem_of_getElem? (i := 28) (by decide +kernel)) rfl
theorem kn_obX0 : Cond.methodLink RX0 3 objectInit ∈ gm_TB := gm_t1 (List.mem_of_getElem? (i := 34) (by decide +kernel)) rfl
theorem kn_obX4 : Cond.methodLink RX4 3 objectInit ∈ gm_TB := gm_t1 (List.mem_of_getElem? (i := 40) (by decide +kernel)) rfl
theorem kn_arr_int : Cond.arrayClass FieldType.int ∈ gm_TB := gm_t1 (List.mem_of_getElem? (i := 63) (by decide +kernel)) rfl
theorem kn_obX1 : Cond.methodLink RX1 3 objectInit ∈ gm_TB := gm_t1 (List.mem_of_getElem? (i := 69) (by decide +kernel)) rfl
theorem kn_arr_boolean : Cond.arrayClass FieldType.boolean ∈ gm_TB := gm_t1 (List.mem_of_getElem? (i := 96) (by decide +kernel)) rfl
theorem kn_obX8 : Cond.methodLink RX8 3 objectInit ∈ gm_TB := gm_t1 (List.mem_of_getElem? (i := 102) (by decide +kernel)) rfl
theorem kn_obX3 : Cond.methodLink RX3 3 objectInit ∈ gm_TB := gm_t1 (List.mem_of_getElem? (i := 187) (by decide +kernel)) rfl
theorem kn_obX5 : Cond.methodLink RX5 3 objectInit ∈ gm_TB := gm_t1 (List.mem_of_getElem? (i := 194) (by decide +kernel)) rfl
theorem kn_obX7 : Cond.methodLink RX7 3 objectInit ∈ gm_TB := gm_t2 (List.mem_of_getElem? (i := 5) (by decide +kernel)) rfl
theorem kn_obX2 : Cond.methodLink RX2 3 objectInit ∈ gm_TB := gm_t2 (List.mem_of_getElem? (i := 22) (by decide +kernel)) rfl
theorem kn_obX6 : Cond.methodLink RX6 3 objectInit ∈ gm_TB := gm_t2 (List.mem_of_getElem? (i := 101) (by decide +kernel)) rfl
theorem kn_obX11 : Cond.methodLink RX11 1 objectInit ∈ gm_TB := gm_t4 (List.mem_of_getElem? (i := 145) (by decide +kernel)) rfl
theorem kn_obi : Cond.instanceMethod objectInit ∈ gm_TB := gm_t1 (List.mem_of_getElem? (i := 21) (by decide +kernel)) rfl
theorem kn_obc : Cond.code objectInit ⟨#[0xb1]⟩ 1 none ∈ gm_TB := gm_t1 (List.mem_of_getElem? (i := 22) (by decide +kernel)) rfl
theorem kn_dfX0 (q1 q2 q3 q4 q5 : Nat) : ∀ j, j < 18 → defaultValue (tyX0 j) = vp_V (kn_dv [none, some q1, some q2, some q3, some q4, some q5, none, none, none, none, none, none, none, none, none, none, none, none]) j := by
  intro j hj
  match j, hj with
  | 0, _ => rfl
  | 1, _ => rfl
  | 2, _ => rfl
  | 3, _ => rfl
  | 4, _ => rfl
  | 5, _ => rfl
  | 6, _ => rfl
  | 7, _ => rfl
  | 8, _ => rfl
  | 9, _ => rfl
  | 10, _ => rfl
  | 11, _ => rfl
  | 12, _ => rfl
  | 13, _ => rfl
  | 14, _ => rfl
  | 15, _ => rfl
  | 16, _ => rfl
  | 17, _ => rfl
  | j + 18, h => exact absurd h (by omega)
theorem kn_dfX1 (q0 q1 q2 q3 : Nat) : ∀ j, j < 7 → defaultValue (tyX1 j) = vp_V (kn_dv [some q0, some q1, some q2, some q3, none, none, none]) j := by
  intro j hj
  match j, hj with
  | 0, _ => rfl
  | 1, _ => rfl
  | 2, _ => rfl
  | 3, _ => rfl
  | 4, _ => rfl
  | 5, _ => rfl
  | 6, _ => rfl
  | j + 7, h => exact absurd h (by omega)
theorem kn_dfX2 (q0 q1 q2 : Nat) : ∀ j, j < 5 → defaultValue (tyX2 j) = vp_V (kn_dv [some q0, some q1, some q2, none, none]) j := by
  intro j hj
  match j, hj with
  | 0, _ => rfl
  | 1, _ => rfl
  | 2, _ => rfl
  | 3, _ => rfl
  | 4, _ => rfl
  | j + 5, h => exact absurd h (by omega)
theorem kn_dfX3 (q0 : Nat) : ∀ j, j < 2 → defaultValue (tyX3 j) = vp_V (kn_dv [some q0, none]) j := by
  intro j hj
  match j, hj with
  | 0, _ => rfl
  | 1, _ => rfl
  | j + 2, h => exact absurd h (by omega)
theorem kn_dfX4 (q0 q1 : Nat) : ∀ j, j < 5 → defaultValue (tyX4 j) = vp_V (kn_dv [some q0, some q1, none, none, none]) j := by
  intro j hj
  match j, hj with
  | 0, _ => rfl
  | 1, _ => rfl
  | 2, _ => rfl
  | 3, _ => rfl
  | 4, _ => rfl
  | j + 5, h => exact absurd h (by omega)
theorem kn_dfX5 : ∀ j, j < 9 → defaultValue (tyX5 j) = vp_V (kn_dv [none, none, none, none, none, none, none, none, none]) j := by
  intro j hj
  match j, hj with
  | 0, _ => rfl
  | 1, _ => rfl
  | 2, _ => rfl
  | 3, _ => rfl
  | 4, _ => rfl
  | 5, _ => rfl
  | 6, _ => rfl
  | 7, _ => rfl
  | 8, _ => rfl
  | j + 9, h => exact absurd h (by omega)
theorem kn_dfX6 (q0 q1 q2 q3 : Nat) : ∀ j, j < 7 → defaultValue (tyX6 j) = vp_V (kn_dv [some q0, some q1, some q2, some q3, none, none, none]) j := by
  intro j hj
  match j, hj with
  | 0, _ => rfl
  | 1, _ => rfl
  | 2, _ => rfl
  | 3, _ => rfl
  | 4, _ => rfl
  | 5, _ => rfl
  | 6, _ => rfl
  | j + 7, h => exact absurd h (by omega)
theorem kn_dfX7 (q0 q1 : Nat) : ∀ j, j < 3 → defaultValue (tyX7 j) = vp_V (kn_dv [some q0, some q1, none]) j := by
  intro j hj
  match j, hj with
  | 0, _ => rfl
  | 1, _ => rfl
  | 2, _ => rfl
  | j + 3, h => exact absurd h (by omega)
theorem kn_dfX8 : ∀ j, j < 2 → defaultValue (tyX8 j) = vp_V (kn_dv [none, none]) j := by
  intro j hj
  match j, hj with
  | 0, _ => rfl
  | 1, _ => rfl
  | j + 2, h => exact absurd h (by omega)
theorem kn_dfX9 (q0 q1 q2 q3 q4 : Nat) : ∀ j, j < 14 → defaultValue (tyX9 j) = vp_V (kn_dv [some q0, some q1, some q2, some q3, some q4, none, none, none, none, none, none, none, none, none]) j := by
  intro j hj
  match j, hj with
  | 0, _ => rfl
  | 1, _ => rfl
  | 2, _ => rfl
  | 3, _ => rfl
  | 4, _ => rfl
  | 5, _ => rfl
  | 6, _ => rfl
  | 7, _ => rfl
  | 8, _ => rfl
  | 9, _ => rfl
  | 10, _ => rfl
  | 11, _ => rfl
  | 12, _ => rfl
  | 13, _ => rfl
  | j + 14, h => exact absurd h (by omega)
theorem kn_dfX10 (q0 q1 q2 q3 : Nat) : ∀ j, j < 5 → defaultValue (tyX10 j) = vp_V (kn_dv [some q0, some q1, some q2, some q3, none]) j := by
  intro j hj
  match j, hj with
  | 0, _ => rfl
  | 1, _ => rfl
  | 2, _ => rfl
  | 3, _ => rfl
  | 4, _ => rfl
  | j + 5, h => exact absurd h (by omega)
theorem kn_dfX11 (q9 q10 q11 q12 q13 q14 q15 q16 q17 q18 q19 q20 q21 q22 q23 q24 q25 q26 q27 q28 q29 q30 q31 q32 q33 q34 q39 q40 q41 q43 q44 q46 q47 q48 q49 q50 q54 : Nat) : ∀ j, j < 58 → defaultValue (tyX11 j) = vp_V (kn_dv [none, none, none, none, none, none, none, none, none, some q9, some q10, some q11, some q12, some q13, some q14, some q15, some q16, some q17, some q18, some q19, some q20, some q21, some q22, some q23, some q24, some q25, some q26, some q27, some q28, some q29, some q30, some q31, some q32, some q33, some q34, none, none, none, none, some q39, some q40, some q41, none, some q43, some q44, none, some q46, some q47, some q48, some q49, some q50, none, none, none, some q54, none, none, none]) j := by
  intro j hj
  match j, hj with
  | 0, _ => rfl
  | 1, _ => rfl
  | 2, _ => rfl
  | 3, _ => rfl
  | 4, _ => rfl
  | 5, _ => rfl
  | 6, _ => rfl
  | 7, _ => rfl
  | 8, _ => rfl
  | 9, _ => rfl
  | 10, _ => rfl
  | 11, _ => rfl
  | 12, _ => rfl
  | 13, _ => rfl
  | 14, _ => rfl
  | 15, _ => rfl
  | 16, _ => rfl
  | 17, _ => rfl
  | 18, _ => rfl
  | 19, _ => rfl
  | 20, _ => rfl
  | 21, _ => rfl
  | 22, _ => rfl
  | 23, _ => rfl
  | 24, _ => rfl
  | 25, _ => rfl
  | 26, _ => rfl
  | 27, _ => rfl
  | 28, _ => rfl
  | 29, _ => rfl
  | 30, _ => rfl
  | 31, _ => rfl
  | 32, _ => rfl
  | 33, _ => rfl
  | 34, _ => rfl
  | 35, _ => rfl
  | 36, _ => rfl
  | 37, _ => rfl
  | 38, _ => rfl
  | 39, _ => rfl
  | 40, _ => rfl
  | 41, _ => rfl
  | 42, _ => rfl
  | 43, _ => rfl
  | 44, _ => rfl
  | 45, _ => rfl
  | 46, _ => rfl
  | 47, _ => rfl
  | 48, _ => rfl
  | 49, _ => rfl
  | 50, _ => rfl
  | 51, _ => rfl
  | 52, _ => rfl
  | 53, _ => rfl
  | 54, _ => rfl
  | 55, _ => rfl
  | 56, _ => rfl
  | 57, _ => rfl
  | j + 58, h => exact absurd h (by omega)
def kn_Nw (own : String) (idx ci : Nat) (fl : List (Option Nat)) : Prop := ∃ (C : String) (T : u_T) (N : Nat) (ty : Nat → FieldType), vwCl[ci]? = some (C, T, N) ∧ Cond.classLink own idx C ∈ gm_TB ∧ Cond.instantiable C N ∈ gm_TB ∧ Cond.initialized C ∈ gm_TB ∧ (∀ w ∈ u_ws C T N, w ∈ gm_TB) ∧ (∀ j, j < N → parseFieldDescriptor (T j).2.2.1 = some (ty j)) ∧ fl.length = N ∧ ∀ j, j < N → defaultValue (ty j) = vp_V (kn_dv fl) j
theorem kn_nwL_7 {q0 q1 q2 q3 : Nat} : kn_Nw RL 7 10 [some q0, some q1, some q2, some q3, none] := ⟨RX10, TX10, 5, tyX10, rfl, gm_t1 (List.mem_of_getElem? (i := 15) (by decide +kernel)) rfl, gm_t1 (List.mem_of_getElem? (i := 16) (by decide +kernel)) rfl, gm_t1 (List.mem_of_getElem? (i := 1) (by decide +kernel)) rfl, gm_inX10, tyX10_ok, rfl, kn_dfX10 _ _ _ _⟩
theorem kn_nwX10_7 {q0 q1 q2 q3 q4 : Nat} : kn_Nw RX10 7 9 [some q0, some q1, some q2, some q3, some q4, none, none, none, none, none, none, none, none, none] := ⟨RX9, TX9, 14, tyX9, rfl, gm_t1 (List.mem_of_getElem? (i := 23) (by decide +kernel)) rfl, gm_t1 (List.mem_of_getElem? (i := 24) (by decide +kernel)) rfl, gm_t1 (List.mem_of_getElem? (i := 2) (by decide +kernel)) rfl, gm_inX9, tyX9_ok, rfl, kn_dfX9 _ _ _ _ _⟩
theorem kn_nwX9_7 {q1 q2 q3 q4 q5 : Nat} : kn_Nw RX9 7 0 [none, some q1, some q2, some q3, some q4, some q5, none, none, none, none, none, none, none, none, none, none, none, none] := ⟨RX0, TX0, 18, tyX0, rfl, gm_t1 (List.mem_of_getElem? (i := 29) (by decide +kernel)) rfl, gm_t1 (List.mem_of_getElem? (i := 30) (by decide +kernel)) rfl, gm_t1 (List.mem_of_getElem? (i := 3) (by decide +kernel)) rfl, gm_inX0, tyX0_ok, rfl, kn_dfX0 _ _ _ _ _⟩
theorem kn_nwX0_15 {q0 q1 : Nat} : kn_Nw RX0 15 4 [some q0, some q1, none, none, none] := ⟨RX4, TX4, 5, tyX4, rfl, gm_t1 (List.mem_of_getElem? (i := 35) (by decide +kernel)) rfl, gm_t1 (List.mem_of_getElem? (i := 36) (by decide +kernel)) rfl, gm_t1 (List.mem_of_getElem? (i := 4) (by decide +kernel)) rfl, gm_inX4, tyX4_ok, rfl, kn_dfX4 _ _⟩
theorem kn_nwX0_22 {q0 q1 q2 q3 : Nat} : kn_Nw RX0 22 1 [some q0, some q1, some q2, some q3, none, none, none] := ⟨RX1, TX1, 7, tyX1, rfl, gm_t1 (List.mem_of_getElem? (i := 64) (by decide +kernel)) rfl, gm_t1 (List.mem_of_getElem? (i := 65) (by decide +kernel)) rfl, gm_t1 (List.mem_of_getElem? (i := 5) (by decide +kernel)) rfl, gm_inX1, tyX1_ok, rfl, kn_dfX1 _ _ _ _⟩
theorem kn_nwX0_29 : kn_Nw RX0 29 8 [none, none] := ⟨RX8, TX8, 2, tyX8, rfl, gm_t1 (List.mem_of_getElem? (i := 97) (by decide +kernel)) rfl, gm_t1 (List.mem_of_getElem? (i := 98) (by decide +kernel)) rfl, gm_t1 (List.mem_of_getElem? (i := 6) (by decide +kernel)) rfl, gm_inX8, tyX8_ok, rfl, kn_dfX8⟩
theorem kn_nwX9_21 {q0 : Nat} : kn_Nw RX9 21 3 [some q0, none] := ⟨RX3, TX3, 2, tyX3, rfl, gm_t1 (List.mem_of_getElem? (i := 182) (by decide +kernel)) rfl, gm_t1 (List.mem_of_getElem? (i := 183) (by decide +kernel)) rfl, gm_t1 (List.mem_of_getElem? (i := 7) (by decide +kernel)) rfl, gm_inX3, tyX3_ok, rfl, kn_dfX3 _⟩
theorem kn_nwX3_9 : kn_Nw RX3 9 5 [none, none, none, none, none, none, none, none, none] := ⟨RX5, TX5, 9, tyX5, rfl, gm_t1 (List.mem_of_getElem? (i := 188) (by decide +kernel)) rfl, gm_t1 (List.mem_of_getElem? (i := 190) (by decide +kernel)) rfl, gm_t1 (List.mem_of_getElem? (i := 8) (by decide +kernel)) rfl, gm_inX5, tyX5_ok, rfl, kn_dfX5⟩
theorem kn_nwX9_28 {q0 q1 : Nat} : kn_Nw RX9 28 7 [some q0, some q1, none] := ⟨RX7, TX7, 3, tyX7, rfl, gm_t2 (List.mem_of_getElem? (i := 0) (by decide +kernel)) rfl, gm_t2 (List.mem_of_getElem? (i := 1) (by decide +kernel)) rfl, gm_t1 (List.mem_of_getElem? (i := 9) (by decide +kernel)) rfl, gm_inX7, tyX7_ok, rfl, kn_dfX7 _ _⟩
theorem kn_nwX9_35 {q0 q1 q2 : Nat} : kn_Nw RX9 35 2 [some q0, some q1, some q2, none, none] := ⟨RX2, TX2, 5, tyX2, rfl, gm_t2 (List.mem_of_getElem? (i := 17) (by decide +kernel)) rfl, gm_t2 (List.mem_of_getElem? (i := 18) (by decide +kernel)) rfl, gm_t1 (List.mem_of_getElem? (i := 10) (by decide +kernel)) rfl, gm_inX2, tyX2_ok, rfl, kn_dfX2 _ _ _⟩
theorem kn_nwX10_19 {q0 q1 q2 q3 : Nat} : kn_Nw RX10 19 6 [some q0, some q1, some q2, some q3, none, none, none] := ⟨RX6, TX6, 7, tyX6, rfl, gm_t2 (List.mem_of_getElem? (i := 96) (by decide +kernel)) rfl, gm_t2 (List.mem_of_getElem? (i := 97) (by decide +kernel)) rfl, gm_t1 (List.mem_of_getElem? (i := 11) (by decide +kernel)) rfl, gm_inX6, tyX6_ok, rfl, kn_dfX6 _ _ _ _⟩
theorem kn_nwX10_26 : kn_Nw RX10 26 5 [none, none, none, none, none, none, none, none, none] := ⟨RX5, TX5, 9, tyX5, rfl, gm_t2 (List.mem_of_getElem? (i := 130) (by decide +kernel)) rfl, gm_t1 (List.mem_of_getElem? (i := 190) (by decide +kernel)) rfl, gm_t1 (List.mem_of_getElem? (i := 8) (by decide +kernel)) rfl, gm_inX5, tyX5_ok, rfl, kn_dfX5⟩
theorem kn_nwL_10 {q9 q10 q11 q12 q13 q14 q15 q16 q17 q18 q19 q20 q21 q22 q23 q24 q25 q26 q27 q28 q29 q30 q31 q32 q33 q34 q39 q40 q41 q43 q44 q46 q47 q48 q49 q50 q54 : Nat} : kn_Nw RL 10 11 [none, none, none, none, none, none, none, none, none, some q9, some q10, some q11, some q12, some q13, some q14, some q15, some q16, some q17, some q18, some q19, some q20, some q21, some q22, some q23, some q24, some q25, some q26, some q27, some q28, some q29, some q30, some q31, some q32, some q33, some q34, none, none, none, none, some q39, some q40, some q41, none, some q43, some q44, none, some q46, some q47, some q48, some q49, some q50, none, none, none, some q54, none, none, none] := ⟨RX11, TX11, 58, tyX11, rfl, gm_t4 (List.mem_of_getElem? (i := 140) (by decide +kernel)) rfl, gm_t4 (List.mem_of_getElem? (i := 141) (by decide +kernel)) rfl, gm_t1 (List.mem_of_getElem? (i := 12) (by decide +kernel)) rfl, gm_inX11, tyX11_ok, rfl, kn_dfX11 _ _ _ _ _ _ _ _ _ _ _ _ _ _ _ _ _ _ _ _ _ _ _ _ _ _ _ _ _ _ _ _ _ _ _ _ _⟩
theorem kn_clX3 : Cond.classLink RX3 9 RX5 ∈ gm_TB := gm_t1 (List.mem_of_getElem? (i := 188) (by decide +kernel)) rfl
def kn_Mi (Y : gm_Y) (n : Nat) : Prop := Cond.instanceMethod Y.1 ∈ gm_TB ∧ Cond.initialized Y.1.cls ∈ gm_TB ∧ Cond.code Y.1 Y.2.1 Y.2.2.1 none ∈ gm_TB ∧ plainFor Y.1 = true ∧ (Y.1.cls ≠ "java/lang/invoke/MethodHandle" ∧ Y.1.cls ≠ "java/lang/invoke/VarHandle") ∧ Y.1.name = "<init>" ∧ Y.2.2.2 = none ∧ Y.2.2.1 ≤ 17 ∧ (parseMethodDescriptor Y.1.desc).map (fun d => d.parameters.length) = some n ∧ n + 1 ≤ Y.2.2.1
theorem kn_miX0_init : kn_Mi YX0_init 1 := ⟨gm_t1 (List.mem_of_getElem? (i := 32) (by decide +kernel)) rfl, gm_t1 (List.mem_of_getElem? (i := 3) (by decide +kernel)) rfl, gm_t1 (List.mem_of_getElem? (i := 33) (by decide +kernel)) rfl, by decide +kernel, by decide +kernel, rfl, rfl, by decide, by decide +kernel, by decide⟩
theorem kn_miX1_init : kn_Mi YX1_init 0 := ⟨gm_t1 (List.mem_of_getElem? (i := 67) (by decide +kernel)) rfl, gm_t1 (List.mem_of_getElem? (i := 5) (by decide +kernel)) rfl, gm_t1 (List.mem_of_getElem? (i := 68) (by decide +kernel)) rfl, by decide +kernel, by decide +kernel, rfl, rfl, by decide, by decide +kernel, by decide⟩
theorem kn_miX2_init : kn_Mi YX2_init 0 := ⟨gm_t2 (List.mem_of_getElem? (i := 20) (by decide +kernel)) rfl, gm_t1 (List.mem_of_getElem? (i := 10) (by decide +kernel)) rfl, gm_t2 (List.mem_of_getElem? (i := 21) (by decide +kernel)) rfl, by decide +kernel, by decide +kernel, rfl, rfl, by decide, by decide +kernel, by decide⟩
theorem kn_miX3_init : kn_Mi YX3_init 0 := ⟨gm_t1 (List.mem_of_getElem? (i := 185) (by decide +kernel)) rfl, gm_t1 (List.mem_of_getElem? (i := 7) (by decide +kernel)) rfl, gm_t1 (List.mem_of_getElem? (i := 186) (by decide +kernel)) rfl, by decide +kernel, by decide +kernel, rfl, rfl, by decide, by decide +kernel, by decide⟩
theorem kn_miX4_init : kn_Mi YX4_init 0 := ⟨gm_t1 (List.mem_of_getElem? (i := 38) (by decide +kernel)) rfl, gm_t1 (List.mem_of_getElem? (i := 4) (by decide +kernel)) rfl, gm_t1 (List.mem_of_getElem? (i := 39) (by decide +kernel)) rfl, by decide +kernel, by decide +kernel, rfl, rfl, by decide, by decide +kernel, by decide⟩
theorem kn_miX5_init : kn_Mi YX5_init 0 := ⟨gm_t1 (List.mem_of_getElem? (i := 192) (by decide +kernel)) rfl, gm_t1 (List.mem_of_getElem? (i := 8) (by decide +kernel)) rfl, gm_t1 (List.mem_of_getElem? (i := 193) (by decide +kernel)) rfl, by decide +kernel, by decide +kernel, rfl, rfl, by decide, by decide +kernel, by decide⟩
theorem kn_miX6_init : kn_Mi YX6_init 0 := ⟨gm_t2 (List.mem_of_getElem? (i := 99) (by decide +kernel)) rfl, gm_t1 (List.mem_of_getElem? (i := 11) (by decide +kernel)) rfl, gm_t2 (List.mem_of_getElem? (i := 100) (by decide +kernel)) rfl, by decide +kernel, by decide +kernel, rfl, rfl, by decide, by decide +kernel, by decide⟩
theorem kn_miX7_init : kn_Mi YX7_init 0 := ⟨gm_t2 (List.mem_of_getElem? (i := 3) (by decide +kernel)) rfl, gm_t1 (List.mem_of_getElem? (i := 9) (by decide +kernel)) rfl, gm_t2 (List.mem_of_getElem? (i := 4) (by decide +kernel)) rfl, by decide +kernel, by decide +kernel, rfl, rfl, by decide, by decide +kernel, by decide⟩
theorem kn_miX8_init : kn_Mi YX8_init 0 := ⟨gm_t1 (List.mem_of_getElem? (i := 100) (by decide +kernel)) rfl, gm_t1 (List.mem_of_getElem? (i := 6) (by decide +kernel)) rfl, gm_t1 (List.mem_of_getElem? (i := 101) (by decide +kernel)) rfl, by decide +kernel, by decide +kernel, rfl, rfl, by decide, by decide +kernel, by decide⟩
theorem kn_miX9_init : kn_Mi YX9_init 0 := ⟨gm_t1 (List.mem_of_getElem? (i := 26) (by decide +kernel)) rfl, gm_t1 (List.mem_of_getElem? (i := 2) (by decide +kernel)) rfl, gm_t1 (List.mem_of_getElem? (i := 27) (by decide +kernel)) rfl, by decide +kernel, by decide +kernel, rfl, rfl, by decide, by decide +kernel, by decide⟩
theorem kn_miX10_init : kn_Mi YX10_init 0 := ⟨gm_t1 (List.mem_of_getElem? (i := 18) (by decide +kernel)) rfl, gm_t1 (List.mem_of_getElem? (i := 1) (by decide +kernel)) rfl, gm_t1 (List.mem_of_getElem? (i := 19) (by decide +kernel)) rfl, by decide +kernel, by decide +kernel, rfl, rfl, by decide, by decide +kernel, by decide⟩
theorem kn_miX11_init : kn_Mi YX11_init 0 := ⟨gm_t4 (List.mem_of_getElem? (i := 143) (by decide +kernel)) rfl, gm_t1 (List.mem_of_getElem? (i := 12) (by decide +kernel)) rfl, gm_t4 (List.mem_of_getElem? (i := 144) (by decide +kernel)) rfl, by decide +kernel, by decide +kernel, rfl, rfl, by decide, by decide +kernel, by decide⟩
theorem kn_mlL_9 : Cond.methodLink RL 9 yX10_init ∈ gm_TB := gm_t1 (List.mem_of_getElem? (i := 17) (by decide +kernel)) rfl
theorem kn_mlX9_9 : Cond.methodLink RX9 9 yX0_init ∈ gm_TB := gm_t1 (List.mem_of_getElem? (i := 31) (by decide +kernel)) rfl
theorem kn_mlX9_23 : Cond.methodLink RX9 23 yX3_init ∈ gm_TB := gm_t1 (List.mem_of_getElem? (i := 184) (by decide +kernel)) rfl
theorem kn_mlL_12 : Cond.methodLink RL 12 yX11_init ∈ gm_TB := gm_t4 (List.mem_of_getElem? (i := 142) (by decide +kernel)) rfl
theorem kn_isX0 : Cond.instantiable RX0 18 ∈ gm_TB := gm_t1 (List.mem_of_getElem? (i := 30) (by decide +kernel)) rfl
theorem kn_isX1 : Cond.instantiable RX1 7 ∈ gm_TB := gm_t1 (List.mem_of_getElem? (i := 65) (by decide +kernel)) rfl
theorem kn_isX2 : Cond.instantiable RX2 5 ∈ gm_TB := gm_t2 (List.mem_of_getElem? (i := 18) (by decide +kernel)) rfl
theorem kn_isX3 : Cond.instantiable RX3 2 ∈ gm_TB := gm_t1 (List.mem_of_getElem? (i := 183) (by decide +kernel)) rfl
theorem kn_isX4 : Cond.instantiable RX4 5 ∈ gm_TB := gm_t1 (List.mem_of_getElem? (i := 36) (by decide +kernel)) rfl
theorem kn_isX5 : Cond.instantiable RX5 9 ∈ gm_TB := gm_t1 (List.mem_of_getElem? (i := 190) (by decide +kernel)) rfl
theorem kn_isX6 : Cond.instantiable RX6 7 ∈ gm_TB := gm_t2 (List.mem_of_getElem? (i := 97) (by decide +kernel)) rfl
theorem kn_isX7 : Cond.instantiable RX7 3 ∈ gm_TB := gm_t2 (List.mem_of_getElem? (i := 1) (by decide +kernel)) rfl
theorem kn_isX8 : Cond.instantiable RX8 2 ∈ gm_TB := gm_t1 (List.mem_of_getElem? (i := 98) (by decide +kernel)) rfl
theorem kn_isX9 : Cond.instantiable RX9 14 ∈ gm_TB := gm_t1 (List.mem_of_getElem? (i := 24) (by decide +kernel)) rfl
theorem kn_isX10 : Cond.instantiable RX10 5 ∈ gm_TB := gm_t1 (List.mem_of_getElem? (i := 16) (by decide +kernel)) rfl
theorem kn_isX11 : Cond.instantiable RX11 58 ∈ gm_TB := gm_t4 (List.mem_of_getElem? (i := 141) (by decide +kernel)) rfl
