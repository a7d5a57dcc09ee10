/-! THE CONSTRUCTORS, place by place -/
theorem kcX5 {g : gm_W} {n0 p : Nat} {S : gm_Mem} : kn_run g 1 YX5_init 0 [some (.ref p)] [] n0 0 0 S 0 0 S := by
  refine kn_aload_n dX5_init_0 rfl ?_
  refine kn_objInit rfl kn_obX5 dX5_init_1 (by decide) (by decide) ?_
  exact kn_vret dX5_init_4 rfl rfl rfl rfl
def kmL (p : Nat) : Nat → Nat → gm_Mem → gm_Mem
  | 0, _, S => S
  | d + 1, i, S => kmL p d (i + 1) (gm_u S p i (nI (p + 1 + i)))
def kmX4_4 (S : gm_Mem) : gm_Mem := gm_u (gm_u (gm_u S 4 0 1) 4 1 1) 4 4 (-1 : Int32)
theorem kcX4_4 (S : gm_Mem) : kn_run gC 1 YX4_init 0 [some (.ref 4)] [] 5 0 0 S 2 32 (kmX4_4 S) := by
  refine kn_aload_n dX4_init_0 rfl ?_
  refine kn_objInit rfl kn_obX4 dX4_init_1 (by decide) (by decide) ?_
  refine kn_aload_n dX4_init_4 rfl ?_
  refine kn_bipush (v := 16) dX4_init_5 (by decide) ?_
  refine kn_newi (q := 5) (N := 16) dX4_init_7 rfl rfl (by decide) (by decide) (by decide) (by decide) (by decide) (by decide) ?_
  refine kn_putR (fl := [some 5, some 6, none, none, none]) rfl dX4_init_9 lfX4_9 rfl (by decide) rfl (fun _ => ⟨rfl, rfl⟩) rfl ?_
  refine kn_aload_n dX4_init_12 rfl ?_
  refine kn_bipush (v := 16) dX4_init_13 (by decide) ?_
  refine kn_newi (q := 6) (N := 16) dX4_init_15 rfl rfl (by decide) (by decide) (by decide) (by decide) (by decide) (by decide) ?_
  refine kn_putR (fl := [some 5, some 6, none, none, none]) rfl dX4_init_17 lfX4_15 rfl (by decide) rfl (fun _ => ⟨rfl, rfl⟩) rfl ?_
  refine kn_aload_n dX4_init_20 rfl ?_
  refine kn_iconst (v := -1) dX4_init_21 (by decide) ?_
  refine kn_putI (fl := [some 5, some 6, none, none, none]) rfl dX4_init_22 lfX4_18 rfl (by decide) rfl (gm_fit_int _) (fun h => absurd h (by decide)) ?_
  exact kn_vret dX4_init_25 rfl rfl rfl rfl
def kmX1_7 (S : gm_Mem) : gm_Mem := gm_u (gm_u (gm_u (gm_u (gm_u S 7 0 1) 7 1 1) 7 2 1) 7 3 1) 7 6 (-1 : Int32)
theorem kcX1_7 (S : gm_Mem) : kn_run gC 1 YX1_init 0 [some (.ref 7)] [] 8 0 0 S 4 524 (kmX1_7 S) := by
  refine kn_aload_n dX1_init_0 rfl ?_
  refine kn_objInit rfl kn_obX1 dX1_init_1 (by decide) (by decide) ?_
  refine kn_aload_n dX1_init_4 rfl ?_
  refine kn_sipush (v := 512) dX1_init_5 (by decide) ?_
  refine kn_newi (q := 8) (N := 512) dX1_init_8 rfl rfl (by decide) (by decide) (by decide) (by decide) (by decide) (by decide) ?_
  refine kn_putR (fl := [some 8, some 9, some 10, some 11, none, none, none]) rfl dX1_init_10 lfX1_9 rfl (by decide) rfl (fun _ => ⟨rfl, rfl⟩) rfl ?_
  refine kn_aload_n dX1_init_13 rfl ?_
  refine kn_iconst (v := 4) dX1_init_14 (by decide) ?_
  refine kn_newz (q := 9) (N := 4) dX1_init_15 rfl rfl (by decide) (by decide) (by decide) (by decide) (by decide) (by decide) ?_
  refine kn_putR (fl := [some 8, some 9, some 10, some 11, none, none, none]) rfl dX1_init_17 lfX1_15 rfl (by decide) rfl (fun _ => ⟨rfl, rfl⟩) rfl ?_
  refine kn_aload_n dX1_init_20 rfl ?_
  refine kn_iconst (v := 4) dX1_init_21 (by decide) ?_
  refine kn_newz (q := 10) (N := 4) dX1_init_22 rfl rfl (by decide) (by decide) (by decide) (by decide) (by decide) (by decide) ?_
  refine kn_putR (fl := [some 8, some 9, some 10, some 11, none, none, none]) rfl dX1_init_24 lfX1_19 rfl (by decide) rfl (fun _ => ⟨rfl, rfl⟩) rfl ?_
  refine kn_aload_n dX1_init_27 rfl ?_
  refine kn_iconst (v := 4) dX1_init_28 (by decide) ?_
  refine kn_newi (q := 11) (N := 4) dX1_init_29 rfl rfl (by decide) (by decide) (by decide) (by decide) (by decide) (by decide) ?_
  refine kn_putR (fl := [some 8, some 9, some 10, some 11, none, none, none]) rfl dX1_init_31 lfX1_22 rfl (by decide) rfl (fun _ => ⟨rfl, rfl⟩) rfl ?_
  refine kn_aload_n dX1_init_34 rfl ?_
  refine kn_iconst (v := -1) dX1_init_35 (by decide) ?_
  refine kn_putI (fl := [some 8, some 9, some 10, some 11, none, none, none]) rfl dX1_init_36 lfX1_25 rfl (by decide) rfl (gm_fit_int _) (fun h => absurd h (by decide)) ?_
  exact kn_vret dX1_init_39 rfl rfl rfl rfl
def kmX8_12 (S : gm_Mem) : gm_Mem := S
theorem kcX8_12 (S : gm_Mem) : kn_run gC 1 YX8_init 0 [some (.ref 12)] [] 13 0 0 S 0 0 (kmX8_12 S) := by
  refine kn_aload_n dX8_init_0 rfl ?_
  refine kn_objInit rfl kn_obX8 dX8_init_1 (by decide) (by decide) ?_
  exact kn_vret dX8_init_4 rfl rfl rfl rfl
def kmX8_13 (S : gm_Mem) : gm_Mem := S
theorem kcX8_13 (S : gm_Mem) : kn_run gC 1 YX8_init 0 [some (.ref 13)] [] 14 0 0 S 0 0 (kmX8_13 S) := by
  refine kn_aload_n dX8_init_0 rfl ?_
  refine kn_objInit rfl kn_obX8 dX8_init_1 (by decide) (by decide) ?_
  exact kn_vret dX8_init_4 rfl rfl rfl rfl
def kmX0_2 (S : gm_Mem) : gm_Mem := gm_u (gm_u (gm_u (gm_u (gm_u (kmX8_13 (gm_u (kmX8_12 (gm_u (kmX1_7 (gm_u (kmX4_4 (gm_u S 2 1 1)) 2 2 1)) 2 3 1)) 2 4 1)) 2 5 1) 2 8 (0 : Int32)) 2 14 (-1 : Int32)) 2 16 (-1 : Int32)) 2 0 (0 : Int32)
theorem kcX0_2 (S : gm_Mem) : kn_run gC 2 YX0_init 0 [some (.ref 2), some (.int (0 : Int32))] [] 3 0 0 S 11 581 (kmX0_2 S) := by
  refine kn_aload_n dX0_init_0 rfl ?_
  refine kn_objInit rfl kn_obX0 dX0_init_1 (by decide) (by decide) ?_
  refine kn_aload_n dX0_init_4 rfl ?_
  refine kn_bipush (v := 9) dX0_init_5 (by decide) ?_
  refine kn_newi (q := 3) (N := 9) dX0_init_7 rfl rfl (by decide) (by decide) (by decide) (by decide) (by decide) (by decide) ?_
  refine kn_putR (fl := [none, some 3, some 4, some 7, some 12, some 13, none, none, none, none, none, none, none, none, none, none, none, none]) rfl dX0_init_9 lfX0_9 rfl (by decide) rfl (fun _ => ⟨rfl, rfl⟩) rfl ?_
  refine kn_aload_n dX0_init_12 rfl ?_
  refine kn_new (q := 4) rfl dX0_init_13 kn_nwX0_15 rfl rfl (by decide) (by decide) ?_
  refine kn_dup dX0_init_16 ?_
  refine kn_callN (k1 := 1) (Y1 := YX4_init) (own := RX0) rfl dX0_init_17 nlX0_17 kn_miX4_init [] [.ref 4, .ref 2] rfl rfl (by decide) (by decide) (by decide) (by decide) rfl (by decide) (by decide) (kcX4_4 _) ?_
  refine kn_putR (fl := [none, some 3, some 4, some 7, some 12, some 13, none, none, none, none, none, none, none, none, none, none, none, none]) rfl dX0_init_20 lfX0_18 rfl (by decide) rfl (fun _ => ⟨rfl, rfl⟩) rfl ?_
  refine kn_aload_n dX0_init_23 rfl ?_
  refine kn_new (q := 7) rfl dX0_init_24 kn_nwX0_22 rfl rfl (by decide) (by decide) ?_
  refine kn_dup dX0_init_27 ?_
  refine kn_callN (k1 := 1) (Y1 := YX1_init) (own := RX0) rfl dX0_init_28 nlX0_24 kn_miX1_init [] [.ref 7, .ref 2] rfl rfl (by decide) (by decide) (by decide) (by decide) rfl (by decide) (by decide) (kcX1_7 _) ?_
  refine kn_putR (fl := [none, some 3, some 4, some 7, some 12, some 13, none, none, none, none, none, none, none, none, none, none, none, none]) rfl dX0_init_31 lfX0_25 rfl (by decide) rfl (fun _ => ⟨rfl, rfl⟩) rfl ?_
  refine kn_aload_n dX0_init_34 rfl ?_
  refine kn_new (q := 12) rfl dX0_init_35 kn_nwX0_29 rfl rfl (by decide) (by decide) ?_
  refine kn_dup dX0_init_38 ?_
  refine kn_callN (k1 := 1) (Y1 := YX8_init) (own := RX0) rfl dX0_init_39 nlX0_31 kn_miX8_init [] [.ref 12, .ref 2] rfl rfl (by decide) (by decide) (by decide) (by decide) rfl (by decide) (by decide) (kcX8_12 _) ?_
  refine kn_putR (fl := [none, some 3, some 4, some 7, some 12, some 13, none, none, none, none, none, none, none, none, none, none, none, none]) rfl dX0_init_42 lfX0_32 rfl (by decide) rfl (fun _ => ⟨rfl, rfl⟩) rfl ?_
  refine kn_aload_n dX0_init_45 rfl ?_
  refine kn_new (q := 13) rfl dX0_init_46 kn_nwX0_29 rfl rfl (by decide) (by decide) ?_
  refine kn_dup dX0_init_49 ?_
  refine kn_callN (k1 := 1) (Y1 := YX8_init) (own := RX0) rfl dX0_init_50 nlX0_31 kn_miX8_init [] [.ref 13, .ref 2] rfl rfl (by decide) (by decide) (by decide) (by decide) rfl (by decide) (by decide) (kcX8_13 _) ?_
  refine kn_putR (fl := [none, some 3, some 4, some 7, some 12, some 13, none, none, none, none, none, none, none, none, none, none, none, none]) rfl dX0_init_53 lfX0_36 rfl (by decide) rfl (fun _ => ⟨rfl, rfl⟩) rfl ?_
  refine kn_aload_n dX0_init_56 rfl ?_
  refine kn_iconst (v := 0) dX0_init_57 (by decide) ?_
  refine kn_putI (fl := [none, some 3, some 4, some 7, some 12, some 13, none, none, none, none, none, none, none, none, none, none, none, none]) rfl dX0_init_58 lfX0_39 rfl (by decide) rfl (gm_fit_int _) (fun h => absurd h (by decide)) ?_
  refine kn_aload_n dX0_init_61 rfl ?_
  refine kn_iconst (v := -1) dX0_init_62 (by decide) ?_
  refine kn_putI (fl := [none, some 3, some 4, some 7, some 12, some 13, none, none, none, none, none, none, none, none, none, none, none, none]) rfl dX0_init_63 lfX0_43 rfl (by decide) rfl (gm_fit_int _) (fun h => absurd h (by decide)) ?_
  refine kn_aload_n dX0_init_66 rfl ?_
  refine kn_iconst (v := -1) dX0_init_67 (by decide) ?_
  refine kn_putI (fl := [none, some 3, some 4, some 7, some 12, some 13, none, none, none, none, none, none, none, none, none, none, none, none]) rfl dX0_init_68 lfX0_46 rfl (by decide) rfl (gm_fit_int _) (fun h => absurd h (by decide)) ?_
  refine kn_aload_n dX0_init_71 rfl ?_
  refine kn_iload_n dX0_init_72 rfl ?_
  refine kn_putI (fl := [none, some 3, some 4, some 7, some 12, some 13, none, none, none, none, none, none, none, none, none, none, none, none]) rfl dX0_init_73 lfX0_49 rfl (by decide) rfl (gm_fit_int _) (fun _ => rfl) ?_
  exact kn_vret dX0_init_76 rfl rfl rfl rfl
def kmX4_16 (S : gm_Mem) : gm_Mem := gm_u (gm_u (gm_u S 16 0 1) 16 1 1) 16 4 (-1 : Int32)
theorem kcX4_16 (S : gm_Mem) : kn_run gC 1 YX4_init 0 [some (.ref 16)] [] 17 0 0 S 2 32 (kmX4_16 S) := by
  refine kn_aload_n dX4_init_0 rfl ?_
  refine kn_objInit rfl kn_obX4 dX4_init_1 (by decide) (by decide) ?_
  refine kn_aload_n dX4_init_4 rfl ?_
  refine kn_bipush (v := 16) dX4_init_5 (by decide) ?_
  refine kn_newi (q := 17) (N := 16) dX4_init_7 rfl rfl (by decide) (by decide) (by decide) (by decide) (by decide) (by decide) ?_
  refine kn_putR (fl := [some 17, some 18, none, none, none]) rfl dX4_init_9 lfX4_9 rfl (by decide) rfl (fun _ => ⟨rfl, rfl⟩) rfl ?_
  refine kn_aload_n dX4_init_12 rfl ?_
  refine kn_bipush (v := 16) dX4_init_13 (by decide) ?_
  refine kn_newi (q := 18) (N := 16) dX4_init_15 rfl rfl (by decide) (by decide) (by decide) (by decide) (by decide) (by decide) ?_
  refine kn_putR (fl := [some 17, some 18, none, none, none]) rfl dX4_init_17 lfX4_15 rfl (by decide) rfl (fun _ => ⟨rfl, rfl⟩) rfl ?_
  refine kn_aload_n dX4_init_20 rfl ?_
  refine kn_iconst (v := -1) dX4_init_21 (by decide) ?_
  refine kn_putI (fl := [some 17, some 18, none, none, none]) rfl dX4_init_22 lfX4_18 rfl (by decide) rfl (gm_fit_int _) (fun h => absurd h (by decide)) ?_
  exact kn_vret dX4_init_25 rfl rfl rfl rfl
def kmX1_19 (S : gm_Mem) : gm_Mem := gm_u (gm_u (gm_u (gm_u (gm_u S 19 0 1) 19 1 1) 19 2 1) 19 3 1) 19 6 (-1 : Int32)
theorem kcX1_19 (S : gm_Mem) : kn_run gC 1 YX1_init 0 [some (.ref 19)] [] 20 0 0 S 4 524 (kmX1_19 S) := by
  refine kn_aload_n dX1_init_0 rfl ?_
  refine kn_objInit rfl kn_obX1 dX1_init_1 (by decide) (by decide) ?_
  refine kn_aload_n dX1_init_4 rfl ?_
  refine kn_sipush (v := 512) dX1_init_5 (by decide) ?_
  refine kn_newi (q := 20) (N := 512) dX1_init_8 rfl rfl (by decide) (by decide) (by decide) (by decide) (by decide) (by decide) ?_
  refine kn_putR (fl := [some 20, some 21, some 22, some 23, none, none, none]) rfl dX1_init_10 lfX1_9 rfl (by decide) rfl (fun _ => ⟨rfl, rfl⟩) rfl ?_
  refine kn_aload_n dX1_init_13 rfl ?_
  refine kn_iconst (v := 4) dX1_init_14 (by decide) ?_
  refine kn_newz (q := 21) (N := 4) dX1_init_15 rfl rfl (by decide) (by decide) (by decide) (by decide) (by decide) (by decide) ?_
  refine kn_putR (fl := [some 20, some 21, some 22, some 23, none, none, none]) rfl dX1_init_17 lfX1_15 rfl (by decide) rfl (fun _ => ⟨rfl, rfl⟩) rfl ?_
  refine kn_aload_n dX1_init_20 rfl ?_
  refine kn_iconst (v := 4) dX1_init_21 (by decide) ?_
  refine kn_newz (q := 22) (N := 4) dX1_init_22 rfl rfl (by decide) (by decide) (by decide) (by decide) (by decide) (by decide) ?_
  refine kn_putR (fl := [some 20, some 21, some 22, some 23, none, none, none]) rfl dX1_init_24 lfX1_19 rfl (by decide) rfl (fun _ => ⟨rfl, rfl⟩) rfl ?_
  refine kn_aload_n dX1_init_27 rfl ?_
  refine kn_iconst (v := 4) dX1_init_28 (by decide) ?_
  refine kn_newi (q := 23) (N := 4) dX1_init_29 rfl rfl (by decide) (by decide) (by decide) (by decide) (by decide) (by decide) ?_
  refine kn_putR (fl := [some 20, some 21, some 22, some 23, none, none, none]) rfl dX1_init_31 lfX1_22 rfl (by decide) rfl (fun _ => ⟨rfl, rfl⟩) rfl ?_
  refine kn_aload_n dX1_init_34 rfl ?_
  refine kn_iconst (v := -1) dX1_init_35 (by decide) ?_
  refine kn_putI (fl := [some 20, some 21, some 22, some 23, none, none, none]) rfl dX1_init_36 lfX1_25 rfl (by decide) rfl (gm_fit_int _) (fun h => absurd h (by decide)) ?_
  exact kn_vret dX1_init_39 rfl rfl rfl rfl
def kmX8_24 (S : gm_Mem) : gm_Mem := S
theorem kcX8_24 (S : gm_Mem) : kn_run gC 1 YX8_init 0 [some (.ref 24)] [] 25 0 0 S 0 0 (kmX8_24 S) := by
  refine kn_aload_n dX8_init_0 rfl ?_
  refine kn_objInit rfl kn_obX8 dX8_init_1 (by decide) (by decide) ?_
  exact kn_vret dX8_init_4 rfl rfl rfl rfl
def kmX8_25 (S : gm_Mem) : gm_Mem := S
theorem kcX8_25 (S : gm_Mem) : kn_run gC 1 YX8_init 0 [some (.ref 25)] [] 26 0 0 S 0 0 (kmX8_25 S) := by
  refine kn_aload_n dX8_init_0 rfl ?_
  refine kn_objInit rfl kn_obX8 dX8_init_1 (by decide) (by decide) ?_
  exact kn_vret dX8_init_4 rfl rfl rfl rfl
def kmX0_14 (S : gm_Mem) : gm_Mem := gm_u (gm_u (gm_u (gm_u (gm_u (kmX8_25 (gm_u (kmX8_24 (gm_u (kmX1_19 (gm_u (kmX4_16 (gm_u S 14 1 1)) 14 2 1)) 14 3 1)) 14 4 1)) 14 5 1) 14 8 (0 : Int32)) 14 14 (-1 : Int32)) 14 16 (-1 : Int32)) 14 0 (1 : Int32)
theorem kcX0_14 (S : gm_Mem) : kn_run gC 2 YX0_init 0 [some (.ref 14), some (.int (1 : Int32))] [] 15 0 0 S 11 581 (kmX0_14 S) := by
  refine kn_aload_n dX0_init_0 rfl ?_
  refine kn_objInit rfl kn_obX0 dX0_init_1 (by decide) (by decide) ?_
  refine kn_aload_n dX0_init_4 rfl ?_
  refine kn_bipush (v := 9) dX0_init_5 (by decide) ?_
  refine kn_newi (q := 15) (N := 9) dX0_init_7 rfl rfl (by decide) (by decide) (by decide) (by decide) (by decide) (by decide) ?_
  refine kn_putR (fl := [none, some 15, some 16, some 19, some 24, some 25, none, none, none, none, none, none, none, none, none, none, none, none]) rfl dX0_init_9 lfX0_9 rfl (by decide) rfl (fun _ => ⟨rfl, rfl⟩) rfl ?_
  refine kn_aload_n dX0_init_12 rfl ?_
  refine kn_new (q := 16) rfl dX0_init_13 kn_nwX0_15 rfl rfl (by decide) (by decide) ?_
  refine kn_dup dX0_init_16 ?_
  refine kn_callN (k1 := 1) (Y1 := YX4_init) (own := RX0) rfl dX0_init_17 nlX0_17 kn_miX4_init [] [.ref 16, .ref 14] rfl rfl (by decide) (by decide) (by decide) (by decide) rfl (by decide) (by decide) (kcX4_16 _) ?_
  refine kn_putR (fl := [none, some 15, some 16, some 19, some 24, some 25, none, none, none, none, none, none, none, none, none, none, none, none]) rfl dX0_init_20 lfX0_18 rfl (by decide) rfl (fun _ => ⟨rfl, rfl⟩) rfl ?_
  refine kn_aload_n dX0_init_23 rfl ?_
  refine kn_new (q := 19) rfl dX0_init_24 kn_nwX0_22 rfl rfl (by decide) (by decide) ?_
  refine kn_dup dX0_init_27 ?_
  refine kn_callN (k1 := 1) (Y1 := YX1_init) (own := RX0) rfl dX0_init_28 nlX0_24 kn_miX1_init [] [.ref 19, .ref 14] rfl rfl (by decide) (by decide) (by decide) (by decide) rfl (by decide) (by decide) (kcX1_19 _) ?_
  refine kn_putR (fl := [none, some 15, some 16, some 19, some 24, some 25, none, none, none, none, none, none, none, none, none, none, none, none]) rfl dX0_init_31 lfX0_25 rfl (by decide) rfl (fun _ => ⟨rfl, rfl⟩) rfl ?_
  refine kn_aload_n dX0_init_34 rfl ?_
  refine kn_new (q := 24) rfl dX0_init_35 kn_nwX0_29 rfl rfl (by decide) (by decide) ?_
  refine kn_dup dX0_init_38 ?_
  refine kn_callN (k1 := 1) (Y1 := YX8_init) (own := RX0) rfl dX0_init_39 nlX0_31 kn_miX8_init [] [.ref 24, .ref 14] rfl rfl (by decide) (by decide) (by decide) (by decide) rfl (by decide) (by decide) (kcX8_24 _) ?_
  refine kn_putR (fl := [none, some 15, some 16, some 19, some 24, some 25, none, none, none, none, none, none, none, none, none, none, none, none]) rfl dX0_init_42 lfX0_32 rfl (by decide) rfl (fun _ => ⟨rfl, rfl⟩) rfl ?_
  refine kn_aload_n dX0_init_45 rfl ?_
  refine kn_new (q := 25) rfl dX0_init_46 kn_nwX0_29 rfl rfl (by decide) (by decide) ?_
  refine kn_dup dX0_init_49 ?_
  refine kn_callN (k1 := 1) (Y1 := YX8_init) (own := RX0) rfl dX0_init_50 nlX0_31 kn_miX8_init [] [.ref 25, .ref 14] rfl rfl (by decide) (by decide) (by decide) (by decide) rfl (by decide) (by decide) (kcX8_25 _) ?_
  refine kn_putR (fl := [none, some 15, some 16, some 19, some 24, some 25, none, none, none, none, none, none, none, none, none, none, none, none]) rfl dX0_init_53 lfX0_36 rfl (by decide) rfl (fun _ => ⟨rfl, rfl⟩) rfl ?_
  refine kn_aload_n dX0_init_56 rfl ?_
  refine kn_iconst (v := 0) dX0_init_57 (by decide) ?_
  refine kn_putI (fl := [none, some 15, some 16, some 19, some 24, some 25, none, none, none, none, none, none, none, none, none, none, none, none]) rfl dX0_init_58 lfX0_39 rfl (by decide) rfl (gm_fit_int _) (fun h => absurd h (by decide)) ?_
  refine kn_aload_n dX0_init_61 rfl ?_
  refine kn_iconst (v := -1) dX0_init_62 (by decide) ?_
  refine kn_putI (fl := [none, some 15, some 16, some 19, some 24, some 25, none, none, none, none, none, none, none, none, none, none, none, none]) rfl dX0_init_63 lfX0_43 rfl (by decide) rfl (gm_fit_int _) (fun h => absurd h (by decide)) ?_
  refine kn_aload_n dX0_init_66 rfl ?_
  refine kn_iconst (v := -1) dX0_init_67 (by decide) ?_
  refine kn_putI (fl := [none, some 15, some 16, some 19, some 24, some 25, none, none, none, none, none, none, none, none, none, none, none, none]) rfl dX0_init_68 lfX0_46 rfl (by decide) rfl (gm_fit_int _) (fun h => absurd h (by decide)) ?_
  refine kn_aload_n dX0_init_71 rfl ?_
  refine kn_iload_n dX0_init_72 rfl ?_
  refine kn_putI (fl := [none, some 15, some 16, some 19, some 24, some 25, none, none, none, none, none, none, none, none, none, none, none, none]) rfl dX0_init_73 lfX0_49 rfl (by decide) rfl (gm_fit_int _) (fun _ => rfl) ?_
  exact kn_vret dX0_init_76 rfl rfl rfl rfl
theorem kcL_26 : ∀ d i (S : gm_Mem), i + d = 24 → ¬ S 26 0 = 0 → kn_run gC 2 YX3_init 15 [some (.ref 26), some (.int (nI i))] [] 27 (1 + i) (24 + 9 * i) S 25 240 (kmL 27 d i S) := by
  intro d
  induction d with
  | zero =>
    intro i S hi h0
    obtain rfl : i = 24 := by omega
    refine kn_iload_n dX3_init_15 rfl ?_
    refine kn_bipush (v := 24) dX3_init_16 (by decide) ?_
    refine kn_icmp_ge_t (tgt := 40) dX3_init_18 (by decide) (by decide) ?_
    exact kn_vret dX3_init_40 rfl rfl rfl rfl
  | succ d ih =>
    intro i S hi h0
    have hs : gC[28 + i]? = some (.inl (5, [none, none, none, none, none, none, none, none, none])) := sC_Pk_0 (by omega)
    refine kn_iload_n dX3_init_15 rfl ?_
    refine kn_bipush (v := 24) dX3_init_16 (by decide) ?_
    refine kn_icmp_ge_f dX3_init_18 ⟨40, by decide⟩ ((nI_ltI (b := 24) (by omega) (by decide)).mpr (by omega)) ?_
    refine kn_aload_n dX3_init_21 rfl ?_
    refine kn_getR (fl := [some 27, none]) rfl dX3_init_22 lfX3_11 rfl (by omega) rfl h0 ?_
    refine kn_iload_n dX3_init_25 rfl ?_
    refine kn_new (q := 28 + i) rfl dX3_init_26 kn_nwX3_9 hs (by omega) (by omega) (by show 24 + 9 * i + 9 ≤ 240; omega) ?_
    refine kn_dup dX3_init_29 ?_
    refine kn_callN (k1 := 1) (j1 := 0) (τ1 := 0) (Y1 := YX5_init) (own := RX3) rfl dX3_init_30 nlX3_17 kn_miX5_init [] [.ref (28 + i), .int (nI i), .ref 27] rfl rfl (by show 3 ≤ 12; decide) (by decide) (by decide) (by show _ ≤ gC.length; have : gC.length = 123 := rfl; omega) rfl (by omega) (by show 24 + 9 * i + 9 + 0 ≤ 240; omega) kcX5 ?_
    refine kn_aast (b := i) (n := 24) (q := 28 + i) (x := nI (28 + i)) dX3_init_33 rfl (by omega) hs (by omega) (ix_n (by omega) (by decide)) (nI_clamp (by omega)) (nI_ne0 (by omega) (by omega)) ?_
    refine kn_iinc (v := nI (i + 1)) dX3_init_34 rfl (nI_1 i) (by decide) rfl ?_
    refine kn_goto (tgt := 15) dX3_init_37 (by decide) ?_
    have e1 : 1 + i + 1 + 0 = 1 + (i + 1) := by omega
    have e2 : 24 + 9 * i + 9 + 0 = 24 + 9 * (i + 1) := by omega
    have := ih (i + 1) (gm_u S 27 i (nI (27 + 1 + i))) (by omega) (by rw [gm_rp (by decide)]; exact h0)
    rw [← e1, ← e2] at this
    exact this
def kmX3_26 (S : gm_Mem) : gm_Mem := kmL 27 24 0 (gm_u S 26 0 1)
theorem kcX3_26 (S : gm_Mem) : kn_run gC 2 YX3_init 0 [some (.ref 26), none] [] 27 0 0 S 25 240 (kmX3_26 S) := by
  refine kn_aload_n dX3_init_0 rfl ?_
  refine kn_objInit rfl kn_obX3 dX3_init_1 (by decide) (by decide) ?_
  refine kn_aload_n dX3_init_4 rfl ?_
  refine kn_bipush (v := 24) dX3_init_5 (by decide) ?_
  refine kn_newq (a := 9) (q := 27) (N := 24) rfl dX3_init_7 rfl rfl (by decide) (by decide) (by decide) (by decide) (by decide) ?_
  refine kn_putR (fl := [some 27, none]) rfl dX3_init_10 lfX3_11 rfl (by decide) rfl (fun _ => ⟨rfl, rfl⟩) rfl ?_
  refine kn_iconst (v := 0) dX3_init_13 (by decide) ?_
  refine kn_istore_n dX3_init_14 (by decide) rfl ?_
  exact kcL_26 24 0 (gm_u S 26 0 1) rfl (by simp [gm_u])
def kmX7_52 (S : gm_Mem) : gm_Mem := gm_u (gm_u S 52 0 1) 52 1 1
theorem kcX7_52 (S : gm_Mem) : kn_run gC 1 YX7_init 0 [some (.ref 52)] [] 53 0 0 S 2 32 (kmX7_52 S) := by
  refine kn_aload_n dX7_init_0 rfl ?_
  refine kn_objInit rfl kn_obX7 dX7_init_1 (by decide) (by decide) ?_
  refine kn_aload_n dX7_init_4 rfl ?_
  refine kn_bipush (v := 16) dX7_init_5 (by decide) ?_
  refine kn_newi (q := 53) (N := 16) dX7_init_7 rfl rfl (by decide) (by decide) (by decide) (by decide) (by decide) (by decide) ?_
  refine kn_putR (fl := [some 53, some 54, none]) rfl dX7_init_9 lfX7_9 rfl (by decide) rfl (fun _ => ⟨rfl, rfl⟩) rfl ?_
  refine kn_aload_n dX7_init_12 rfl ?_
  refine kn_bipush (v := 16) dX7_init_13 (by decide) ?_
  refine kn_newz (q := 54) (N := 16) dX7_init_15 rfl rfl (by decide) (by decide) (by decide) (by decide) (by decide) (by decide) ?_
  refine kn_putR (fl := [some 53, some 54, none]) rfl dX7_init_17 lfX7_15 rfl (by decide) rfl (fun _ => ⟨rfl, rfl⟩) rfl ?_
  exact kn_vret dX7_init_20 rfl rfl rfl rfl
def kmX2_55 (S : gm_Mem) : gm_Mem := gm_u (gm_u (gm_u (gm_u S 55 0 1) 55 1 1) 55 2 1) 55 4 (29 : Int32)
theorem kcX2_55 (S : gm_Mem) : kn_run gC 1 YX2_init 0 [some (.ref 55)] [] 56 0 0 S 3 90 (kmX2_55 S) := by
  refine kn_aload_n dX2_init_0 rfl ?_
  refine kn_objInit rfl kn_obX2 dX2_init_1 (by decide) (by decide) ?_
  refine kn_aload_n dX2_init_4 rfl ?_
  refine kn_bipush (v := 30) dX2_init_5 (by decide) ?_
  refine kn_newi (q := 56) (N := 30) dX2_init_7 rfl rfl (by decide) (by decide) (by decide) (by decide) (by decide) (by decide) ?_
  refine kn_putR (fl := [some 56, some 57, some 58, none, none]) rfl dX2_init_9 lfX2_9 rfl (by decide) rfl (fun _ => ⟨rfl, rfl⟩) rfl ?_
  refine kn_aload_n dX2_init_12 rfl ?_
  refine kn_bipush (v := 30) dX2_init_13 (by decide) ?_
  refine kn_newi (q := 57) (N := 30) dX2_init_15 rfl rfl (by decide) (by decide) (by decide) (by decide) (by decide) (by decide) ?_
  refine kn_putR (fl := [some 56, some 57, some 58, none, none]) rfl dX2_init_17 lfX2_15 rfl (by decide) rfl (fun _ => ⟨rfl, rfl⟩) rfl ?_
  refine kn_aload_n dX2_init_20 rfl ?_
  refine kn_bipush (v := 30) dX2_init_21 (by decide) ?_
  refine kn_newi (q := 58) (N := 30) dX2_init_23 rfl rfl (by decide) (by decide) (by decide) (by decide) (by decide) (by decide) ?_
  refine kn_putR (fl := [some 56, some 57, some 58, none, none]) rfl dX2_init_25 lfX2_18 rfl (by decide) rfl (fun _ => ⟨rfl, rfl⟩) rfl ?_
  refine kn_aload_n dX2_init_28 rfl ?_
  refine kn_bipush (v := 29) dX2_init_29 (by decide) ?_
  refine kn_putI (fl := [some 56, some 57, some 58, none, none]) rfl dX2_init_31 lfX2_21 rfl (by decide) rfl (gm_fit_int _) (fun h => absurd h (by decide)) ?_
  exact kn_vret dX2_init_34 rfl rfl rfl rfl
def kmX9_1 (S : gm_Mem) : gm_Mem := gm_u (gm_u (gm_u (gm_u (kmX2_55 (gm_u (kmX7_52 (gm_u (kmX3_26 (gm_u (kmX0_14 (gm_u (kmX0_2 S) 1 0 1)) 1 1 1)) 1 2 1)) 1 3 1)) 1 4 1) 1 5 (6 : Int32)) 1 6 (3 : Int32)) 1 7 (20 : Int32)
theorem kcX9_1 (S : gm_Mem) : kn_run gC 3 YX9_init 0 [some (.ref 1)] [] 2 0 0 S 57 1570 (kmX9_1 S) := by
  refine kn_aload_n dX9_init_0 rfl ?_
  refine kn_objInit rfl kn_obX9 dX9_init_1 (by decide) (by decide) ?_
  refine kn_aload_n dX9_init_4 rfl ?_
  refine kn_new (q := 2) rfl dX9_init_5 kn_nwX9_7 rfl rfl (by decide) (by decide) ?_
  refine kn_dup dX9_init_8 ?_
  refine kn_iconst (v := 0) dX9_init_9 (by decide) ?_
  refine kn_call (k1 := 2) (Y1 := YX0_init) (own := RX9) rfl dX9_init_10 kn_mlX9_9 kn_miX0_init [.int 0] [.ref 2, .ref 1] rfl rfl (by decide) (by decide) (by decide) (by decide) rfl (by decide) (by decide) (kcX0_2 _) ?_
  refine kn_putR (fl := [some 2, some 14, some 26, some 52, some 55, none, none, none, none, none, none, none, none, none]) rfl dX9_init_13 lfX9_12 rfl (by decide) rfl (fun _ => ⟨rfl, rfl⟩) rfl ?_
  refine kn_aload_n dX9_init_16 rfl ?_
  refine kn_new (q := 14) rfl dX9_init_17 kn_nwX9_7 rfl rfl (by decide) (by decide) ?_
  refine kn_dup dX9_init_20 ?_
  refine kn_iconst (v := 1) dX9_init_21 (by decide) ?_
  refine kn_call (k1 := 2) (Y1 := YX0_init) (own := RX9) rfl dX9_init_22 kn_mlX9_9 kn_miX0_init [.int 1] [.ref 14, .ref 1] rfl rfl (by decide) (by decide) (by decide) (by decide) rfl (by decide) (by decide) (kcX0_14 _) ?_
  refine kn_putR (fl := [some 2, some 14, some 26, some 52, some 55, none, none, none, none, none, none, none, none, none]) rfl dX9_init_25 lfX9_18 rfl (by decide) rfl (fun _ => ⟨rfl, rfl⟩) rfl ?_
  refine kn_aload_n dX9_init_28 rfl ?_
  refine kn_new (q := 26) rfl dX9_init_29 kn_nwX9_21 rfl rfl (by decide) (by decide) ?_
  refine kn_dup dX9_init_32 ?_
  refine kn_call (k1 := 2) (Y1 := YX3_init) (own := RX9) rfl dX9_init_33 kn_mlX9_23 kn_miX3_init [] [.ref 26, .ref 1] rfl rfl (by decide) (by decide) (by decide) (by decide) rfl (by decide) (by decide) (kcX3_26 _) ?_
  refine kn_putR (fl := [some 2, some 14, some 26, some 52, some 55, none, none, none, none, none, none, none, none, none]) rfl dX9_init_36 lfX9_24 rfl (by decide) rfl (fun _ => ⟨rfl, rfl⟩) rfl ?_
  refine kn_aload_n dX9_init_39 rfl ?_
  refine kn_new (q := 52) rfl dX9_init_40 kn_nwX9_28 rfl rfl (by decide) (by decide) ?_
  refine kn_dup dX9_init_43 ?_
  refine kn_callN (k1 := 1) (Y1 := YX7_init) (own := RX9) rfl dX9_init_44 nlX9_30 kn_miX7_init [] [.ref 52, .ref 1] rfl rfl (by decide) (by decide) (by decide) (by decide) rfl (by decide) (by decide) (kcX7_52 _) ?_
  refine kn_putR (fl := [some 2, some 14, some 26, some 52, some 55, none, none, none, none, none, none, none, none, none]) rfl dX9_init_47 lfX9_31 rfl (by decide) rfl (fun _ => ⟨rfl, rfl⟩) rfl ?_
  refine kn_aload_n dX9_init_50 rfl ?_
  refine kn_new (q := 55) rfl dX9_init_51 kn_nwX9_35 rfl rfl (by decide) (by decide) ?_
  refine kn_dup dX9_init_54 ?_
  refine kn_callN (k1 := 1) (Y1 := YX2_init) (own := RX9) rfl dX9_init_55 nlX9_37 kn_miX2_init [] [.ref 55, .ref 1] rfl rfl (by decide) (by decide) (by decide) (by decide) rfl (by decide) (by decide) (kcX2_55 _) ?_
  refine kn_putR (fl := [some 2, some 14, some 26, some 52, some 55, none, none, none, none, none, none, none, none, none]) rfl dX9_init_58 lfX9_38 rfl (by decide) rfl (fun _ => ⟨rfl, rfl⟩) rfl ?_
  refine kn_aload_n dX9_init_61 rfl ?_
  refine kn_bipush (v := 6) dX9_init_62 (by decide) ?_
  refine kn_putI (fl := [some 2, some 14, some 26, some 52, some 55, none, none, none, none, none, none, none, none, none]) rfl dX9_init_64 lfX9_42 rfl (by decide) rfl (gm_fit_int _) (fun h => absurd h (by decide)) ?_
  refine kn_aload_n dX9_init_67 rfl ?_
  refine kn_iconst (v := 3) dX9_init_68 (by decide) ?_
  refine kn_putI (fl := [some 2, some 14, some 26, some 52, some 55, none, none, none, none, none, none, none, none, none]) rfl dX9_init_69 lfX9_46 rfl (by decide) rfl (gm_fit_int _) (fun h => absurd h (by decide)) ?_
  refine kn_aload_n dX9_init_72 rfl ?_
  refine kn_bipush (v := 20) dX9_init_73 (by decide) ?_
  refine kn_putI (fl := [some 2, some 14, some 26, some 52, some 55, none, none, none, none, none, none, none, none, none]) rfl dX9_init_75 lfX9_49 rfl (by decide) rfl (gm_fit_int _) (fun h => absurd h (by decide)) ?_
  exact kn_vret dX9_init_78 rfl rfl rfl rfl
def kmX4_62 (S : gm_Mem) : gm_Mem := gm_u (gm_u (gm_u S 62 0 1) 62 1 1) 62 4 (-1 : Int32)
theorem kcX4_62 (S : gm_Mem) : kn_run gC 1 YX4_init 0 [some (.ref 62)] [] 63 0 0 S 2 32 (kmX4_62 S) := by
  refine kn_aload_n dX4_init_0 rfl ?_
  refine kn_objInit rfl kn_obX4 dX4_init_1 (by decide) (by decide) ?_
  refine kn_aload_n dX4_init_4 rfl ?_
  refine kn_bipush (v := 16) dX4_init_5 (by decide) ?_
  refine kn_newi (q := 63) (N := 16) dX4_init_7 rfl rfl (by decide) (by decide) (by decide) (by decide) (by decide) (by decide) ?_
  refine kn_putR (fl := [some 63, some 64, none, none, none]) rfl dX4_init_9 lfX4_9 rfl (by decide) rfl (fun _ => ⟨rfl, rfl⟩) rfl ?_
  refine kn_aload_n dX4_init_12 rfl ?_
  refine kn_bipush (v := 16) dX4_init_13 (by decide) ?_
  refine kn_newi (q := 64) (N := 16) dX4_init_15 rfl rfl (by decide) (by decide) (by decide) (by decide) (by decide) (by decide) ?_
  refine kn_putR (fl := [some 63, some 64, none, none, none]) rfl dX4_init_17 lfX4_15 rfl (by decide) rfl (fun _ => ⟨rfl, rfl⟩) rfl ?_
  refine kn_aload_n dX4_init_20 rfl ?_
  refine kn_iconst (v := -1) dX4_init_21 (by decide) ?_
  refine kn_putI (fl := [some 63, some 64, none, none, none]) rfl dX4_init_22 lfX4_18 rfl (by decide) rfl (gm_fit_int _) (fun h => absurd h (by decide)) ?_
  exact kn_vret dX4_init_25 rfl rfl rfl rfl
def kmX1_65 (S : gm_Mem) : gm_Mem := gm_u (gm_u (gm_u (gm_u (gm_u S 65 0 1) 65 1 1) 65 2 1) 65 3 1) 65 6 (-1 : Int32)
theorem kcX1_65 (S : gm_Mem) : kn_run gC 1 YX1_init 0 [some (.ref 65)] [] 66 0 0 S 4 524 (kmX1_65 S) := by
  refine kn_aload_n dX1_init_0 rfl ?_
  refine kn_objInit rfl kn_obX1 dX1_init_1 (by decide) (by decide) ?_
  refine kn_aload_n dX1_init_4 rfl ?_
  refine kn_sipush (v := 512) dX1_init_5 (by decide) ?_
  refine kn_newi (q := 66) (N := 512) dX1_init_8 rfl rfl (by decide) (by decide) (by decide) (by decide) (by decide) (by decide) ?_
  refine kn_putR (fl := [some 66, some 67, some 68, some 69, none, none, none]) rfl dX1_init_10 lfX1_9 rfl (by decide) rfl (fun _ => ⟨rfl, rfl⟩) rfl ?_
  refine kn_aload_n dX1_init_13 rfl ?_
  refine kn_iconst (v := 4) dX1_init_14 (by decide) ?_
  refine kn_newz (q := 67) (N := 4) dX1_init_15 rfl rfl (by decide) (by decide) (by decide) (by decide) (by decide) (by decide) ?_
  refine kn_putR (fl := [some 66, some 67, some 68, some 69, none, none, none]) rfl dX1_init_17 lfX1_15 rfl (by decide) rfl (fun _ => ⟨rfl, rfl⟩) rfl ?_
  refine kn_aload_n dX1_init_20 rfl ?_
  refine kn_iconst (v := 4) dX1_init_21 (by decide) ?_
  refine kn_newz (q := 68) (N := 4) dX1_init_22 rfl rfl (by decide) (by decide) (by decide) (by decide) (by decide) (by decide) ?_
  refine kn_putR (fl := [some 66, some 67, some 68, some 69, none, none, none]) rfl dX1_init_24 lfX1_19 rfl (by decide) rfl (fun _ => ⟨rfl, rfl⟩) rfl ?_
  refine kn_aload_n dX1_init_27 rfl ?_
  refine kn_iconst (v := 4) dX1_init_28 (by decide) ?_
  refine kn_newi (q := 69) (N := 4) dX1_init_29 rfl rfl (by decide) (by decide) (by decide) (by decide) (by decide) (by decide) ?_
  refine kn_putR (fl := [some 66, some 67, some 68, some 69, none, none, none]) rfl dX1_init_31 lfX1_22 rfl (by decide) rfl (fun _ => ⟨rfl, rfl⟩) rfl ?_
  refine kn_aload_n dX1_init_34 rfl ?_
  refine kn_iconst (v := -1) dX1_init_35 (by decide) ?_
  refine kn_putI (fl := [some 66, some 67, some 68, some 69, none, none, none]) rfl dX1_init_36 lfX1_25 rfl (by decide) rfl (gm_fit_int _) (fun h => absurd h (by decide)) ?_
  exact kn_vret dX1_init_39 rfl rfl rfl rfl
def kmX8_70 (S : gm_Mem) : gm_Mem := S
theorem kcX8_70 (S : gm_Mem) : kn_run gC 1 YX8_init 0 [some (.ref 70)] [] 71 0 0 S 0 0 (kmX8_70 S) := by
  refine kn_aload_n dX8_init_0 rfl ?_
  refine kn_objInit rfl kn_obX8 dX8_init_1 (by decide) (by decide) ?_
  exact kn_vret dX8_init_4 rfl rfl rfl rfl
def kmX8_71 (S : gm_Mem) : gm_Mem := S
theorem kcX8_71 (S : gm_Mem) : kn_run gC 1 YX8_init 0 [some (.ref 71)] [] 72 0 0 S 0 0 (kmX8_71 S) := by
  refine kn_aload_n dX8_init_0 rfl ?_
  refine kn_objInit rfl kn_obX8 dX8_init_1 (by decide) (by decide) ?_
  exact kn_vret dX8_init_4 rfl rfl rfl rfl
def kmX0_60 (S : gm_Mem) : gm_Mem := gm_u (gm_u (gm_u (gm_u (gm_u (kmX8_71 (gm_u (kmX8_70 (gm_u (kmX1_65 (gm_u (kmX4_62 (gm_u S 60 1 1)) 60 2 1)) 60 3 1)) 60 4 1)) 60 5 1) 60 8 (0 : Int32)) 60 14 (-1 : Int32)) 60 16 (-1 : Int32)) 60 0 (0 : Int32)
theorem kcX0_60 (S : gm_Mem) : kn_run gC 2 YX0_init 0 [some (.ref 60), some (.int (0 : Int32))] [] 61 0 0 S 11 581 (kmX0_60 S) := by
  refine kn_aload_n dX0_init_0 rfl ?_
  refine kn_objInit rfl kn_obX0 dX0_init_1 (by decide) (by decide) ?_
  refine kn_aload_n dX0_init_4 rfl ?_
  refine kn_bipush (v := 9) dX0_init_5 (by decide) ?_
  refine kn_newi (q := 61) (N := 9) dX0_init_7 rfl rfl (by decide) (by decide) (by decide) (by decide) (by decide) (by decide) ?_
  refine kn_putR (fl := [none, some 61, some 62, some 65, some 70, some 71, none, none, none, none, none, none, none, none, none, none, none, none]) rfl dX0_init_9 lfX0_9 rfl (by decide) rfl (fun _ => ⟨rfl, rfl⟩) rfl ?_
  refine kn_aload_n dX0_init_12 rfl ?_
  refine kn_new (q := 62) rfl dX0_init_13 kn_nwX0_15 rfl rfl (by decide) (by decide) ?_
  refine kn_dup dX0_init_16 ?_
  refine kn_callN (k1 := 1) (Y1 := YX4_init) (own := RX0) rfl dX0_init_17 nlX0_17 kn_miX4_init [] [.ref 62, .ref 60] rfl rfl (by decide) (by decide) (by decide) (by decide) rfl (by decide) (by decide) (kcX4_62 _) ?_
  refine kn_putR (fl := [none, some 61, some 62, some 65, some 70, some 71, none, none, none, none, none, none, none, none, none, none, none, none]) rfl dX0_init_20 lfX0_18 rfl (by decide) rfl (fun _ => ⟨rfl, rfl⟩) rfl ?_
  refine kn_aload_n dX0_init_23 rfl ?_
  refine kn_new (q := 65) rfl dX0_init_24 kn_nwX0_22 rfl rfl (by decide) (by decide) ?_
  refine kn_dup dX0_init_27 ?_
  refine kn_callN (k1 := 1) (Y1 := YX1_init) (own := RX0) rfl dX0_init_28 nlX0_24 kn_miX1_init [] [.ref 65, .ref 60] rfl rfl (by decide) (by decide) (by decide) (by decide) rfl (by decide) (by decide) (kcX1_65 _) ?_
  refine kn_putR (fl := [none, some 61, some 62, some 65, some 70, some 71, none, none, none, none, none, none, none, none, none, none, none, none]) rfl dX0_init_31 lfX0_25 rfl (by decide) rfl (fun _ => ⟨rfl, rfl⟩) rfl ?_
  refine kn_aload_n dX0_init_34 rfl ?_
  refine kn_new (q := 70) rfl dX0_init_35 kn_nwX0_29 rfl rfl (by decide) (by decide) ?_
  refine kn_dup dX0_init_38 ?_
  refine kn_callN (k1 := 1) (Y1 := YX8_init) (own := RX0) rfl dX0_init_39 nlX0_31 kn_miX8_init [] [.ref 70, .ref 60] rfl rfl (by decide) (by decide) (by decide) (by decide) rfl (by decide) (by decide) (kcX8_70 _) ?_
  refine kn_putR (fl := [none, some 61, some 62, some 65, some 70, some 71, none, none, none, none, none, none, none, none, none, none, none, none]) rfl dX0_init_42 lfX0_32 rfl (by decide) rfl (fun _ => ⟨rfl, rfl⟩) rfl ?_
  refine kn_aload_n dX0_init_45 rfl ?_
  refine kn_new (q := 71) rfl dX0_init_46 kn_nwX0_29 rfl rfl (by decide) (by decide) ?_
  refine kn_dup dX0_init_49 ?_
  refine kn_callN (k1 := 1) (Y1 := YX8_init) (own := RX0) rfl dX0_init_50 nlX0_31 kn_miX8_init [] [.ref 71, .ref 60] rfl rfl (by decide) (by decide) (by decide) (by decide) rfl (by decide) (by decide) (kcX8_71 _) ?_
  refine kn_putR (fl := [none, some 61, some 62, some 65, some 70, some 71, none, none, none, none, none, none, none, none, none, none, none, none]) rfl dX0_init_53 lfX0_36 rfl (by decide) rfl (fun _ => ⟨rfl, rfl⟩) rfl ?_
  refine kn_aload_n dX0_init_56 rfl ?_
  refine kn_iconst (v := 0) dX0_init_57 (by decide) ?_
  refine kn_putI (fl := [none, some 61, some 62, some 65, some 70, some 71, none, none, none, none, none, none, none, none, none, none, none, none]) rfl dX0_init_58 lfX0_39 rfl (by decide) rfl (gm_fit_int _) (fun h => absurd h (by decide)) ?_
  refine kn_aload_n dX0_init_61 rfl ?_
  refine kn_iconst (v := -1) dX0_init_62 (by decide) ?_
  refine kn_putI (fl := [none, some 61, some 62, some 65, some 70, some 71, none, none, none, none, none, none, none, none, none, none, none, none]) rfl dX0_init_63 lfX0_43 rfl (by decide) rfl (gm_fit_int _) (fun h => absurd h (by decide)) ?_
  refine kn_aload_n dX0_init_66 rfl ?_
  refine kn_iconst (v := -1) dX0_init_67 (by decide) ?_
  refine kn_putI (fl := [none, some 61, some 62, some 65, some 70, some 71, none, none, none, none, none, none, none, none, none, none, none, none]) rfl dX0_init_68 lfX0_46 rfl (by decide) rfl (gm_fit_int _) (fun h => absurd h (by decide)) ?_
  refine kn_aload_n dX0_init_71 rfl ?_
  refine kn_iload_n dX0_init_72 rfl ?_
  refine kn_putI (fl := [none, some 61, some 62, some 65, some 70, some 71, none, none, none, none, none, none, none, none, none, none, none, none]) rfl dX0_init_73 lfX0_49 rfl (by decide) rfl (gm_fit_int _) (fun _ => rfl) ?_
  exact kn_vret dX0_init_76 rfl rfl rfl rfl
def kmX4_74 (S : gm_Mem) : gm_Mem := gm_u (gm_u (gm_u S 74 0 1) 74 1 1) 74 4 (-1 : Int32)
theorem kcX4_74 (S : gm_Mem) : kn_run gC 1 YX4_init 0 [some (.ref 74)] [] 75 0 0 S 2 32 (kmX4_74 S) := by
  refine kn_aload_n dX4_init_0 rfl ?_
  refine kn_objInit rfl kn_obX4 dX4_init_1 (by decide) (by decide) ?_
  refine kn_aload_n dX4_init_4 rfl ?_
  refine kn_bipush (v := 16) dX4_init_5 (by decide) ?_
  refine kn_newi (q := 75) (N := 16) dX4_init_7 rfl rfl (by decide) (by decide) (by decide) (by decide) (by decide) (by decide) ?_
  refine kn_putR (fl := [some 75, some 76, none, none, none]) rfl dX4_init_9 lfX4_9 rfl (by decide) rfl (fun _ => ⟨rfl, rfl⟩) rfl ?_
  refine kn_aload_n dX4_init_12 rfl ?_
  refine kn_bipush (v := 16) dX4_init_13 (by decide) ?_
  refine kn_newi (q := 76) (N := 16) dX4_init_15 rfl rfl (by decide) (by decide) (by decide) (by decide) (by decide) (by decide) ?_
  refine kn_putR (fl := [some 75, some 76, none, none, none]) rfl dX4_init_17 lfX4_15 rfl (by decide) rfl (fun _ => ⟨rfl, rfl⟩) rfl ?_
  refine kn_aload_n dX4_init_20 rfl ?_
  refine kn_iconst (v := -1) dX4_init_21 (by decide) ?_
  refine kn_putI (fl := [some 75, some 76, none, none, none]) rfl dX4_init_22 lfX4_18 rfl (by decide) rfl (gm_fit_int _) (fun h => absurd h (by decide)) ?_
  exact kn_vret dX4_init_25 rfl rfl rfl rfl
def kmX1_77 (S : gm_Mem) : gm_Mem := gm_u (gm_u (gm_u (gm_u (gm_u S 77 0 1) 77 1 1) 77 2 1) 77 3 1) 77 6 (-1 : Int32)
theorem kcX1_77 (S : gm_Mem) : kn_run gC 1 YX1_init 0 [some (.ref 77)] [] 78 0 0 S 4 524 (kmX1_77 S) := by
  refine kn_aload_n dX1_init_0 rfl ?_
  refine kn_objInit rfl kn_obX1 dX1_init_1 (by decide) (by decide) ?_
  refine kn_aload_n dX1_init_4 rfl ?_
  refine kn_sipush (v := 512) dX1_init_5 (by decide) ?_
  refine kn_newi (q := 78) (N := 512) dX1_init_8 rfl rfl (by decide) (by decide) (by decide) (by decide) (by decide) (by decide) ?_
  refine kn_putR (fl := [some 78, some 79, some 80, some 81, none, none, none]) rfl dX1_init_10 lfX1_9 rfl (by decide) rfl (fun _ => ⟨rfl, rfl⟩) rfl ?_
  refine kn_aload_n dX1_init_13 rfl ?_
  refine kn_iconst (v := 4) dX1_init_14 (by decide) ?_
  refine kn_newz (q := 79) (N := 4) dX1_init_15 rfl rfl (by decide) (by decide) (by decide) (by decide) (by decide) (by decide) ?_
  refine kn_putR (fl := [some 78, some 79, some 80, some 81, none, none, none]) rfl dX1_init_17 lfX1_15 rfl (by decide) rfl (fun _ => ⟨rfl, rfl⟩) rfl ?_
  refine kn_aload_n dX1_init_20 rfl ?_
  refine kn_iconst (v := 4) dX1_init_21 (by decide) ?_
  refine kn_newz (q := 80) (N := 4) dX1_init_22 rfl rfl (by decide) (by decide) (by decide) (by decide) (by decide) (by decide) ?_
  refine kn_putR (fl := [some 78, some 79, some 80, some 81, none, none, none]) rfl dX1_init_24 lfX1_19 rfl (by decide) rfl (fun _ => ⟨rfl, rfl⟩) rfl ?_
  refine kn_aload_n dX1_init_27 rfl ?_
  refine kn_iconst (v := 4) dX1_init_28 (by decide) ?_
  refine kn_newi (q := 81) (N := 4) dX1_init_29 rfl rfl (by decide) (by decide) (by decide) (by decide) (by decide) (by decide) ?_
  refine kn_putR (fl := [some 78, some 79, some 80, some 81, none, none, none]) rfl dX1_init_31 lfX1_22 rfl (by decide) rfl (fun _ => ⟨rfl, rfl⟩) rfl ?_
  refine kn_aload_n dX1_init_34 rfl ?_
  refine kn_iconst (v := -1) dX1_init_35 (by decide) ?_
  refine kn_putI (fl := [some 78, some 79, some 80, some 81, none, none, none]) rfl dX1_init_36 lfX1_25 rfl (by decide) rfl (gm_fit_int _) (fun h => absurd h (by decide)) ?_
  exact kn_vret dX1_init_39 rfl rfl rfl rfl
def kmX8_82 (S : gm_Mem) : gm_Mem := S
theorem kcX8_82 (S : gm_Mem) : kn_run gC 1 YX8_init 0 [some (.ref 82)] [] 83 0 0 S 0 0 (kmX8_82 S) := by
  refine kn_aload_n dX8_init_0 rfl ?_
  refine kn_objInit rfl kn_obX8 dX8_init_1 (by decide) (by decide) ?_
  exact kn_vret dX8_init_4 rfl rfl rfl rfl
def kmX8_83 (S : gm_Mem) : gm_Mem := S
theorem kcX8_83 (S : gm_Mem) : kn_run gC 1 YX8_init 0 [some (.ref 83)] [] 84 0 0 S 0 0 (kmX8_83 S) := by
  refine kn_aload_n dX8_init_0 rfl ?_
  refine kn_objInit rfl kn_obX8 dX8_init_1 (by decide) (by decide) ?_
  exact kn_vret dX8_init_4 rfl rfl rfl rfl
def kmX0_72 (S : gm_Mem) : gm_Mem := gm_u (gm_u (gm_u (gm_u (gm_u (kmX8_83 (gm_u (kmX8_82 (gm_u (kmX1_77 (gm_u (kmX4_74 (gm_u S 72 1 1)) 72 2 1)) 72 3 1)) 72 4 1)) 72 5 1) 72 8 (0 : Int32)) 72 14 (-1 : Int32)) 72 16 (-1 : Int32)) 72 0 (1 : Int32)
theorem kcX0_72 (S : gm_Mem) : kn_run gC 2 YX0_init 0 [some (.ref 72), some (.int (1 : Int32))] [] 73 0 0 S 11 581 (kmX0_72 S) := by
  refine kn_aload_n dX0_init_0 rfl ?_
  refine kn_objInit rfl kn_obX0 dX0_init_1 (by decide) (by decide) ?_
  refine kn_aload_n dX0_init_4 rfl ?_
  refine kn_bipush (v := 9) dX0_init_5 (by decide) ?_
  refine kn_newi (q := 73) (N := 9) dX0_init_7 rfl rfl (by decide) (by decide) (by decide) (by decide) (by decide) (by decide) ?_
  refine kn_putR (fl := [none, some 73, some 74, some 77, some 82, some 83, none, none, none, none, none, none, none, none, none, none, none, none]) rfl dX0_init_9 lfX0_9 rfl (by decide) rfl (fun _ => ⟨rfl, rfl⟩) rfl ?_
  refine kn_aload_n dX0_init_12 rfl ?_
  refine kn_new (q := 74) rfl dX0_init_13 kn_nwX0_15 rfl rfl (by decide) (by decide) ?_
  refine kn_dup dX0_init_16 ?_
  refine kn_callN (k1 := 1) (Y1 := YX4_init) (own := RX0) rfl dX0_init_17 nlX0_17 kn_miX4_init [] [.ref 74, .ref 72] rfl rfl (by decide) (by decide) (by decide) (by decide) rfl (by decide) (by decide) (kcX4_74 _) ?_
  refine kn_putR (fl := [none, some 73, some 74, some 77, some 82, some 83, none, none, none, none, none, none, none, none, none, none, none, none]) rfl dX0_init_20 lfX0_18 rfl (by decide) rfl (fun _ => ⟨rfl, rfl⟩) rfl ?_
  refine kn_aload_n dX0_init_23 rfl ?_
  refine kn_new (q := 77) rfl dX0_init_24 kn_nwX0_22 rfl rfl (by decide) (by decide) ?_
  refine kn_dup dX0_init_27 ?_
  refine kn_callN (k1 := 1) (Y1 := YX1_init) (own := RX0) rfl dX0_init_28 nlX0_24 kn_miX1_init [] [.ref 77, .ref 72] rfl rfl (by decide) (by decide) (by decide) (by decide) rfl (by decide) (by decide) (kcX1_77 _) ?_
  refine kn_putR (fl := [none, some 73, some 74, some 77, some 82, some 83, none, none, none, none, none, none, none, none, none, none, none, none]) rfl dX0_init_31 lfX0_25 rfl (by decide) rfl (fun _ => ⟨rfl, rfl⟩) rfl ?_
  refine kn_aload_n dX0_init_34 rfl ?_
  refine kn_new (q := 82) rfl dX0_init_35 kn_nwX0_29 rfl rfl (by decide) (by decide) ?_
  refine kn_dup dX0_init_38 ?_
  refine kn_callN (k1 := 1) (Y1 := YX8_init) (own := RX0) rfl dX0_init_39 nlX0_31 kn_miX8_init [] [.ref 82, .ref 72] rfl rfl (by decide) (by decide) (by decide) (by decide) rfl (by decide) (by decide) (kcX8_82 _) ?_
  refine kn_putR (fl := [none, some 73, some 74, some 77, some 82, some 83, none, none, none, none, none, none, none, none, none, none, none, none]) rfl dX0_init_42 lfX0_32 rfl (by decide) rfl (fun _ => ⟨rfl, rfl⟩) rfl ?_
  refine kn_aload_n dX0_init_45 rfl ?_
  refine kn_new (q := 83) rfl dX0_init_46 kn_nwX0_29 rfl rfl (by decide) (by decide) ?_
  refine kn_dup dX0_init_49 ?_
  refine kn_callN (k1 := 1) (Y1 := YX8_init) (own := RX0) rfl dX0_init_50 nlX0_31 kn_miX8_init [] [.ref 83, .ref 72] rfl rfl (by decide) (by decide) (by decide) (by decide) rfl (by decide) (by decide) (kcX8_83 _) ?_
  refine kn_putR (fl := [none, some 73, some 74, some 77, some 82, some 83, none, none, none, none, none, none, none, none, none, none, none, none]) rfl dX0_init_53 lfX0_36 rfl (by decide) rfl (fun _ => ⟨rfl, rfl⟩) rfl ?_
  refine kn_aload_n dX0_init_56 rfl ?_
  refine kn_iconst (v := 0) dX0_init_57 (by decide) ?_
  refine kn_putI (fl := [none, some 73, some 74, some 77, some 82, some 83, none, none, none, none, none, none, none, none, none, none, none, none]) rfl dX0_init_58 lfX0_39 rfl (by decide) rfl (gm_fit_int _) (fun h => absurd h (by decide)) ?_
  refine kn_aload_n dX0_init_61 rfl ?_
  refine kn_iconst (v := -1) dX0_init_62 (by decide) ?_
  refine kn_putI (fl := [none, some 73, some 74, some 77, some 82, some 83, none, none, none, none, none, none, none, none, none, none, none, none]) rfl dX0_init_63 lfX0_43 rfl (by decide) rfl (gm_fit_int _) (fun h => absurd h (by decide)) ?_
  refine kn_aload_n dX0_init_66 rfl ?_
  refine kn_iconst (v := -1) dX0_init_67 (by decide) ?_
  refine kn_putI (fl := [none, some 73, some 74, some 77, some 82, some 83, none, none, none, none, none, none, none, none, none, none, none, none]) rfl dX0_init_68 lfX0_46 rfl (by decide) rfl (gm_fit_int _) (fun h => absurd h (by decide)) ?_
  refine kn_aload_n dX0_init_71 rfl ?_
  refine kn_iload_n dX0_init_72 rfl ?_
  refine kn_putI (fl := [none, some 73, some 74, some 77, some 82, some 83, none, none, none, none, none, none, none, none, none, none, none, none]) rfl dX0_init_73 lfX0_49 rfl (by decide) rfl (gm_fit_int _) (fun _ => rfl) ?_
  exact kn_vret dX0_init_76 rfl rfl rfl rfl
theorem kcL_84 : ∀ d i (S : gm_Mem), i + d = 24 → ¬ S 84 0 = 0 → kn_run gC 2 YX3_init 15 [some (.ref 84), some (.int (nI i))] [] 85 (1 + i) (24 + 9 * i) S 25 240 (kmL 85 d i S) := by
  intro d
  induction d with
  | zero =>
    intro i S hi h0
    obtain rfl : i = 24 := by omega
    refine kn_iload_n dX3_init_15 rfl ?_
    refine kn_bipush (v := 24) dX3_init_16 (by decide) ?_
    refine kn_icmp_ge_t (tgt := 40) dX3_init_18 (by decide) (by decide) ?_
    exact kn_vret dX3_init_40 rfl rfl rfl rfl
  | succ d ih =>
    intro i S hi h0
    have hs : gC[86 + i]? = some (.inl (5, [none, none, none, none, none, none, none, none, none])) := sC_Pk_0 (by omega)
    refine kn_iload_n dX3_init_15 rfl ?_
    refine kn_bipush (v := 24) dX3_init_16 (by decide) ?_
    refine kn_icmp_ge_f dX3_init_18 ⟨40, by decide⟩ ((nI_ltI (b := 24) (by omega) (by decide)).mpr (by omega)) ?_
    refine kn_aload_n dX3_init_21 rfl ?_
    refine kn_getR (fl := [some 85, none]) rfl dX3_init_22 lfX3_11 rfl (by omega) rfl h0 ?_
    refine kn_iload_n dX3_init_25 rfl ?_
    refine kn_new (q := 86 + i) rfl dX3_init_26 kn_nwX3_9 hs (by omega) (by omega) (by show 24 + 9 * i + 9 ≤ 240; omega) ?_
    refine kn_dup dX3_init_29 ?_
    refine kn_callN (k1 := 1) (j1 := 0) (τ1 := 0) (Y1 := YX5_init) (own := RX3) rfl dX3_init_30 nlX3_17 kn_miX5_init [] [.ref (86 + i), .int (nI i), .ref 85] rfl rfl (by show 3 ≤ 12; decide) (by decide) (by decide) (by show _ ≤ gC.length; have : gC.length = 123 := rfl; omega) rfl (by omega) (by show 24 + 9 * i + 9 + 0 ≤ 240; omega) kcX5 ?_
    refine kn_aast (b := i) (n := 24) (q := 86 + i) (x := nI (86 + i)) dX3_init_33 rfl (by omega) hs (by omega) (ix_n (by omega) (by decide)) (nI_clamp (by omega)) (nI_ne0 (by omega) (by omega)) ?_
    refine kn_iinc (v := nI (i + 1)) dX3_init_34 rfl (nI_1 i) (by decide) rfl ?_
    refine kn_goto (tgt := 15) dX3_init_37 (by decide) ?_
    have e1 : 1 + i + 1 + 0 = 1 + (i + 1) := by omega
    have e2 : 24 + 9 * i + 9 + 0 = 24 + 9 * (i + 1) := by omega
    have := ih (i + 1) (gm_u S 85 i (nI (85 + 1 + i))) (by omega) (by rw [gm_rp (by decide)]; exact h0)
    rw [← e1, ← e2] at this
    exact this
def kmX3_84 (S : gm_Mem) : gm_Mem := kmL 85 24 0 (gm_u S 84 0 1)
theorem kcX3_84 (S : gm_Mem) : kn_run gC 2 YX3_init 0 [some (.ref 84), none] [] 85 0 0 S 25 240 (kmX3_84 S) := by
  refine kn_aload_n dX3_init_0 rfl ?_
  refine kn_objInit rfl kn_obX3 dX3_init_1 (by decide) (by decide) ?_
  refine kn_aload_n dX3_init_4 rfl ?_
  refine kn_bipush (v := 24) dX3_init_5 (by decide) ?_
  refine kn_newq (a := 9) (q := 85) (N := 24) rfl dX3_init_7 rfl rfl (by decide) (by decide) (by decide) (by decide) (by decide) ?_
  refine kn_putR (fl := [some 85, none]) rfl dX3_init_10 lfX3_11 rfl (by decide) rfl (fun _ => ⟨rfl, rfl⟩) rfl ?_
  refine kn_iconst (v := 0) dX3_init_13 (by decide) ?_
  refine kn_istore_n dX3_init_14 (by decide) rfl ?_
  exact kcL_84 24 0 (gm_u S 84 0 1) rfl (by simp [gm_u])
def kmX7_110 (S : gm_Mem) : gm_Mem := gm_u (gm_u S 110 0 1) 110 1 1
theorem kcX7_110 (S : gm_Mem) : kn_run gC 1 YX7_init 0 [some (.ref 110)] [] 111 0 0 S 2 32 (kmX7_110 S) := by
  refine kn_aload_n dX7_init_0 rfl ?_
  refine kn_objInit rfl kn_obX7 dX7_init_1 (by decide) (by decide) ?_
  refine kn_aload_n dX7_init_4 rfl ?_
  refine kn_bipush (v := 16) dX7_init_5 (by decide) ?_
  refine kn_newi (q := 111) (N := 16) dX7_init_7 rfl rfl (by decide) (by decide) (by decide) (by decide) (by decide) (by decide) ?_
  refine kn_putR (fl := [some 111, some 112, none]) rfl dX7_init_9 lfX7_9 rfl (by decide) rfl (fun _ => ⟨rfl, rfl⟩) rfl ?_
  refine kn_aload_n dX7_init_12 rfl ?_
  refine kn_bipush (v := 16) dX7_init_13 (by decide) ?_
  refine kn_newz (q := 112) (N := 16) dX7_init_15 rfl rfl (by decide) (by decide) (by decide) (by decide) (by decide) (by decide) ?_
  refine kn_putR (fl := [some 111, some 112, none]) rfl dX7_init_17 lfX7_15 rfl (by decide) rfl (fun _ => ⟨rfl, rfl⟩) rfl ?_
  exact kn_vret dX7_init_20 rfl rfl rfl rfl
def kmX2_113 (S : gm_Mem) : gm_Mem := gm_u (gm_u (gm_u (gm_u S 113 0 1) 113 1 1) 113 2 1) 113 4 (29 : Int32)
theorem kcX2_113 (S : gm_Mem) : kn_run gC 1 YX2_init 0 [some (.ref 113)] [] 114 0 0 S 3 90 (kmX2_113 S) := by
  refine kn_aload_n dX2_init_0 rfl ?_
  refine kn_objInit rfl kn_obX2 dX2_init_1 (by decide) (by decide) ?_
  refine kn_aload_n dX2_init_4 rfl ?_
  refine kn_bipush (v := 30) dX2_init_5 (by decide) ?_
  refine kn_newi (q := 114) (N := 30) dX2_init_7 rfl rfl (by decide) (by decide) (by decide) (by decide) (by decide) (by decide) ?_
  refine kn_putR (fl := [some 114, some 115, some 116, none, none]) rfl dX2_init_9 lfX2_9 rfl (by decide) rfl (fun _ => ⟨rfl, rfl⟩) rfl ?_
  refine kn_aload_n dX2_init_12 rfl ?_
  refine kn_bipush (v := 30) dX2_init_13 (by decide) ?_
  refine kn_newi (q := 115) (N := 30) dX2_init_15 rfl rfl (by decide) (by decide) (by decide) (by decide) (by decide) (by decide) ?_
  refine kn_putR (fl := [some 114, some 115, some 116, none, none]) rfl dX2_init_17 lfX2_15 rfl (by decide) rfl (fun _ => ⟨rfl, rfl⟩) rfl ?_
  refine kn_aload_n dX2_init_20 rfl ?_
  refine kn_bipush (v := 30) dX2_init_21 (by decide) ?_
  refine kn_newi (q := 116) (N := 30) dX2_init_23 rfl rfl (by decide) (by decide) (by decide) (by decide) (by decide) (by decide) ?_
  refine kn_putR (fl := [some 114, some 115, some 116, none, none]) rfl dX2_init_25 lfX2_18 rfl (by decide) rfl (fun _ => ⟨rfl, rfl⟩) rfl ?_
  refine kn_aload_n dX2_init_28 rfl ?_
  refine kn_bipush (v := 29) dX2_init_29 (by decide) ?_
  refine kn_putI (fl := [some 114, some 115, some 116, none, none]) rfl dX2_init_31 lfX2_21 rfl (by decide) rfl (gm_fit_int _) (fun h => absurd h (by decide)) ?_
  exact kn_vret dX2_init_34 rfl rfl rfl rfl
def kmX9_59 (S : gm_Mem) : gm_Mem := gm_u (gm_u (gm_u (gm_u (kmX2_113 (gm_u (kmX7_110 (gm_u (kmX3_84 (gm_u (kmX0_72 (gm_u (kmX0_60 S) 59 0 1)) 59 1 1)) 59 2 1)) 59 3 1)) 59 4 1) 59 5 (6 : Int32)) 59 6 (3 : Int32)) 59 7 (20 : Int32)
theorem kcX9_59 (S : gm_Mem) : kn_run gC 3 YX9_init 0 [some (.ref 59)] [] 60 0 0 S 57 1570 (kmX9_59 S) := by
  refine kn_aload_n dX9_init_0 rfl ?_
  refine kn_objInit rfl kn_obX9 dX9_init_1 (by decide) (by decide) ?_
  refine kn_aload_n dX9_init_4 rfl ?_
  refine kn_new (q := 60) rfl dX9_init_5 kn_nwX9_7 rfl rfl (by decide) (by decide) ?_
  refine kn_dup dX9_init_8 ?_
  refine kn_iconst (v := 0) dX9_init_9 (by decide) ?_
  refine kn_call (k1 := 2) (Y1 := YX0_init) (own := RX9) rfl dX9_init_10 kn_mlX9_9 kn_miX0_init [.int 0] [.ref 60, .ref 59] rfl rfl (by decide) (by decide) (by decide) (by decide) rfl (by decide) (by decide) (kcX0_60 _) ?_
  refine kn_putR (fl := [some 60, some 72, some 84, some 110, some 113, none, none, none, none, none, none, none, none, none]) rfl dX9_init_13 lfX9_12 rfl (by decide) rfl (fun _ => ⟨rfl, rfl⟩) rfl ?_
  refine kn_aload_n dX9_init_16 rfl ?_
  refine kn_new (q := 72) rfl dX9_init_17 kn_nwX9_7 rfl rfl (by decide) (by decide) ?_
  refine kn_dup dX9_init_20 ?_
  refine kn_iconst (v := 1) dX9_init_21 (by decide) ?_
  refine kn_call (k1 := 2) (Y1 := YX0_init) (own := RX9) rfl dX9_init_22 kn_mlX9_9 kn_miX0_init [.int 1] [.ref 72, .ref 59] rfl rfl (by decide) (by decide) (by decide) (by decide) rfl (by decide) (by decide) (kcX0_72 _) ?_
  refine kn_putR (fl := [some 60, some 72, some 84, some 110, some 113, none, none, none, none, none, none, none, none, none]) rfl dX9_init_25 lfX9_18 rfl (by decide) rfl (fun _ => ⟨rfl, rfl⟩) rfl ?_
  refine kn_aload_n dX9_init_28 rfl ?_
  refine kn_new (q := 84) rfl dX9_init_29 kn_nwX9_21 rfl rfl (by decide) (by decide) ?_
  refine kn_dup dX9_init_32 ?_
  refine kn_call (k1 := 2) (Y1 := YX3_init) (own := RX9) rfl dX9_init_33 kn_mlX9_23 kn_miX3_init [] [.ref 84, .ref 59] rfl rfl (by decide) (by decide) (by decide) (by decide) rfl (by decide) (by decide) (kcX3_84 _) ?_
  refine kn_putR (fl := [some 60, some 72, some 84, some 110, some 113, none, none, none, none, none, none, none, none, none]) rfl dX9_init_36 lfX9_24 rfl (by decide) rfl (fun _ => ⟨rfl, rfl⟩) rfl ?_
  refine kn_aload_n dX9_init_39 rfl ?_
  refine kn_new (q := 110) rfl dX9_init_40 kn_nwX9_28 rfl rfl (by decide) (by decide) ?_
  refine kn_dup dX9_init_43 ?_
  refine kn_callN (k1 := 1) (Y1 := YX7_init) (own := RX9) rfl dX9_init_44 nlX9_30 kn_miX7_init [] [.ref 110, .ref 59] rfl rfl (by decide) (by decide) (by decide) (by decide) rfl (by decide) (by decide) (kcX7_110 _) ?_
  refine kn_putR (fl := [some 60, some 72, some 84, some 110, some 113, none, none, none, none, none, none, none, none, none]) rfl dX9_init_47 lfX9_31 rfl (by decide) rfl (fun _ => ⟨rfl, rfl⟩) rfl ?_
  refine kn_aload_n dX9_init_50 rfl ?_
  refine kn_new (q := 113) rfl dX9_init_51 kn_nwX9_35 rfl rfl (by decide) (by decide) ?_
  refine kn_dup dX9_init_54 ?_
  refine kn_callN (k1 := 1) (Y1 := YX2_init) (own := RX9) rfl dX9_init_55 nlX9_37 kn_miX2_init [] [.ref 113, .ref 59] rfl rfl (by decide) (by decide) (by decide) (by decide) rfl (by decide) (by decide) (kcX2_113 _) ?_
  refine kn_putR (fl := [some 60, some 72, some 84, some 110, some 113, none, none, none, none, none, none, none, none, none]) rfl dX9_init_58 lfX9_38 rfl (by decide) rfl (fun _ => ⟨rfl, rfl⟩) rfl ?_
  refine kn_aload_n dX9_init_61 rfl ?_
  refine kn_bipush (v := 6) dX9_init_62 (by decide) ?_
  refine kn_putI (fl := [some 60, some 72, some 84, some 110, some 113, none, none, none, none, none, none, none, none, none]) rfl dX9_init_64 lfX9_42 rfl (by decide) rfl (gm_fit_int _) (fun h => absurd h (by decide)) ?_
  refine kn_aload_n dX9_init_67 rfl ?_
  refine kn_iconst (v := 3) dX9_init_68 (by decide) ?_
  refine kn_putI (fl := [some 60, some 72, some 84, some 110, some 113, none, none, none, none, none, none, none, none, none]) rfl dX9_init_69 lfX9_46 rfl (by decide) rfl (gm_fit_int _) (fun h => absurd h (by decide)) ?_
  refine kn_aload_n dX9_init_72 rfl ?_
  refine kn_bipush (v := 20) dX9_init_73 (by decide) ?_
  refine kn_putI (fl := [some 60, some 72, some 84, some 110, some 113, none, none, none, none, none, none, none, none, none]) rfl dX9_init_75 lfX9_49 rfl (by decide) rfl (gm_fit_int _) (fun h => absurd h (by decide)) ?_
  exact kn_vret dX9_init_78 rfl rfl rfl rfl
def kmX6_117 (S : gm_Mem) : gm_Mem := gm_u (gm_u (gm_u (gm_u S 117 0 1) 117 1 1) 117 2 1) 117 3 1
theorem kcX6_117 (S : gm_Mem) : kn_run gC 1 YX6_init 0 [some (.ref 117)] [] 118 0 0 S 4 160 (kmX6_117 S) := by
  refine kn_aload_n dX6_init_0 rfl ?_
  refine kn_objInit rfl kn_obX6 dX6_init_1 (by decide) (by decide) ?_
  refine kn_aload_n dX6_init_4 rfl ?_
  refine kn_bipush (v := 40) dX6_init_5 (by decide) ?_
  refine kn_newi (q := 118) (N := 40) dX6_init_7 rfl rfl (by decide) (by decide) (by decide) (by decide) (by decide) (by decide) ?_
  refine kn_putR (fl := [some 118, some 119, some 120, some 121, none, none, none]) rfl dX6_init_9 lfX6_9 rfl (by decide) rfl (fun _ => ⟨rfl, rfl⟩) rfl ?_
  refine kn_aload_n dX6_init_12 rfl ?_
  refine kn_bipush (v := 40) dX6_init_13 (by decide) ?_
  refine kn_newi (q := 119) (N := 40) dX6_init_15 rfl rfl (by decide) (by decide) (by decide) (by decide) (by decide) (by decide) ?_
  refine kn_putR (fl := [some 118, some 119, some 120, some 121, none, none, none]) rfl dX6_init_17 lfX6_15 rfl (by decide) rfl (fun _ => ⟨rfl, rfl⟩) rfl ?_
  refine kn_aload_n dX6_init_20 rfl ?_
  refine kn_bipush (v := 40) dX6_init_21 (by decide) ?_
  refine kn_newi (q := 120) (N := 40) dX6_init_23 rfl rfl (by decide) (by decide) (by decide) (by decide) (by decide) (by decide) ?_
  refine kn_putR (fl := [some 118, some 119, some 120, some 121, none, none, none]) rfl dX6_init_25 lfX6_18 rfl (by decide) rfl (fun _ => ⟨rfl, rfl⟩) rfl ?_
  refine kn_aload_n dX6_init_28 rfl ?_
  refine kn_bipush (v := 40) dX6_init_29 (by decide) ?_
  refine kn_newi (q := 121) (N := 40) dX6_init_31 rfl rfl (by decide) (by decide) (by decide) (by decide) (by decide) (by decide) ?_
  refine kn_putR (fl := [some 118, some 119, some 120, some 121, none, none, none]) rfl dX6_init_33 lfX6_21 rfl (by decide) rfl (fun _ => ⟨rfl, rfl⟩) rfl ?_
  exact kn_vret dX6_init_36 rfl rfl rfl rfl
def kmX10_0 (S : gm_Mem) : gm_Mem := gm_u (gm_u (gm_u (kmX6_117 (gm_u (kmX9_59 (gm_u (kmX9_1 S) 0 0 1)) 0 1 1)) 0 2 1) 0 3 1) 0 4 (0 : Int32)
theorem kcX10_0 (S : gm_Mem) : kn_run gC 4 YX10_init 0 [some (.ref 0)] [] 1 0 0 S 122 3344 (kmX10_0 S) := by
  refine kn_aload_n dX10_init_0 rfl ?_
  refine kn_objInit rfl kn_obX10 dX10_init_1 (by decide) (by decide) ?_
  refine kn_aload_n dX10_init_4 rfl ?_
  refine kn_new (q := 1) rfl dX10_init_5 kn_nwX10_7 rfl rfl (by decide) (by decide) ?_
  refine kn_dup dX10_init_8 ?_
  refine kn_callN (k1 := 3) (Y1 := YX9_init) (own := RX10) rfl dX10_init_9 nlX10_9 kn_miX9_init [] [.ref 1, .ref 0] rfl rfl (by decide) (by decide) (by decide) (by decide) rfl (by decide) (by decide) (kcX9_1 _) ?_
  refine kn_putR (fl := [some 1, some 59, some 117, some 122, none]) rfl dX10_init_12 lfX10_10 rfl (by decide) rfl (fun _ => ⟨rfl, rfl⟩) rfl ?_
  refine kn_aload_n dX10_init_15 rfl ?_
  refine kn_new (q := 59) rfl dX10_init_16 kn_nwX10_7 rfl rfl (by decide) (by decide) ?_
  refine kn_dup dX10_init_19 ?_
  refine kn_callN (k1 := 3) (Y1 := YX9_init) (own := RX10) rfl dX10_init_20 nlX10_9 kn_miX9_init [] [.ref 59, .ref 0] rfl rfl (by decide) (by decide) (by decide) (by decide) rfl (by decide) (by decide) (kcX9_59 _) ?_
  refine kn_putR (fl := [some 1, some 59, some 117, some 122, none]) rfl dX10_init_23 lfX10_16 rfl (by decide) rfl (fun _ => ⟨rfl, rfl⟩) rfl ?_
  refine kn_aload_n dX10_init_26 rfl ?_
  refine kn_new (q := 117) rfl dX10_init_27 kn_nwX10_19 rfl rfl (by decide) (by decide) ?_
  refine kn_dup dX10_init_30 ?_
  refine kn_callN (k1 := 1) (Y1 := YX6_init) (own := RX10) rfl dX10_init_31 nlX10_21 kn_miX6_init [] [.ref 117, .ref 0] rfl rfl (by decide) (by decide) (by decide) (by decide) rfl (by decide) (by decide) (kcX6_117 _) ?_
  refine kn_putR (fl := [some 1, some 59, some 117, some 122, none]) rfl dX10_init_34 lfX10_22 rfl (by decide) rfl (fun _ => ⟨rfl, rfl⟩) rfl ?_
  refine kn_aload_n dX10_init_37 rfl ?_
  refine kn_new (q := 122) rfl dX10_init_38 kn_nwX10_26 rfl rfl (by decide) (by decide) ?_
  refine kn_dup dX10_init_41 ?_
  refine kn_callN (k1 := 1) (Y1 := YX5_init) (own := RX10) rfl dX10_init_42 nlX10_28 kn_miX5_init [] [.ref 122, .ref 0] rfl rfl (by decide) (by decide) (by decide) (by decide) rfl (by decide) (by decide) kcX5 ?_
  refine kn_putR (fl := [some 1, some 59, some 117, some 122, none]) rfl dX10_init_45 lfX10_29 rfl (by decide) rfl (fun _ => ⟨rfl, rfl⟩) rfl ?_
  refine kn_aload_n dX10_init_48 rfl ?_
  refine kn_iconst (v := 0) dX10_init_49 (by decide) ?_
  refine kn_putI (fl := [some 1, some 59, some 117, some 122, none]) rfl dX10_init_50 lfX10_33 rfl (by decide) rfl gm_fit_0 (fun h => absurd h (by decide)) ?_
  exact kn_vret dX10_init_53 rfl rfl rfl rfl
