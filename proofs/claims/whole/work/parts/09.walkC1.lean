/-- X1_copyFrom 0 [] -> cut 18 -/
theorem PX1_copyFrom_1 {p : Nat} {o : Nat} {S : gm_Mem} {r : Option Value} {S2 : gm_Mem} (kp : p = 7 ∨ p = 19 ∨ p = 65 ∨ p = 77) (ko : o = 7 ∨ o = 19 ∨ o = 65 ∨ o = 77) (kne : p ≠ o) (K : gm_run gC 1 YX1_copyFrom 18 [some (.ref p), some (.ref o), some (.int 0)] [] (gm_cpy S (p + 1) (o + 1) 512) r S2) : gm_run gC 1 YX1_copyFrom 0 [some (.ref p), some (.ref o), none] [] S r S2 := by
  refine gm_aload_n dX1_copyFrom_0 rfl ?_
  refine gm_getR (own := RX1) (q := (o + 1)) rfl dX1_copyFrom_1 lfX1_9 (sC_Ib_0 (by omega)) rfl ?_
  refine gm_iconst (v := 0) dX1_copyFrom_4 (by decide) ?_
  refine gm_aload_n dX1_copyFrom_5 rfl ?_
  refine gm_getR (own := RX1) (q := (p + 1)) rfl dX1_copyFrom_6 lfX1_9 (sC_Ib_0 (by omega)) rfl ?_
  refine gm_iconst (v := 0) dX1_copyFrom_9 (by decide) ?_
  refine gm_sipush (v := 512) dX1_copyFrom_10 (by decide) ?_
  refine gm_copy (n := 512) (t := 0) (own := RX1) rfl dX1_copyFrom_13 llX1_38 (sC_Ib_1 (by omega)) (sC_Ib_1 (by omega)) (by decide) ⟨by decide, by decide⟩ (fun q => absurd q (by decide)) (by decide) (by decide) gm_acn gm_acs gm_aci ?_
  refine gm_iconst (v := 0) dX1_copyFrom_16 (by decide) ?_
  refine gm_istore_n (L' := [some (.ref p), some (.ref o), some (.int 0)]) dX1_copyFrom_17 (by decide) rfl ?_
  exact K
/-- X1_copyFrom 18 [20f] -> cut 18 -/
theorem PX1_copyFrom_2 {p : Nat} {o : Nat} {x2 : Int32} {S : gm_Mem} {j2 : Nat} {r : Option Value} {S2 : gm_Mem} (kp : p = 7 ∨ p = 19 ∨ p = 65 ∨ p = 77) (ko : o = 7 ∨ o = 19 ∨ o = 65 ∨ o = 77) (kne : p ≠ o) (c1 : x2 < 4) (ij2 : gm_ix x2 j2 4) (z3 : gm_fit .boolean (S (o + 2) j2)) (z4 : gm_fit .boolean (S (o + 3) j2)) (K : gm_run gC 1 YX1_copyFrom 18 [some (.ref p), some (.ref o), some (.int (x2 + 1))] [] (gm_u (gm_u (gm_u S (p + 2) j2 (S (o + 2) j2)) (p + 3) j2 (S (o + 3) j2)) (p + 4) j2 (S (o + 4) j2)) r S2) : gm_run gC 1 YX1_copyFrom 18 [some (.ref p), some (.ref o), some (.int x2)] [] S r S2 := by
  refine gm_iload_n dX1_copyFrom_18 rfl ?_
  refine gm_iconst (v := 4) dX1_copyFrom_19 (by decide) ?_
  refine gm_icmp_ge_f dX1_copyFrom_20 ⟨65, by decide⟩ c1 ?_
  refine gm_aload_n dX1_copyFrom_23 rfl ?_
  refine gm_getR (own := RX1) (q := (p + 2)) rfl dX1_copyFrom_24 lfX1_15 (sC_Ib_0 (by omega)) rfl ?_
  refine gm_iload_n dX1_copyFrom_27 rfl ?_
  refine gm_aload_n dX1_copyFrom_28 rfl ?_
  refine gm_getR (own := RX1) (q := (o + 2)) rfl dX1_copyFrom_29 lfX1_15 (sC_Ib_0 (by omega)) rfl ?_
  refine gm_iload_n dX1_copyFrom_32 rfl ?_
  refine gm_zald (j := j2) (x := (S (o + 2) j2)) dX1_copyFrom_33 (sC_Ib_2 (by omega)) ij2 rfl ?_
  refine gm_zast (j := j2) dX1_copyFrom_34 (sC_Ib_2 (by omega)) ij2 z3 ?_
  refine gm_aload_n dX1_copyFrom_35 rfl ?_
  refine gm_getR (own := RX1) (q := (p + 3)) rfl dX1_copyFrom_36 lfX1_19 (sC_Ib_0 (by omega)) rfl ?_
  refine gm_iload_n dX1_copyFrom_39 rfl ?_
  refine gm_aload_n dX1_copyFrom_40 rfl ?_
  refine gm_getR (own := RX1) (q := (o + 3)) rfl dX1_copyFrom_41 lfX1_19 (sC_Ib_0 (by omega)) rfl ?_
  refine gm_iload_n dX1_copyFrom_44 rfl ?_
  refine gm_zald (j := j2) (x := (S (o + 3) j2)) dX1_copyFrom_45 (sC_Ib_3 (by omega)) ij2 (gm_rp (by omega)) ?_
  refine gm_zast (j := j2) dX1_copyFrom_46 (sC_Ib_3 (by omega)) ij2 z4 ?_
  refine gm_aload_n dX1_copyFrom_47 rfl ?_
  refine gm_getR (own := RX1) (q := (p + 4)) rfl dX1_copyFrom_48 lfX1_22 (sC_Ib_0 (by omega)) rfl ?_
  refine gm_iload_n dX1_copyFrom_51 rfl ?_
  refine gm_aload_n dX1_copyFrom_52 rfl ?_
  refine gm_getR (own := RX1) (q := (o + 4)) rfl dX1_copyFrom_53 lfX1_22 (sC_Ib_0 (by omega)) rfl ?_
  refine gm_iload_n dX1_copyFrom_56 rfl ?_
  refine gm_iald (j := j2) (x := (S (o + 4) j2)) dX1_copyFrom_57 (sC_Ib_4 (by omega)) ij2 ((gm_rp (by omega)).trans (gm_rp (by omega))) ?_
  refine gm_iast (j := j2) dX1_copyFrom_58 (sC_Ib_4 (by omega)) ij2 ?_
  refine gm_iinc (L' := [some (.ref p), some (.ref o), some (.int (x2 + 1))]) (v := (x2 + 1)) dX1_copyFrom_59 rfl rfl (by decide) rfl ?_
  refine gm_goto (tgt := 18) dX1_copyFrom_62 (by decide) ?_
  exact K
/-- X1_copyFrom 18 [20t] -> ret  -/
theorem PX1_copyFrom_3 {p : Nat} {o : Nat} {x2 : Int32} {S : gm_Mem} (kp : p = 7 ∨ p = 19 ∨ p = 65 ∨ p = 77) (ko : o = 7 ∨ o = 19 ∨ o = 65 ∨ o = 77) (kne : p ≠ o) (c1 : ¬ x2 < 4) : gm_run gC 1 YX1_copyFrom 18 [some (.ref p), some (.ref o), some (.int x2)] [] S none (gm_u (gm_u (gm_u S p 4 (S o 4)) p 5 (S o 5)) p 6 (S o 6)) := by
  refine gm_iload_n dX1_copyFrom_18 rfl ?_
  refine gm_iconst (v := 4) dX1_copyFrom_19 (by decide) ?_
  refine gm_icmp_ge_t (tgt := 65) dX1_copyFrom_20 (by decide) c1 ?_
  refine gm_aload_n dX1_copyFrom_65 rfl ?_
  refine gm_aload_n dX1_copyFrom_66 rfl ?_
  refine gm_getI (own := RX1) (x := (S o 4)) rfl dX1_copyFrom_67 lfX1_29 (sC_Ib_0 (by omega)) rfl rfl ?_
  refine gm_put (own := RX1) rfl dX1_copyFrom_70 lfX1_29 (sC_Ib_0 (by omega)) rfl (gm_fit_int _) ?_
  refine gm_aload_n dX1_copyFrom_73 rfl ?_
  refine gm_aload_n dX1_copyFrom_74 rfl ?_
  refine gm_getI (own := RX1) (x := (S o 5)) rfl dX1_copyFrom_75 lfX1_32 (sC_Ib_0 (by omega)) rfl (gm_rp (by omega)) ?_
  refine gm_put (own := RX1) rfl dX1_copyFrom_78 lfX1_32 (sC_Ib_0 (by omega)) rfl (gm_fit_int _) ?_
  refine gm_aload_n dX1_copyFrom_81 rfl ?_
  refine gm_aload_n dX1_copyFrom_82 rfl ?_
  refine gm_getI (own := RX1) (x := (S o 6)) rfl dX1_copyFrom_83 lfX1_25 (sC_Ib_0 (by omega)) rfl ((gm_rp (by omega)).trans (gm_rp (by omega))) ?_
  refine gm_put (own := RX1) rfl dX1_copyFrom_86 lfX1_25 (sC_Ib_0 (by omega)) rfl (gm_fit_int _) ?_
  exact gm_vret dX1_copyFrom_89 rfl
/-- X4_copyFrom 0 [] -> ret  -/
theorem PX4_copyFrom_1 {p : Nat} {o : Nat} {S : gm_Mem} (kp : p = 4 ∨ p = 16 ∨ p = 62 ∨ p = 74) (ko : o = 4 ∨ o = 16 ∨ o = 62 ∨ o = 74) (kne : p ≠ o) : gm_run gC 1 YX4_copyFrom 0 [some (.ref p), some (.ref o)] [] S none (gm_u (gm_u (gm_u (gm_cpy (gm_cpy S (p + 1) (o + 1) 16) (p + 2) (o + 2) 16) p 2 (S o 2)) p 3 (S o 3)) p 4 (S o 4)) := by
  refine gm_aload_n dX4_copyFrom_0 rfl ?_
  refine gm_getR (own := RX4) (q := (o + 1)) rfl dX4_copyFrom_1 lfX4_9 (sC_Ob_0 (by omega)) rfl ?_
  refine gm_iconst (v := 0) dX4_copyFrom_4 (by decide) ?_
  refine gm_aload_n dX4_copyFrom_5 rfl ?_
  refine gm_getR (own := RX4) (q := (p + 1)) rfl dX4_copyFrom_6 lfX4_9 (sC_Ob_0 (by omega)) rfl ?_
  refine gm_iconst (v := 0) dX4_copyFrom_9 (by decide) ?_
  refine gm_bipush (v := 16) dX4_copyFrom_10 (by decide) ?_
  refine gm_copy (n := 16) (t := 0) (own := RX4) rfl dX4_copyFrom_12 llX4_28 (sC_Ob_1 (by omega)) (sC_Ob_1 (by omega)) (by decide) ⟨by decide, by decide⟩ (fun q => absurd q (by decide)) (by decide) (by decide) gm_acn gm_acs gm_aci ?_
  refine gm_aload_n dX4_copyFrom_15 rfl ?_
  refine gm_getR (own := RX4) (q := (o + 2)) rfl dX4_copyFrom_16 lfX4_15 (sC_Ob_0 (by omega)) rfl ?_
  refine gm_iconst (v := 0) dX4_copyFrom_19 (by decide) ?_
  refine gm_aload_n dX4_copyFrom_20 rfl ?_
  refine gm_getR (own := RX4) (q := (p + 2)) rfl dX4_copyFrom_21 lfX4_15 (sC_Ob_0 (by omega)) rfl ?_
  refine gm_iconst (v := 0) dX4_copyFrom_24 (by decide) ?_
  refine gm_bipush (v := 16) dX4_copyFrom_25 (by decide) ?_
  refine gm_copy (n := 16) (t := 0) (own := RX4) rfl dX4_copyFrom_27 llX4_28 (sC_Ob_2 (by omega)) (sC_Ob_2 (by omega)) (by decide) ⟨by decide, by decide⟩ (fun q => absurd q (by decide)) (by decide) (by decide) gm_acn gm_acs gm_aci ?_
  refine gm_aload_n dX4_copyFrom_30 rfl ?_
  refine gm_aload_n dX4_copyFrom_31 rfl ?_
  refine gm_getI (own := RX4) (x := (S o 2)) rfl dX4_copyFrom_32 lfX4_22 (sC_Ob_0 (by omega)) rfl ((gm_cq (by omega)).trans (gm_cq (by omega))) ?_
  refine gm_put (own := RX4) rfl dX4_copyFrom_35 lfX4_22 (sC_Ob_0 (by omega)) rfl (gm_fit_int _) ?_
  refine gm_aload_n dX4_copyFrom_38 rfl ?_
  refine gm_aload_n dX4_copyFrom_39 rfl ?_
  refine gm_getI (own := RX4) (x := (S o 3)) rfl dX4_copyFrom_40 lfX4_25 (sC_Ob_0 (by omega)) rfl ((gm_rp (by omega)).trans ((gm_cq (by omega)).trans (gm_cq (by omega)))) ?_
  refine gm_put (own := RX4) rfl dX4_copyFrom_43 lfX4_25 (sC_Ob_0 (by omega)) rfl (gm_fit_int _) ?_
  refine gm_aload_n dX4_copyFrom_46 rfl ?_
  refine gm_aload_n dX4_copyFrom_47 rfl ?_
  refine gm_getI (own := RX4) (x := (S o 4)) rfl dX4_copyFrom_48 lfX4_18 (sC_Ob_0 (by omega)) rfl ((gm_rp (by omega)).trans ((gm_rp (by omega)).trans ((gm_cq (by omega)).trans (gm_cq (by omega))))) ?_
  refine gm_put (own := RX4) rfl dX4_copyFrom_51 lfX4_18 (sC_Ob_0 (by omega)) rfl (gm_fit_int _) ?_
  exact gm_vret dX4_copyFrom_54 rfl
/-- X8_copyFrom 0 [] -> ret  -/
theorem PX8_copyFrom_1 {p : Nat} {o : Nat} {S : gm_Mem} (kp : p = 12 ∨ p = 13 ∨ p = 24 ∨ p = 25 ∨ p = 70 ∨ p = 71 ∨ p = 82 ∨ p = 83) (ko : o = 12 ∨ o = 13 ∨ o = 24 ∨ o = 25 ∨ o = 70 ∨ o = 71 ∨ o = 82 ∨ o = 83) (kne : p ≠ o) : gm_run gC 0 YX8_copyFrom 0 [some (.ref p), some (.ref o)] [] S none (gm_u (gm_u S p 0 (S o 0)) p 1 (S o 1)) := by
  refine gm_aload_n dX8_copyFrom_0 rfl ?_
  refine gm_aload_n dX8_copyFrom_1 rfl ?_
  refine gm_getI (own := RX8) (x := (S o 0)) rfl dX8_copyFrom_2 lfX8_9 (sC_Wi_0 (by omega)) rfl rfl ?_
  refine gm_put (own := RX8) rfl dX8_copyFrom_5 lfX8_9 (sC_Wi_0 (by omega)) rfl (gm_fit_int _) ?_
  refine gm_aload_n dX8_copyFrom_8 rfl ?_
  refine gm_aload_n dX8_copyFrom_9 rfl ?_
  refine gm_getI (own := RX8) (x := (S o 1)) rfl dX8_copyFrom_10 lfX8_15 (sC_Wi_0 (by omega)) rfl (gm_rp (by omega)) ?_
  refine gm_put (own := RX8) rfl dX8_copyFrom_13 lfX8_15 (sC_Wi_0 (by omega)) rfl (gm_fit_int _) ?_
  exact gm_vret dX8_copyFrom_16 rfl
/-- X0_copyFrom 0 [] -> ret  -/
theorem PX0_copyFrom_1 {e : Nat} {o : Nat} {S : gm_Mem} {T1 : gm_Mem} {T2 : gm_Mem} {T3 : gm_Mem} {T4 : gm_Mem} (ke : e = 2 ∨ e = 14 ∨ e = 60 ∨ e = 72) (ko : o = 2 ∨ o = 14 ∨ o = 60 ∨ o = 72) (kne : e ≠ o) (h1 : gm_run gC 1 YX4_copyFrom 0 [some (.ref (e + 2)), some (.ref (o + 2))] [] (gm_cpy S (e + 1) (o + 1) 9) none T1) (h2 : gm_run gC 1 YX1_copyFrom 0 [some (.ref (e + 5)), some (.ref (o + 5)), none] [] T1 none T2) (h3 : gm_run gC 0 YX8_copyFrom 0 [some (.ref (e + 10)), some (.ref (o + 10))] [] T2 none T3) (h4 : gm_run gC 0 YX8_copyFrom 0 [some (.ref (e + 11)), some (.ref (o + 11))] [] T3 none T4) (z5 : gm_fit .boolean (T4 o 6)) : gm_run gC 2 YX0_copyFrom 0 [some (.ref e), some (.ref o)] [] S none (gm_u (gm_u (gm_u (gm_u (gm_u (gm_u (gm_u (gm_u (gm_u (gm_u (gm_u (gm_u T4 e 6 (T4 o 6)) e 7 (T4 o 7)) e 8 (T4 o 8)) e 9 (T4 o 9)) e 10 (T4 o 10)) e 11 (T4 o 11)) e 12 (T4 o 12)) e 13 (T4 o 13)) e 14 (T4 o 14)) e 15 (T4 o 15)) e 16 (T4 o 16)) e 17 (T4 o 17)) := by
  refine gm_aload_n dX0_copyFrom_0 rfl ?_
  refine gm_getR (own := RX0) (q := (o + 1)) rfl dX0_copyFrom_1 lfX0_9 (sC_E_0 (by omega)) rfl ?_
  refine gm_iconst (v := 0) dX0_copyFrom_4 (by decide) ?_
  refine gm_aload_n dX0_copyFrom_5 rfl ?_
  refine gm_getR (own := RX0) (q := (e + 1)) rfl dX0_copyFrom_6 lfX0_9 (sC_E_0 (by omega)) rfl ?_
  refine gm_iconst (v := 0) dX0_copyFrom_9 (by decide) ?_
  refine gm_bipush (v := 9) dX0_copyFrom_10 (by decide) ?_
  refine gm_copy (n := 9) (t := 0) (own := RX0) rfl dX0_copyFrom_12 llX0_52 (sC_E_1 (by omega)) (sC_E_1 (by omega)) (by decide) ⟨by decide, by decide⟩ (fun q => absurd q (by decide)) (by decide) (by decide) gm_acn gm_acs gm_aci ?_
  refine gm_aload_n dX0_copyFrom_15 rfl ?_
  refine gm_getR (own := RX0) (q := (e + 2)) rfl dX0_copyFrom_16 lfX0_18 (sC_E_0 (by omega)) rfl ?_
  refine gm_aload_n dX0_copyFrom_19 rfl ?_
  refine gm_getR (own := RX0) (q := (o + 2)) rfl dX0_copyFrom_20 lfX0_18 (sC_E_0 (by omega)) rfl ?_
  refine gm_callV (r1 := none) (own := RX0) rfl dX0_copyFrom_23 llX0_58 mvX4_copyFrom (sC_E_2 (by omega)) rfl [.ref (o + 2)] [] rfl rfl (Nat.le_of_ble_eq_true rfl) (by decide) rfl h1 rfl ?_
  refine gm_aload_n dX0_copyFrom_26 rfl ?_
  refine gm_getR (own := RX0) (q := (e + 5)) rfl dX0_copyFrom_27 lfX0_25 (sC_E_0 (by omega)) rfl ?_
  refine gm_aload_n dX0_copyFrom_30 rfl ?_
  refine gm_getR (own := RX0) (q := (o + 5)) rfl dX0_copyFrom_31 lfX0_25 (sC_E_0 (by omega)) rfl ?_
  refine gm_callV (r1 := none) (own := RX0) rfl dX0_copyFrom_34 llX0_62 mvX1_copyFrom (sC_E_5 (by omega)) rfl [.ref (o + 5)] [] rfl rfl (Nat.le_of_ble_eq_true rfl) (by decide) rfl h2 rfl ?_
  refine gm_aload_n dX0_copyFrom_37 rfl ?_
  refine gm_getR (own := RX0) (q := (e + 10)) rfl dX0_copyFrom_38 lfX0_32 (sC_E_0 (by omega)) rfl ?_
  refine gm_aload_n dX0_copyFrom_41 rfl ?_
  refine gm_getR (own := RX0) (q := (o + 10)) rfl dX0_copyFrom_42 lfX0_32 (sC_E_0 (by omega)) rfl ?_
  refine gm_callV (r1 := none) (own := RX0) rfl dX0_copyFrom_45 llX0_65 mvX8_copyFrom (sC_E_10 (by omega)) rfl [.ref (o + 10)] [] rfl rfl (Nat.le_of_ble_eq_true rfl) (by decide) rfl h3 rfl ?_
  refine gm_aload_n dX0_copyFrom_48 rfl ?_
  refine gm_getR (own := RX0) (q := (e + 11)) rfl dX0_copyFrom_49 lfX0_36 (sC_E_0 (by omega)) rfl ?_
  refine gm_aload_n dX0_copyFrom_52 rfl ?_
  refine gm_getR (own := RX0) (q := (o + 11)) rfl dX0_copyFrom_53 lfX0_36 (sC_E_0 (by omega)) rfl ?_
  refine gm_callV (r1 := none) (own := RX0) rfl dX0_copyFrom_56 llX0_65 mvX8_copyFrom (sC_E_11 (by omega)) rfl [.ref (o + 11)] [] rfl rfl (Nat.le_of_ble_eq_true rfl) (by decide) rfl h4 rfl ?_
  refine gm_aload_n dX0_copyFrom_59 rfl ?_
  refine gm_aload_n dX0_copyFrom_60 rfl ?_
  refine gm_getI (own := RX0) (x := (T4 o 6)) rfl dX0_copyFrom_61 lfX0_68 (sC_E_0 (by omega)) rfl rfl ?_
  refine gm_put (own := RX0) rfl dX0_copyFrom_64 lfX0_68 (sC_E_0 (by omega)) rfl z5 ?_
  refine gm_aload_n dX0_copyFrom_67 rfl ?_
  refine gm_aload_n dX0_copyFrom_68 rfl ?_
  refine gm_getI (own := RX0) (x := (T4 o 7)) rfl dX0_copyFrom_69 lfX0_72 (sC_E_0 (by omega)) rfl (gm_rp (by omega)) ?_
  refine gm_put (own := RX0) rfl dX0_copyFrom_72 lfX0_72 (sC_E_0 (by omega)) rfl (gm_fit_int _) ?_
  refine gm_aload_n dX0_copyFrom_75 rfl ?_
  refine gm_aload_n dX0_copyFrom_76 rfl ?_
  refine gm_getI (own := RX0) (x := (T4 o 8)) rfl dX0_copyFrom_77 lfX0_39 (sC_E_0 (by omega)) rfl ((gm_rp (by omega)).trans (gm_rp (by omega))) ?_
  refine gm_put (own := RX0) rfl dX0_copyFrom_80 lfX0_39 (sC_E_0 (by omega)) rfl (gm_fit_int _) ?_
  refine gm_aload_n dX0_copyFrom_83 rfl ?_
  refine gm_aload_n dX0_copyFrom_84 rfl ?_
  refine gm_getI (own := RX0) (x := (T4 o 9)) rfl dX0_copyFrom_85 lfX0_75 (sC_E_0 (by omega)) rfl ((gm_rp (by omega)).trans ((gm_rp (by omega)).trans (gm_rp (by omega)))) ?_
  refine gm_put (own := RX0) rfl dX0_copyFrom_88 lfX0_75 (sC_E_0 (by omega)) rfl (gm_fit_int _) ?_
  refine gm_aload_n dX0_copyFrom_91 rfl ?_
  refine gm_aload_n dX0_copyFrom_92 rfl ?_
  refine gm_getI (own := RX0) (x := (T4 o 10)) rfl dX0_copyFrom_93 lfX0_78 (sC_E_0 (by omega)) rfl ((gm_rp (by omega)).trans ((gm_rp (by omega)).trans ((gm_rp (by omega)).trans (gm_rp (by omega))))) ?_
  refine gm_put (own := RX0) rfl dX0_copyFrom_96 lfX0_78 (sC_E_0 (by omega)) rfl (gm_fit_int _) ?_
  refine gm_aload_n dX0_copyFrom_99 rfl ?_
  refine gm_aload_n dX0_copyFrom_100 rfl ?_
  refine gm_getI (own := RX0) (x := (T4 o 11)) rfl dX0_copyFrom_101 lfX0_81 (sC_E_0 (by omega)) rfl ((gm_rp (by omega)).trans ((gm_rp (by omega)).trans ((gm_rp (by omega)).trans ((gm_rp (by omega)).trans (gm_rp (by omega)))))) ?_
  refine gm_put (own := RX0) rfl dX0_copyFrom_104 lfX0_81 (sC_E_0 (by omega)) rfl (gm_fit_int _) ?_
  refine gm_aload_n dX0_copyFrom_107 rfl ?_
  refine gm_aload_n dX0_copyFrom_108 rfl ?_
  refine gm_getI (own := RX0) (x := (T4 o 12)) rfl dX0_copyFrom_109 lfX0_84 (sC_E_0 (by omega)) rfl ((gm_rp (by omega)).trans ((gm_rp (by omega)).trans ((gm_rp (by omega)).trans ((gm_rp (by omega)).trans ((gm_rp (by omega)).trans (gm_rp (by omega))))))) ?_
  refine gm_put (own := RX0) rfl dX0_copyFrom_112 lfX0_84 (sC_E_0 (by omega)) rfl (gm_fit_int _) ?_
  refine gm_aload_n dX0_copyFrom_115 rfl ?_
  refine gm_aload_n dX0_copyFrom_116 rfl ?_
  refine gm_getI (own := RX0) (x := (T4 o 13)) rfl dX0_copyFrom_117 lfX0_87 (sC_E_0 (by omega)) rfl ((gm_rp (by omega)).trans ((gm_rp (by omega)).trans ((gm_rp (by omega)).trans ((gm_rp (by omega)).trans ((gm_rp (by omega)).trans ((gm_rp (by omega)).trans (gm_rp (by omega)))))))) ?_
  refine gm_put (own := RX0) rfl dX0_copyFrom_120 lfX0_87 (sC_E_0 (by omega)) rfl (gm_fit_int _) ?_
  refine gm_aload_n dX0_copyFrom_123 rfl ?_
  refine gm_aload_n dX0_copyFrom_124 rfl ?_
  refine gm_getI (own := RX0) (x := (T4 o 14)) rfl dX0_copyFrom_125 lfX0_43 (sC_E_0 (by omega)) rfl ((gm_rp (by omega)).trans ((gm_rp (by omega)).trans ((gm_rp (by omega)).trans ((gm_rp (by omega)).trans ((gm_rp (by omega)).trans ((gm_rp (by omega)).trans ((gm_rp (by omega)).trans (gm_rp (by omega))))))))) ?_
  refine gm_put (own := RX0) rfl dX0_copyFrom_128 lfX0_43 (sC_E_0 (by omega)) rfl (gm_fit_int _) ?_
  refine gm_aload_n dX0_copyFrom_131 rfl ?_
  refine gm_aload_n dX0_copyFrom_132 rfl ?_
  refine gm_getI (own := RX0) (x := (T4 o 15)) rfl dX0_copyFrom_133 lfX0_90 (sC_E_0 (by omega)) rfl ((gm_rp (by omega)).trans ((gm_rp (by omega)).trans ((gm_rp (by omega)).trans ((gm_rp (by omega)).trans ((gm_rp (by omega)).trans ((gm_rp (by omega)).trans ((gm_rp (by omega)).trans ((gm_rp (by omega)).trans (gm_rp (by omega)))))))))) ?_
  refine gm_put (own := RX0) rfl dX0_copyFrom_136 lfX0_90 (sC_E_0 (by omega)) rfl (gm_fit_int _) ?_
  refine gm_aload_n dX0_copyFrom_139 rfl ?_
  refine gm_aload_n dX0_copyFrom_140 rfl ?_
  refine gm_getI (own := RX0) (x := (T4 o 16)) rfl dX0_copyFrom_141 lfX0_46 (sC_E_0 (by omega)) rfl ((gm_rp (by omega)).trans ((gm_rp (by omega)).trans ((gm_rp (by omega)).trans ((gm_rp (by omega)).trans ((gm_rp (by omega)).trans ((gm_rp (by omega)).trans ((gm_rp (by omega)).trans ((gm_rp (by omega)).trans ((gm_rp (by omega)).trans (gm_rp (by omega))))))))))) ?_
  refine gm_put (own := RX0) rfl dX0_copyFrom_144 lfX0_46 (sC_E_0 (by omega)) rfl (gm_fit_int _) ?_
  refine gm_aload_n dX0_copyFrom_147 rfl ?_
  refine gm_aload_n dX0_copyFrom_148 rfl ?_
  refine gm_getI (own := RX0) (x := (T4 o 17)) rfl dX0_copyFrom_149 lfX0_93 (sC_E_0 (by omega)) rfl ((gm_rp (by omega)).trans ((gm_rp (by omega)).trans ((gm_rp (by omega)).trans ((gm_rp (by omega)).trans ((gm_rp (by omega)).trans ((gm_rp (by omega)).trans ((gm_rp (by omega)).trans ((gm_rp (by omega)).trans ((gm_rp (by omega)).trans ((gm_rp (by omega)).trans (gm_rp (by omega)))))))))))) ?_
  refine gm_put (own := RX0) rfl dX0_copyFrom_152 lfX0_93 (sC_E_0 (by omega)) rfl (gm_fit_int _) ?_
  exact gm_vret dX0_copyFrom_155 rfl
/-- X1_discardWaiting 0 [] -> cut 2 -/
theorem PX1_discardWaiting_1 {p : Nat} {S : gm_Mem} {r : Option Value} {S2 : gm_Mem} (kp : p = 7 ∨ p = 19 ∨ p = 65 ∨ p = 77) (K : gm_run gC 0 YX1_discardWaiting 2 [some (.ref p), some (.int 0)] [] S r S2) : gm_run gC 0 YX1_discardWaiting 0 [some (.ref p), none] [] S r S2 := by
  refine gm_iconst (v := 0) dX1_discardWaiting_0 (by decide) ?_
  refine gm_istore_n (L' := [some (.ref p), some (.int 0)]) dX1_discardWaiting_1 (by decide) rfl ?_
  exact K
/-- X1_discardWaiting 2 [4f] -> cut 2 -/
theorem PX1_discardWaiting_2 {p : Nat} {x1 : Int32} {S : gm_Mem} {j2 : Nat} {r : Option Value} {S2 : gm_Mem} (kp : p = 7 ∨ p = 19 ∨ p = 65 ∨ p = 77) (c1 : x1 < 4) (ij2 : gm_ix x1 j2 4) (K : gm_run gC 0 YX1_discardWaiting 2 [some (.ref p), some (.int (x1 + 1))] [] (gm_u S (p + 2) j2 0) r S2) : gm_run gC 0 YX1_discardWaiting 2 [some (.ref p), some (.int x1)] [] S r S2 := by
  refine gm_iload_n dX1_discardWaiting_2 rfl ?_
  refine gm_iconst (v := 4) dX1_discardWaiting_3 (by decide) ?_
  refine gm_icmp_ge_f dX1_discardWaiting_4 ⟨20, by decide⟩ c1 ?_
  refine gm_aload_n dX1_discardWaiting_7 rfl ?_
  refine gm_getR (own := RX1) (q := (p + 2)) rfl dX1_discardWaiting_8 lfX1_15 (sC_Ib_0 (by omega)) rfl ?_
  refine gm_iload_n dX1_discardWaiting_11 rfl ?_
  refine gm_iconst (v := 0) dX1_discardWaiting_12 (by decide) ?_
  refine gm_zast (j := j2) dX1_discardWaiting_13 (sC_Ib_2 (by omega)) ij2 gm_fit_0 ?_
  refine gm_iinc (L' := [some (.ref p), some (.int (x1 + 1))]) (v := (x1 + 1)) dX1_discardWaiting_14 rfl rfl (by decide) rfl ?_
  refine gm_goto (tgt := 2) dX1_discardWaiting_17 (by decide) ?_
  exact K
/-- X1_discardWaiting 2 [4t] -> ret  -/
theorem PX1_discardWaiting_3 {p : Nat} {x1 : Int32} {S : gm_Mem} (kp : p = 7 ∨ p = 19 ∨ p = 65 ∨ p = 77) (c1 : ¬ x1 < 4) : gm_run gC 0 YX1_discardWaiting 2 [some (.ref p), some (.int x1)] [] S none S := by
  refine gm_iload_n dX1_discardWaiting_2 rfl ?_
  refine gm_iconst (v := 4) dX1_discardWaiting_3 (by decide) ?_
  refine gm_icmp_ge_t (tgt := 20) dX1_discardWaiting_4 (by decide) c1 ?_
  exact gm_vret dX1_discardWaiting_20 rfl
/-- X1_begin 0 [] -> ret  -/
theorem PX1_begin_1 {p : Nat} {S : gm_Mem} {T1 : gm_Mem} (kp : p = 7 ∨ p = 19 ∨ p = 65 ∨ p = 77) (h1 : gm_run gC 0 YX1_discardWaiting 0 [some (.ref p), none] [] (gm_u (gm_u (gm_u S p 4 0) p 5 0) p 6 (-1)) none T1) : gm_run gC 1 YX1_begin 0 [some (.ref p)] [] S none T1 := by
  refine gm_aload_n dX1_begin_0 rfl ?_
  refine gm_iconst (v := 0) dX1_begin_1 (by decide) ?_
  refine gm_put (own := RX1) rfl dX1_begin_2 lfX1_29 (sC_Ib_0 (by omega)) rfl (gm_fit_int _) ?_
  refine gm_aload_n dX1_begin_5 rfl ?_
  refine gm_iconst (v := 0) dX1_begin_6 (by decide) ?_
  refine gm_put (own := RX1) rfl dX1_begin_7 lfX1_32 (sC_Ib_0 (by omega)) rfl (gm_fit_int _) ?_
  refine gm_aload_n dX1_begin_10 rfl ?_
  refine gm_iconst (v := (-1)) dX1_begin_11 (by decide) ?_
  refine gm_put (own := RX1) rfl dX1_begin_12 lfX1_25 (sC_Ib_0 (by omega)) rfl (gm_fit_int _) ?_
  refine gm_aload_n dX1_begin_15 rfl ?_
  refine gm_callV (r1 := none) (own := RX1) rfl dX1_begin_16 llX1_35 mvX1_discardWaiting (sC_Ib_0 (by omega)) rfl [] [] rfl rfl (Nat.le_of_ble_eq_true rfl) (by decide) rfl h1 rfl ?_
  exact gm_vret dX1_begin_19 rfl
/-- X4_begin 0 [] -> ret  -/
theorem PX4_begin_1 {p : Nat} {S : gm_Mem} (kp : p = 4 ∨ p = 16 ∨ p = 62 ∨ p = 74) : gm_run gC 0 YX4_begin 0 [some (.ref p)] [] S none (gm_u (gm_u (gm_u S p 2 0) p 3 0) p 4 (-1)) := by
  refine gm_aload_n dX4_begin_0 rfl ?_
  refine gm_iconst (v := 0) dX4_begin_1 (by decide) ?_
  refine gm_put (own := RX4) rfl dX4_begin_2 lfX4_22 (sC_Ob_0 (by omega)) rfl (gm_fit_int _) ?_
  refine gm_aload_n dX4_begin_5 rfl ?_
  refine gm_iconst (v := 0) dX4_begin_6 (by decide) ?_
  refine gm_put (own := RX4) rfl dX4_begin_7 lfX4_25 (sC_Ob_0 (by omega)) rfl (gm_fit_int _) ?_
  refine gm_aload_n dX4_begin_10 rfl ?_
  refine gm_iconst (v := (-1)) dX4_begin_11 (by decide) ?_
  refine gm_put (own := RX4) rfl dX4_begin_12 lfX4_18 (sC_Ob_0 (by omega)) rfl (gm_fit_int _) ?_
  exact gm_vret dX4_begin_15 rfl
/-- X0_beginStream 0 [] -> ret  -/
theorem PX0_beginStream_1 {e : Nat} {S : gm_Mem} {T1 : gm_Mem} {T2 : gm_Mem} (ke : e = 2 ∨ e = 14 ∨ e = 60 ∨ e = 72) (h1 : gm_run gC 0 YX4_begin 0 [some (.ref (e + 2))] [] S none T1) (h2 : gm_run gC 1 YX1_begin 0 [some (.ref (e + 5))] [] T1 none T2) : gm_run gC 2 YX0_beginStream 0 [some (.ref e)] [] S none T2 := by
  refine gm_aload_n dX0_beginStream_0 rfl ?_
  refine gm_getR (own := RX0) (q := (e + 2)) rfl dX0_beginStream_1 lfX0_18 (sC_E_0 (by omega)) rfl ?_
  refine gm_callV (r1 := none) (own := RX0) rfl dX0_beginStream_4 llX0_96 mvX4_begin (sC_E_2 (by omega)) rfl [] [] rfl rfl (Nat.le_of_ble_eq_true rfl) (by decide) rfl h1 rfl ?_
  refine gm_aload_n dX0_beginStream_7 rfl ?_
  refine gm_getR (own := RX0) (q := (e + 5)) rfl dX0_beginStream_8 lfX0_25 (sC_E_0 (by omega)) rfl ?_
  refine gm_callV (r1 := none) (own := RX0) rfl dX0_beginStream_11 llX0_99 mvX1_begin (sC_E_5 (by omega)) rfl [] [] rfl rfl (Nat.le_of_ble_eq_true rfl) (by decide) rfl h2 rfl ?_
  exact gm_vret dX0_beginStream_14 rfl
/-- X4_forgetSent 0 [] -> cut 2 -/
theorem PX4_forgetSent_1 {p : Nat} {S : gm_Mem} {r : Option Value} {S2 : gm_Mem} (kp : p = 4 ∨ p = 16 ∨ p = 62 ∨ p = 74) (K : gm_run gC 0 YX4_forgetSent 2 [some (.ref p), some (.int 0)] [] S r S2) : gm_run gC 0 YX4_forgetSent 0 [some (.ref p), none] [] S r S2 := by
  refine gm_iconst (v := 0) dX4_forgetSent_0 (by decide) ?_
  refine gm_istore_n (L' := [some (.ref p), some (.int 0)]) dX4_forgetSent_1 (by decide) rfl ?_
  exact K
/-- X4_forgetSent 2 [5f] -> cut 2 -/
theorem PX4_forgetSent_2 {p : Nat} {x1 : Int32} {S : gm_Mem} {j2 : Nat} {r : Option Value} {S2 : gm_Mem} (kp : p = 4 ∨ p = 16 ∨ p = 62 ∨ p = 74) (c1 : x1 < 16) (ij2 : gm_ix x1 j2 16) (K : gm_run gC 0 YX4_forgetSent 2 [some (.ref p), some (.int (x1 + 1))] [] (gm_u S (p + 2) j2 (-1)) r S2) : gm_run gC 0 YX4_forgetSent 2 [some (.ref p), some (.int x1)] [] S r S2 := by
  refine gm_iload_n dX4_forgetSent_2 rfl ?_
  refine gm_bipush (v := 16) dX4_forgetSent_3 (by decide) ?_
  refine gm_icmp_ge_f dX4_forgetSent_5 ⟨21, by decide⟩ c1 ?_
  refine gm_aload_n dX4_forgetSent_8 rfl ?_
  refine gm_getR (own := RX4) (q := (p + 2)) rfl dX4_forgetSent_9 lfX4_15 (sC_Ob_0 (by omega)) rfl ?_
  refine gm_iload_n dX4_forgetSent_12 rfl ?_
  refine gm_iconst (v := (-1)) dX4_forgetSent_13 (by decide) ?_
  refine gm_iast (j := j2) dX4_forgetSent_14 (sC_Ob_2 (by omega)) ij2 ?_
  refine gm_iinc (L' := [some (.ref p), some (.int (x1 + 1))]) (v := (x1 + 1)) dX4_forgetSent_15 rfl rfl (by decide) rfl ?_
  refine gm_goto (tgt := 2) dX4_forgetSent_18 (by decide) ?_
  exact K
/-- X4_forgetSent 2 [5t] -> ret  -/
theorem PX4_forgetSent_3 {p : Nat} {x1 : Int32} {S : gm_Mem} (kp : p = 4 ∨ p = 16 ∨ p = 62 ∨ p = 74) (c1 : ¬ x1 < 16) : gm_run gC 0 YX4_forgetSent 2 [some (.ref p), some (.int x1)] [] S none S := by
  refine gm_iload_n dX4_forgetSent_2 rfl ?_
  refine gm_bipush (v := 16) dX4_forgetSent_3 (by decide) ?_
  refine gm_icmp_ge_t (tgt := 21) dX4_forgetSent_5 (by decide) c1 ?_
  exact gm_vret dX4_forgetSent_21 rfl
/-- X8_clear 0 [] -> ret  -/
theorem PX8_clear_1 {p : Nat} {S : gm_Mem} (kp : p = 12 ∨ p = 13 ∨ p = 24 ∨ p = 25 ∨ p = 70 ∨ p = 71 ∨ p = 82 ∨ p = 83) : gm_run gC 0 YX8_clear 0 [some (.ref p)] [] S none (gm_u (gm_u S p 0 0) p 1 0) := by
  refine gm_aload_n dX8_clear_0 rfl ?_
  refine gm_iconst (v := 0) dX8_clear_1 (by decide) ?_
  refine gm_put (own := RX8) rfl dX8_clear_2 lfX8_9 (sC_Wi_0 (by omega)) rfl (gm_fit_int _) ?_
  refine gm_aload_n dX8_clear_5 rfl ?_
  refine gm_iconst (v := 0) dX8_clear_6 (by decide) ?_
  refine gm_put (own := RX8) rfl dX8_clear_7 lfX8_15 (sC_Wi_0 (by omega)) rfl (gm_fit_int _) ?_
  exact gm_vret dX8_clear_10 rfl
/-- X0_beginKeys 0 [] -> ret  -/
theorem PX0_beginKeys_1 {e : Nat} {S : gm_Mem} {T1 : gm_Mem} {T2 : gm_Mem} (ke : e = 2 ∨ e = 14 ∨ e = 60 ∨ e = 72) (h1 : gm_run gC 0 YX8_clear 0 [some (.ref (e + 10))] [] (gm_u (gm_u (gm_u S e 11 0) e 12 0) e 13 0) none T1) (h2 : gm_run gC 0 YX4_forgetSent 0 [some (.ref (e + 2)), none] [] (gm_u T1 e 6 0) none T2) : gm_run gC 1 YX0_beginKeys 0 [some (.ref e)] [] S none T2 := by
  refine gm_aload_n dX0_beginKeys_0 rfl ?_
  refine gm_iconst (v := 0) dX0_beginKeys_1 (by decide) ?_
  refine gm_put (own := RX0) rfl dX0_beginKeys_2 lfX0_81 (sC_E_0 (by omega)) rfl (gm_fit_int _) ?_
  refine gm_aload_n dX0_beginKeys_5 rfl ?_
  refine gm_iconst (v := 0) dX0_beginKeys_6 (by decide) ?_
  refine gm_put (own := RX0) rfl dX0_beginKeys_7 lfX0_84 (sC_E_0 (by omega)) rfl (gm_fit_int _) ?_
  refine gm_aload_n dX0_beginKeys_10 rfl ?_
  refine gm_iconst (v := 0) dX0_beginKeys_11 (by decide) ?_
  refine gm_put (own := RX0) rfl dX0_beginKeys_12 lfX0_87 (sC_E_0 (by omega)) rfl (gm_fit_int _) ?_
  refine gm_aload_n dX0_beginKeys_15 rfl ?_
  refine gm_getR (own := RX0) (q := (e + 10)) rfl dX0_beginKeys_16 lfX0_32 (sC_E_0 (by omega)) rfl ?_
  refine gm_callV (r1 := none) (own := RX0) rfl dX0_beginKeys_19 llX0_100 mvX8_clear (sC_E_10 (by omega)) rfl [] [] rfl rfl (Nat.le_of_ble_eq_true rfl) (by decide) rfl h1 rfl ?_
  refine gm_aload_n dX0_beginKeys_22 rfl ?_
  refine gm_iconst (v := 0) dX0_beginKeys_23 (by decide) ?_
  refine gm_put (own := RX0) rfl dX0_beginKeys_24 lfX0_68 (sC_E_0 (by omega)) rfl gm_fit_0 ?_
  refine gm_aload_n dX0_beginKeys_27 rfl ?_
  refine gm_getR (own := RX0) (q := (e + 2)) rfl dX0_beginKeys_28 lfX0_18 (sC_E_0 (by omega)) rfl ?_
  refine gm_callV (r1 := none) (own := RX0) rfl dX0_beginKeys_31 llX0_103 mvX4_forgetSent (sC_E_2 (by omega)) rfl [] [] rfl rfl (Nat.le_of_ble_eq_true rfl) (by decide) rfl h2 rfl ?_
  exact gm_vret dX0_beginKeys_34 rfl
/-- X0_countResult 0 [1f 7f] -> ret  -/
theorem PX0_countResult_1 {e : Nat} {a1 : Int32} {S : gm_Mem} {j3 : Nat} (ke : e = 2 ∨ e = 14 ∨ e = 60 ∨ e = 72) (c1 : ¬ a1 < 0) (c2 : a1 < 9) (ij3 : gm_ix a1 j3 9) : gm_run gC 0 YX0_countResult 0 [some (.ref e), some (.int a1)] [] S none (gm_u S (e + 1) j3 ((S (e + 1) j3) + 1)) := by
  refine gm_iload_n dX0_countResult_0 rfl ?_
  refine gm_if_lt_f dX0_countResult_1 ⟨20, by decide⟩ c1 ?_
  refine gm_iload_n dX0_countResult_4 rfl ?_
  refine gm_bipush (v := 9) dX0_countResult_5 (by decide) ?_
  refine gm_icmp_ge_f dX0_countResult_7 ⟨20, by decide⟩ c2 ?_
  refine gm_aload_n dX0_countResult_10 rfl ?_
  refine gm_getR (own := RX0) (q := (e + 1)) rfl dX0_countResult_11 lfX0_9 (sC_E_0 (by omega)) rfl ?_
  refine gm_iload_n dX0_countResult_14 rfl ?_
  refine gm_dup2 dX0_countResult_15 ?_
  refine gm_iald (j := j3) (x := (S (e + 1) j3)) dX0_countResult_16 (sC_E_1 (by omega)) ij3 rfl ?_
  refine gm_iconst (v := 1) dX0_countResult_17 (by decide) ?_
  refine gm_iadd dX0_countResult_18 rfl ?_
  refine gm_iast (j := j3) dX0_countResult_19 (sC_E_1 (by omega)) ij3 ?_
  exact gm_vret dX0_countResult_20 rfl
/-- X0_countResult 0 [1f 7t] -> ret  -/
theorem PX0_countResult_2 {e : Nat} {a1 : Int32} {S : gm_Mem} (ke : e = 2 ∨ e = 14 ∨ e = 60 ∨ e = 72) (c1 : ¬ a1 < 0) (c2 : ¬ a1 < 9) : gm_run gC 0 YX0_countResult 0 [some (.ref e), some (.int a1)] [] S none S := by
  refine gm_iload_n dX0_countResult_0 rfl ?_
  refine gm_if_lt_f dX0_countResult_1 ⟨20, by decide⟩ c1 ?_
  refine gm_iload_n dX0_countResult_4 rfl ?_
  refine gm_bipush (v := 9) dX0_countResult_5 (by decide) ?_
  refine gm_icmp_ge_t (tgt := 20) dX0_countResult_7 (by decide) c2 ?_
  exact gm_vret dX0_countResult_20 rfl
/-- X0_countResult 0 [1t] -> ret  -/
theorem PX0_countResult_3 {e : Nat} {a1 : Int32} {S : gm_Mem} (ke : e = 2 ∨ e = 14 ∨ e = 60 ∨ e = 72) (c1 : a1 < 0) : gm_run gC 0 YX0_countResult 0 [some (.ref e), some (.int a1)] [] S none S := by
  refine gm_iload_n dX0_countResult_0 rfl ?_
  refine gm_if_lt_t (tgt := 20) dX0_countResult_1 (by decide) c1 ?_
  exact gm_vret dX0_countResult_20 rfl
/-- X0_takesKind 0 [1=0 49f 56f 64f 72f] -> ret  -/
theorem PX0_takesKind_1 {e : Nat} {a1 : Int32} {S : gm_Mem} (ke : e = 2 ∨ e = 14 ∨ e = 60 ∨ e = 72) (c1 : a1 = 0) (c2 : (S e 0) = 1) (c3 : ¬ (S e 8) = 0) (c4 : ¬ (S e 8) = 2) (c5 : (S e 8) = 4) : gm_run gC 0 YX0_takesKind 0 [some (.ref e), some (.int a1)] [] S (some (.int 1)) S := by
  refine gm_iload_n dX0_takesKind_0 rfl ?_
  refine gm_tabEq (v := 0) (tgt := 44) dX0_takesKind_1 c1 (by decide) (by decide) rfl (by decide) ?_
  refine gm_aload_n dX0_takesKind_44 rfl ?_
  refine gm_getI (own := RX0) (x := (S e 0)) rfl dX0_takesKind_45 lfX0_49 (sC_E_0 (by omega)) rfl rfl ?_
  refine gm_iconst (v := 1) dX0_takesKind_48 (by decide) ?_
  refine gm_icmp_ne_f dX0_takesKind_49 ⟨79, by decide⟩ c2 ?_
  refine gm_aload_n dX0_takesKind_52 rfl ?_
  refine gm_getI (own := RX0) (x := (S e 8)) rfl dX0_takesKind_53 lfX0_39 (sC_E_0 (by omega)) rfl rfl ?_
  refine gm_if_eq_f dX0_takesKind_56 ⟨75, by decide⟩ c3 ?_
  refine gm_aload_n dX0_takesKind_59 rfl ?_
  refine gm_getI (own := RX0) (x := (S e 8)) rfl dX0_takesKind_60 lfX0_39 (sC_E_0 (by omega)) rfl rfl ?_
  refine gm_iconst (v := 2) dX0_takesKind_63 (by decide) ?_
  refine gm_icmp_eq_f dX0_takesKind_64 ⟨75, by decide⟩ c4 ?_
  refine gm_aload_n dX0_takesKind_67 rfl ?_
  refine gm_getI (own := RX0) (x := (S e 8)) rfl dX0_takesKind_68 lfX0_39 (sC_E_0 (by omega)) rfl rfl ?_
  refine gm_iconst (v := 4) dX0_takesKind_71 (by decide) ?_
  refine gm_icmp_ne_f dX0_takesKind_72 ⟨79, by decide⟩ c5 ?_
  refine gm_iconst (v := 1) dX0_takesKind_75 (by decide) ?_
  refine gm_goto (tgt := 80) dX0_takesKind_76 (by decide) ?_
  exact gm_zret dX0_takesKind_80 rfl gm_fit_1
/-- X0_takesKind 0 [1=0 49f 56f 64f 72t] -> ret  -/
theorem PX0_takesKind_2 {e : Nat} {a1 : Int32} {S : gm_Mem} (ke : e = 2 ∨ e = 14 ∨ e = 60 ∨ e = 72) (c1 : a1 = 0) (c2 : (S e 0) = 1) (c3 : ¬ (S e 8) = 0) (c4 : ¬ (S e 8) = 2) (c5 : ¬ (S e 8) = 4) : gm_run gC 0 YX0_takesKind 0 [some (.ref e), some (.int a1)] [] S (some (.int 0)) S := by
  refine gm_iload_n dX0_takesKind_0 rfl ?_
  refine gm_tabEq (v := 0) (tgt := 44) dX0_takesKind_1 c1 (by decide) (by decide) rfl (by decide) ?_
  refine gm_aload_n dX0_takesKind_44 rfl ?_
  refine gm_getI (own := RX0) (x := (S e 0)) rfl dX0_takesKind_45 lfX0_49 (sC_E_0 (by omega)) rfl rfl ?_
  refine gm_iconst (v := 1) dX0_takesKind_48 (by decide) ?_
  refine gm_icmp_ne_f dX0_takesKind_49 ⟨79, by decide⟩ c2 ?_
  refine gm_aload_n dX0_takesKind_52 rfl ?_
  refine gm_getI (own := RX0) (x := (S e 8)) rfl dX0_takesKind_53 lfX0_39 (sC_E_0 (by omega)) rfl rfl ?_
  refine gm_if_eq_f dX0_takesKind_56 ⟨75, by decide⟩ c3 ?_
  refine gm_aload_n dX0_takesKind_59 rfl ?_
  refine gm_getI (own := RX0) (x := (S e 8)) rfl dX0_takesKind_60 lfX0_39 (sC_E_0 (by omega)) rfl rfl ?_
  refine gm_iconst (v := 2) dX0_takesKind_63 (by decide) ?_
  refine gm_icmp_eq_f dX0_takesKind_64 ⟨75, by decide⟩ c4 ?_
  refine gm_aload_n dX0_takesKind_67 rfl ?_
  refine gm_getI (own := RX0) (x := (S e 8)) rfl dX0_takesKind_68 lfX0_39 (sC_E_0 (by omega)) rfl rfl ?_
  refine gm_iconst (v := 4) dX0_takesKind_71 (by decide) ?_
  refine gm_icmp_ne_t (tgt := 79) dX0_takesKind_72 (by decide) c5 ?_
  refine gm_iconst (v := 0) dX0_takesKind_79 (by decide) ?_
  exact gm_zret dX0_takesKind_80 rfl gm_fit_0
/-- X0_takesKind 0 [1=0 49f 56f 64t] -> ret  -/
theorem PX0_takesKind_3 {e : Nat} {a1 : Int32} {S : gm_Mem} (ke : e = 2 ∨ e = 14 ∨ e = 60 ∨ e = 72) (c1 : a1 = 0) (c2 : (S e 0) = 1) (c3 : ¬ (S e 8) = 0) (c4 : (S e 8) = 2) : gm_run gC 0 YX0_takesKind 0 [some (.ref e), some (.int a1)] [] S (some (.int 1)) S := by
  refine gm_iload_n dX0_takesKind_0 rfl ?_
  refine gm_tabEq (v := 0) (tgt := 44) dX0_takesKind_1 c1 (by decide) (by decide) rfl (by decide) ?_
  refine gm_aload_n dX0_takesKind_44 rfl ?_
  refine gm_getI (own := RX0) (x := (S e 0)) rfl dX0_takesKind_45 lfX0_49 (sC_E_0 (by omega)) rfl rfl ?_
  refine gm_iconst (v := 1) dX0_takesKind_48 (by decide) ?_
  refine gm_icmp_ne_f dX0_takesKind_49 ⟨79, by decide⟩ c2 ?_
  refine gm_aload_n dX0_takesKind_52 rfl ?_
  refine gm_getI (own := RX0) (x := (S e 8)) rfl dX0_takesKind_53 lfX0_39 (sC_E_0 (by omega)) rfl rfl ?_
  refine gm_if_eq_f dX0_takesKind_56 ⟨75, by decide⟩ c3 ?_
  refine gm_aload_n dX0_takesKind_59 rfl ?_
  refine gm_getI (own := RX0) (x := (S e 8)) rfl dX0_takesKind_60 lfX0_39 (sC_E_0 (by omega)) rfl rfl ?_
  refine gm_iconst (v := 2) dX0_takesKind_63 (by decide) ?_
  refine gm_icmp_eq_t (tgt := 75) dX0_takesKind_64 (by decide) c4 ?_
  refine gm_iconst (v := 1) dX0_takesKind_75 (by decide) ?_
  refine gm_goto (tgt := 80) dX0_takesKind_76 (by decide) ?_
  exact gm_zret dX0_takesKind_80 rfl gm_fit_1
/-- X0_takesKind 0 [1=0 49f 56t] -> ret  -/
theorem PX0_takesKind_4 {e : Nat} {a1 : Int32} {S : gm_Mem} (ke : e = 2 ∨ e = 14 ∨ e = 60 ∨ e = 72) (c1 : a1 = 0) (c2 : (S e 0) = 1) (c3 : (S e 8) = 0) : gm_run gC 0 YX0_takesKind 0 [some (.ref e), some (.int a1)] [] S (some (.int 1)) S := by
  refine gm_iload_n dX0_takesKind_0 rfl ?_
  refine gm_tabEq (v := 0) (tgt := 44) dX0_takesKind_1 c1 (by decide) (by decide) rfl (by decide) ?_
  refine gm_aload_n dX0_takesKind_44 rfl ?_
  refine gm_getI (own := RX0) (x := (S e 0)) rfl dX0_takesKind_45 lfX0_49 (sC_E_0 (by omega)) rfl rfl ?_
  refine gm_iconst (v := 1) dX0_takesKind_48 (by decide) ?_
  refine gm_icmp_ne_f dX0_takesKind_49 ⟨79, by decide⟩ c2 ?_
  refine gm_aload_n dX0_takesKind_52 rfl ?_
  refine gm_getI (own := RX0) (x := (S e 8)) rfl dX0_takesKind_53 lfX0_39 (sC_E_0 (by omega)) rfl rfl ?_
  refine gm_if_eq_t (tgt := 75) dX0_takesKind_56 (by decide) c3 ?_
  refine gm_iconst (v := 1) dX0_takesKind_75 (by decide) ?_
  refine gm_goto (tgt := 80) dX0_takesKind_76 (by decide) ?_
  exact gm_zret dX0_takesKind_80 rfl gm_fit_1
/-- X0_takesKind 0 [1=0 49t] -> ret  -/
theorem PX0_takesKind_5 {e : Nat} {a1 : Int32} {S : gm_Mem} (ke : e = 2 ∨ e = 14 ∨ e = 60 ∨ e = 72) (c1 : a1 = 0) (c2 : ¬ (S e 0) = 1) : gm_run gC 0 YX0_takesKind 0 [some (.ref e), some (.int a1)] [] S (some (.int 0)) S := by
  refine gm_iload_n dX0_takesKind_0 rfl ?_
  refine gm_tabEq (v := 0) (tgt := 44) dX0_takesKind_1 c1 (by decide) (by decide) rfl (by decide) ?_
  refine gm_aload_n dX0_takesKind_44 rfl ?_
  refine gm_getI (own := RX0) (x := (S e 0)) rfl dX0_takesKind_45 lfX0_49 (sC_E_0 (by omega)) rfl rfl ?_
  refine gm_iconst (v := 1) dX0_takesKind_48 (by decide) ?_
  refine gm_icmp_ne_t (tgt := 79) dX0_takesKind_49 (by decide) c2 ?_
  refine gm_iconst (v := 0) dX0_takesKind_79 (by decide) ?_
  exact gm_zret dX0_takesKind_80 rfl gm_fit_0
/-- X0_takesKind 0 [1=1 85f 93f] -> ret  -/
theorem PX0_takesKind_6 {e : Nat} {a1 : Int32} {S : gm_Mem} (ke : e = 2 ∨ e = 14 ∨ e = 60 ∨ e = 72) (c1 : a1 = 1) (c2 : (S e 0) = 0) (c3 : (S e 8) = 1) : gm_run gC 0 YX0_takesKind 0 [some (.ref e), some (.int a1)] [] S (some (.int 1)) S := by
  refine gm_iload_n dX0_takesKind_0 rfl ?_
  refine gm_tabEq (v := 1) (tgt := 81) dX0_takesKind_1 c1 (by decide) (by decide) rfl (by decide) ?_
  refine gm_aload_n dX0_takesKind_81 rfl ?_
  refine gm_getI (own := RX0) (x := (S e 0)) rfl dX0_takesKind_82 lfX0_49 (sC_E_0 (by omega)) rfl rfl ?_
  refine gm_if_ne_f dX0_takesKind_85 ⟨100, by decide⟩ c2 ?_
  refine gm_aload_n dX0_takesKind_88 rfl ?_
  refine gm_getI (own := RX0) (x := (S e 8)) rfl dX0_takesKind_89 lfX0_39 (sC_E_0 (by omega)) rfl rfl ?_
  refine gm_iconst (v := 1) dX0_takesKind_92 (by decide) ?_
  refine gm_icmp_ne_f dX0_takesKind_93 ⟨100, by decide⟩ c3 ?_
  refine gm_iconst (v := 1) dX0_takesKind_96 (by decide) ?_
  refine gm_goto (tgt := 101) dX0_takesKind_97 (by decide) ?_
  exact gm_zret dX0_takesKind_101 rfl gm_fit_1
/-- X0_takesKind 0 [1=1 85f 93t] -> ret  -/
theorem PX0_takesKind_7 {e : Nat} {a1 : Int32} {S : gm_Mem} (ke : e = 2 ∨ e = 14 ∨ e = 60 ∨ e = 72) (c1 : a1 = 1) (c2 : (S e 0) = 0) (c3 : ¬ (S e 8) = 1) : gm_run gC 0 YX0_takesKind 0 [some (.ref e), some (.int a1)] [] S (some (.int 0)) S := by
  refine gm_iload_n dX0_takesKind_0 rfl ?_
  refine gm_tabEq (v := 1) (tgt := 81) dX0_takesKind_1 c1 (by decide) (by decide) rfl (by decide) ?_
  refine gm_aload_n dX0_takesKind_81 rfl ?_
  refine gm_getI (own := RX0) (x := (S e 0)) rfl dX0_takesKind_82 lfX0_49 (sC_E_0 (by omega)) rfl rfl ?_
  refine gm_if_ne_f dX0_takesKind_85 ⟨100, by decide⟩ c2 ?_
  refine gm_aload_n dX0_takesKind_88 rfl ?_
  refine gm_getI (own := RX0) (x := (S e 8)) rfl dX0_takesKind_89 lfX0_39 (sC_E_0 (by omega)) rfl rfl ?_
  refine gm_iconst (v := 1) dX0_takesKind_92 (by decide) ?_
  refine gm_icmp_ne_t (tgt := 100) dX0_takesKind_93 (by decide) c3 ?_
  refine gm_iconst (v := 0) dX0_takesKind_100 (by decide) ?_
  exact gm_zret dX0_takesKind_101 rfl gm_fit_0
/-- X0_takesKind 0 [1=1 85t] -> ret  -/
theorem PX0_takesKind_8 {e : Nat} {a1 : Int32} {S : gm_Mem} (ke : e = 2 ∨ e = 14 ∨ e = 60 ∨ e = 72) (c1 : a1 = 1) (c2 : ¬ (S e 0) = 0) : gm_run gC 0 YX0_takesKind 0 [some (.ref e), some (.int a1)] [] S (some (.int 0)) S := by
  refine gm_iload_n dX0_takesKind_0 rfl ?_
  refine gm_tabEq (v := 1) (tgt := 81) dX0_takesKind_1 c1 (by decide) (by decide) rfl (by decide) ?_
  refine gm_aload_n dX0_takesKind_81 rfl ?_
  refine gm_getI (own := RX0) (x := (S e 0)) rfl dX0_takesKind_82 lfX0_49 (sC_E_0 (by omega)) rfl rfl ?_
  refine gm_if_ne_t (tgt := 100) dX0_takesKind_85 (by decide) c2 ?_
  refine gm_iconst (v := 0) dX0_takesKind_100 (by decide) ?_
  exact gm_zret dX0_takesKind_101 rfl gm_fit_0
/-- X0_takesKind 0 [1=2 85f 93f] -> ret  -/
theorem PX0_takesKind_9 {e : Nat} {a1 : Int32} {S : gm_Mem} (ke : e = 2 ∨ e = 14 ∨ e = 60 ∨ e = 72) (c1 : a1 = 2) (c2 : (S e 0) = 0) (c3 : (S e 8) = 1) : gm_run gC 0 YX0_takesKind 0 [some (.ref e), some (.int a1)] [] S (some (.int 1)) S := by
  refine gm_iload_n dX0_takesKind_0 rfl ?_
  refine gm_tabEq (v := 2) (tgt := 81) dX0_takesKind_1 c1 (by decide) (by decide) rfl (by decide) ?_
  refine gm_aload_n dX0_takesKind_81 rfl ?_
  refine gm_getI (own := RX0) (x := (S e 0)) rfl dX0_takesKind_82 lfX0_49 (sC_E_0 (by omega)) rfl rfl ?_
  refine gm_if_ne_f dX0_takesKind_85 ⟨100, by decide⟩ c2 ?_
  refine gm_aload_n dX0_takesKind_88 rfl ?_
  refine gm_getI (own := RX0) (x := (S e 8)) rfl dX0_takesKind_89 lfX0_39 (sC_E_0 (by omega)) rfl rfl ?_
  refine gm_iconst (v := 1) dX0_takesKind_92 (by decide) ?_
  refine gm_icmp_ne_f dX0_takesKind_93 ⟨100, by decide⟩ c3 ?_
  refine gm_iconst (v := 1) dX0_takesKind_96 (by decide) ?_
  refine gm_goto (tgt := 101) dX0_takesKind_97 (by decide) ?_
  exact gm_zret dX0_takesKind_101 rfl gm_fit_1
/-- X0_takesKind 0 [1=2 85f 93t] -> ret  -/
theorem PX0_takesKind_10 {e : Nat} {a1 : Int32} {S : gm_Mem} (ke : e = 2 ∨ e = 14 ∨ e = 60 ∨ e = 72) (c1 : a1 = 2) (c2 : (S e 0) = 0) (c3 : ¬ (S e 8) = 1) : gm_run gC 0 YX0_takesKind 0 [some (.ref e), some (.int a1)] [] S (some (.int 0)) S := by
  refine gm_iload_n dX0_takesKind_0 rfl ?_
  refine gm_tabEq (v := 2) (tgt := 81) dX0_takesKind_1 c1 (by decide) (by decide) rfl (by decide) ?_
  refine gm_aload_n dX0_takesKind_81 rfl ?_
  refine gm_getI (own := RX0) (x := (S e 0)) rfl dX0_takesKind_82 lfX0_49 (sC_E_0 (by omega)) rfl rfl ?_
  refine gm_if_ne_f dX0_takesKind_85 ⟨100, by decide⟩ c2 ?_
  refine gm_aload_n dX0_takesKind_88 rfl ?_
  refine gm_getI (own := RX0) (x := (S e 8)) rfl dX0_takesKind_89 lfX0_39 (sC_E_0 (by omega)) rfl rfl ?_
  refine gm_iconst (v := 1) dX0_takesKind_92 (by decide) ?_
  refine gm_icmp_ne_t (tgt := 100) dX0_takesKind_93 (by decide) c3 ?_
  refine gm_iconst (v := 0) dX0_takesKind_100 (by decide) ?_
  exact gm_zret dX0_takesKind_101 rfl gm_fit_0
/-- X0_takesKind 0 [1=2 85t] -> ret  -/
theorem PX0_takesKind_11 {e : Nat} {a1 : Int32} {S : gm_Mem} (ke : e = 2 ∨ e = 14 ∨ e = 60 ∨ e = 72) (c1 : a1 = 2) (c2 : ¬ (S e 0) = 0) : gm_run gC 0 YX0_takesKind 0 [some (.ref e), some (.int a1)] [] S (some (.int 0)) S := by
  refine gm_iload_n dX0_takesKind_0 rfl ?_
  refine gm_tabEq (v := 2) (tgt := 81) dX0_takesKind_1 c1 (by decide) (by decide) rfl (by decide) ?_
  refine gm_aload_n dX0_takesKind_81 rfl ?_
  refine gm_getI (own := RX0) (x := (S e 0)) rfl dX0_takesKind_82 lfX0_49 (sC_E_0 (by omega)) rfl rfl ?_
  refine gm_if_ne_t (tgt := 100) dX0_takesKind_85 (by decide) c2 ?_
  refine gm_iconst (v := 0) dX0_takesKind_100 (by decide) ?_
  exact gm_zret dX0_takesKind_101 rfl gm_fit_0
/-- X0_takesKind 0 [1=3 128f 136f 144f] -> ret  -/
theorem PX0_takesKind_12 {e : Nat} {a1 : Int32} {S : gm_Mem} (ke : e = 2 ∨ e = 14 ∨ e = 60 ∨ e = 72) (c1 : a1 = 3) (c2 : ¬ (S e 8) = 3) (c3 : ¬ (S e 8) = 2) (c4 : (S e 8) = 4) : gm_run gC 0 YX0_takesKind 0 [some (.ref e), some (.int a1)] [] S (some (.int 1)) S := by
  refine gm_iload_n dX0_takesKind_0 rfl ?_
  refine gm_tabEq (v := 3) (tgt := 123) dX0_takesKind_1 c1 (by decide) (by decide) rfl (by decide) ?_
  refine gm_aload_n dX0_takesKind_123 rfl ?_
  refine gm_getI (own := RX0) (x := (S e 8)) rfl dX0_takesKind_124 lfX0_39 (sC_E_0 (by omega)) rfl rfl ?_
  refine gm_iconst (v := 3) dX0_takesKind_127 (by decide) ?_
  refine gm_icmp_eq_f dX0_takesKind_128 ⟨147, by decide⟩ c2 ?_
  refine gm_aload_n dX0_takesKind_131 rfl ?_
  refine gm_getI (own := RX0) (x := (S e 8)) rfl dX0_takesKind_132 lfX0_39 (sC_E_0 (by omega)) rfl rfl ?_
  refine gm_iconst (v := 2) dX0_takesKind_135 (by decide) ?_
  refine gm_icmp_eq_f dX0_takesKind_136 ⟨147, by decide⟩ c3 ?_
  refine gm_aload_n dX0_takesKind_139 rfl ?_
  refine gm_getI (own := RX0) (x := (S e 8)) rfl dX0_takesKind_140 lfX0_39 (sC_E_0 (by omega)) rfl rfl ?_
  refine gm_iconst (v := 4) dX0_takesKind_143 (by decide) ?_
  refine gm_icmp_ne_f dX0_takesKind_144 ⟨151, by decide⟩ c4 ?_
  refine gm_iconst (v := 1) dX0_takesKind_147 (by decide) ?_
  refine gm_goto (tgt := 152) dX0_takesKind_148 (by decide) ?_
  exact gm_zret dX0_takesKind_152 rfl gm_fit_1
/-- X0_takesKind 0 [1=3 128f 136f 144t] -> ret  -/
theorem PX0_takesKind_13 {e : Nat} {a1 : Int32} {S : gm_Mem} (ke : e = 2 ∨ e = 14 ∨ e = 60 ∨ e = 72) (c1 : a1 = 3) (c2 : ¬ (S e 8) = 3) (c3 : ¬ (S e 8) = 2) (c4 : ¬ (S e 8) = 4) : gm_run gC 0 YX0_takesKind 0 [some (.ref e), some (.int a1)] [] S (some (.int 0)) S := by
  refine gm_iload_n dX0_takesKind_0 rfl ?_
  refine gm_tabEq (v := 3) (tgt := 123) dX0_takesKind_1 c1 (by decide) (by decide) rfl (by decide) ?_
  refine gm_aload_n dX0_takesKind_123 rfl ?_
  refine gm_getI (own := RX0) (x := (S e 8)) rfl dX0_takesKind_124 lfX0_39 (sC_E_0 (by omega)) rfl rfl ?_
  refine gm_iconst (v := 3) dX0_takesKind_127 (by decide) ?_
  refine gm_icmp_eq_f dX0_takesKind_128 ⟨147, by decide⟩ c2 ?_
  refine gm_aload_n dX0_takesKind_131 rfl ?_
  refine gm_getI (own := RX0) (x := (S e 8)) rfl dX0_takesKind_132 lfX0_39 (sC_E_0 (by omega)) rfl rfl ?_
  refine gm_iconst (v := 2) dX0_takesKind_135 (by decide) ?_
  refine gm_icmp_eq_f dX0_takesKind_136 ⟨147, by decide⟩ c3 ?_
  refine gm_aload_n dX0_takesKind_139 rfl ?_
  refine gm_getI (own := RX0) (x := (S e 8)) rfl dX0_takesKind_140 lfX0_39 (sC_E_0 (by omega)) rfl rfl ?_
  refine gm_iconst (v := 4) dX0_takesKind_143 (by decide) ?_
  refine gm_icmp_ne_t (tgt := 151) dX0_takesKind_144 (by decide) c4 ?_
  refine gm_iconst (v := 0) dX0_takesKind_151 (by decide) ?_
  exact gm_zret dX0_takesKind_152 rfl gm_fit_0
/-- X0_takesKind 0 [1=3 128f 136t] -> ret  -/
theorem PX0_takesKind_14 {e : Nat} {a1 : Int32} {S : gm_Mem} (ke : e = 2 ∨ e = 14 ∨ e = 60 ∨ e = 72) (c1 : a1 = 3) (c2 : ¬ (S e 8) = 3) (c3 : (S e 8) = 2) : gm_run gC 0 YX0_takesKind 0 [some (.ref e), some (.int a1)] [] S (some (.int 1)) S := by
  refine gm_iload_n dX0_takesKind_0 rfl ?_
  refine gm_tabEq (v := 3) (tgt := 123) dX0_takesKind_1 c1 (by decide) (by decide) rfl (by decide) ?_
  refine gm_aload_n dX0_takesKind_123 rfl ?_
  refine gm_getI (own := RX0) (x := (S e 8)) rfl dX0_takesKind_124 lfX0_39 (sC_E_0 (by omega)) rfl rfl ?_
  refine gm_iconst (v := 3) dX0_takesKind_127 (by decide) ?_
  refine gm_icmp_eq_f dX0_takesKind_128 ⟨147, by decide⟩ c2 ?_
  refine gm_aload_n dX0_takesKind_131 rfl ?_
  refine gm_getI (own := RX0) (x := (S e 8)) rfl dX0_takesKind_132 lfX0_39 (sC_E_0 (by omega)) rfl rfl ?_
  refine gm_iconst (v := 2) dX0_takesKind_135 (by decide) ?_
  refine gm_icmp_eq_t (tgt := 147) dX0_takesKind_136 (by decide) c3 ?_
  refine gm_iconst (v := 1) dX0_takesKind_147 (by decide) ?_
  refine gm_goto (tgt := 152) dX0_takesKind_148 (by decide) ?_
  exact gm_zret dX0_takesKind_152 rfl gm_fit_1
/-- X0_takesKind 0 [1=3 128t] -> ret  -/
theorem PX0_takesKind_15 {e : Nat} {a1 : Int32} {S : gm_Mem} (ke : e = 2 ∨ e = 14 ∨ e = 60 ∨ e = 72) (c1 : a1 = 3) (c2 : (S e 8) = 3) : gm_run gC 0 YX0_takesKind 0 [some (.ref e), some (.int a1)] [] S (some (.int 1)) S := by
  refine gm_iload_n dX0_takesKind_0 rfl ?_
  refine gm_tabEq (v := 3) (tgt := 123) dX0_takesKind_1 c1 (by decide) (by decide) rfl (by decide) ?_
  refine gm_aload_n dX0_takesKind_123 rfl ?_
  refine gm_getI (own := RX0) (x := (S e 8)) rfl dX0_takesKind_124 lfX0_39 (sC_E_0 (by omega)) rfl rfl ?_
  refine gm_iconst (v := 3) dX0_takesKind_127 (by decide) ?_
  refine gm_icmp_eq_t (tgt := 147) dX0_takesKind_128 (by decide) c2 ?_
  refine gm_iconst (v := 1) dX0_takesKind_147 (by decide) ?_
  refine gm_goto (tgt := 152) dX0_takesKind_148 (by decide) ?_
  exact gm_zret dX0_takesKind_152 rfl gm_fit_1
/-- X0_takesKind 0 [1=4 128f 136f 144f] -> ret  -/
theorem PX0_takesKind_16 {e : Nat} {a1 : Int32} {S : gm_Mem} (ke : e = 2 ∨ e = 14 ∨ e = 60 ∨ e = 72) (c1 : a1 = 4) (c2 : ¬ (S e 8) = 3) (c3 : ¬ (S e 8) = 2) (c4 : (S e 8) = 4) : gm_run gC 0 YX0_takesKind 0 [some (.ref e), some (.int a1)] [] S (some (.int 1)) S := by
  refine gm_iload_n dX0_takesKind_0 rfl ?_
  refine gm_tabEq (v := 4) (tgt := 123) dX0_takesKind_1 c1 (by decide) (by decide) rfl (by decide) ?_
  refine gm_aload_n dX0_takesKind_123 rfl ?_
  refine gm_getI (own := RX0) (x := (S e 8)) rfl dX0_takesKind_124 lfX0_39 (sC_E_0 (by omega)) rfl rfl ?_
  refine gm_iconst (v := 3) dX0_takesKind_127 (by decide) ?_
  refine gm_icmp_eq_f dX0_takesKind_128 ⟨147, by decide⟩ c2 ?_
  refine gm_aload_n dX0_takesKind_131 rfl ?_
  refine gm_getI (own := RX0) (x := (S e 8)) rfl dX0_takesKind_132 lfX0_39 (sC_E_0 (by omega)) rfl rfl ?_
  refine gm_iconst (v := 2) dX0_takesKind_135 (by decide) ?_
  refine gm_icmp_eq_f dX0_takesKind_136 ⟨147, by decide⟩ c3 ?_
  refine gm_aload_n dX0_takesKind_139 rfl ?_
  refine gm_getI (own := RX0) (x := (S e 8)) rfl dX0_takesKind_140 lfX0_39 (sC_E_0 (by omega)) rfl rfl ?_
  refine gm_iconst (v := 4) dX0_takesKind_143 (by decide) ?_
  refine gm_icmp_ne_f dX0_takesKind_144 ⟨151, by decide⟩ c4 ?_
  refine gm_iconst (v := 1) dX0_takesKind_147 (by decide) ?_
  refine gm_goto (tgt := 152) dX0_takesKind_148 (by decide) ?_
  exact gm_zret dX0_takesKind_152 rfl gm_fit_1
/-- X0_takesKind 0 [1=4 128f 136f 144t] -> ret  -/
theorem PX0_takesKind_17 {e : Nat} {a1 : Int32} {S : gm_Mem} (ke : e = 2 ∨ e = 14 ∨ e = 60 ∨ e = 72) (c1 : a1 = 4) (c2 : ¬ (S e 8) = 3) (c3 : ¬ (S e 8) = 2) (c4 : ¬ (S e 8) = 4) : gm_run gC 0 YX0_takesKind 0 [some (.ref e), some (.int a1)] [] S (some (.int 0)) S := by
  refine gm_iload_n dX0_takesKind_0 rfl ?_
  refine gm_tabEq (v := 4) (tgt := 123) dX0_takesKind_1 c1 (by decide) (by decide) rfl (by decide) ?_
  refine gm_aload_n dX0_takesKind_123 rfl ?_
  refine gm_getI (own := RX0) (x := (S e 8)) rfl dX0_takesKind_124 lfX0_39 (sC_E_0 (by omega)) rfl rfl ?_
  refine gm_iconst (v := 3) dX0_takesKind_127 (by decide) ?_
  refine gm_icmp_eq_f dX0_takesKind_128 ⟨147, by decide⟩ c2 ?_
  refine gm_aload_n dX0_takesKind_131 rfl ?_
  refine gm_getI (own := RX0) (x := (S e 8)) rfl dX0_takesKind_132 lfX0_39 (sC_E_0 (by omega)) rfl rfl ?_
  refine gm_iconst (v := 2) dX0_takesKind_135 (by decide) ?_
  refine gm_icmp_eq_f dX0_takesKind_136 ⟨147, by decide⟩ c3 ?_
  refine gm_aload_n dX0_takesKind_139 rfl ?_
  refine gm_getI (own := RX0) (x := (S e 8)) rfl dX0_takesKind_140 lfX0_39 (sC_E_0 (by omega)) rfl rfl ?_
  refine gm_iconst (v := 4) dX0_takesKind_143 (by decide) ?_
  refine gm_icmp_ne_t (tgt := 151) dX0_takesKind_144 (by decide) c4 ?_
  refine gm_iconst (v := 0) dX0_takesKind_151 (by decide) ?_
  exact gm_zret dX0_takesKind_152 rfl gm_fit_0
/-- X0_takesKind 0 [1=4 128f 136t] -> ret  -/
theorem PX0_takesKind_18 {e : Nat} {a1 : Int32} {S : gm_Mem} (ke : e = 2 ∨ e = 14 ∨ e = 60 ∨ e = 72) (c1 : a1 = 4) (c2 : ¬ (S e 8) = 3) (c3 : (S e 8) = 2) : gm_run gC 0 YX0_takesKind 0 [some (.ref e), some (.int a1)] [] S (some (.int 1)) S := by
  refine gm_iload_n dX0_takesKind_0 rfl ?_
  refine gm_tabEq (v := 4) (tgt := 123) dX0_takesKind_1 c1 (by decide) (by decide) rfl (by decide) ?_
  refine gm_aload_n dX0_takesKind_123 rfl ?_
  refine gm_getI (own := RX0) (x := (S e 8)) rfl dX0_takesKind_124 lfX0_39 (sC_E_0 (by omega)) rfl rfl ?_
  refine gm_iconst (v := 3) dX0_takesKind_127 (by decide) ?_
  refine gm_icmp_eq_f dX0_takesKind_128 ⟨147, by decide⟩ c2 ?_
  refine gm_aload_n dX0_takesKind_131 rfl ?_
  refine gm_getI (own := RX0) (x := (S e 8)) rfl dX0_takesKind_132 lfX0_39 (sC_E_0 (by omega)) rfl rfl ?_
  refine gm_iconst (v := 2) dX0_takesKind_135 (by decide) ?_
  refine gm_icmp_eq_t (tgt := 147) dX0_takesKind_136 (by decide) c3 ?_
  refine gm_iconst (v := 1) dX0_takesKind_147 (by decide) ?_
  refine gm_goto (tgt := 152) dX0_takesKind_148 (by decide) ?_
  exact gm_zret dX0_takesKind_152 rfl gm_fit_1
/-- X0_takesKind 0 [1=4 128t] -> ret  -/
theorem PX0_takesKind_19 {e : Nat} {a1 : Int32} {S : gm_Mem} (ke : e = 2 ∨ e = 14 ∨ e = 60 ∨ e = 72) (c1 : a1 = 4) (c2 : (S e 8) = 3) : gm_run gC 0 YX0_takesKind 0 [some (.ref e), some (.int a1)] [] S (some (.int 1)) S := by
  refine gm_iload_n dX0_takesKind_0 rfl ?_
  refine gm_tabEq (v := 4) (tgt := 123) dX0_takesKind_1 c1 (by decide) (by decide) rfl (by decide) ?_
  refine gm_aload_n dX0_takesKind_123 rfl ?_
  refine gm_getI (own := RX0) (x := (S e 8)) rfl dX0_takesKind_124 lfX0_39 (sC_E_0 (by omega)) rfl rfl ?_
  refine gm_iconst (v := 3) dX0_takesKind_127 (by decide) ?_
  refine gm_icmp_eq_t (tgt := 147) dX0_takesKind_128 (by decide) c2 ?_
  refine gm_iconst (v := 1) dX0_takesKind_147 (by decide) ?_
  refine gm_goto (tgt := 152) dX0_takesKind_148 (by decide) ?_
  exact gm_zret dX0_takesKind_152 rfl gm_fit_1
/-- X0_takesKind 0 [1=5 128f 136f 144f] -> ret  -/
theorem PX0_takesKind_20 {e : Nat} {a1 : Int32} {S : gm_Mem} (ke : e = 2 ∨ e = 14 ∨ e = 60 ∨ e = 72) (c1 : a1 = 5) (c2 : ¬ (S e 8) = 3) (c3 : ¬ (S e 8) = 2) (c4 : (S e 8) = 4) : gm_run gC 0 YX0_takesKind 0 [some (.ref e), some (.int a1)] [] S (some (.int 1)) S := by
  refine gm_iload_n dX0_takesKind_0 rfl ?_
  refine gm_tabEq (v := 5) (tgt := 123) dX0_takesKind_1 c1 (by decide) (by decide) rfl (by decide) ?_
  refine gm_aload_n dX0_takesKind_123 rfl ?_
  refine gm_getI (own := RX0) (x := (S e 8)) rfl dX0_takesKind_124 lfX0_39 (sC_E_0 (by omega)) rfl rfl ?_
  refine gm_iconst (v := 3) dX0_takesKind_127 (by decide) ?_
  refine gm_icmp_eq_f dX0_takesKind_128 ⟨147, by decide⟩ c2 ?_
  refine gm_aload_n dX0_takesKind_131 rfl ?_
  refine gm_getI (own := RX0) (x := (S e 8)) rfl dX0_takesKind_132 lfX0_39 (sC_E_0 (by omega)) rfl rfl ?_
  refine gm_iconst (v := 2) dX0_takesKind_135 (by decide) ?_
  refine gm_icmp_eq_f dX0_takesKind_136 ⟨147, by decide⟩ c3 ?_
  refine gm_aload_n dX0_takesKind_139 rfl ?_
  refine gm_getI (own := RX0) (x := (S e 8)) rfl dX0_takesKind_140 lfX0_39 (sC_E_0 (by omega)) rfl rfl ?_
  refine gm_iconst (v := 4) dX0_takesKind_143 (by decide) ?_
  refine gm_icmp_ne_f dX0_takesKind_144 ⟨151, by decide⟩ c4 ?_
  refine gm_iconst (v := 1) dX0_takesKind_147 (by decide) ?_
  refine gm_goto (tgt := 152) dX0_takesKind_148 (by decide) ?_
  exact gm_zret dX0_takesKind_152 rfl gm_fit_1
/-- X0_takesKind 0 [1=5 128f 136f 144t] -> ret  -/
theorem PX0_takesKind_21 {e : Nat} {a1 : Int32} {S : gm_Mem} (ke : e = 2 ∨ e = 14 ∨ e = 60 ∨ e = 72) (c1 : a1 = 5) (c2 : ¬ (S e 8) = 3) (c3 : ¬ (S e 8) = 2) (c4 : ¬ (S e 8) = 4) : gm_run gC 0 YX0_takesKind 0 [some (.ref e), some (.int a1)] [] S (some (.int 0)) S := by
  refine gm_iload_n dX0_takesKind_0 rfl ?_
  refine gm_tabEq (v := 5) (tgt := 123) dX0_takesKind_1 c1 (by decide) (by decide) rfl (by decide) ?_
  refine gm_aload_n dX0_takesKind_123 rfl ?_
  refine gm_getI (own := RX0) (x := (S e 8)) rfl dX0_takesKind_124 lfX0_39 (sC_E_0 (by omega)) rfl rfl ?_
  refine gm_iconst (v := 3) dX0_takesKind_127 (by decide) ?_
  refine gm_icmp_eq_f dX0_takesKind_128 ⟨147, by decide⟩ c2 ?_
  refine gm_aload_n dX0_takesKind_131 rfl ?_
  refine gm_getI (own := RX0) (x := (S e 8)) rfl dX0_takesKind_132 lfX0_39 (sC_E_0 (by omega)) rfl rfl ?_
  refine gm_iconst (v := 2) dX0_takesKind_135 (by decide) ?_
  refine gm_icmp_eq_f dX0_takesKind_136 ⟨147, by decide⟩ c3 ?_
  refine gm_aload_n dX0_takesKind_139 rfl ?_
  refine gm_getI (own := RX0) (x := (S e 8)) rfl dX0_takesKind_140 lfX0_39 (sC_E_0 (by omega)) rfl rfl ?_
  refine gm_iconst (v := 4) dX0_takesKind_143 (by decide) ?_
  refine gm_icmp_ne_t (tgt := 151) dX0_takesKind_144 (by decide) c4 ?_
  refine gm_iconst (v := 0) dX0_takesKind_151 (by decide) ?_
  exact gm_zret dX0_takesKind_152 rfl gm_fit_0
/-- X0_takesKind 0 [1=5 128f 136t] -> ret  -/
theorem PX0_takesKind_22 {e : Nat} {a1 : Int32} {S : gm_Mem} (ke : e = 2 ∨ e = 14 ∨ e = 60 ∨ e = 72) (c1 : a1 = 5) (c2 : ¬ (S e 8) = 3) (c3 : (S e 8) = 2) : gm_run gC 0 YX0_takesKind 0 [some (.ref e), some (.int a1)] [] S (some (.int 1)) S := by
  refine gm_iload_n dX0_takesKind_0 rfl ?_
  refine gm_tabEq (v := 5) (tgt := 123) dX0_takesKind_1 c1 (by decide) (by decide) rfl (by decide) ?_
  refine gm_aload_n dX0_takesKind_123 rfl ?_
  refine gm_getI (own := RX0) (x := (S e 8)) rfl dX0_takesKind_124 lfX0_39 (sC_E_0 (by omega)) rfl rfl ?_
  refine gm_iconst (v := 3) dX0_takesKind_127 (by decide) ?_
  refine gm_icmp_eq_f dX0_takesKind_128 ⟨147, by decide⟩ c2 ?_
  refine gm_aload_n dX0_takesKind_131 rfl ?_
  refine gm_getI (own := RX0) (x := (S e 8)) rfl dX0_takesKind_132 lfX0_39 (sC_E_0 (by omega)) rfl rfl ?_
  refine gm_iconst (v := 2) dX0_takesKind_135 (by decide) ?_
  refine gm_icmp_eq_t (tgt := 147) dX0_takesKind_136 (by decide) c3 ?_
  refine gm_iconst (v := 1) dX0_takesKind_147 (by decide) ?_
  refine gm_goto (tgt := 152) dX0_takesKind_148 (by decide) ?_
  exact gm_zret dX0_takesKind_152 rfl gm_fit_1
/-- X0_takesKind 0 [1=5 128t] -> ret  -/
theorem PX0_takesKind_23 {e : Nat} {a1 : Int32} {S : gm_Mem} (ke : e = 2 ∨ e = 14 ∨ e = 60 ∨ e = 72) (c1 : a1 = 5) (c2 : (S e 8) = 3) : gm_run gC 0 YX0_takesKind 0 [some (.ref e), some (.int a1)] [] S (some (.int 1)) S := by
  refine gm_iload_n dX0_takesKind_0 rfl ?_
  refine gm_tabEq (v := 5) (tgt := 123) dX0_takesKind_1 c1 (by decide) (by decide) rfl (by decide) ?_
  refine gm_aload_n dX0_takesKind_123 rfl ?_
  refine gm_getI (own := RX0) (x := (S e 8)) rfl dX0_takesKind_124 lfX0_39 (sC_E_0 (by omega)) rfl rfl ?_
  refine gm_iconst (v := 3) dX0_takesKind_127 (by decide) ?_
  refine gm_icmp_eq_t (tgt := 147) dX0_takesKind_128 (by decide) c2 ?_
  refine gm_iconst (v := 1) dX0_takesKind_147 (by decide) ?_
  refine gm_goto (tgt := 152) dX0_takesKind_148 (by decide) ?_
  exact gm_zret dX0_takesKind_152 rfl gm_fit_1
/-- X0_takesKind 0 [1=6 106f 114f] -> ret  -/
theorem PX0_takesKind_24 {e : Nat} {a1 : Int32} {S : gm_Mem} (ke : e = 2 ∨ e = 14 ∨ e = 60 ∨ e = 72) (c1 : a1 = 6) (c2 : (S e 0) = 0) (c3 : (S e 8) = 3) : gm_run gC 0 YX0_takesKind 0 [some (.ref e), some (.int a1)] [] S (some (.int 1)) S := by
  refine gm_iload_n dX0_takesKind_0 rfl ?_
  refine gm_tabEq (v := 6) (tgt := 102) dX0_takesKind_1 c1 (by decide) (by decide) rfl (by decide) ?_
  refine gm_aload_n dX0_takesKind_102 rfl ?_
  refine gm_getI (own := RX0) (x := (S e 0)) rfl dX0_takesKind_103 lfX0_49 (sC_E_0 (by omega)) rfl rfl ?_
  refine gm_if_ne_f dX0_takesKind_106 ⟨121, by decide⟩ c2 ?_
  refine gm_aload_n dX0_takesKind_109 rfl ?_
  refine gm_getI (own := RX0) (x := (S e 8)) rfl dX0_takesKind_110 lfX0_39 (sC_E_0 (by omega)) rfl rfl ?_
  refine gm_iconst (v := 3) dX0_takesKind_113 (by decide) ?_
  refine gm_icmp_ne_f dX0_takesKind_114 ⟨121, by decide⟩ c3 ?_
  refine gm_iconst (v := 1) dX0_takesKind_117 (by decide) ?_
  refine gm_goto (tgt := 122) dX0_takesKind_118 (by decide) ?_
  exact gm_zret dX0_takesKind_122 rfl gm_fit_1
/-- X0_takesKind 0 [1=6 106f 114t] -> ret  -/
theorem PX0_takesKind_25 {e : Nat} {a1 : Int32} {S : gm_Mem} (ke : e = 2 ∨ e = 14 ∨ e = 60 ∨ e = 72) (c1 : a1 = 6) (c2 : (S e 0) = 0) (c3 : ¬ (S e 8) = 3) : gm_run gC 0 YX0_takesKind 0 [some (.ref e), some (.int a1)] [] S (some (.int 0)) S := by
  refine gm_iload_n dX0_takesKind_0 rfl ?_
  refine gm_tabEq (v := 6) (tgt := 102) dX0_takesKind_1 c1 (by decide) (by decide) rfl (by decide) ?_
  refine gm_aload_n dX0_takesKind_102 rfl ?_
  refine gm_getI (own := RX0) (x := (S e 0)) rfl dX0_takesKind_103 lfX0_49 (sC_E_0 (by omega)) rfl rfl ?_
  refine gm_if_ne_f dX0_takesKind_106 ⟨121, by decide⟩ c2 ?_
  refine gm_aload_n dX0_takesKind_109 rfl ?_
  refine gm_getI (own := RX0) (x := (S e 8)) rfl dX0_takesKind_110 lfX0_39 (sC_E_0 (by omega)) rfl rfl ?_
  refine gm_iconst (v := 3) dX0_takesKind_113 (by decide) ?_
  refine gm_icmp_ne_t (tgt := 121) dX0_takesKind_114 (by decide) c3 ?_
  refine gm_iconst (v := 0) dX0_takesKind_121 (by decide) ?_
  exact gm_zret dX0_takesKind_122 rfl gm_fit_0
/-- X0_takesKind 0 [1=6 106t] -> ret  -/
theorem PX0_takesKind_26 {e : Nat} {a1 : Int32} {S : gm_Mem} (ke : e = 2 ∨ e = 14 ∨ e = 60 ∨ e = 72) (c1 : a1 = 6) (c2 : ¬ (S e 0) = 0) : gm_run gC 0 YX0_takesKind 0 [some (.ref e), some (.int a1)] [] S (some (.int 0)) S := by
  refine gm_iload_n dX0_takesKind_0 rfl ?_
  refine gm_tabEq (v := 6) (tgt := 102) dX0_takesKind_1 c1 (by decide) (by decide) rfl (by decide) ?_
  refine gm_aload_n dX0_takesKind_102 rfl ?_
  refine gm_getI (own := RX0) (x := (S e 0)) rfl dX0_takesKind_103 lfX0_49 (sC_E_0 (by omega)) rfl rfl ?_
  refine gm_if_ne_t (tgt := 121) dX0_takesKind_106 (by decide) c2 ?_
  refine gm_iconst (v := 0) dX0_takesKind_121 (by decide) ?_
  exact gm_zret dX0_takesKind_122 rfl gm_fit_0
/-- X0_takesKind 0 [1out 128f 136f 144f] -> ret  -/
theorem PX0_takesKind_27 {e : Nat} {a1 : Int32} {S : gm_Mem} (ke : e = 2 ∨ e = 14 ∨ e = 60 ∨ e = 72) (c1 : a1.toInt < 0 ∨ 6 < a1.toInt) (c2 : ¬ (S e 8) = 3) (c3 : ¬ (S e 8) = 2) (c4 : (S e 8) = 4) : gm_run gC 0 YX0_takesKind 0 [some (.ref e), some (.int a1)] [] S (some (.int 1)) S := by
  refine gm_iload_n dX0_takesKind_0 rfl ?_
  refine gm_tabOut (tgt := 123) dX0_takesKind_1 c1 (by decide) ?_
  refine gm_aload_n dX0_takesKind_123 rfl ?_
  refine gm_getI (own := RX0) (x := (S e 8)) rfl dX0_takesKind_124 lfX0_39 (sC_E_0 (by omega)) rfl rfl ?_
  refine gm_iconst (v := 3) dX0_takesKind_127 (by decide) ?_
  refine gm_icmp_eq_f dX0_takesKind_128 ⟨147, by decide⟩ c2 ?_
  refine gm_aload_n dX0_takesKind_131 rfl ?_
  refine gm_getI (own := RX0) (x := (S e 8)) rfl dX0_takesKind_132 lfX0_39 (sC_E_0 (by omega)) rfl rfl ?_
  refine gm_iconst (v := 2) dX0_takesKind_135 (by decide) ?_
  refine gm_icmp_eq_f dX0_takesKind_136 ⟨147, by decide⟩ c3 ?_
  refine gm_aload_n dX0_takesKind_139 rfl ?_
  refine gm_getI (own := RX0) (x := (S e 8)) rfl dX0_takesKind_140 lfX0_39 (sC_E_0 (by omega)) rfl rfl ?_
  refine gm_iconst (v := 4) dX0_takesKind_143 (by decide) ?_
  refine gm_icmp_ne_f dX0_takesKind_144 ⟨151, by decide⟩ c4 ?_
  refine gm_iconst (v := 1) dX0_takesKind_147 (by decide) ?_
  refine gm_goto (tgt := 152) dX0_takesKind_148 (by decide) ?_
  exact gm_zret dX0_takesKind_152 rfl gm_fit_1
/-- X0_takesKind 0 [1out 128f 136f 144t] -> ret  -/
theorem PX0_takesKind_28 {e : Nat} {a1 : Int32} {S : gm_Mem} (ke : e = 2 ∨ e = 14 ∨ e = 60 ∨ e = 72) (c1 : a1.toInt < 0 ∨ 6 < a1.toInt) (c2 : ¬ (S e 8) = 3) (c3 : ¬ (S e 8) = 2) (c4 : ¬ (S e 8) = 4) : gm_run gC 0 YX0_takesKind 0 [some (.ref e), some (.int a1)] [] S (some (.int 0)) S := by
  refine gm_iload_n dX0_takesKind_0 rfl ?_
  refine gm_tabOut (tgt := 123) dX0_takesKind_1 c1 (by decide) ?_
  refine gm_aload_n dX0_takesKind_123 rfl ?_
  refine gm_getI (own := RX0) (x := (S e 8)) rfl dX0_takesKind_124 lfX0_39 (sC_E_0 (by omega)) rfl rfl ?_
  refine gm_iconst (v := 3) dX0_takesKind_127 (by decide) ?_
  refine gm_icmp_eq_f dX0_takesKind_128 ⟨147, by decide⟩ c2 ?_
  refine gm_aload_n dX0_takesKind_131 rfl ?_
  refine gm_getI (own := RX0) (x := (S e 8)) rfl dX0_takesKind_132 lfX0_39 (sC_E_0 (by omega)) rfl rfl ?_
  refine gm_iconst (v := 2) dX0_takesKind_135 (by decide) ?_
  refine gm_icmp_eq_f dX0_takesKind_136 ⟨147, by decide⟩ c3 ?_
  refine gm_aload_n dX0_takesKind_139 rfl ?_
  refine gm_getI (own := RX0) (x := (S e 8)) rfl dX0_takesKind_140 lfX0_39 (sC_E_0 (by omega)) rfl rfl ?_
  refine gm_iconst (v := 4) dX0_takesKind_143 (by decide) ?_
  refine gm_icmp_ne_t (tgt := 151) dX0_takesKind_144 (by decide) c4 ?_
  refine gm_iconst (v := 0) dX0_takesKind_151 (by decide) ?_
  exact gm_zret dX0_takesKind_152 rfl gm_fit_0
/-- X0_takesKind 0 [1out 128f 136t] -> ret  -/
theorem PX0_takesKind_29 {e : Nat} {a1 : Int32} {S : gm_Mem} (ke : e = 2 ∨ e = 14 ∨ e = 60 ∨ e = 72) (c1 : a1.toInt < 0 ∨ 6 < a1.toInt) (c2 : ¬ (S e 8) = 3) (c3 : (S e 8) = 2) : gm_run gC 0 YX0_takesKind 0 [some (.ref e), some (.int a1)] [] S (some (.int 1)) S := by
  refine gm_iload_n dX0_takesKind_0 rfl ?_
  refine gm_tabOut (tgt := 123) dX0_takesKind_1 c1 (by decide) ?_
  refine gm_aload_n dX0_takesKind_123 rfl ?_
  refine gm_getI (own := RX0) (x := (S e 8)) rfl dX0_takesKind_124 lfX0_39 (sC_E_0 (by omega)) rfl rfl ?_
  refine gm_iconst (v := 3) dX0_takesKind_127 (by decide) ?_
  refine gm_icmp_eq_f dX0_takesKind_128 ⟨147, by decide⟩ c2 ?_
  refine gm_aload_n dX0_takesKind_131 rfl ?_
  refine gm_getI (own := RX0) (x := (S e 8)) rfl dX0_takesKind_132 lfX0_39 (sC_E_0 (by omega)) rfl rfl ?_
  refine gm_iconst (v := 2) dX0_takesKind_135 (by decide) ?_
  refine gm_icmp_eq_t (tgt := 147) dX0_takesKind_136 (by decide) c3 ?_
  refine gm_iconst (v := 1) dX0_takesKind_147 (by decide) ?_
  refine gm_goto (tgt := 152) dX0_takesKind_148 (by decide) ?_
  exact gm_zret dX0_takesKind_152 rfl gm_fit_1
/-- X0_takesKind 0 [1out 128t] -> ret  -/
theorem PX0_takesKind_30 {e : Nat} {a1 : Int32} {S : gm_Mem} (ke : e = 2 ∨ e = 14 ∨ e = 60 ∨ e = 72) (c1 : a1.toInt < 0 ∨ 6 < a1.toInt) (c2 : (S e 8) = 3) : gm_run gC 0 YX0_takesKind 0 [some (.ref e), some (.int a1)] [] S (some (.int 1)) S := by
  refine gm_iload_n dX0_takesKind_0 rfl ?_
  refine gm_tabOut (tgt := 123) dX0_takesKind_1 c1 (by decide) ?_
  refine gm_aload_n dX0_takesKind_123 rfl ?_
  refine gm_getI (own := RX0) (x := (S e 8)) rfl dX0_takesKind_124 lfX0_39 (sC_E_0 (by omega)) rfl rfl ?_
  refine gm_iconst (v := 3) dX0_takesKind_127 (by decide) ?_
  refine gm_icmp_eq_t (tgt := 147) dX0_takesKind_128 (by decide) c2 ?_
  refine gm_iconst (v := 1) dX0_takesKind_147 (by decide) ?_
  refine gm_goto (tgt := 152) dX0_takesKind_148 (by decide) ?_
  exact gm_zret dX0_takesKind_152 rfl gm_fit_1
/-- X0_takesEpoch 0 [8f 13f 20f 25f] -> ret  -/
theorem PX0_takesEpoch_1 {e : Nat} {a1 : Int32} {S : gm_Mem} (ke : e = 2 ∨ e = 14 ∨ e = 60 ∨ e = 72) (c1 : ¬ (a1 - (S e 13)) < 0) (c2 : 2 < (a1 - (S e 13))) (c3 : ¬ (S e 6) = 0) (c4 : (a1 - (S e 13)) = (-1)) : gm_run gC 0 YX0_takesEpoch 0 [some (.ref e), some (.int a1), none] [] S (some (.int 1)) S := by
  refine gm_iload_n dX0_takesEpoch_0 rfl ?_
  refine gm_aload_n dX0_takesEpoch_1 rfl ?_
  refine gm_getI (own := RX0) (x := (S e 13)) rfl dX0_takesEpoch_2 lfX0_87 (sC_E_0 (by omega)) rfl rfl ?_
  refine gm_isub dX0_takesEpoch_5 rfl ?_
  refine gm_istore_n (L' := [some (.ref e), some (.int a1), some (.int (a1 - (S e 13)))]) dX0_takesEpoch_6 (by decide) rfl ?_
  refine gm_iload_n dX0_takesEpoch_7 rfl ?_
  refine gm_if_lt_f dX0_takesEpoch_8 ⟨16, by decide⟩ c1 ?_
  refine gm_iload_n dX0_takesEpoch_11 rfl ?_
  refine gm_iconst (v := 2) dX0_takesEpoch_12 (by decide) ?_
  refine gm_icmp_le_f dX0_takesEpoch_13 ⟨28, by decide⟩ c2 ?_
  refine gm_aload_n dX0_takesEpoch_16 rfl ?_
  refine gm_getI (own := RX0) (x := (S e 6)) rfl dX0_takesEpoch_17 lfX0_68 (sC_E_0 (by omega)) rfl rfl ?_
  refine gm_if_eq_f dX0_takesEpoch_20 ⟨32, by decide⟩ c3 ?_
  refine gm_iload_n dX0_takesEpoch_23 rfl ?_
  refine gm_iconst (v := (-1)) dX0_takesEpoch_24 (by decide) ?_
  refine gm_icmp_ne_f dX0_takesEpoch_25 ⟨32, by decide⟩ c4 ?_
  refine gm_iconst (v := 1) dX0_takesEpoch_28 (by decide) ?_
  refine gm_goto (tgt := 33) dX0_takesEpoch_29 (by decide) ?_
  exact gm_zret dX0_takesEpoch_33 rfl gm_fit_1
/-- X0_takesEpoch 0 [8f 13f 20f 25t] -> ret  -/
theorem PX0_takesEpoch_2 {e : Nat} {a1 : Int32} {S : gm_Mem} (ke : e = 2 ∨ e = 14 ∨ e = 60 ∨ e = 72) (c1 : ¬ (a1 - (S e 13)) < 0) (c2 : 2 < (a1 - (S e 13))) (c3 : ¬ (S e 6) = 0) (c4 : ¬ (a1 - (S e 13)) = (-1)) : gm_run gC 0 YX0_takesEpoch 0 [some (.ref e), some (.int a1), none] [] S (some (.int 0)) S := by
  refine gm_iload_n dX0_takesEpoch_0 rfl ?_
  refine gm_aload_n dX0_takesEpoch_1 rfl ?_
  refine gm_getI (own := RX0) (x := (S e 13)) rfl dX0_takesEpoch_2 lfX0_87 (sC_E_0 (by omega)) rfl rfl ?_
  refine gm_isub dX0_takesEpoch_5 rfl ?_
  refine gm_istore_n (L' := [some (.ref e), some (.int a1), some (.int (a1 - (S e 13)))]) dX0_takesEpoch_6 (by decide) rfl ?_
  refine gm_iload_n dX0_takesEpoch_7 rfl ?_
  refine gm_if_lt_f dX0_takesEpoch_8 ⟨16, by decide⟩ c1 ?_
  refine gm_iload_n dX0_takesEpoch_11 rfl ?_
  refine gm_iconst (v := 2) dX0_takesEpoch_12 (by decide) ?_
  refine gm_icmp_le_f dX0_takesEpoch_13 ⟨28, by decide⟩ c2 ?_
  refine gm_aload_n dX0_takesEpoch_16 rfl ?_
  refine gm_getI (own := RX0) (x := (S e 6)) rfl dX0_takesEpoch_17 lfX0_68 (sC_E_0 (by omega)) rfl rfl ?_
  refine gm_if_eq_f dX0_takesEpoch_20 ⟨32, by decide⟩ c3 ?_
  refine gm_iload_n dX0_takesEpoch_23 rfl ?_
  refine gm_iconst (v := (-1)) dX0_takesEpoch_24 (by decide) ?_
  refine gm_icmp_ne_t (tgt := 32) dX0_takesEpoch_25 (by decide) c4 ?_
  refine gm_iconst (v := 0) dX0_takesEpoch_32 (by decide) ?_
  exact gm_zret dX0_takesEpoch_33 rfl gm_fit_0
/-- X0_takesEpoch 0 [8f 13f 20t] -> ret  -/
theorem PX0_takesEpoch_3 {e : Nat} {a1 : Int32} {S : gm_Mem} (ke : e = 2 ∨ e = 14 ∨ e = 60 ∨ e = 72) (c1 : ¬ (a1 - (S e 13)) < 0) (c2 : 2 < (a1 - (S e 13))) (c3 : (S e 6) = 0) : gm_run gC 0 YX0_takesEpoch 0 [some (.ref e), some (.int a1), none] [] S (some (.int 0)) S := by
  refine gm_iload_n dX0_takesEpoch_0 rfl ?_
  refine gm_aload_n dX0_takesEpoch_1 rfl ?_
  refine gm_getI (own := RX0) (x := (S e 13)) rfl dX0_takesEpoch_2 lfX0_87 (sC_E_0 (by omega)) rfl rfl ?_
  refine gm_isub dX0_takesEpoch_5 rfl ?_
  refine gm_istore_n (L' := [some (.ref e), some (.int a1), some (.int (a1 - (S e 13)))]) dX0_takesEpoch_6 (by decide) rfl ?_
  refine gm_iload_n dX0_takesEpoch_7 rfl ?_
  refine gm_if_lt_f dX0_takesEpoch_8 ⟨16, by decide⟩ c1 ?_
  refine gm_iload_n dX0_takesEpoch_11 rfl ?_
  refine gm_iconst (v := 2) dX0_takesEpoch_12 (by decide) ?_
  refine gm_icmp_le_f dX0_takesEpoch_13 ⟨28, by decide⟩ c2 ?_
  refine gm_aload_n dX0_takesEpoch_16 rfl ?_
  refine gm_getI (own := RX0) (x := (S e 6)) rfl dX0_takesEpoch_17 lfX0_68 (sC_E_0 (by omega)) rfl rfl ?_
  refine gm_if_eq_t (tgt := 32) dX0_takesEpoch_20 (by decide) c3 ?_
  refine gm_iconst (v := 0) dX0_takesEpoch_32 (by decide) ?_
  exact gm_zret dX0_takesEpoch_33 rfl gm_fit_0
/-- X0_takesEpoch 0 [8f 13t] -> ret  -/
theorem PX0_takesEpoch_4 {e : Nat} {a1 : Int32} {S : gm_Mem} (ke : e = 2 ∨ e = 14 ∨ e = 60 ∨ e = 72) (c1 : ¬ (a1 - (S e 13)) < 0) (c2 : ¬ 2 < (a1 - (S e 13))) : gm_run gC 0 YX0_takesEpoch 0 [some (.ref e), some (.int a1), none] [] S (some (.int 1)) S := by
  refine gm_iload_n dX0_takesEpoch_0 rfl ?_
  refine gm_aload_n dX0_takesEpoch_1 rfl ?_
  refine gm_getI (own := RX0) (x := (S e 13)) rfl dX0_takesEpoch_2 lfX0_87 (sC_E_0 (by omega)) rfl rfl ?_
  refine gm_isub dX0_takesEpoch_5 rfl ?_
  refine gm_istore_n (L' := [some (.ref e), some (.int a1), some (.int (a1 - (S e 13)))]) dX0_takesEpoch_6 (by decide) rfl ?_
  refine gm_iload_n dX0_takesEpoch_7 rfl ?_
  refine gm_if_lt_f dX0_takesEpoch_8 ⟨16, by decide⟩ c1 ?_
  refine gm_iload_n dX0_takesEpoch_11 rfl ?_
  refine gm_iconst (v := 2) dX0_takesEpoch_12 (by decide) ?_
  refine gm_icmp_le_t (tgt := 28) dX0_takesEpoch_13 (by decide) c2 ?_
  refine gm_iconst (v := 1) dX0_takesEpoch_28 (by decide) ?_
  refine gm_goto (tgt := 33) dX0_takesEpoch_29 (by decide) ?_
  exact gm_zret dX0_takesEpoch_33 rfl gm_fit_1
/-- X0_takesEpoch 0 [8t 20f 25f] -> ret  -/
theorem PX0_takesEpoch_5 {e : Nat} {a1 : Int32} {S : gm_Mem} (ke : e = 2 ∨ e = 14 ∨ e = 60 ∨ e = 72) (c1 : (a1 - (S e 13)) < 0) (c2 : ¬ (S e 6) = 0) (c3 : (a1 - (S e 13)) = (-1)) : gm_run gC 0 YX0_takesEpoch 0 [some (.ref e), some (.int a1), none] [] S (some (.int 1)) S := by
  refine gm_iload_n dX0_takesEpoch_0 rfl ?_
  refine gm_aload_n dX0_takesEpoch_1 rfl ?_
  refine gm_getI (own := RX0) (x := (S e 13)) rfl dX0_takesEpoch_2 lfX0_87 (sC_E_0 (by omega)) rfl rfl ?_
  refine gm_isub dX0_takesEpoch_5 rfl ?_
  refine gm_istore_n (L' := [some (.ref e), some (.int a1), some (.int (a1 - (S e 13)))]) dX0_takesEpoch_6 (by decide) rfl ?_
  refine gm_iload_n dX0_takesEpoch_7 rfl ?_
  refine gm_if_lt_t (tgt := 16) dX0_takesEpoch_8 (by decide) c1 ?_
  refine gm_aload_n dX0_takesEpoch_16 rfl ?_
  refine gm_getI (own := RX0) (x := (S e 6)) rfl dX0_takesEpoch_17 lfX0_68 (sC_E_0 (by omega)) rfl rfl ?_
  refine gm_if_eq_f dX0_takesEpoch_20 ⟨32, by decide⟩ c2 ?_
  refine gm_iload_n dX0_takesEpoch_23 rfl ?_
  refine gm_iconst (v := (-1)) dX0_takesEpoch_24 (by decide) ?_
  refine gm_icmp_ne_f dX0_takesEpoch_25 ⟨32, by decide⟩ c3 ?_
  refine gm_iconst (v := 1) dX0_takesEpoch_28 (by decide) ?_
  refine gm_goto (tgt := 33) dX0_takesEpoch_29 (by decide) ?_
  exact gm_zret dX0_takesEpoch_33 rfl gm_fit_1
/-- X0_takesEpoch 0 [8t 20f 25t] -> ret  -/
theorem PX0_takesEpoch_6 {e : Nat} {a1 : Int32} {S : gm_Mem} (ke : e = 2 ∨ e = 14 ∨ e = 60 ∨ e = 72) (c1 : (a1 - (S e 13)) < 0) (c2 : ¬ (S e 6) = 0) (c3 : ¬ (a1 - (S e 13)) = (-1)) : gm_run gC 0 YX0_takesEpoch 0 [some (.ref e), some (.int a1), none] [] S (some (.int 0)) S := by
  refine gm_iload_n dX0_takesEpoch_0 rfl ?_
  refine gm_aload_n dX0_takesEpoch_1 rfl ?_
  refine gm_getI (own := RX0) (x := (S e 13)) rfl dX0_takesEpoch_2 lfX0_87 (sC_E_0 (by omega)) rfl rfl ?_
  refine gm_isub dX0_takesEpoch_5 rfl ?_
  refine gm_istore_n (L' := [some (.ref e), some (.int a1), some (.int (a1 - (S e 13)))]) dX0_takesEpoch_6 (by decide) rfl ?_
  refine gm_iload_n dX0_takesEpoch_7 rfl ?_
  refine gm_if_lt_t (tgt := 16) dX0_takesEpoch_8 (by decide) c1 ?_
  refine gm_aload_n dX0_takesEpoch_16 rfl ?_
  refine gm_getI (own := RX0) (x := (S e 6)) rfl dX0_takesEpoch_17 lfX0_68 (sC_E_0 (by omega)) rfl rfl ?_
  refine gm_if_eq_f dX0_takesEpoch_20 ⟨32, by decide⟩ c2 ?_
  refine gm_iload_n dX0_takesEpoch_23 rfl ?_
  refine gm_iconst (v := (-1)) dX0_takesEpoch_24 (by decide) ?_
  refine gm_icmp_ne_t (tgt := 32) dX0_takesEpoch_25 (by decide) c3 ?_
  refine gm_iconst (v := 0) dX0_takesEpoch_32 (by decide) ?_
  exact gm_zret dX0_takesEpoch_33 rfl gm_fit_0
/-- X0_takesEpoch 0 [8t 20t] -> ret  -/
theorem PX0_takesEpoch_7 {e : Nat} {a1 : Int32} {S : gm_Mem} (ke : e = 2 ∨ e = 14 ∨ e = 60 ∨ e = 72) (c1 : (a1 - (S e 13)) < 0) (c2 : (S e 6) = 0) : gm_run gC 0 YX0_takesEpoch 0 [some (.ref e), some (.int a1), none] [] S (some (.int 0)) S := by
  refine gm_iload_n dX0_takesEpoch_0 rfl ?_
  refine gm_aload_n dX0_takesEpoch_1 rfl ?_
  refine gm_getI (own := RX0) (x := (S e 13)) rfl dX0_takesEpoch_2 lfX0_87 (sC_E_0 (by omega)) rfl rfl ?_
  refine gm_isub dX0_takesEpoch_5 rfl ?_
  refine gm_istore_n (L' := [some (.ref e), some (.int a1), some (.int (a1 - (S e 13)))]) dX0_takesEpoch_6 (by decide) rfl ?_
  refine gm_iload_n dX0_takesEpoch_7 rfl ?_
  refine gm_if_lt_t (tgt := 16) dX0_takesEpoch_8 (by decide) c1 ?_
  refine gm_aload_n dX0_takesEpoch_16 rfl ?_
  refine gm_getI (own := RX0) (x := (S e 6)) rfl dX0_takesEpoch_17 lfX0_68 (sC_E_0 (by omega)) rfl rfl ?_
  refine gm_if_eq_t (tgt := 32) dX0_takesEpoch_20 (by decide) c2 ?_
  refine gm_iconst (v := 0) dX0_takesEpoch_32 (by decide) ?_
  exact gm_zret dX0_takesEpoch_33 rfl gm_fit_0
/-- X0_windowOf 0 [5f] -> ret  -/
theorem PX0_windowOf_1 {e : Nat} {a1 : Int32} {S : gm_Mem} (ke : e = 2 ∨ e = 14 ∨ e = 60 ∨ e = 72) (c1 : a1 = (S e 13)) : gm_run gC 0 YX0_windowOf 0 [some (.ref e), some (.int a1)] [] S (some (.ref (e + 10))) S := by
  refine gm_iload_n dX0_windowOf_0 rfl ?_
  refine gm_aload_n dX0_windowOf_1 rfl ?_
  refine gm_getI (own := RX0) (x := (S e 13)) rfl dX0_windowOf_2 lfX0_87 (sC_E_0 (by omega)) rfl rfl ?_
  refine gm_icmp_ne_f dX0_windowOf_5 ⟨15, by decide⟩ c1 ?_
  refine gm_aload_n dX0_windowOf_8 rfl ?_
  refine gm_getR (own := RX0) (q := (e + 10)) rfl dX0_windowOf_9 lfX0_32 (sC_E_0 (by omega)) rfl ?_
  refine gm_goto (tgt := 19) dX0_windowOf_12 (by decide) ?_
  exact gm_aret dX0_windowOf_19 rfl
/-- X0_windowOf 0 [5t] -> ret  -/
theorem PX0_windowOf_2 {e : Nat} {a1 : Int32} {S : gm_Mem} (ke : e = 2 ∨ e = 14 ∨ e = 60 ∨ e = 72) (c1 : ¬ a1 = (S e 13)) : gm_run gC 0 YX0_windowOf 0 [some (.ref e), some (.int a1)] [] S (some (.ref (e + 11))) S := by
  refine gm_iload_n dX0_windowOf_0 rfl ?_
  refine gm_aload_n dX0_windowOf_1 rfl ?_
  refine gm_getI (own := RX0) (x := (S e 13)) rfl dX0_windowOf_2 lfX0_87 (sC_E_0 (by omega)) rfl rfl ?_
  refine gm_icmp_ne_t (tgt := 15) dX0_windowOf_5 (by decide) c1 ?_
  refine gm_aload_n dX0_windowOf_15 rfl ?_
  refine gm_getR (own := RX0) (q := (e + 11)) rfl dX0_windowOf_16 lfX0_36 (sC_E_0 (by omega)) rfl ?_
  exact gm_aret dX0_windowOf_19 rfl
/-- X8_enter 0 [11f 17f] -> ret  -/
theorem PX8_enter_1 {p : Nat} {a1 : Int32} {S : gm_Mem} (kp : p = 12 ∨ p = 13 ∨ p = 24 ∨ p = 25 ∨ p = 70 ∨ p = 71 ∨ p = 82 ∨ p = 83) (c1 : ¬ (S p 1) = 0) (c2 : ((S p 0) - a1) < (-7)) : gm_run gC 0 YX8_enter 0 [some (.ref p), some (.int a1), none] [] S none (gm_u (gm_u S p 0 a1) p 1 1) := by
  refine gm_aload_n dX8_enter_0 rfl ?_
  refine gm_getI (own := RX8) (x := (S p 0)) rfl dX8_enter_1 lfX8_9 (sC_Wi_0 (by omega)) rfl rfl ?_
  refine gm_iload_n dX8_enter_4 rfl ?_
  refine gm_isub dX8_enter_5 rfl ?_
  refine gm_istore_n (L' := [some (.ref p), some (.int a1), some (.int ((S p 0) - a1))]) dX8_enter_6 (by decide) rfl ?_
  refine gm_aload_n dX8_enter_7 rfl ?_
  refine gm_getI (own := RX8) (x := (S p 1)) rfl dX8_enter_8 lfX8_15 (sC_Wi_0 (by omega)) rfl rfl ?_
  refine gm_if_eq_f dX8_enter_11 ⟨20, by decide⟩ c1 ?_
  refine gm_iload_n dX8_enter_14 rfl ?_
  refine gm_bipush (v := (-7)) dX8_enter_15 (by decide) ?_
  refine gm_icmp_ge_f dX8_enter_17 ⟨33, by decide⟩ c2 ?_
  refine gm_aload_n dX8_enter_20 rfl ?_
  refine gm_iload_n dX8_enter_21 rfl ?_
  refine gm_put (own := RX8) rfl dX8_enter_22 lfX8_9 (sC_Wi_0 (by omega)) rfl (gm_fit_int _) ?_
  refine gm_aload_n dX8_enter_25 rfl ?_
  refine gm_iconst (v := 1) dX8_enter_26 (by decide) ?_
  refine gm_put (own := RX8) rfl dX8_enter_27 lfX8_15 (sC_Wi_0 (by omega)) rfl (gm_fit_int _) ?_
  refine gm_goto (tgt := 80) dX8_enter_30 (by decide) ?_
  exact gm_vret dX8_enter_80 rfl
/-- X8_enter 0 [11f 17t 34f] -> ret  -/
theorem PX8_enter_2 {p : Nat} {a1 : Int32} {S : gm_Mem} (kp : p = 12 ∨ p = 13 ∨ p = 24 ∨ p = 25 ∨ p = 70 ∨ p = 71 ∨ p = 82 ∨ p = 83) (c1 : ¬ (S p 1) = 0) (c2 : ¬ ((S p 0) - a1) < (-7)) (c3 : ((S p 0) - a1) < 0) : gm_run gC 0 YX8_enter 0 [some (.ref p), some (.int a1), none] [] S none (gm_u (gm_u S p 0 a1) p 1 ((((S p 1) <<< ((-((S p 0) - a1)) &&& 31)) ||| 1) &&& 255)) := by
  refine gm_aload_n dX8_enter_0 rfl ?_
  refine gm_getI (own := RX8) (x := (S p 0)) rfl dX8_enter_1 lfX8_9 (sC_Wi_0 (by omega)) rfl rfl ?_
  refine gm_iload_n dX8_enter_4 rfl ?_
  refine gm_isub dX8_enter_5 rfl ?_
  refine gm_istore_n (L' := [some (.ref p), some (.int a1), some (.int ((S p 0) - a1))]) dX8_enter_6 (by decide) rfl ?_
  refine gm_aload_n dX8_enter_7 rfl ?_
  refine gm_getI (own := RX8) (x := (S p 1)) rfl dX8_enter_8 lfX8_15 (sC_Wi_0 (by omega)) rfl rfl ?_
  refine gm_if_eq_f dX8_enter_11 ⟨20, by decide⟩ c1 ?_
  refine gm_iload_n dX8_enter_14 rfl ?_
  refine gm_bipush (v := (-7)) dX8_enter_15 (by decide) ?_
  refine gm_icmp_ge_t (tgt := 33) dX8_enter_17 (by decide) c2 ?_
  refine gm_iload_n dX8_enter_33 rfl ?_
  refine gm_if_ge_f dX8_enter_34 ⟨62, by decide⟩ c3 ?_
  refine gm_aload_n dX8_enter_37 rfl ?_
  refine gm_iload_n dX8_enter_38 rfl ?_
  refine gm_put (own := RX8) rfl dX8_enter_39 lfX8_9 (sC_Wi_0 (by omega)) rfl (gm_fit_int _) ?_
  refine gm_aload_n dX8_enter_42 rfl ?_
  refine gm_aload_n dX8_enter_43 rfl ?_
  refine gm_getI (own := RX8) (x := (S p 1)) rfl dX8_enter_44 lfX8_15 (sC_Wi_0 (by omega)) rfl (gm_rk (by decide)) ?_
  refine gm_iload_n dX8_enter_47 rfl ?_
  refine gm_ineg dX8_enter_48 rfl ?_
  refine gm_ishl dX8_enter_49 rfl ?_
  refine gm_iconst (v := 1) dX8_enter_50 (by decide) ?_
  refine gm_ior dX8_enter_51 rfl ?_
  refine gm_sipush (v := 255) dX8_enter_52 (by decide) ?_
  refine gm_iand dX8_enter_55 rfl ?_
  refine gm_put (own := RX8) rfl dX8_enter_56 lfX8_15 (sC_Wi_0 (by omega)) rfl (gm_fit_int _) ?_
  refine gm_goto (tgt := 80) dX8_enter_59 (by decide) ?_
  exact gm_vret dX8_enter_80 rfl
/-- X8_enter 0 [11f 17t 34t 65f] -> ret  -/
theorem PX8_enter_3 {p : Nat} {a1 : Int32} {S : gm_Mem} (kp : p = 12 ∨ p = 13 ∨ p = 24 ∨ p = 25 ∨ p = 70 ∨ p = 71 ∨ p = 82 ∨ p = 83) (c1 : ¬ (S p 1) = 0) (c2 : ¬ ((S p 0) - a1) < (-7)) (c3 : ¬ ((S p 0) - a1) < 0) (c4 : ¬ 7 < ((S p 0) - a1)) : gm_run gC 0 YX8_enter 0 [some (.ref p), some (.int a1), none] [] S none (gm_u S p 1 ((S p 1) ||| (1 <<< (((S p 0) - a1) &&& 31)))) := by
  refine gm_aload_n dX8_enter_0 rfl ?_
  refine gm_getI (own := RX8) (x := (S p 0)) rfl dX8_enter_1 lfX8_9 (sC_Wi_0 (by omega)) rfl rfl ?_
  refine gm_iload_n dX8_enter_4 rfl ?_
  refine gm_isub dX8_enter_5 rfl ?_
  refine gm_istore_n (L' := [some (.ref p), some (.int a1), some (.int ((S p 0) - a1))]) dX8_enter_6 (by decide) rfl ?_
  refine gm_aload_n dX8_enter_7 rfl ?_
  refine gm_getI (own := RX8) (x := (S p 1)) rfl dX8_enter_8 lfX8_15 (sC_Wi_0 (by omega)) rfl rfl ?_
  refine gm_if_eq_f dX8_enter_11 ⟨20, by decide⟩ c1 ?_
  refine gm_iload_n dX8_enter_14 rfl ?_
  refine gm_bipush (v := (-7)) dX8_enter_15 (by decide) ?_
  refine gm_icmp_ge_t (tgt := 33) dX8_enter_17 (by decide) c2 ?_
  refine gm_iload_n dX8_enter_33 rfl ?_
  refine gm_if_ge_t (tgt := 62) dX8_enter_34 (by decide) c3 ?_
  refine gm_iload_n dX8_enter_62 rfl ?_
  refine gm_bipush (v := 7) dX8_enter_63 (by decide) ?_
  refine gm_icmp_gt_f dX8_enter_65 ⟨80, by decide⟩ c4 ?_
  refine gm_aload_n dX8_enter_68 rfl ?_
  refine gm_dup dX8_enter_69 ?_
  refine gm_getI (own := RX8) (x := (S p 1)) rfl dX8_enter_70 lfX8_15 (sC_Wi_0 (by omega)) rfl rfl ?_
  refine gm_iconst (v := 1) dX8_enter_73 (by decide) ?_
  refine gm_iload_n dX8_enter_74 rfl ?_
  refine gm_ishl dX8_enter_75 rfl ?_
  refine gm_ior dX8_enter_76 rfl ?_
  refine gm_put (own := RX8) rfl dX8_enter_77 lfX8_15 (sC_Wi_0 (by omega)) rfl (gm_fit_int _) ?_
  exact gm_vret dX8_enter_80 rfl
/-- X8_enter 0 [11f 17t 34t 65t] -> ret  -/
theorem PX8_enter_4 {p : Nat} {a1 : Int32} {S : gm_Mem} (kp : p = 12 ∨ p = 13 ∨ p = 24 ∨ p = 25 ∨ p = 70 ∨ p = 71 ∨ p = 82 ∨ p = 83) (c1 : ¬ (S p 1) = 0) (c2 : ¬ ((S p 0) - a1) < (-7)) (c3 : ¬ ((S p 0) - a1) < 0) (c4 : 7 < ((S p 0) - a1)) : gm_run gC 0 YX8_enter 0 [some (.ref p), some (.int a1), none] [] S none S := by
  refine gm_aload_n dX8_enter_0 rfl ?_
  refine gm_getI (own := RX8) (x := (S p 0)) rfl dX8_enter_1 lfX8_9 (sC_Wi_0 (by omega)) rfl rfl ?_
  refine gm_iload_n dX8_enter_4 rfl ?_
  refine gm_isub dX8_enter_5 rfl ?_
  refine gm_istore_n (L' := [some (.ref p), some (.int a1), some (.int ((S p 0) - a1))]) dX8_enter_6 (by decide) rfl ?_
  refine gm_aload_n dX8_enter_7 rfl ?_
  refine gm_getI (own := RX8) (x := (S p 1)) rfl dX8_enter_8 lfX8_15 (sC_Wi_0 (by omega)) rfl rfl ?_
  refine gm_if_eq_f dX8_enter_11 ⟨20, by decide⟩ c1 ?_
  refine gm_iload_n dX8_enter_14 rfl ?_
  refine gm_bipush (v := (-7)) dX8_enter_15 (by decide) ?_
  refine gm_icmp_ge_t (tgt := 33) dX8_enter_17 (by decide) c2 ?_
  refine gm_iload_n dX8_enter_33 rfl ?_
  refine gm_if_ge_t (tgt := 62) dX8_enter_34 (by decide) c3 ?_
  refine gm_iload_n dX8_enter_62 rfl ?_
  refine gm_bipush (v := 7) dX8_enter_63 (by decide) ?_
  refine gm_icmp_gt_t (tgt := 80) dX8_enter_65 (by decide) c4 ?_
  exact gm_vret dX8_enter_80 rfl
/-- X8_enter 0 [11t] -> ret  -/
theorem PX8_enter_5 {p : Nat} {a1 : Int32} {S : gm_Mem} (kp : p = 12 ∨ p = 13 ∨ p = 24 ∨ p = 25 ∨ p = 70 ∨ p = 71 ∨ p = 82 ∨ p = 83) (c1 : (S p 1) = 0) : gm_run gC 0 YX8_enter 0 [some (.ref p), some (.int a1), none] [] S none (gm_u (gm_u S p 0 a1) p 1 1) := by
  refine gm_aload_n dX8_enter_0 rfl ?_
  refine gm_getI (own := RX8) (x := (S p 0)) rfl dX8_enter_1 lfX8_9 (sC_Wi_0 (by omega)) rfl rfl ?_
  refine gm_iload_n dX8_enter_4 rfl ?_
  refine gm_isub dX8_enter_5 rfl ?_
  refine gm_istore_n (L' := [some (.ref p), some (.int a1), some (.int ((S p 0) - a1))]) dX8_enter_6 (by decide) rfl ?_
  refine gm_aload_n dX8_enter_7 rfl ?_
  refine gm_getI (own := RX8) (x := (S p 1)) rfl dX8_enter_8 lfX8_15 (sC_Wi_0 (by omega)) rfl rfl ?_
  refine gm_if_eq_t (tgt := 20) dX8_enter_11 (by decide) c1 ?_
  refine gm_aload_n dX8_enter_20 rfl ?_
  refine gm_iload_n dX8_enter_21 rfl ?_
  refine gm_put (own := RX8) rfl dX8_enter_22 lfX8_9 (sC_Wi_0 (by omega)) rfl (gm_fit_int _) ?_
  refine gm_aload_n dX8_enter_25 rfl ?_
  refine gm_iconst (v := 1) dX8_enter_26 (by decide) ?_
  refine gm_put (own := RX8) rfl dX8_enter_27 lfX8_15 (sC_Wi_0 (by omega)) rfl (gm_fit_int _) ?_
  refine gm_goto (tgt := 80) dX8_enter_30 (by decide) ?_
  exact gm_vret dX8_enter_80 rfl
/-- X0_enterInWindow 0 [5f 16f] -> ret  -/
theorem PX0_enterInWindow_1 {e : Nat} {a1 : Int32} {a2 : Int32} {S : gm_Mem} {T1 : gm_Mem} {T2 : gm_Mem} {q5 : Nat} {T3 : gm_Mem} (ke : e = 2 ∨ e = 14 ∨ e = 60 ∨ e = 72) (c1 : (S e 13) < a1) (c2 : (a1 - (S e 13)) = 1) (h3 : gm_run gC 0 YX8_copyFrom 0 [some (.ref (e + 11)), some (.ref (e + 10))] [] (gm_u S e 6 1) none T1) (h4 : gm_run gC 0 YX8_clear 0 [some (.ref (e + 10))] [] (gm_u (gm_u T1 e 7 4) e 13 a1) none T2) (kq5 : q5 = 12 ∨ q5 = 13 ∨ q5 = 24 ∨ q5 = 25 ∨ q5 = 70 ∨ q5 = 71 ∨ q5 = 82 ∨ q5 = 83) (h6 : gm_run gC 0 YX0_windowOf 0 [some (.ref e), some (.int a1)] [] T2 (some (.ref q5)) T2) (h7 : gm_run gC 0 YX8_enter 0 [some (.ref q5), some (.int a2), none] [] T2 none T3) : gm_run gC 1 YX0_enterInWindow 0 [some (.ref e), some (.int a1), some (.int a2)] [] S none T3 := by
  refine gm_iload_n dX0_enterInWindow_0 rfl ?_
  refine gm_aload_n dX0_enterInWindow_1 rfl ?_
  refine gm_getI (own := RX0) (x := (S e 13)) rfl dX0_enterInWindow_2 lfX0_87 (sC_E_0 (by omega)) rfl rfl ?_
  refine gm_icmp_le_f dX0_enterInWindow_5 ⟨58, by decide⟩ c1 ?_
  refine gm_aload_n dX0_enterInWindow_8 rfl ?_
  refine gm_iload_n dX0_enterInWindow_9 rfl ?_
  refine gm_aload_n dX0_enterInWindow_10 rfl ?_
  refine gm_getI (own := RX0) (x := (S e 13)) rfl dX0_enterInWindow_11 lfX0_87 (sC_E_0 (by omega)) rfl rfl ?_
  refine gm_isub dX0_enterInWindow_14 rfl ?_
  refine gm_iconst (v := 1) dX0_enterInWindow_15 (by decide) ?_
  refine gm_icmp_ne_f dX0_enterInWindow_16 ⟨23, by decide⟩ c2 ?_
  refine gm_iconst (v := 1) dX0_enterInWindow_19 (by decide) ?_
  refine gm_goto (tgt := 24) dX0_enterInWindow_20 (by decide) ?_
  refine gm_put (own := RX0) rfl dX0_enterInWindow_24 lfX0_68 (sC_E_0 (by omega)) rfl gm_fit_1 ?_
  refine gm_aload_n dX0_enterInWindow_27 rfl ?_
  refine gm_getR (own := RX0) (q := (e + 11)) rfl dX0_enterInWindow_28 lfX0_36 (sC_E_0 (by omega)) rfl ?_
  refine gm_aload_n dX0_enterInWindow_31 rfl ?_
  refine gm_getR (own := RX0) (q := (e + 10)) rfl dX0_enterInWindow_32 lfX0_32 (sC_E_0 (by omega)) rfl ?_
  refine gm_callV (r1 := none) (own := RX0) rfl dX0_enterInWindow_35 llX0_65 mvX8_copyFrom (sC_E_11 (by omega)) rfl [.ref (e + 10)] [] rfl rfl (Nat.le_of_ble_eq_true rfl) (by decide) rfl h3 rfl ?_
  refine gm_aload_n dX0_enterInWindow_38 rfl ?_
  refine gm_iconst (v := 4) dX0_enterInWindow_39 (by decide) ?_
  refine gm_put (own := RX0) rfl dX0_enterInWindow_40 lfX0_72 (sC_E_0 (by omega)) rfl (gm_fit_int _) ?_
  refine gm_aload_n dX0_enterInWindow_43 rfl ?_
  refine gm_iload_n dX0_enterInWindow_44 rfl ?_
  refine gm_put (own := RX0) rfl dX0_enterInWindow_45 lfX0_87 (sC_E_0 (by omega)) rfl (gm_fit_int _) ?_
  refine gm_aload_n dX0_enterInWindow_48 rfl ?_
  refine gm_getR (own := RX0) (q := (e + 10)) rfl dX0_enterInWindow_49 lfX0_32 (sC_E_0 (by omega)) rfl ?_
  refine gm_callV (r1 := none) (own := RX0) rfl dX0_enterInWindow_52 llX0_100 mvX8_clear (sC_E_10 (by omega)) rfl [] [] rfl rfl (Nat.le_of_ble_eq_true rfl) (by decide) rfl h4 rfl ?_
  refine gm_goto (tgt := 99) dX0_enterInWindow_55 (by decide) ?_
  refine gm_aload_n dX0_enterInWindow_99 rfl ?_
  refine gm_iload_n dX0_enterInWindow_100 rfl ?_
  refine gm_callV (r1 := (some (.ref q5))) (own := RX0) rfl dX0_enterInWindow_101 llX0_106 mvX0_windowOf (sC_E_0 (by omega)) rfl [.int a1] [] rfl rfl (Nat.le_of_ble_eq_true rfl) (by decide) rfl h6 rfl ?_
  refine gm_iload_n dX0_enterInWindow_104 rfl ?_
  refine gm_callV (r1 := none) (own := RX0) rfl dX0_enterInWindow_105 llX0_110 mvX8_enter (sC_Wi_0 (by omega)) rfl [.int a2] [] rfl rfl (Nat.le_of_ble_eq_true rfl) (by decide) rfl h7 rfl ?_
  exact gm_vret dX0_enterInWindow_108 rfl
/-- X0_enterInWindow 0 [5f 16t] -> ret  -/
theorem PX0_enterInWindow_2 {e : Nat} {a1 : Int32} {a2 : Int32} {S : gm_Mem} {T1 : gm_Mem} {T2 : gm_Mem} {q5 : Nat} {T3 : gm_Mem} (ke : e = 2 ∨ e = 14 ∨ e = 60 ∨ e = 72) (c1 : (S e 13) < a1) (c2 : ¬ (a1 - (S e 13)) = 1) (h3 : gm_run gC 0 YX8_copyFrom 0 [some (.ref (e + 11)), some (.ref (e + 10))] [] (gm_u S e 6 0) none T1) (h4 : gm_run gC 0 YX8_clear 0 [some (.ref (e + 10))] [] (gm_u (gm_u T1 e 7 4) e 13 a1) none T2) (kq5 : q5 = 12 ∨ q5 = 13 ∨ q5 = 24 ∨ q5 = 25 ∨ q5 = 70 ∨ q5 = 71 ∨ q5 = 82 ∨ q5 = 83) (h6 : gm_run gC 0 YX0_windowOf 0 [some (.ref e), some (.int a1)] [] T2 (some (.ref q5)) T2) (h7 : gm_run gC 0 YX8_enter 0 [some (.ref q5), some (.int a2), none] [] T2 none T3) : gm_run gC 1 YX0_enterInWindow 0 [some (.ref e), some (.int a1), some (.int a2)] [] S none T3 := by
  refine gm_iload_n dX0_enterInWindow_0 rfl ?_
  refine gm_aload_n dX0_enterInWindow_1 rfl ?_
  refine gm_getI (own := RX0) (x := (S e 13)) rfl dX0_enterInWindow_2 lfX0_87 (sC_E_0 (by omega)) rfl rfl ?_
  refine gm_icmp_le_f dX0_enterInWindow_5 ⟨58, by decide⟩ c1 ?_
  refine gm_aload_n dX0_enterInWindow_8 rfl ?_
  refine gm_iload_n dX0_enterInWindow_9 rfl ?_
  refine gm_aload_n dX0_enterInWindow_10 rfl ?_
  refine gm_getI (own := RX0) (x := (S e 13)) rfl dX0_enterInWindow_11 lfX0_87 (sC_E_0 (by omega)) rfl rfl ?_
  refine gm_isub dX0_enterInWindow_14 rfl ?_
  refine gm_iconst (v := 1) dX0_enterInWindow_15 (by decide) ?_
  refine gm_icmp_ne_t (tgt := 23) dX0_enterInWindow_16 (by decide) c2 ?_
  refine gm_iconst (v := 0) dX0_enterInWindow_23 (by decide) ?_
  refine gm_put (own := RX0) rfl dX0_enterInWindow_24 lfX0_68 (sC_E_0 (by omega)) rfl gm_fit_0 ?_
  refine gm_aload_n dX0_enterInWindow_27 rfl ?_
  refine gm_getR (own := RX0) (q := (e + 11)) rfl dX0_enterInWindow_28 lfX0_36 (sC_E_0 (by omega)) rfl ?_
  refine gm_aload_n dX0_enterInWindow_31 rfl ?_
  refine gm_getR (own := RX0) (q := (e + 10)) rfl dX0_enterInWindow_32 lfX0_32 (sC_E_0 (by omega)) rfl ?_
  refine gm_callV (r1 := none) (own := RX0) rfl dX0_enterInWindow_35 llX0_65 mvX8_copyFrom (sC_E_11 (by omega)) rfl [.ref (e + 10)] [] rfl rfl (Nat.le_of_ble_eq_true rfl) (by decide) rfl h3 rfl ?_
  refine gm_aload_n dX0_enterInWindow_38 rfl ?_
  refine gm_iconst (v := 4) dX0_enterInWindow_39 (by decide) ?_
  refine gm_put (own := RX0) rfl dX0_enterInWindow_40 lfX0_72 (sC_E_0 (by omega)) rfl (gm_fit_int _) ?_
  refine gm_aload_n dX0_enterInWindow_43 rfl ?_
  refine gm_iload_n dX0_enterInWindow_44 rfl ?_
  refine gm_put (own := RX0) rfl dX0_enterInWindow_45 lfX0_87 (sC_E_0 (by omega)) rfl (gm_fit_int _) ?_
  refine gm_aload_n dX0_enterInWindow_48 rfl ?_
  refine gm_getR (own := RX0) (q := (e + 10)) rfl dX0_enterInWindow_49 lfX0_32 (sC_E_0 (by omega)) rfl ?_
  refine gm_callV (r1 := none) (own := RX0) rfl dX0_enterInWindow_52 llX0_100 mvX8_clear (sC_E_10 (by omega)) rfl [] [] rfl rfl (Nat.le_of_ble_eq_true rfl) (by decide) rfl h4 rfl ?_
  refine gm_goto (tgt := 99) dX0_enterInWindow_55 (by decide) ?_
  refine gm_aload_n dX0_enterInWindow_99 rfl ?_
  refine gm_iload_n dX0_enterInWindow_100 rfl ?_
  refine gm_callV (r1 := (some (.ref q5))) (own := RX0) rfl dX0_enterInWindow_101 llX0_106 mvX0_windowOf (sC_E_0 (by omega)) rfl [.int a1] [] rfl rfl (Nat.le_of_ble_eq_true rfl) (by decide) rfl h6 rfl ?_
  refine gm_iload_n dX0_enterInWindow_104 rfl ?_
  refine gm_callV (r1 := none) (own := RX0) rfl dX0_enterInWindow_105 llX0_110 mvX8_enter (sC_Wi_0 (by omega)) rfl [.int a2] [] rfl rfl (Nat.le_of_ble_eq_true rfl) (by decide) rfl h7 rfl ?_
  exact gm_vret dX0_enterInWindow_108 rfl
/-- X0_enterInWindow 0 [5t 63f 70f 88f] -> ret  -/
theorem PX0_enterInWindow_3 {e : Nat} {a1 : Int32} {a2 : Int32} {S : gm_Mem} {q5 : Nat} {T1 : gm_Mem} (ke : e = 2 ∨ e = 14 ∨ e = 60 ∨ e = 72) (c1 : ¬ (S e 13) < a1) (c2 : a1 = (S e 13)) (c3 : ¬ (S e 6) = 0) (c4 : 0 < ((S e 7) - 1)) (kq5 : q5 = 12 ∨ q5 = 13 ∨ q5 = 24 ∨ q5 = 25 ∨ q5 = 70 ∨ q5 = 71 ∨ q5 = 82 ∨ q5 = 83) (h6 : gm_run gC 0 YX0_windowOf 0 [some (.ref e), some (.int a1)] [] (gm_u (gm_u S e 7 ((S e 7) - 1)) e 6 1) (some (.ref q5)) (gm_u (gm_u S e 7 ((S e 7) - 1)) e 6 1)) (h7 : gm_run gC 0 YX8_enter 0 [some (.ref q5), some (.int a2), none] [] (gm_u (gm_u S e 7 ((S e 7) - 1)) e 6 1) none T1) : gm_run gC 1 YX0_enterInWindow 0 [some (.ref e), some (.int a1), some (.int a2)] [] S none T1 := by
  refine gm_iload_n dX0_enterInWindow_0 rfl ?_
  refine gm_aload_n dX0_enterInWindow_1 rfl ?_
  refine gm_getI (own := RX0) (x := (S e 13)) rfl dX0_enterInWindow_2 lfX0_87 (sC_E_0 (by omega)) rfl rfl ?_
  refine gm_icmp_le_t (tgt := 58) dX0_enterInWindow_5 (by decide) c1 ?_
  refine gm_iload_n dX0_enterInWindow_58 rfl ?_
  refine gm_aload_n dX0_enterInWindow_59 rfl ?_
  refine gm_getI (own := RX0) (x := (S e 13)) rfl dX0_enterInWindow_60 lfX0_87 (sC_E_0 (by omega)) rfl rfl ?_
  refine gm_icmp_ne_f dX0_enterInWindow_63 ⟨99, by decide⟩ c2 ?_
  refine gm_aload_n dX0_enterInWindow_66 rfl ?_
  refine gm_getI (own := RX0) (x := (S e 6)) rfl dX0_enterInWindow_67 lfX0_68 (sC_E_0 (by omega)) rfl rfl ?_
  refine gm_if_eq_f dX0_enterInWindow_70 ⟨99, by decide⟩ c3 ?_
  refine gm_aload_n dX0_enterInWindow_73 rfl ?_
  refine gm_dup dX0_enterInWindow_74 ?_
  refine gm_getI (own := RX0) (x := (S e 7)) rfl dX0_enterInWindow_75 lfX0_72 (sC_E_0 (by omega)) rfl rfl ?_
  refine gm_iconst (v := 1) dX0_enterInWindow_78 (by decide) ?_
  refine gm_isub dX0_enterInWindow_79 rfl ?_
  refine gm_put (own := RX0) rfl dX0_enterInWindow_80 lfX0_72 (sC_E_0 (by omega)) rfl (gm_fit_int _) ?_
  refine gm_aload_n dX0_enterInWindow_83 rfl ?_
  refine gm_aload_n dX0_enterInWindow_84 rfl ?_
  refine gm_getI (own := RX0) (x := ((S e 7) - 1)) rfl dX0_enterInWindow_85 lfX0_72 (sC_E_0 (by omega)) rfl (gm_rS _ _ _ _) ?_
  refine gm_if_le_f dX0_enterInWindow_88 ⟨95, by decide⟩ c4 ?_
  refine gm_iconst (v := 1) dX0_enterInWindow_91 (by decide) ?_
  refine gm_goto (tgt := 96) dX0_enterInWindow_92 (by decide) ?_
  refine gm_put (own := RX0) rfl dX0_enterInWindow_96 lfX0_68 (sC_E_0 (by omega)) rfl gm_fit_1 ?_
  refine gm_aload_n dX0_enterInWindow_99 rfl ?_
  refine gm_iload_n dX0_enterInWindow_100 rfl ?_
  refine gm_callV (r1 := (some (.ref q5))) (own := RX0) rfl dX0_enterInWindow_101 llX0_106 mvX0_windowOf (sC_E_0 (by omega)) rfl [.int a1] [] rfl rfl (Nat.le_of_ble_eq_true rfl) (by decide) rfl h6 rfl ?_
  refine gm_iload_n dX0_enterInWindow_104 rfl ?_
  refine gm_callV (r1 := none) (own := RX0) rfl dX0_enterInWindow_105 llX0_110 mvX8_enter (sC_Wi_0 (by omega)) rfl [.int a2] [] rfl rfl (Nat.le_of_ble_eq_true rfl) (by decide) rfl h7 rfl ?_
  exact gm_vret dX0_enterInWindow_108 rfl
/-- X0_enterInWindow 0 [5t 63f 70f 88t] -> ret  -/
theorem PX0_enterInWindow_4 {e : Nat} {a1 : Int32} {a2 : Int32} {S : gm_Mem} {q5 : Nat} {T1 : gm_Mem} (ke : e = 2 ∨ e = 14 ∨ e = 60 ∨ e = 72) (c1 : ¬ (S e 13) < a1) (c2 : a1 = (S e 13)) (c3 : ¬ (S e 6) = 0) (c4 : ¬ 0 < ((S e 7) - 1)) (kq5 : q5 = 12 ∨ q5 = 13 ∨ q5 = 24 ∨ q5 = 25 ∨ q5 = 70 ∨ q5 = 71 ∨ q5 = 82 ∨ q5 = 83) (h6 : gm_run gC 0 YX0_windowOf 0 [some (.ref e), some (.int a1)] [] (gm_u (gm_u S e 7 ((S e 7) - 1)) e 6 0) (some (.ref q5)) (gm_u (gm_u S e 7 ((S e 7) - 1)) e 6 0)) (h7 : gm_run gC 0 YX8_enter 0 [some (.ref q5), some (.int a2), none] [] (gm_u (gm_u S e 7 ((S e 7) - 1)) e 6 0) none T1) : gm_run gC 1 YX0_enterInWindow 0 [some (.ref e), some (.int a1), some (.int a2)] [] S none T1 := by
  refine gm_iload_n dX0_enterInWindow_0 rfl ?_
  refine gm_aload_n dX0_enterInWindow_1 rfl ?_
  refine gm_getI (own := RX0) (x := (S e 13)) rfl dX0_enterInWindow_2 lfX0_87 (sC_E_0 (by omega)) rfl rfl ?_
  refine gm_icmp_le_t (tgt := 58) dX0_enterInWindow_5 (by decide) c1 ?_
  refine gm_iload_n dX0_enterInWindow_58 rfl ?_
  refine gm_aload_n dX0_enterInWindow_59 rfl ?_
  refine gm_getI (own := RX0) (x := (S e 13)) rfl dX0_enterInWindow_60 lfX0_87 (sC_E_0 (by omega)) rfl rfl ?_
  refine gm_icmp_ne_f dX0_enterInWindow_63 ⟨99, by decide⟩ c2 ?_
  refine gm_aload_n dX0_enterInWindow_66 rfl ?_
  refine gm_getI (own := RX0) (x := (S e 6)) rfl dX0_enterInWindow_67 lfX0_68 (sC_E_0 (by omega)) rfl rfl ?_
  refine gm_if_eq_f dX0_enterInWindow_70 ⟨99, by decide⟩ c3 ?_
  refine gm_aload_n dX0_enterInWindow_73 rfl ?_
  refine gm_dup dX0_enterInWindow_74 ?_
  refine gm_getI (own := RX0) (x := (S e 7)) rfl dX0_enterInWindow_75 lfX0_72 (sC_E_0 (by omega)) rfl rfl ?_
  refine gm_iconst (v := 1) dX0_enterInWindow_78 (by decide) ?_
  refine gm_isub dX0_enterInWindow_79 rfl ?_
  refine gm_put (own := RX0) rfl dX0_enterInWindow_80 lfX0_72 (sC_E_0 (by omega)) rfl (gm_fit_int _) ?_
  refine gm_aload_n dX0_enterInWindow_83 rfl ?_
  refine gm_aload_n dX0_enterInWindow_84 rfl ?_
  refine gm_getI (own := RX0) (x := ((S e 7) - 1)) rfl dX0_enterInWindow_85 lfX0_72 (sC_E_0 (by omega)) rfl (gm_rS _ _ _ _) ?_
  refine gm_if_le_t (tgt := 95) dX0_enterInWindow_88 (by decide) c4 ?_
  refine gm_iconst (v := 0) dX0_enterInWindow_95 (by decide) ?_
  refine gm_put (own := RX0) rfl dX0_enterInWindow_96 lfX0_68 (sC_E_0 (by omega)) rfl gm_fit_0 ?_
  refine gm_aload_n dX0_enterInWindow_99 rfl ?_
  refine gm_iload_n dX0_enterInWindow_100 rfl ?_
  refine gm_callV (r1 := (some (.ref q5))) (own := RX0) rfl dX0_enterInWindow_101 llX0_106 mvX0_windowOf (sC_E_0 (by omega)) rfl [.int a1] [] rfl rfl (Nat.le_of_ble_eq_true rfl) (by decide) rfl h6 rfl ?_
  refine gm_iload_n dX0_enterInWindow_104 rfl ?_
  refine gm_callV (r1 := none) (own := RX0) rfl dX0_enterInWindow_105 llX0_110 mvX8_enter (sC_Wi_0 (by omega)) rfl [.int a2] [] rfl rfl (Nat.le_of_ble_eq_true rfl) (by decide) rfl h7 rfl ?_
  exact gm_vret dX0_enterInWindow_108 rfl
/-- X0_enterInWindow 0 [5t 63f 70t] -> ret  -/
theorem PX0_enterInWindow_5 {e : Nat} {a1 : Int32} {a2 : Int32} {S : gm_Mem} {q4 : Nat} {T1 : gm_Mem} (ke : e = 2 ∨ e = 14 ∨ e = 60 ∨ e = 72) (c1 : ¬ (S e 13) < a1) (c2 : a1 = (S e 13)) (c3 : (S e 6) = 0) (kq4 : q4 = 12 ∨ q4 = 13 ∨ q4 = 24 ∨ q4 = 25 ∨ q4 = 70 ∨ q4 = 71 ∨ q4 = 82 ∨ q4 = 83) (h5 : gm_run gC 0 YX0_windowOf 0 [some (.ref e), some (.int a1)] [] S (some (.ref q4)) S) (h6 : gm_run gC 0 YX8_enter 0 [some (.ref q4), some (.int a2), none] [] S none T1) : gm_run gC 1 YX0_enterInWindow 0 [some (.ref e), some (.int a1), some (.int a2)] [] S none T1 := by
  refine gm_iload_n dX0_enterInWindow_0 rfl ?_
  refine gm_aload_n dX0_enterInWindow_1 rfl ?_
  refine gm_getI (own := RX0) (x := (S e 13)) rfl dX0_enterInWindow_2 lfX0_87 (sC_E_0 (by omega)) rfl rfl ?_
  refine gm_icmp_le_t (tgt := 58) dX0_enterInWindow_5 (by decide) c1 ?_
  refine gm_iload_n dX0_enterInWindow_58 rfl ?_
  refine gm_aload_n dX0_enterInWindow_59 rfl ?_
  refine gm_getI (own := RX0) (x := (S e 13)) rfl dX0_enterInWindow_60 lfX0_87 (sC_E_0 (by omega)) rfl rfl ?_
  refine gm_icmp_ne_f dX0_enterInWindow_63 ⟨99, by decide⟩ c2 ?_
  refine gm_aload_n dX0_enterInWindow_66 rfl ?_
  refine gm_getI (own := RX0) (x := (S e 6)) rfl dX0_enterInWindow_67 lfX0_68 (sC_E_0 (by omega)) rfl rfl ?_
  refine gm_if_eq_t (tgt := 99) dX0_enterInWindow_70 (by decide) c3 ?_
  refine gm_aload_n dX0_enterInWindow_99 rfl ?_
  refine gm_iload_n dX0_enterInWindow_100 rfl ?_
  refine gm_callV (r1 := (some (.ref q4))) (own := RX0) rfl dX0_enterInWindow_101 llX0_106 mvX0_windowOf (sC_E_0 (by omega)) rfl [.int a1] [] rfl rfl (Nat.le_of_ble_eq_true rfl) (by decide) rfl h5 rfl ?_
  refine gm_iload_n dX0_enterInWindow_104 rfl ?_
  refine gm_callV (r1 := none) (own := RX0) rfl dX0_enterInWindow_105 llX0_110 mvX8_enter (sC_Wi_0 (by omega)) rfl [.int a2] [] rfl rfl (Nat.le_of_ble_eq_true rfl) (by decide) rfl h6 rfl ?_
  exact gm_vret dX0_enterInWindow_108 rfl
/-- X0_enterInWindow 0 [5t 63t] -> ret  -/
theorem PX0_enterInWindow_6 {e : Nat} {a1 : Int32} {a2 : Int32} {S : gm_Mem} {q3 : Nat} {T1 : gm_Mem} (ke : e = 2 ∨ e = 14 ∨ e = 60 ∨ e = 72) (c1 : ¬ (S e 13) < a1) (c2 : ¬ a1 = (S e 13)) (kq3 : q3 = 12 ∨ q3 = 13 ∨ q3 = 24 ∨ q3 = 25 ∨ q3 = 70 ∨ q3 = 71 ∨ q3 = 82 ∨ q3 = 83) (h4 : gm_run gC 0 YX0_windowOf 0 [some (.ref e), some (.int a1)] [] S (some (.ref q3)) S) (h5 : gm_run gC 0 YX8_enter 0 [some (.ref q3), some (.int a2), none] [] S none T1) : gm_run gC 1 YX0_enterInWindow 0 [some (.ref e), some (.int a1), some (.int a2)] [] S none T1 := by
  refine gm_iload_n dX0_enterInWindow_0 rfl ?_
  refine gm_aload_n dX0_enterInWindow_1 rfl ?_
  refine gm_getI (own := RX0) (x := (S e 13)) rfl dX0_enterInWindow_2 lfX0_87 (sC_E_0 (by omega)) rfl rfl ?_
  refine gm_icmp_le_t (tgt := 58) dX0_enterInWindow_5 (by decide) c1 ?_
  refine gm_iload_n dX0_enterInWindow_58 rfl ?_
  refine gm_aload_n dX0_enterInWindow_59 rfl ?_
  refine gm_getI (own := RX0) (x := (S e 13)) rfl dX0_enterInWindow_60 lfX0_87 (sC_E_0 (by omega)) rfl rfl ?_
  refine gm_icmp_ne_t (tgt := 99) dX0_enterInWindow_63 (by decide) c2 ?_
  refine gm_aload_n dX0_enterInWindow_99 rfl ?_
  refine gm_iload_n dX0_enterInWindow_100 rfl ?_
  refine gm_callV (r1 := (some (.ref q3))) (own := RX0) rfl dX0_enterInWindow_101 llX0_106 mvX0_windowOf (sC_E_0 (by omega)) rfl [.int a1] [] rfl rfl (Nat.le_of_ble_eq_true rfl) (by decide) rfl h4 rfl ?_
  refine gm_iload_n dX0_enterInWindow_104 rfl ?_
  refine gm_callV (r1 := none) (own := RX0) rfl dX0_enterInWindow_105 llX0_110 mvX8_enter (sC_Wi_0 (by omega)) rfl [.int a2] [] rfl rfl (Nat.le_of_ble_eq_true rfl) (by decide) rfl h5 rfl ?_
  exact gm_vret dX0_enterInWindow_108 rfl
/-- X4_isCloseAcknowledged 0 [5f 16f] -> ret  -/
theorem PX4_isCloseAcknowledged_1 {p : Nat} {S : gm_Mem} (kp : p = 4 ∨ p = 16 ∨ p = 62 ∨ p = 74) (c1 : ¬ (S p 4) = (-1)) (c2 : (S p 4) < (S p 3)) : gm_run gC 0 YX4_isCloseAcknowledged 0 [some (.ref p)] [] S (some (.int 1)) S := by
  refine gm_aload_n dX4_isCloseAcknowledged_0 rfl ?_
  refine gm_getI (own := RX4) (x := (S p 4)) rfl dX4_isCloseAcknowledged_1 lfX4_18 (sC_Ob_0 (by omega)) rfl rfl ?_
  refine gm_iconst (v := (-1)) dX4_isCloseAcknowledged_4 (by decide) ?_
  refine gm_icmp_eq_f dX4_isCloseAcknowledged_5 ⟨23, by decide⟩ c1 ?_
  refine gm_aload_n dX4_isCloseAcknowledged_8 rfl ?_
  refine gm_getI (own := RX4) (x := (S p 3)) rfl dX4_isCloseAcknowledged_9 lfX4_25 (sC_Ob_0 (by omega)) rfl rfl ?_
  refine gm_aload_n dX4_isCloseAcknowledged_12 rfl ?_
  refine gm_getI (own := RX4) (x := (S p 4)) rfl dX4_isCloseAcknowledged_13 lfX4_18 (sC_Ob_0 (by omega)) rfl rfl ?_
  refine gm_icmp_le_f dX4_isCloseAcknowledged_16 ⟨23, by decide⟩ c2 ?_
  refine gm_iconst (v := 1) dX4_isCloseAcknowledged_19 (by decide) ?_
  refine gm_goto (tgt := 24) dX4_isCloseAcknowledged_20 (by decide) ?_
  exact gm_zret dX4_isCloseAcknowledged_24 rfl gm_fit_1
/-- X4_isCloseAcknowledged 0 [5f 16t] -> ret  -/
theorem PX4_isCloseAcknowledged_2 {p : Nat} {S : gm_Mem} (kp : p = 4 ∨ p = 16 ∨ p = 62 ∨ p = 74) (c1 : ¬ (S p 4) = (-1)) (c2 : ¬ (S p 4) < (S p 3)) : gm_run gC 0 YX4_isCloseAcknowledged 0 [some (.ref p)] [] S (some (.int 0)) S := by
  refine gm_aload_n dX4_isCloseAcknowledged_0 rfl ?_
  refine gm_getI (own := RX4) (x := (S p 4)) rfl dX4_isCloseAcknowledged_1 lfX4_18 (sC_Ob_0 (by omega)) rfl rfl ?_
  refine gm_iconst (v := (-1)) dX4_isCloseAcknowledged_4 (by decide) ?_
  refine gm_icmp_eq_f dX4_isCloseAcknowledged_5 ⟨23, by decide⟩ c1 ?_
  refine gm_aload_n dX4_isCloseAcknowledged_8 rfl ?_
  refine gm_getI (own := RX4) (x := (S p 3)) rfl dX4_isCloseAcknowledged_9 lfX4_25 (sC_Ob_0 (by omega)) rfl rfl ?_
  refine gm_aload_n dX4_isCloseAcknowledged_12 rfl ?_
  refine gm_getI (own := RX4) (x := (S p 4)) rfl dX4_isCloseAcknowledged_13 lfX4_18 (sC_Ob_0 (by omega)) rfl rfl ?_
  refine gm_icmp_le_t (tgt := 23) dX4_isCloseAcknowledged_16 (by decide) c2 ?_
  refine gm_iconst (v := 0) dX4_isCloseAcknowledged_23 (by decide) ?_
  exact gm_zret dX4_isCloseAcknowledged_24 rfl gm_fit_0
/-- X4_isCloseAcknowledged 0 [5t] -> ret  -/
theorem PX4_isCloseAcknowledged_3 {p : Nat} {S : gm_Mem} (kp : p = 4 ∨ p = 16 ∨ p = 62 ∨ p = 74) (c1 : (S p 4) = (-1)) : gm_run gC 0 YX4_isCloseAcknowledged 0 [some (.ref p)] [] S (some (.int 0)) S := by
  refine gm_aload_n dX4_isCloseAcknowledged_0 rfl ?_
  refine gm_getI (own := RX4) (x := (S p 4)) rfl dX4_isCloseAcknowledged_1 lfX4_18 (sC_Ob_0 (by omega)) rfl rfl ?_
  refine gm_iconst (v := (-1)) dX4_isCloseAcknowledged_4 (by decide) ?_
  refine gm_icmp_eq_t (tgt := 23) dX4_isCloseAcknowledged_5 (by decide) c1 ?_
  refine gm_iconst (v := 0) dX4_isCloseAcknowledged_23 (by decide) ?_
  exact gm_zret dX4_isCloseAcknowledged_24 rfl gm_fit_0
/-- X0_hasEnded 0 [8f 18f] -> ret  -/
theorem PX0_hasEnded_1 {e : Nat} {S : gm_Mem} {r2 : Int32} (ke : e = 2 ∨ e = 14 ∨ e = 60 ∨ e = 72) (c1 : ¬ (S (e + 5) 6) = (-1)) (h3 : gm_run gC 0 YX4_isCloseAcknowledged 0 [some (.ref (e + 2))] [] S (some (.int r2)) S) (c4 : ¬ r2 = 0) : gm_run gC 1 YX0_hasEnded 0 [some (.ref e)] [] S (some (.int 1)) S := by
  refine gm_aload_n dX0_hasEnded_0 rfl ?_
  refine gm_getR (own := RX0) (q := (e + 5)) rfl dX0_hasEnded_1 lfX0_25 (sC_E_0 (by omega)) rfl ?_
  refine gm_getI (own := RX0) (x := (S (e + 5) 6)) rfl dX0_hasEnded_4 lfX0_114 (sC_E_5 (by omega)) rfl rfl ?_
  refine gm_iconst (v := (-1)) dX0_hasEnded_7 (by decide) ?_
  refine gm_icmp_eq_f dX0_hasEnded_8 ⟨25, by decide⟩ c1 ?_
  refine gm_aload_n dX0_hasEnded_11 rfl ?_
  refine gm_getR (own := RX0) (q := (e + 2)) rfl dX0_hasEnded_12 lfX0_18 (sC_E_0 (by omega)) rfl ?_
  refine gm_callV (r1 := (some (.int r2))) (own := RX0) rfl dX0_hasEnded_15 llX0_117 mvX4_isCloseAcknowledged (sC_E_2 (by omega)) rfl [] [] rfl rfl (Nat.le_of_ble_eq_true rfl) (by decide) rfl h3 rfl ?_
  refine gm_if_eq_f dX0_hasEnded_18 ⟨25, by decide⟩ c4 ?_
  refine gm_iconst (v := 1) dX0_hasEnded_21 (by decide) ?_
  refine gm_goto (tgt := 26) dX0_hasEnded_22 (by decide) ?_
  exact gm_zret dX0_hasEnded_26 rfl gm_fit_1
/-- X0_hasEnded 0 [8f 18t] -> ret  -/
theorem PX0_hasEnded_2 {e : Nat} {S : gm_Mem} {r2 : Int32} (ke : e = 2 ∨ e = 14 ∨ e = 60 ∨ e = 72) (c1 : ¬ (S (e + 5) 6) = (-1)) (h3 : gm_run gC 0 YX4_isCloseAcknowledged 0 [some (.ref (e + 2))] [] S (some (.int r2)) S) (c4 : r2 = 0) : gm_run gC 1 YX0_hasEnded 0 [some (.ref e)] [] S (some (.int 0)) S := by
  refine gm_aload_n dX0_hasEnded_0 rfl ?_
  refine gm_getR (own := RX0) (q := (e + 5)) rfl dX0_hasEnded_1 lfX0_25 (sC_E_0 (by omega)) rfl ?_
  refine gm_getI (own := RX0) (x := (S (e + 5) 6)) rfl dX0_hasEnded_4 lfX0_114 (sC_E_5 (by omega)) rfl rfl ?_
  refine gm_iconst (v := (-1)) dX0_hasEnded_7 (by decide) ?_
  refine gm_icmp_eq_f dX0_hasEnded_8 ⟨25, by decide⟩ c1 ?_
  refine gm_aload_n dX0_hasEnded_11 rfl ?_
  refine gm_getR (own := RX0) (q := (e + 2)) rfl dX0_hasEnded_12 lfX0_18 (sC_E_0 (by omega)) rfl ?_
  refine gm_callV (r1 := (some (.int r2))) (own := RX0) rfl dX0_hasEnded_15 llX0_117 mvX4_isCloseAcknowledged (sC_E_2 (by omega)) rfl [] [] rfl rfl (Nat.le_of_ble_eq_true rfl) (by decide) rfl h3 rfl ?_
  refine gm_if_eq_t (tgt := 25) dX0_hasEnded_18 (by decide) c4 ?_
  refine gm_iconst (v := 0) dX0_hasEnded_25 (by decide) ?_
  exact gm_zret dX0_hasEnded_26 rfl gm_fit_0
/-- X0_hasEnded 0 [8t] -> ret  -/
theorem PX0_hasEnded_3 {e : Nat} {S : gm_Mem} (ke : e = 2 ∨ e = 14 ∨ e = 60 ∨ e = 72) (c1 : (S (e + 5) 6) = (-1)) : gm_run gC 1 YX0_hasEnded 0 [some (.ref e)] [] S (some (.int 0)) S := by
  refine gm_aload_n dX0_hasEnded_0 rfl ?_
  refine gm_getR (own := RX0) (q := (e + 5)) rfl dX0_hasEnded_1 lfX0_25 (sC_E_0 (by omega)) rfl ?_
  refine gm_getI (own := RX0) (x := (S (e + 5) 6)) rfl dX0_hasEnded_4 lfX0_114 (sC_E_5 (by omega)) rfl rfl ?_
  refine gm_iconst (v := (-1)) dX0_hasEnded_7 (by decide) ?_
  refine gm_icmp_eq_t (tgt := 25) dX0_hasEnded_8 (by decide) c1 ?_
  refine gm_iconst (v := 0) dX0_hasEnded_25 (by decide) ?_
  exact gm_zret dX0_hasEnded_26 rfl gm_fit_0
/-- X1_waitingCount 0 [] -> cut 4 -/
theorem PX1_waitingCount_1 {p : Nat} {S : gm_Mem} {r : Option Value} {S2 : gm_Mem} (kp : p = 7 ∨ p = 19 ∨ p = 65 ∨ p = 77) (K : gm_run gC 0 YX1_waitingCount 4 [some (.ref p), some (.int 0), some (.int 0)] [] S r S2) : gm_run gC 0 YX1_waitingCount 0 [some (.ref p), none, none] [] S r S2 := by
  refine gm_iconst (v := 0) dX1_waitingCount_0 (by decide) ?_
  refine gm_istore_n (L' := [some (.ref p), some (.int 0), none]) dX1_waitingCount_1 (by decide) rfl ?_
  refine gm_iconst (v := 0) dX1_waitingCount_2 (by decide) ?_
  refine gm_istore_n (L' := [some (.ref p), some (.int 0), some (.int 0)]) dX1_waitingCount_3 (by decide) rfl ?_
  exact K
/-- X1_waitingCount 4 [6f 16f] -> cut 4 -/
theorem PX1_waitingCount_2 {p : Nat} {x1 : Int32} {x2 : Int32} {S : gm_Mem} {j2 : Nat} {r : Option Value} {S2 : gm_Mem} (kp : p = 7 ∨ p = 19 ∨ p = 65 ∨ p = 77) (c1 : x2 < 4) (ij2 : gm_ix x2 j2 4) (c3 : ¬ (S (p + 2) j2) = 0) (K : gm_run gC 0 YX1_waitingCount 4 [some (.ref p), some (.int (x1 + 1)), some (.int (x2 + 1))] [] S r S2) : gm_run gC 0 YX1_waitingCount 4 [some (.ref p), some (.int x1), some (.int x2)] [] S r S2 := by
  refine gm_iload_n dX1_waitingCount_4 rfl ?_
  refine gm_iconst (v := 4) dX1_waitingCount_5 (by decide) ?_
  refine gm_icmp_ge_f dX1_waitingCount_6 ⟨32, by decide⟩ c1 ?_
  refine gm_iload_n dX1_waitingCount_9 rfl ?_
  refine gm_aload_n dX1_waitingCount_10 rfl ?_
  refine gm_getR (own := RX1) (q := (p + 2)) rfl dX1_waitingCount_11 lfX1_15 (sC_Ib_0 (by omega)) rfl ?_
  refine gm_iload_n dX1_waitingCount_14 rfl ?_
  refine gm_zald (j := j2) (x := (S (p + 2) j2)) dX1_waitingCount_15 (sC_Ib_2 (by omega)) ij2 rfl ?_
  refine gm_if_eq_f dX1_waitingCount_16 ⟨23, by decide⟩ c3 ?_
  refine gm_iconst (v := 1) dX1_waitingCount_19 (by decide) ?_
  refine gm_goto (tgt := 24) dX1_waitingCount_20 (by decide) ?_
  refine gm_iadd dX1_waitingCount_24 rfl ?_
  refine gm_istore_n (L' := [some (.ref p), some (.int (x1 + 1)), some (.int x2)]) dX1_waitingCount_25 (by decide) rfl ?_
  refine gm_iinc (L' := [some (.ref p), some (.int (x1 + 1)), some (.int (x2 + 1))]) (v := (x2 + 1)) dX1_waitingCount_26 rfl rfl (by decide) rfl ?_
  refine gm_goto (tgt := 4) dX1_waitingCount_29 (by decide) ?_
  exact K
/-- X1_waitingCount 4 [6f 16t] -> cut 4 -/
theorem PX1_waitingCount_3 {p : Nat} {x1 : Int32} {x2 : Int32} {S : gm_Mem} {j2 : Nat} {r : Option Value} {S2 : gm_Mem} (kp : p = 7 ∨ p = 19 ∨ p = 65 ∨ p = 77) (c1 : x2 < 4) (ij2 : gm_ix x2 j2 4) (c3 : (S (p + 2) j2) = 0) (K : gm_run gC 0 YX1_waitingCount 4 [some (.ref p), some (.int (x1 + 0)), some (.int (x2 + 1))] [] S r S2) : gm_run gC 0 YX1_waitingCount 4 [some (.ref p), some (.int x1), some (.int x2)] [] S r S2 := by
  refine gm_iload_n dX1_waitingCount_4 rfl ?_
  refine gm_iconst (v := 4) dX1_waitingCount_5 (by decide) ?_
  refine gm_icmp_ge_f dX1_waitingCount_6 ⟨32, by decide⟩ c1 ?_
  refine gm_iload_n dX1_waitingCount_9 rfl ?_
  refine gm_aload_n dX1_waitingCount_10 rfl ?_
  refine gm_getR (own := RX1) (q := (p + 2)) rfl dX1_waitingCount_11 lfX1_15 (sC_Ib_0 (by omega)) rfl ?_
  refine gm_iload_n dX1_waitingCount_14 rfl ?_
  refine gm_zald (j := j2) (x := (S (p + 2) j2)) dX1_waitingCount_15 (sC_Ib_2 (by omega)) ij2 rfl ?_
  refine gm_if_eq_t (tgt := 23) dX1_waitingCount_16 (by decide) c3 ?_
  refine gm_iconst (v := 0) dX1_waitingCount_23 (by decide) ?_
  refine gm_iadd dX1_waitingCount_24 rfl ?_
  refine gm_istore_n (L' := [some (.ref p), some (.int (x1 + 0)), some (.int x2)]) dX1_waitingCount_25 (by decide) rfl ?_
  refine gm_iinc (L' := [some (.ref p), some (.int (x1 + 0)), some (.int (x2 + 1))]) (v := (x2 + 1)) dX1_waitingCount_26 rfl rfl (by decide) rfl ?_
  refine gm_goto (tgt := 4) dX1_waitingCount_29 (by decide) ?_
  exact K
/-- X1_waitingCount 4 [6t] -> ret  -/
theorem PX1_waitingCount_4 {p : Nat} {x1 : Int32} {x2 : Int32} {S : gm_Mem} (kp : p = 7 ∨ p = 19 ∨ p = 65 ∨ p = 77) (c1 : ¬ x2 < 4) : gm_run gC 0 YX1_waitingCount 4 [some (.ref p), some (.int x1), some (.int x2)] [] S (some (.int x1)) S := by
  refine gm_iload_n dX1_waitingCount_4 rfl ?_
  refine gm_iconst (v := 4) dX1_waitingCount_5 (by decide) ?_
  refine gm_icmp_ge_t (tgt := 32) dX1_waitingCount_6 (by decide) c1 ?_
  refine gm_iload_n dX1_waitingCount_32 rfl ?_
  exact gm_iret dX1_waitingCount_33 rfl
/-- X0_part 0 [1=0] -> ret  -/
theorem PX0_part_1 {e : Nat} {a1 : Int32} {S : gm_Mem} (ke : e = 2 ∨ e = 14 ∨ e = 60 ∨ e = 72) (c1 : a1 = 0) : gm_run gC 1 YX0_part 0 [some (.ref e), some (.int a1)] [] S (some (.int (S e 8))) S := by
  refine gm_iload_n dX0_part_0 rfl ?_
  refine gm_tabEq (v := 0) (tgt := 64) dX0_part_1 c1 (by decide) (by decide) rfl (by decide) ?_
  refine gm_aload_n dX0_part_64 rfl ?_
  refine gm_getI (own := RX0) (x := (S e 8)) rfl dX0_part_65 lfX0_39 (sC_E_0 (by omega)) rfl rfl ?_
  exact gm_iret dX0_part_68 rfl
/-- X0_part 0 [1=1] -> ret  -/
theorem PX0_part_2 {e : Nat} {a1 : Int32} {S : gm_Mem} (ke : e = 2 ∨ e = 14 ∨ e = 60 ∨ e = 72) (c1 : a1 = 1) : gm_run gC 1 YX0_part 0 [some (.ref e), some (.int a1)] [] S (some (.int (S e 9))) S := by
  refine gm_iload_n dX0_part_0 rfl ?_
  refine gm_tabEq (v := 1) (tgt := 69) dX0_part_1 c1 (by decide) (by decide) rfl (by decide) ?_
  refine gm_aload_n dX0_part_69 rfl ?_
  refine gm_getI (own := RX0) (x := (S e 9)) rfl dX0_part_70 lfX0_75 (sC_E_0 (by omega)) rfl rfl ?_
  exact gm_iret dX0_part_73 rfl
/-- X0_part 0 [1=2] -> ret  -/
theorem PX0_part_3 {e : Nat} {a1 : Int32} {S : gm_Mem} (ke : e = 2 ∨ e = 14 ∨ e = 60 ∨ e = 72) (c1 : a1 = 2) : gm_run gC 1 YX0_part 0 [some (.ref e), some (.int a1)] [] S (some (.int (S e 11))) S := by
  refine gm_iload_n dX0_part_0 rfl ?_
  refine gm_tabEq (v := 2) (tgt := 74) dX0_part_1 c1 (by decide) (by decide) rfl (by decide) ?_
  refine gm_aload_n dX0_part_74 rfl ?_
  refine gm_getI (own := RX0) (x := (S e 11)) rfl dX0_part_75 lfX0_81 (sC_E_0 (by omega)) rfl rfl ?_
  exact gm_iret dX0_part_78 rfl
/-- X0_part 0 [1=3] -> ret  -/
theorem PX0_part_4 {e : Nat} {a1 : Int32} {S : gm_Mem} (ke : e = 2 ∨ e = 14 ∨ e = 60 ∨ e = 72) (c1 : a1 = 3) : gm_run gC 1 YX0_part 0 [some (.ref e), some (.int a1)] [] S (some (.int (S e 12))) S := by
  refine gm_iload_n dX0_part_0 rfl ?_
  refine gm_tabEq (v := 3) (tgt := 79) dX0_part_1 c1 (by decide) (by decide) rfl (by decide) ?_
  refine gm_aload_n dX0_part_79 rfl ?_
  refine gm_getI (own := RX0) (x := (S e 12)) rfl dX0_part_80 lfX0_84 (sC_E_0 (by omega)) rfl rfl ?_
  exact gm_iret dX0_part_83 rfl
/-- X0_part 0 [1=4] -> ret  -/
theorem PX0_part_5 {e : Nat} {a1 : Int32} {S : gm_Mem} (ke : e = 2 ∨ e = 14 ∨ e = 60 ∨ e = 72) (c1 : a1 = 4) : gm_run gC 1 YX0_part 0 [some (.ref e), some (.int a1)] [] S (some (.int (S e 13))) S := by
  refine gm_iload_n dX0_part_0 rfl ?_
  refine gm_tabEq (v := 4) (tgt := 84) dX0_part_1 c1 (by decide) (by decide) rfl (by decide) ?_
  refine gm_aload_n dX0_part_84 rfl ?_
  refine gm_getI (own := RX0) (x := (S e 13)) rfl dX0_part_85 lfX0_87 (sC_E_0 (by omega)) rfl rfl ?_
  exact gm_iret dX0_part_88 rfl
/-- X0_part 0 [1=5] -> ret  -/
theorem PX0_part_6 {e : Nat} {a1 : Int32} {S : gm_Mem} (ke : e = 2 ∨ e = 14 ∨ e = 60 ∨ e = 72) (c1 : a1 = 5) : gm_run gC 1 YX0_part 0 [some (.ref e), some (.int a1)] [] S (some (.int (S (e + 2) 2))) S := by
  refine gm_iload_n dX0_part_0 rfl ?_
  refine gm_tabEq (v := 5) (tgt := 89) dX0_part_1 c1 (by decide) (by decide) rfl (by decide) ?_
  refine gm_aload_n dX0_part_89 rfl ?_
  refine gm_getR (own := RX0) (q := (e + 2)) rfl dX0_part_90 lfX0_18 (sC_E_0 (by omega)) rfl ?_
  refine gm_getI (own := RX0) (x := (S (e + 2) 2)) rfl dX0_part_93 lfX0_121 (sC_E_2 (by omega)) rfl rfl ?_
  exact gm_iret dX0_part_96 rfl
/-- X0_part 0 [1=6] -> ret  -/
theorem PX0_part_7 {e : Nat} {a1 : Int32} {S : gm_Mem} (ke : e = 2 ∨ e = 14 ∨ e = 60 ∨ e = 72) (c1 : a1 = 6) : gm_run gC 1 YX0_part 0 [some (.ref e), some (.int a1)] [] S (some (.int (S (e + 5) 5))) S := by
  refine gm_iload_n dX0_part_0 rfl ?_
  refine gm_tabEq (v := 6) (tgt := 97) dX0_part_1 c1 (by decide) (by decide) rfl (by decide) ?_
  refine gm_aload_n dX0_part_97 rfl ?_
  refine gm_getR (own := RX0) (q := (e + 5)) rfl dX0_part_98 lfX0_25 (sC_E_0 (by omega)) rfl ?_
  refine gm_getI (own := RX0) (x := (S (e + 5) 5)) rfl dX0_part_101 lfX0_124 (sC_E_5 (by omega)) rfl rfl ?_
  exact gm_iret dX0_part_104 rfl
/-- X0_part 0 [1=7] -> ret  -/
theorem PX0_part_8 {e : Nat} {a1 : Int32} {S : gm_Mem} {r2 : Int32} (ke : e = 2 ∨ e = 14 ∨ e = 60 ∨ e = 72) (c1 : a1 = 7) (h3 : gm_run gC 0 YX1_waitingCount 0 [some (.ref (e + 5)), none, none] [] S (some (.int r2)) S) : gm_run gC 1 YX0_part 0 [some (.ref e), some (.int a1)] [] S (some (.int r2)) S := by
  refine gm_iload_n dX0_part_0 rfl ?_
  refine gm_tabEq (v := 7) (tgt := 105) dX0_part_1 c1 (by decide) (by decide) rfl (by decide) ?_
  refine gm_aload_n dX0_part_105 rfl ?_
  refine gm_getR (own := RX0) (q := (e + 5)) rfl dX0_part_106 lfX0_25 (sC_E_0 (by omega)) rfl ?_
  refine gm_callV (r1 := (some (.int r2))) (own := RX0) rfl dX0_part_109 llX0_127 mvX1_waitingCount (sC_E_5 (by omega)) rfl [] [] rfl rfl (Nat.le_of_ble_eq_true rfl) (by decide) rfl h3 rfl ?_
  exact gm_iret dX0_part_112 rfl
/-- X0_part 0 [1=8] -> ret  -/
theorem PX0_part_9 {e : Nat} {a1 : Int32} {S : gm_Mem} (ke : e = 2 ∨ e = 14 ∨ e = 60 ∨ e = 72) (c1 : a1 = 8) : gm_run gC 1 YX0_part 0 [some (.ref e), some (.int a1)] [] S (some (.int (S (e + 5) 4))) S := by
  refine gm_iload_n dX0_part_0 rfl ?_
  refine gm_tabEq (v := 8) (tgt := 113) dX0_part_1 c1 (by decide) (by decide) rfl (by decide) ?_
  refine gm_aload_n dX0_part_113 rfl ?_
  refine gm_getR (own := RX0) (q := (e + 5)) rfl dX0_part_114 lfX0_25 (sC_E_0 (by omega)) rfl ?_
  refine gm_getI (own := RX0) (x := (S (e + 5) 4)) rfl dX0_part_117 lfX0_131 (sC_E_5 (by omega)) rfl rfl ?_
  exact gm_iret dX0_part_120 rfl
/-- X0_part 0 [1=9] -> ret  -/
theorem PX0_part_10 {e : Nat} {a1 : Int32} {S : gm_Mem} (ke : e = 2 ∨ e = 14 ∨ e = 60 ∨ e = 72) (c1 : a1 = 9) : gm_run gC 1 YX0_part 0 [some (.ref e), some (.int a1)] [] S (some (.int (S e 10))) S := by
  refine gm_iload_n dX0_part_0 rfl ?_
  refine gm_tabEq (v := 9) (tgt := 121) dX0_part_1 c1 (by decide) (by decide) rfl (by decide) ?_
  refine gm_aload_n dX0_part_121 rfl ?_
  refine gm_getI (own := RX0) (x := (S e 10)) rfl dX0_part_122 lfX0_78 (sC_E_0 (by omega)) rfl rfl ?_
  exact gm_iret dX0_part_125 rfl
/-- X0_part 0 [1=10 130f] -> ret  -/
theorem PX0_part_11 {e : Nat} {a1 : Int32} {S : gm_Mem} (ke : e = 2 ∨ e = 14 ∨ e = 60 ∨ e = 72) (c1 : a1 = 10) (c2 : ¬ (S e 6) = 0) : gm_run gC 1 YX0_part 0 [some (.ref e), some (.int a1)] [] S (some (.int 1)) S := by
  refine gm_iload_n dX0_part_0 rfl ?_
  refine gm_tabEq (v := 10) (tgt := 126) dX0_part_1 c1 (by decide) (by decide) rfl (by decide) ?_
  refine gm_aload_n dX0_part_126 rfl ?_
  refine gm_getI (own := RX0) (x := (S e 6)) rfl dX0_part_127 lfX0_68 (sC_E_0 (by omega)) rfl rfl ?_
  refine gm_if_eq_f dX0_part_130 ⟨137, by decide⟩ c2 ?_
  refine gm_iconst (v := 1) dX0_part_133 (by decide) ?_
  refine gm_goto (tgt := 138) dX0_part_134 (by decide) ?_
  exact gm_iret dX0_part_138 rfl
/-- X0_part 0 [1=10 130t] -> ret  -/
theorem PX0_part_12 {e : Nat} {a1 : Int32} {S : gm_Mem} (ke : e = 2 ∨ e = 14 ∨ e = 60 ∨ e = 72) (c1 : a1 = 10) (c2 : (S e 6) = 0) : gm_run gC 1 YX0_part 0 [some (.ref e), some (.int a1)] [] S (some (.int 0)) S := by
  refine gm_iload_n dX0_part_0 rfl ?_
  refine gm_tabEq (v := 10) (tgt := 126) dX0_part_1 c1 (by decide) (by decide) rfl (by decide) ?_
  refine gm_aload_n dX0_part_126 rfl ?_
  refine gm_getI (own := RX0) (x := (S e 6)) rfl dX0_part_127 lfX0_68 (sC_E_0 (by omega)) rfl rfl ?_
  refine gm_if_eq_t (tgt := 137) dX0_part_130 (by decide) c2 ?_
  refine gm_iconst (v := 0) dX0_part_137 (by decide) ?_
  exact gm_iret dX0_part_138 rfl
/-- X0_part 0 [1=11] -> ret  -/
theorem PX0_part_13 {e : Nat} {a1 : Int32} {S : gm_Mem} (ke : e = 2 ∨ e = 14 ∨ e = 60 ∨ e = 72) (c1 : a1 = 11) : gm_run gC 1 YX0_part 0 [some (.ref e), some (.int a1)] [] S (some (.int (S e 14))) S := by
  refine gm_iload_n dX0_part_0 rfl ?_
  refine gm_tabEq (v := 11) (tgt := 139) dX0_part_1 c1 (by decide) (by decide) rfl (by decide) ?_
  refine gm_aload_n dX0_part_139 rfl ?_
  refine gm_getI (own := RX0) (x := (S e 14)) rfl dX0_part_140 lfX0_43 (sC_E_0 (by omega)) rfl rfl ?_
  exact gm_iret dX0_part_143 rfl
/-- X0_part 0 [1out] -> ret  -/
theorem PX0_part_14 {e : Nat} {a1 : Int32} {S : gm_Mem} (ke : e = 2 ∨ e = 14 ∨ e = 60 ∨ e = 72) (c1 : a1.toInt < 0 ∨ 11 < a1.toInt) : gm_run gC 1 YX0_part 0 [some (.ref e), some (.int a1)] [] S (some (.int (-1000000002))) S := by
  refine gm_iload_n dX0_part_0 rfl ?_
  refine gm_tabOut (tgt := 144) dX0_part_1 c1 (by decide) ?_
  refine gm_ldc (own := RX0) rfl lcX0_134 dX0_part_144 ?_
  exact gm_iret dX0_part_146 rfl
/-- X1_isAfterClose 0 [5f 13f] -> ret  -/
theorem PX1_isAfterClose_1 {p : Nat} {a1 : Int32} {S : gm_Mem} (kp : p = 7 ∨ p = 19 ∨ p = 65 ∨ p = 77) (c1 : ¬ (S p 6) = (-1)) (c2 : (S p 6) < a1) : gm_run gC 0 YX1_isAfterClose 0 [some (.ref p), some (.int a1)] [] S (some (.int 1)) S := by
  refine gm_aload_n dX1_isAfterClose_0 rfl ?_
  refine gm_getI (own := RX1) (x := (S p 6)) rfl dX1_isAfterClose_1 lfX1_25 (sC_Ib_0 (by omega)) rfl rfl ?_
  refine gm_iconst (v := (-1)) dX1_isAfterClose_4 (by decide) ?_
  refine gm_icmp_eq_f dX1_isAfterClose_5 ⟨20, by decide⟩ c1 ?_
  refine gm_iload_n dX1_isAfterClose_8 rfl ?_
  refine gm_aload_n dX1_isAfterClose_9 rfl ?_
  refine gm_getI (own := RX1) (x := (S p 6)) rfl dX1_isAfterClose_10 lfX1_25 (sC_Ib_0 (by omega)) rfl rfl ?_
  refine gm_icmp_le_f dX1_isAfterClose_13 ⟨20, by decide⟩ c2 ?_
  refine gm_iconst (v := 1) dX1_isAfterClose_16 (by decide) ?_
  refine gm_goto (tgt := 21) dX1_isAfterClose_17 (by decide) ?_
  exact gm_zret dX1_isAfterClose_21 rfl gm_fit_1
/-- X1_isAfterClose 0 [5f 13t] -> ret  -/
theorem PX1_isAfterClose_2 {p : Nat} {a1 : Int32} {S : gm_Mem} (kp : p = 7 ∨ p = 19 ∨ p = 65 ∨ p = 77) (c1 : ¬ (S p 6) = (-1)) (c2 : ¬ (S p 6) < a1) : gm_run gC 0 YX1_isAfterClose 0 [some (.ref p), some (.int a1)] [] S (some (.int 0)) S := by
  refine gm_aload_n dX1_isAfterClose_0 rfl ?_
  refine gm_getI (own := RX1) (x := (S p 6)) rfl dX1_isAfterClose_1 lfX1_25 (sC_Ib_0 (by omega)) rfl rfl ?_
  refine gm_iconst (v := (-1)) dX1_isAfterClose_4 (by decide) ?_
  refine gm_icmp_eq_f dX1_isAfterClose_5 ⟨20, by decide⟩ c1 ?_
  refine gm_iload_n dX1_isAfterClose_8 rfl ?_
  refine gm_aload_n dX1_isAfterClose_9 rfl ?_
  refine gm_getI (own := RX1) (x := (S p 6)) rfl dX1_isAfterClose_10 lfX1_25 (sC_Ib_0 (by omega)) rfl rfl ?_
  refine gm_icmp_le_t (tgt := 20) dX1_isAfterClose_13 (by decide) c2 ?_
  refine gm_iconst (v := 0) dX1_isAfterClose_20 (by decide) ?_
  exact gm_zret dX1_isAfterClose_21 rfl gm_fit_0
/-- X1_isAfterClose 0 [5t] -> ret  -/
theorem PX1_isAfterClose_3 {p : Nat} {a1 : Int32} {S : gm_Mem} (kp : p = 7 ∨ p = 19 ∨ p = 65 ∨ p = 77) (c1 : (S p 6) = (-1)) : gm_run gC 0 YX1_isAfterClose 0 [some (.ref p), some (.int a1)] [] S (some (.int 0)) S := by
  refine gm_aload_n dX1_isAfterClose_0 rfl ?_
  refine gm_getI (own := RX1) (x := (S p 6)) rfl dX1_isAfterClose_1 lfX1_25 (sC_Ib_0 (by omega)) rfl rfl ?_
  refine gm_iconst (v := (-1)) dX1_isAfterClose_4 (by decide) ?_
  refine gm_icmp_eq_t (tgt := 20) dX1_isAfterClose_5 (by decide) c1 ?_
  refine gm_iconst (v := 0) dX1_isAfterClose_20 (by decide) ?_
  exact gm_zret dX1_isAfterClose_21 rfl gm_fit_0
/-- X1_takeExpected 0 [6f] -> ret  -/
theorem PX1_takeExpected_1 {p : Nat} {a1 : Int32} {S : gm_Mem} {j1 : Nat} (kp : p = 7 ∨ p = 19 ∨ p = 65 ∨ p = 77) (ij1 : gm_ix a1 j1 4) (c2 : ¬ (S (p + 3) j1) = 0) : gm_run gC 0 YX1_takeExpected 0 [some (.ref p), some (.int a1)] [] S none (gm_u (gm_u (gm_u S p 6 (S p 5)) (p + 2) j1 0) p 5 ((S p 5) + 1)) := by
  refine gm_aload_n dX1_takeExpected_0 rfl ?_
  refine gm_getR (own := RX1) (q := (p + 3)) rfl dX1_takeExpected_1 lfX1_19 (sC_Ib_0 (by omega)) rfl ?_
  refine gm_iload_n dX1_takeExpected_4 rfl ?_
  refine gm_zald (j := j1) (x := (S (p + 3) j1)) dX1_takeExpected_5 (sC_Ib_3 (by omega)) ij1 rfl ?_
  refine gm_if_eq_f dX1_takeExpected_6 ⟨20, by decide⟩ c2 ?_
  refine gm_aload_n dX1_takeExpected_9 rfl ?_
  refine gm_aload_n dX1_takeExpected_10 rfl ?_
  refine gm_getI (own := RX1) (x := (S p 5)) rfl dX1_takeExpected_11 lfX1_32 (sC_Ib_0 (by omega)) rfl rfl ?_
  refine gm_put (own := RX1) rfl dX1_takeExpected_14 lfX1_25 (sC_Ib_0 (by omega)) rfl (gm_fit_int _) ?_
  refine gm_goto (tgt := 55) dX1_takeExpected_17 (by decide) ?_
  refine gm_aload_n dX1_takeExpected_55 rfl ?_
  refine gm_getR (own := RX1) (q := (p + 2)) rfl dX1_takeExpected_56 lfX1_15 (sC_Ib_0 (by omega)) rfl ?_
  refine gm_iload_n dX1_takeExpected_59 rfl ?_
  refine gm_iconst (v := 0) dX1_takeExpected_60 (by decide) ?_
  refine gm_zast (j := j1) dX1_takeExpected_61 (sC_Ib_2 (by omega)) ij1 gm_fit_0 ?_
  refine gm_aload_n dX1_takeExpected_62 rfl ?_
  refine gm_dup dX1_takeExpected_63 ?_
  refine gm_getI (own := RX1) (x := (S p 5)) rfl dX1_takeExpected_64 lfX1_32 (sC_Ib_0 (by omega)) rfl ((gm_rp (by omega)).trans (gm_rk (by decide))) ?_
  refine gm_iconst (v := 1) dX1_takeExpected_67 (by decide) ?_
  refine gm_iadd dX1_takeExpected_68 rfl ?_
  refine gm_put (own := RX1) rfl dX1_takeExpected_69 lfX1_32 (sC_Ib_0 (by omega)) rfl (gm_fit_int _) ?_
  exact gm_vret dX1_takeExpected_72 rfl
/-- X1_takeExpected 0 [6t 27f] -> ret  -/
theorem PX1_takeExpected_2 {p : Nat} {a1 : Int32} {S : gm_Mem} {j1 : Nat} {j4 : Nat} (kp : p = 7 ∨ p = 19 ∨ p = 65 ∨ p = 77) (ij1 : gm_ix a1 j1 4) (c2 : (S (p + 3) j1) = 0) (c3 : (S p 4) < 512) (ij4 : gm_ix (S p 4) j4 512) : gm_run gC 0 YX1_takeExpected 0 [some (.ref p), some (.int a1)] [] S none (gm_u (gm_u (gm_u (gm_u S (p + 1) j4 (S (p + 4) j1)) p 4 ((S p 4) + 1)) (p + 2) j1 0) p 5 ((S p 5) + 1)) := by
  refine gm_aload_n dX1_takeExpected_0 rfl ?_
  refine gm_getR (own := RX1) (q := (p + 3)) rfl dX1_takeExpected_1 lfX1_19 (sC_Ib_0 (by omega)) rfl ?_
  refine gm_iload_n dX1_takeExpected_4 rfl ?_
  refine gm_zald (j := j1) (x := (S (p + 3) j1)) dX1_takeExpected_5 (sC_Ib_3 (by omega)) ij1 rfl ?_
  refine gm_if_eq_t (tgt := 20) dX1_takeExpected_6 (by decide) c2 ?_
  refine gm_aload_n dX1_takeExpected_20 rfl ?_
  refine gm_getI (own := RX1) (x := (S p 4)) rfl dX1_takeExpected_21 lfX1_29 (sC_Ib_0 (by omega)) rfl rfl ?_
  refine gm_sipush (v := 512) dX1_takeExpected_24 (by decide) ?_
  refine gm_icmp_ge_f dX1_takeExpected_27 ⟨55, by decide⟩ c3 ?_
  refine gm_aload_n dX1_takeExpected_30 rfl ?_
  refine gm_getR (own := RX1) (q := (p + 1)) rfl dX1_takeExpected_31 lfX1_9 (sC_Ib_0 (by omega)) rfl ?_
  refine gm_aload_n dX1_takeExpected_34 rfl ?_
  refine gm_getI (own := RX1) (x := (S p 4)) rfl dX1_takeExpected_35 lfX1_29 (sC_Ib_0 (by omega)) rfl rfl ?_
  refine gm_aload_n dX1_takeExpected_38 rfl ?_
  refine gm_getR (own := RX1) (q := (p + 4)) rfl dX1_takeExpected_39 lfX1_22 (sC_Ib_0 (by omega)) rfl ?_
  refine gm_iload_n dX1_takeExpected_42 rfl ?_
  refine gm_iald (j := j1) (x := (S (p + 4) j1)) dX1_takeExpected_43 (sC_Ib_4 (by omega)) ij1 rfl ?_
  refine gm_iast (j := j4) dX1_takeExpected_44 (sC_Ib_1 (by omega)) ij4 ?_
  refine gm_aload_n dX1_takeExpected_45 rfl ?_
  refine gm_dup dX1_takeExpected_46 ?_
  refine gm_getI (own := RX1) (x := (S p 4)) rfl dX1_takeExpected_47 lfX1_29 (sC_Ib_0 (by omega)) rfl (gm_rp (by omega)) ?_
  refine gm_iconst (v := 1) dX1_takeExpected_50 (by decide) ?_
  refine gm_iadd dX1_takeExpected_51 rfl ?_
  refine gm_put (own := RX1) rfl dX1_takeExpected_52 lfX1_29 (sC_Ib_0 (by omega)) rfl (gm_fit_int _) ?_
  refine gm_aload_n dX1_takeExpected_55 rfl ?_
  refine gm_getR (own := RX1) (q := (p + 2)) rfl dX1_takeExpected_56 lfX1_15 (sC_Ib_0 (by omega)) rfl ?_
  refine gm_iload_n dX1_takeExpected_59 rfl ?_
  refine gm_iconst (v := 0) dX1_takeExpected_60 (by decide) ?_
  refine gm_zast (j := j1) dX1_takeExpected_61 (sC_Ib_2 (by omega)) ij1 gm_fit_0 ?_
  refine gm_aload_n dX1_takeExpected_62 rfl ?_
  refine gm_dup dX1_takeExpected_63 ?_
  refine gm_getI (own := RX1) (x := (S p 5)) rfl dX1_takeExpected_64 lfX1_32 (sC_Ib_0 (by omega)) rfl ((gm_rp (by omega)).trans ((gm_rk (by decide)).trans (gm_rp (by omega)))) ?_
  refine gm_iconst (v := 1) dX1_takeExpected_67 (by decide) ?_
  refine gm_iadd dX1_takeExpected_68 rfl ?_
  refine gm_put (own := RX1) rfl dX1_takeExpected_69 lfX1_32 (sC_Ib_0 (by omega)) rfl (gm_fit_int _) ?_
  exact gm_vret dX1_takeExpected_72 rfl
/-- X1_takeExpected 0 [6t 27t] -> ret  -/
theorem PX1_takeExpected_3 {p : Nat} {a1 : Int32} {S : gm_Mem} {j1 : Nat} (kp : p = 7 ∨ p = 19 ∨ p = 65 ∨ p = 77) (ij1 : gm_ix a1 j1 4) (c2 : (S (p + 3) j1) = 0) (c3 : ¬ (S p 4) < 512) : gm_run gC 0 YX1_takeExpected 0 [some (.ref p), some (.int a1)] [] S none (gm_u (gm_u S (p + 2) j1 0) p 5 ((S p 5) + 1)) := by
  refine gm_aload_n dX1_takeExpected_0 rfl ?_
  refine gm_getR (own := RX1) (q := (p + 3)) rfl dX1_takeExpected_1 lfX1_19 (sC_Ib_0 (by omega)) rfl ?_
  refine gm_iload_n dX1_takeExpected_4 rfl ?_
  refine gm_zald (j := j1) (x := (S (p + 3) j1)) dX1_takeExpected_5 (sC_Ib_3 (by omega)) ij1 rfl ?_
  refine gm_if_eq_t (tgt := 20) dX1_takeExpected_6 (by decide) c2 ?_
  refine gm_aload_n dX1_takeExpected_20 rfl ?_
  refine gm_getI (own := RX1) (x := (S p 4)) rfl dX1_takeExpected_21 lfX1_29 (sC_Ib_0 (by omega)) rfl rfl ?_
  refine gm_sipush (v := 512) dX1_takeExpected_24 (by decide) ?_
  refine gm_icmp_ge_t (tgt := 55) dX1_takeExpected_27 (by decide) c3 ?_
  refine gm_aload_n dX1_takeExpected_55 rfl ?_
  refine gm_getR (own := RX1) (q := (p + 2)) rfl dX1_takeExpected_56 lfX1_15 (sC_Ib_0 (by omega)) rfl ?_
  refine gm_iload_n dX1_takeExpected_59 rfl ?_
  refine gm_iconst (v := 0) dX1_takeExpected_60 (by decide) ?_
  refine gm_zast (j := j1) dX1_takeExpected_61 (sC_Ib_2 (by omega)) ij1 gm_fit_0 ?_
  refine gm_aload_n dX1_takeExpected_62 rfl ?_
  refine gm_dup dX1_takeExpected_63 ?_
  refine gm_getI (own := RX1) (x := (S p 5)) rfl dX1_takeExpected_64 lfX1_32 (sC_Ib_0 (by omega)) rfl (gm_rp (by omega)) ?_
  refine gm_iconst (v := 1) dX1_takeExpected_67 (by decide) ?_
  refine gm_iadd dX1_takeExpected_68 rfl ?_
  refine gm_put (own := RX1) rfl dX1_takeExpected_69 lfX1_32 (sC_Ib_0 (by omega)) rfl (gm_fit_int _) ?_
  exact gm_vret dX1_takeExpected_72 rfl
/-- X1_take 0 [5f 13f 23f] -> ret  -/
theorem PX1_take_1 {p : Nat} {a1 : Int32} {a2 : Int32} {a3 : Int32} {S : gm_Mem} (kp : p = 7 ∨ p = 19 ∨ p = 65 ∨ p = 77) (c1 : (S p 6) = (-1)) (c2 : ¬ a1 < (S p 5)) (c3 : ¬ a1 < ((S p 5) + 4)) : gm_run gC 1 YX1_take 0 [some (.ref p), some (.int a1), some (.int a2), some (.int a3), none, none] [] S none S := by
  refine gm_aload_n dX1_take_0 rfl ?_
  refine gm_getI (own := RX1) (x := (S p 6)) rfl dX1_take_1 lfX1_25 (sC_Ib_0 (by omega)) rfl rfl ?_
  refine gm_iconst (v := (-1)) dX1_take_4 (by decide) ?_
  refine gm_icmp_ne_f dX1_take_5 ⟨26, by decide⟩ c1 ?_
  refine gm_iload_n dX1_take_8 rfl ?_
  refine gm_aload_n dX1_take_9 rfl ?_
  refine gm_getI (own := RX1) (x := (S p 5)) rfl dX1_take_10 lfX1_32 (sC_Ib_0 (by omega)) rfl rfl ?_
  refine gm_icmp_lt_f dX1_take_13 ⟨26, by decide⟩ c2 ?_
  refine gm_iload_n dX1_take_16 rfl ?_
  refine gm_aload_n dX1_take_17 rfl ?_
  refine gm_getI (own := RX1) (x := (S p 5)) rfl dX1_take_18 lfX1_32 (sC_Ib_0 (by omega)) rfl rfl ?_
  refine gm_iconst (v := 4) dX1_take_21 (by decide) ?_
  refine gm_iadd dX1_take_22 rfl ?_
  refine gm_icmp_lt_f dX1_take_23 ⟨27, by decide⟩ c3 ?_
  exact gm_vret dX1_take_26 rfl
/-- X1_take 0 [5f 13f 23t 39f] -> cut 69 -/
theorem PX1_take_2 {p : Nat} {a1 : Int32} {a2 : Int32} {a3 : Int32} {S : gm_Mem} {j4 : Nat} {r : Option Value} {S2 : gm_Mem} (kp : p = 7 ∨ p = 19 ∨ p = 65 ∨ p = 77) (c1 : (S p 6) = (-1)) (c2 : ¬ a1 < (S p 5)) (c3 : a1 < ((S p 5) + 4)) (ij4 : gm_ix (a1 &&& 3) j4 4) (c5 : (S (p + 2) j4) = 0) (z6 : gm_fit .boolean a3) (K : gm_run gC 1 YX1_take 69 [some (.ref p), some (.int a1), some (.int a2), some (.int a3), some (.int (a1 &&& 3)), some (.int 0)] [] (gm_u (gm_u (gm_u S (p + 2) j4 1) (p + 4) j4 a2) (p + 3) j4 a3) r S2) : gm_run gC 1 YX1_take 0 [some (.ref p), some (.int a1), some (.int a2), some (.int a3), none, none] [] S r S2 := by
  refine gm_aload_n dX1_take_0 rfl ?_
  refine gm_getI (own := RX1) (x := (S p 6)) rfl dX1_take_1 lfX1_25 (sC_Ib_0 (by omega)) rfl rfl ?_
  refine gm_iconst (v := (-1)) dX1_take_4 (by decide) ?_
  refine gm_icmp_ne_f dX1_take_5 ⟨26, by decide⟩ c1 ?_
  refine gm_iload_n dX1_take_8 rfl ?_
  refine gm_aload_n dX1_take_9 rfl ?_
  refine gm_getI (own := RX1) (x := (S p 5)) rfl dX1_take_10 lfX1_32 (sC_Ib_0 (by omega)) rfl rfl ?_
  refine gm_icmp_lt_f dX1_take_13 ⟨26, by decide⟩ c2 ?_
  refine gm_iload_n dX1_take_16 rfl ?_
  refine gm_aload_n dX1_take_17 rfl ?_
  refine gm_getI (own := RX1) (x := (S p 5)) rfl dX1_take_18 lfX1_32 (sC_Ib_0 (by omega)) rfl rfl ?_
  refine gm_iconst (v := 4) dX1_take_21 (by decide) ?_
  refine gm_iadd dX1_take_22 rfl ?_
  refine gm_icmp_lt_t (tgt := 27) dX1_take_23 (by decide) c3 ?_
  refine gm_iload_n dX1_take_27 rfl ?_
  refine gm_iconst (v := 3) dX1_take_28 (by decide) ?_
  refine gm_iand dX1_take_29 rfl ?_
  refine gm_istore (L' := [some (.ref p), some (.int a1), some (.int a2), some (.int a3), some (.int (a1 &&& 3)), none]) dX1_take_30 (by decide) rfl ?_
  refine gm_aload_n dX1_take_32 rfl ?_
  refine gm_getR (own := RX1) (q := (p + 2)) rfl dX1_take_33 lfX1_15 (sC_Ib_0 (by omega)) rfl ?_
  refine gm_iload dX1_take_36 rfl ?_
  refine gm_zald (j := j4) (x := (S (p + 2) j4)) dX1_take_38 (sC_Ib_2 (by omega)) ij4 rfl ?_
  refine gm_if_ne_f dX1_take_39 ⟨66, by decide⟩ c5 ?_
  refine gm_aload_n dX1_take_42 rfl ?_
  refine gm_getR (own := RX1) (q := (p + 2)) rfl dX1_take_43 lfX1_15 (sC_Ib_0 (by omega)) rfl ?_
  refine gm_iload dX1_take_46 rfl ?_
  refine gm_iconst (v := 1) dX1_take_48 (by decide) ?_
  refine gm_zast (j := j4) dX1_take_49 (sC_Ib_2 (by omega)) ij4 gm_fit_1 ?_
  refine gm_aload_n dX1_take_50 rfl ?_
  refine gm_getR (own := RX1) (q := (p + 4)) rfl dX1_take_51 lfX1_22 (sC_Ib_0 (by omega)) rfl ?_
  refine gm_iload dX1_take_54 rfl ?_
  refine gm_iload_n dX1_take_56 rfl ?_
  refine gm_iast (j := j4) dX1_take_57 (sC_Ib_4 (by omega)) ij4 ?_
  refine gm_aload_n dX1_take_58 rfl ?_
  refine gm_getR (own := RX1) (q := (p + 3)) rfl dX1_take_59 lfX1_19 (sC_Ib_0 (by omega)) rfl ?_
  refine gm_iload dX1_take_62 rfl ?_
  refine gm_iload_n dX1_take_64 rfl ?_
  refine gm_zast (j := j4) dX1_take_65 (sC_Ib_3 (by omega)) ij4 z6 ?_
  refine gm_iconst (v := 0) dX1_take_66 (by decide) ?_
  refine gm_istore (L' := [some (.ref p), some (.int a1), some (.int a2), some (.int a3), some (.int (a1 &&& 3)), some (.int 0)]) dX1_take_67 (by decide) rfl ?_
  exact K
/-- X1_take 0 [5f 13f 23t 39t] -> cut 69 -/
theorem PX1_take_3 {p : Nat} {a1 : Int32} {a2 : Int32} {a3 : Int32} {S : gm_Mem} {j4 : Nat} {r : Option Value} {S2 : gm_Mem} (kp : p = 7 ∨ p = 19 ∨ p = 65 ∨ p = 77) (c1 : (S p 6) = (-1)) (c2 : ¬ a1 < (S p 5)) (c3 : a1 < ((S p 5) + 4)) (ij4 : gm_ix (a1 &&& 3) j4 4) (c5 : ¬ (S (p + 2) j4) = 0) (K : gm_run gC 1 YX1_take 69 [some (.ref p), some (.int a1), some (.int a2), some (.int a3), some (.int (a1 &&& 3)), some (.int 0)] [] S r S2) : gm_run gC 1 YX1_take 0 [some (.ref p), some (.int a1), some (.int a2), some (.int a3), none, none] [] S r S2 := by
  refine gm_aload_n dX1_take_0 rfl ?_
  refine gm_getI (own := RX1) (x := (S p 6)) rfl dX1_take_1 lfX1_25 (sC_Ib_0 (by omega)) rfl rfl ?_
  refine gm_iconst (v := (-1)) dX1_take_4 (by decide) ?_
  refine gm_icmp_ne_f dX1_take_5 ⟨26, by decide⟩ c1 ?_
  refine gm_iload_n dX1_take_8 rfl ?_
  refine gm_aload_n dX1_take_9 rfl ?_
  refine gm_getI (own := RX1) (x := (S p 5)) rfl dX1_take_10 lfX1_32 (sC_Ib_0 (by omega)) rfl rfl ?_
  refine gm_icmp_lt_f dX1_take_13 ⟨26, by decide⟩ c2 ?_
  refine gm_iload_n dX1_take_16 rfl ?_
  refine gm_aload_n dX1_take_17 rfl ?_
  refine gm_getI (own := RX1) (x := (S p 5)) rfl dX1_take_18 lfX1_32 (sC_Ib_0 (by omega)) rfl rfl ?_
  refine gm_iconst (v := 4) dX1_take_21 (by decide) ?_
  refine gm_iadd dX1_take_22 rfl ?_
  refine gm_icmp_lt_t (tgt := 27) dX1_take_23 (by decide) c3 ?_
  refine gm_iload_n dX1_take_27 rfl ?_
  refine gm_iconst (v := 3) dX1_take_28 (by decide) ?_
  refine gm_iand dX1_take_29 rfl ?_
  refine gm_istore (L' := [some (.ref p), some (.int a1), some (.int a2), some (.int a3), some (.int (a1 &&& 3)), none]) dX1_take_30 (by decide) rfl ?_
  refine gm_aload_n dX1_take_32 rfl ?_
  refine gm_getR (own := RX1) (q := (p + 2)) rfl dX1_take_33 lfX1_15 (sC_Ib_0 (by omega)) rfl ?_
  refine gm_iload dX1_take_36 rfl ?_
  refine gm_zald (j := j4) (x := (S (p + 2) j4)) dX1_take_38 (sC_Ib_2 (by omega)) ij4 rfl ?_
  refine gm_if_ne_t (tgt := 66) dX1_take_39 (by decide) c5 ?_
  refine gm_iconst (v := 0) dX1_take_66 (by decide) ?_
  refine gm_istore (L' := [some (.ref p), some (.int a1), some (.int a2), some (.int a3), some (.int (a1 &&& 3)), some (.int 0)]) dX1_take_67 (by decide) rfl ?_
  exact K
/-- X1_take 0 [5f 13t] -> ret  -/
theorem PX1_take_4 {p : Nat} {a1 : Int32} {a2 : Int32} {a3 : Int32} {S : gm_Mem} (kp : p = 7 ∨ p = 19 ∨ p = 65 ∨ p = 77) (c1 : (S p 6) = (-1)) (c2 : a1 < (S p 5)) : gm_run gC 1 YX1_take 0 [some (.ref p), some (.int a1), some (.int a2), some (.int a3), none, none] [] S none S := by
  refine gm_aload_n dX1_take_0 rfl ?_
  refine gm_getI (own := RX1) (x := (S p 6)) rfl dX1_take_1 lfX1_25 (sC_Ib_0 (by omega)) rfl rfl ?_
  refine gm_iconst (v := (-1)) dX1_take_4 (by decide) ?_
  refine gm_icmp_ne_f dX1_take_5 ⟨26, by decide⟩ c1 ?_
  refine gm_iload_n dX1_take_8 rfl ?_
  refine gm_aload_n dX1_take_9 rfl ?_
  refine gm_getI (own := RX1) (x := (S p 5)) rfl dX1_take_10 lfX1_32 (sC_Ib_0 (by omega)) rfl rfl ?_
  refine gm_icmp_lt_t (tgt := 26) dX1_take_13 (by decide) c2 ?_
  exact gm_vret dX1_take_26 rfl
/-- X1_take 0 [5t] -> ret  -/
theorem PX1_take_5 {p : Nat} {a1 : Int32} {a2 : Int32} {a3 : Int32} {S : gm_Mem} (kp : p = 7 ∨ p = 19 ∨ p = 65 ∨ p = 77) (c1 : ¬ (S p 6) = (-1)) : gm_run gC 1 YX1_take 0 [some (.ref p), some (.int a1), some (.int a2), some (.int a3), none, none] [] S none S := by
  refine gm_aload_n dX1_take_0 rfl ?_
  refine gm_getI (own := RX1) (x := (S p 6)) rfl dX1_take_1 lfX1_25 (sC_Ib_0 (by omega)) rfl rfl ?_
  refine gm_iconst (v := (-1)) dX1_take_4 (by decide) ?_
  refine gm_icmp_ne_t (tgt := 26) dX1_take_5 (by decide) c1 ?_
  exact gm_vret dX1_take_26 rfl
/-- X1_take 69 [72f 80f 94f] -> cut 69 -/
theorem PX1_take_6 {p : Nat} {x1 : Int32} {x2 : Int32} {x3 : Int32} {x4 : Int32} {x5 : Int32} {S : gm_Mem} {j3 : Nat} {T1 : gm_Mem} {r : Option Value} {S2 : gm_Mem} (kp : p = 7 ∨ p = 19 ∨ p = 65 ∨ p = 77) (c1 : x5 < 4) (c2 : (S p 6) = (-1)) (ij3 : gm_ix ((S p 5) &&& 3) j3 4) (c4 : ¬ (S (p + 2) j3) = 0) (h5 : gm_run gC 0 YX1_takeExpected 0 [some (.ref p), some (.int ((S p 5) &&& 3))] [] S none T1) (K : gm_run gC 1 YX1_take 69 [some (.ref p), some (.int x1), some (.int x2), some (.int x3), some (.int x4), some (.int (x5 + 1))] [] T1 r S2) : gm_run gC 1 YX1_take 69 [some (.ref p), some (.int x1), some (.int x2), some (.int x3), some (.int x4), some (.int x5)] [] S r S2 := by
  refine gm_iload dX1_take_69 rfl ?_
  refine gm_iconst (v := 4) dX1_take_71 (by decide) ?_
  refine gm_icmp_ge_f dX1_take_72 ⟨113, by decide⟩ c1 ?_
  refine gm_aload_n dX1_take_75 rfl ?_
  refine gm_getI (own := RX1) (x := (S p 6)) rfl dX1_take_76 lfX1_25 (sC_Ib_0 (by omega)) rfl rfl ?_
  refine gm_iconst (v := (-1)) dX1_take_79 (by decide) ?_
  refine gm_icmp_ne_f dX1_take_80 ⟨113, by decide⟩ c2 ?_
  refine gm_aload_n dX1_take_83 rfl ?_
  refine gm_getR (own := RX1) (q := (p + 2)) rfl dX1_take_84 lfX1_15 (sC_Ib_0 (by omega)) rfl ?_
  refine gm_aload_n dX1_take_87 rfl ?_
  refine gm_getI (own := RX1) (x := (S p 5)) rfl dX1_take_88 lfX1_32 (sC_Ib_0 (by omega)) rfl rfl ?_
  refine gm_iconst (v := 3) dX1_take_91 (by decide) ?_
  refine gm_iand dX1_take_92 rfl ?_
  refine gm_zald (j := j3) (x := (S (p + 2) j3)) dX1_take_93 (sC_Ib_2 (by omega)) ij3 rfl ?_
  refine gm_if_eq_f dX1_take_94 ⟨113, by decide⟩ c4 ?_
  refine gm_aload_n dX1_take_97 rfl ?_
  refine gm_aload_n dX1_take_98 rfl ?_
  refine gm_getI (own := RX1) (x := (S p 5)) rfl dX1_take_99 lfX1_32 (sC_Ib_0 (by omega)) rfl rfl ?_
  refine gm_iconst (v := 3) dX1_take_102 (by decide) ?_
  refine gm_iand dX1_take_103 rfl ?_
  refine gm_callV (r1 := none) (own := RX1) rfl dX1_take_104 llX1_44 mvX1_takeExpected (sC_Ib_0 (by omega)) rfl [.int ((S p 5) &&& 3)] [] rfl rfl (Nat.le_of_ble_eq_true rfl) (by decide) rfl h5 rfl ?_
  refine gm_iinc (L' := [some (.ref p), some (.int x1), some (.int x2), some (.int x3), some (.int x4), some (.int (x5 + 1))]) (v := (x5 + 1)) dX1_take_107 rfl rfl (by decide) rfl ?_
  refine gm_goto (tgt := 69) dX1_take_110 (by decide) ?_
  exact K
/-- X1_take 69 [72f 80f 94t] -> ret  -/
theorem PX1_take_7 {p : Nat} {x1 : Int32} {x2 : Int32} {x3 : Int32} {x4 : Int32} {x5 : Int32} {S : gm_Mem} {j3 : Nat} (kp : p = 7 ∨ p = 19 ∨ p = 65 ∨ p = 77) (c1 : x5 < 4) (c2 : (S p 6) = (-1)) (ij3 : gm_ix ((S p 5) &&& 3) j3 4) (c4 : (S (p + 2) j3) = 0) : gm_run gC 1 YX1_take 69 [some (.ref p), some (.int x1), some (.int x2), some (.int x3), some (.int x4), some (.int x5)] [] S none S := by
  refine gm_iload dX1_take_69 rfl ?_
  refine gm_iconst (v := 4) dX1_take_71 (by decide) ?_
  refine gm_icmp_ge_f dX1_take_72 ⟨113, by decide⟩ c1 ?_
  refine gm_aload_n dX1_take_75 rfl ?_
  refine gm_getI (own := RX1) (x := (S p 6)) rfl dX1_take_76 lfX1_25 (sC_Ib_0 (by omega)) rfl rfl ?_
  refine gm_iconst (v := (-1)) dX1_take_79 (by decide) ?_
  refine gm_icmp_ne_f dX1_take_80 ⟨113, by decide⟩ c2 ?_
  refine gm_aload_n dX1_take_83 rfl ?_
  refine gm_getR (own := RX1) (q := (p + 2)) rfl dX1_take_84 lfX1_15 (sC_Ib_0 (by omega)) rfl ?_
  refine gm_aload_n dX1_take_87 rfl ?_
  refine gm_getI (own := RX1) (x := (S p 5)) rfl dX1_take_88 lfX1_32 (sC_Ib_0 (by omega)) rfl rfl ?_
  refine gm_iconst (v := 3) dX1_take_91 (by decide) ?_
  refine gm_iand dX1_take_92 rfl ?_
  refine gm_zald (j := j3) (x := (S (p + 2) j3)) dX1_take_93 (sC_Ib_2 (by omega)) ij3 rfl ?_
  refine gm_if_eq_t (tgt := 113) dX1_take_94 (by decide) c4 ?_
  exact gm_vret dX1_take_113 rfl
/-- X1_take 69 [72f 80t] -> ret  -/
theorem PX1_take_8 {p : Nat} {x1 : Int32} {x2 : Int32} {x3 : Int32} {x4 : Int32} {x5 : Int32} {S : gm_Mem} (kp : p = 7 ∨ p = 19 ∨ p = 65 ∨ p = 77) (c1 : x5 < 4) (c2 : ¬ (S p 6) = (-1)) : gm_run gC 1 YX1_take 69 [some (.ref p), some (.int x1), some (.int x2), some (.int x3), some (.int x4), some (.int x5)] [] S none S := by
  refine gm_iload dX1_take_69 rfl ?_
  refine gm_iconst (v := 4) dX1_take_71 (by decide) ?_
  refine gm_icmp_ge_f dX1_take_72 ⟨113, by decide⟩ c1 ?_
  refine gm_aload_n dX1_take_75 rfl ?_
  refine gm_getI (own := RX1) (x := (S p 6)) rfl dX1_take_76 lfX1_25 (sC_Ib_0 (by omega)) rfl rfl ?_
  refine gm_iconst (v := (-1)) dX1_take_79 (by decide) ?_
  refine gm_icmp_ne_t (tgt := 113) dX1_take_80 (by decide) c2 ?_
  exact gm_vret dX1_take_113 rfl
/-- X1_take 69 [72t] -> ret  -/
theorem PX1_take_9 {p : Nat} {x1 : Int32} {x2 : Int32} {x3 : Int32} {x4 : Int32} {x5 : Int32} {S : gm_Mem} (kp : p = 7 ∨ p = 19 ∨ p = 65 ∨ p = 77) (c1 : ¬ x5 < 4) : gm_run gC 1 YX1_take 69 [some (.ref p), some (.int x1), some (.int x2), some (.int x3), some (.int x4), some (.int x5)] [] S none S := by
  refine gm_iload dX1_take_69 rfl ?_
  refine gm_iconst (v := 4) dX1_take_71 (by decide) ?_
  refine gm_icmp_ge_t (tgt := 113) dX1_take_72 (by decide) c1 ?_
  exact gm_vret dX1_take_113 rfl
/-- X1_valueAt 0 [1f 9f 16f] -> ret  -/
theorem PX1_valueAt_1 {p : Nat} {a1 : Int32} {S : gm_Mem} (kp : p = 7 ∨ p = 19 ∨ p = 65 ∨ p = 77) (c1 : ¬ a1 < 0) (c2 : a1 < (S p 4)) (c3 : ¬ a1 < 512) : gm_run gC 0 YX1_valueAt 0 [some (.ref p), some (.int a1)] [] S (some (.int (-1000000001))) S := by
  refine gm_iload_n dX1_valueAt_0 rfl ?_
  refine gm_if_lt_f dX1_valueAt_1 ⟨19, by decide⟩ c1 ?_
  refine gm_iload_n dX1_valueAt_4 rfl ?_
  refine gm_aload_n dX1_valueAt_5 rfl ?_
  refine gm_getI (own := RX1) (x := (S p 4)) rfl dX1_valueAt_6 lfX1_29 (sC_Ib_0 (by omega)) rfl rfl ?_
  refine gm_icmp_ge_f dX1_valueAt_9 ⟨19, by decide⟩ c2 ?_
  refine gm_iload_n dX1_valueAt_12 rfl ?_
  refine gm_sipush (v := 512) dX1_valueAt_13 (by decide) ?_
  refine gm_icmp_lt_f dX1_valueAt_16 ⟨22, by decide⟩ c3 ?_
  refine gm_ldc (own := RX1) rfl lcX1_48 dX1_valueAt_19 ?_
  exact gm_iret dX1_valueAt_21 rfl
/-- X1_valueAt 0 [1f 9f 16t] -> ret  -/
theorem PX1_valueAt_2 {p : Nat} {a1 : Int32} {S : gm_Mem} {j4 : Nat} (kp : p = 7 ∨ p = 19 ∨ p = 65 ∨ p = 77) (c1 : ¬ a1 < 0) (c2 : a1 < (S p 4)) (c3 : a1 < 512) (ij4 : gm_ix a1 j4 512) : gm_run gC 0 YX1_valueAt 0 [some (.ref p), some (.int a1)] [] S (some (.int (S (p + 1) j4))) S := by
  refine gm_iload_n dX1_valueAt_0 rfl ?_
  refine gm_if_lt_f dX1_valueAt_1 ⟨19, by decide⟩ c1 ?_
  refine gm_iload_n dX1_valueAt_4 rfl ?_
  refine gm_aload_n dX1_valueAt_5 rfl ?_
  refine gm_getI (own := RX1) (x := (S p 4)) rfl dX1_valueAt_6 lfX1_29 (sC_Ib_0 (by omega)) rfl rfl ?_
  refine gm_icmp_ge_f dX1_valueAt_9 ⟨19, by decide⟩ c2 ?_
  refine gm_iload_n dX1_valueAt_12 rfl ?_
  refine gm_sipush (v := 512) dX1_valueAt_13 (by decide) ?_
  refine gm_icmp_lt_t (tgt := 22) dX1_valueAt_16 (by decide) c3 ?_
  refine gm_aload_n dX1_valueAt_22 rfl ?_
  refine gm_getR (own := RX1) (q := (p + 1)) rfl dX1_valueAt_23 lfX1_9 (sC_Ib_0 (by omega)) rfl ?_
  refine gm_iload_n dX1_valueAt_26 rfl ?_
  refine gm_iald (j := j4) (x := (S (p + 1) j4)) dX1_valueAt_27 (sC_Ib_1 (by omega)) ij4 rfl ?_
  exact gm_iret dX1_valueAt_28 rfl
/-- X1_valueAt 0 [1f 9t] -> ret  -/
theorem PX1_valueAt_3 {p : Nat} {a1 : Int32} {S : gm_Mem} (kp : p = 7 ∨ p = 19 ∨ p = 65 ∨ p = 77) (c1 : ¬ a1 < 0) (c2 : ¬ a1 < (S p 4)) : gm_run gC 0 YX1_valueAt 0 [some (.ref p), some (.int a1)] [] S (some (.int (-1000000001))) S := by
  refine gm_iload_n dX1_valueAt_0 rfl ?_
  refine gm_if_lt_f dX1_valueAt_1 ⟨19, by decide⟩ c1 ?_
  refine gm_iload_n dX1_valueAt_4 rfl ?_
  refine gm_aload_n dX1_valueAt_5 rfl ?_
  refine gm_getI (own := RX1) (x := (S p 4)) rfl dX1_valueAt_6 lfX1_29 (sC_Ib_0 (by omega)) rfl rfl ?_
  refine gm_icmp_ge_t (tgt := 19) dX1_valueAt_9 (by decide) c2 ?_
  refine gm_ldc (own := RX1) rfl lcX1_48 dX1_valueAt_19 ?_
  exact gm_iret dX1_valueAt_21 rfl
/-- X1_valueAt 0 [1t] -> ret  -/
theorem PX1_valueAt_4 {p : Nat} {a1 : Int32} {S : gm_Mem} (kp : p = 7 ∨ p = 19 ∨ p = 65 ∨ p = 77) (c1 : a1 < 0) : gm_run gC 0 YX1_valueAt 0 [some (.ref p), some (.int a1)] [] S (some (.int (-1000000001))) S := by
  refine gm_iload_n dX1_valueAt_0 rfl ?_
  refine gm_if_lt_t (tgt := 19) dX1_valueAt_1 (by decide) c1 ?_
  refine gm_ldc (own := RX1) rfl lcX1_48 dX1_valueAt_19 ?_
  exact gm_iret dX1_valueAt_21 rfl
/-- X2_add 0 [5f 14f 66f] -> ret  -/
theorem PX2_add_1 {p : Nat} {a1 : Int32} {a2 : Int32} {a3 : Int32} {S : gm_Mem} {j3 : Nat} (kp : p = 55 ∨ p = 113) (c1 : ¬ (S p 4) < 0) (c2 : (S p 4) < 29) (ij3 : gm_ix ((S p 4) + 1) j3 30) (c4 : (S p 3) < 30) : gm_run gC 0 YX2_add 0 [some (.ref p), some (.int a1), some (.int a2), some (.int a3)] [] S none (gm_u (gm_u (gm_u (gm_u (gm_u S p 4 ((S p 4) + 1)) (p + 1) j3 a1) (p + 2) j3 a2) (p + 3) j3 a3) p 3 ((S p 3) + 1)) := by
  refine gm_aload_n dX2_add_0 rfl ?_
  refine gm_aload_n dX2_add_1 rfl ?_
  refine gm_getI (own := RX2) (x := (S p 4)) rfl dX2_add_2 lfX2_21 (sC_Lo_0 (by omega)) rfl rfl ?_
  refine gm_if_lt_f dX2_add_5 ⟨26, by decide⟩ c1 ?_
  refine gm_aload_n dX2_add_8 rfl ?_
  refine gm_getI (own := RX2) (x := (S p 4)) rfl dX2_add_9 lfX2_21 (sC_Lo_0 (by omega)) rfl rfl ?_
  refine gm_bipush (v := 29) dX2_add_12 (by decide) ?_
  refine gm_icmp_ge_f dX2_add_14 ⟨26, by decide⟩ c2 ?_
  refine gm_aload_n dX2_add_17 rfl ?_
  refine gm_getI (own := RX2) (x := (S p 4)) rfl dX2_add_18 lfX2_21 (sC_Lo_0 (by omega)) rfl rfl ?_
  refine gm_iconst (v := 1) dX2_add_21 (by decide) ?_
  refine gm_iadd dX2_add_22 rfl ?_
  refine gm_goto (tgt := 27) dX2_add_23 (by decide) ?_
  refine gm_put (own := RX2) rfl dX2_add_27 lfX2_21 (sC_Lo_0 (by omega)) rfl (gm_fit_int _) ?_
  refine gm_aload_n dX2_add_30 rfl ?_
  refine gm_getR (own := RX2) (q := (p + 1)) rfl dX2_add_31 lfX2_9 (sC_Lo_0 (by omega)) rfl ?_
  refine gm_aload_n dX2_add_34 rfl ?_
  refine gm_getI (own := RX2) (x := ((S p 4) + 1)) rfl dX2_add_35 lfX2_21 (sC_Lo_0 (by omega)) rfl (gm_rS _ _ _ _) ?_
  refine gm_iload_n dX2_add_38 rfl ?_
  refine gm_iast (j := j3) dX2_add_39 (sC_Lo_1 (by omega)) ij3 ?_
  refine gm_aload_n dX2_add_40 rfl ?_
  refine gm_getR (own := RX2) (q := (p + 2)) rfl dX2_add_41 lfX2_15 (sC_Lo_0 (by omega)) rfl ?_
  refine gm_aload_n dX2_add_44 rfl ?_
  refine gm_getI (own := RX2) (x := ((S p 4) + 1)) rfl dX2_add_45 lfX2_21 (sC_Lo_0 (by omega)) rfl ((gm_rp (by omega)).trans (gm_rS _ _ _ _)) ?_
  refine gm_iload_n dX2_add_48 rfl ?_
  refine gm_iast (j := j3) dX2_add_49 (sC_Lo_2 (by omega)) ij3 ?_
  refine gm_aload_n dX2_add_50 rfl ?_
  refine gm_getR (own := RX2) (q := (p + 3)) rfl dX2_add_51 lfX2_18 (sC_Lo_0 (by omega)) rfl ?_
  refine gm_aload_n dX2_add_54 rfl ?_
  refine gm_getI (own := RX2) (x := ((S p 4) + 1)) rfl dX2_add_55 lfX2_21 (sC_Lo_0 (by omega)) rfl ((gm_rp (by omega)).trans ((gm_rp (by omega)).trans (gm_rS _ _ _ _))) ?_
  refine gm_iload_n dX2_add_58 rfl ?_
  refine gm_iast (j := j3) dX2_add_59 (sC_Lo_3 (by omega)) ij3 ?_
  refine gm_aload_n dX2_add_60 rfl ?_
  refine gm_getI (own := RX2) (x := (S p 3)) rfl dX2_add_61 lfX2_25 (sC_Lo_0 (by omega)) rfl ((gm_rp (by omega)).trans ((gm_rp (by omega)).trans ((gm_rp (by omega)).trans (gm_rk (by decide))))) ?_
  refine gm_bipush (v := 30) dX2_add_64 (by decide) ?_
  refine gm_icmp_ge_f dX2_add_66 ⟨79, by decide⟩ c4 ?_
  refine gm_aload_n dX2_add_69 rfl ?_
  refine gm_dup dX2_add_70 ?_
  refine gm_getI (own := RX2) (x := (S p 3)) rfl dX2_add_71 lfX2_25 (sC_Lo_0 (by omega)) rfl ((gm_rp (by omega)).trans ((gm_rp (by omega)).trans ((gm_rp (by omega)).trans (gm_rk (by decide))))) ?_
  refine gm_iconst (v := 1) dX2_add_74 (by decide) ?_
  refine gm_iadd dX2_add_75 rfl ?_
  refine gm_put (own := RX2) rfl dX2_add_76 lfX2_25 (sC_Lo_0 (by omega)) rfl (gm_fit_int _) ?_
  exact gm_vret dX2_add_79 rfl
/-- X2_add 0 [5f 14f 66t] -> ret  -/
theorem PX2_add_2 {p : Nat} {a1 : Int32} {a2 : Int32} {a3 : Int32} {S : gm_Mem} {j3 : Nat} (kp : p = 55 ∨ p = 113) (c1 : ¬ (S p 4) < 0) (c2 : (S p 4) < 29) (ij3 : gm_ix ((S p 4) + 1) j3 30) (c4 : ¬ (S p 3) < 30) : gm_run gC 0 YX2_add 0 [some (.ref p), some (.int a1), some (.int a2), some (.int a3)] [] S none (gm_u (gm_u (gm_u (gm_u S p 4 ((S p 4) + 1)) (p + 1) j3 a1) (p + 2) j3 a2) (p + 3) j3 a3) := by
  refine gm_aload_n dX2_add_0 rfl ?_
  refine gm_aload_n dX2_add_1 rfl ?_
  refine gm_getI (own := RX2) (x := (S p 4)) rfl dX2_add_2 lfX2_21 (sC_Lo_0 (by omega)) rfl rfl ?_
  refine gm_if_lt_f dX2_add_5 ⟨26, by decide⟩ c1 ?_
  refine gm_aload_n dX2_add_8 rfl ?_
  refine gm_getI (own := RX2) (x := (S p 4)) rfl dX2_add_9 lfX2_21 (sC_Lo_0 (by omega)) rfl rfl ?_
  refine gm_bipush (v := 29) dX2_add_12 (by decide) ?_
  refine gm_icmp_ge_f dX2_add_14 ⟨26, by decide⟩ c2 ?_
  refine gm_aload_n dX2_add_17 rfl ?_
  refine gm_getI (own := RX2) (x := (S p 4)) rfl dX2_add_18 lfX2_21 (sC_Lo_0 (by omega)) rfl rfl ?_
  refine gm_iconst (v := 1) dX2_add_21 (by decide) ?_
  refine gm_iadd dX2_add_22 rfl ?_
  refine gm_goto (tgt := 27) dX2_add_23 (by decide) ?_
  refine gm_put (own := RX2) rfl dX2_add_27 lfX2_21 (sC_Lo_0 (by omega)) rfl (gm_fit_int _) ?_
  refine gm_aload_n dX2_add_30 rfl ?_
  refine gm_getR (own := RX2) (q := (p + 1)) rfl dX2_add_31 lfX2_9 (sC_Lo_0 (by omega)) rfl ?_
  refine gm_aload_n dX2_add_34 rfl ?_
  refine gm_getI (own := RX2) (x := ((S p 4) + 1)) rfl dX2_add_35 lfX2_21 (sC_Lo_0 (by omega)) rfl (gm_rS _ _ _ _) ?_
  refine gm_iload_n dX2_add_38 rfl ?_
  refine gm_iast (j := j3) dX2_add_39 (sC_Lo_1 (by omega)) ij3 ?_
  refine gm_aload_n dX2_add_40 rfl ?_
  refine gm_getR (own := RX2) (q := (p + 2)) rfl dX2_add_41 lfX2_15 (sC_Lo_0 (by omega)) rfl ?_
  refine gm_aload_n dX2_add_44 rfl ?_
  refine gm_getI (own := RX2) (x := ((S p 4) + 1)) rfl dX2_add_45 lfX2_21 (sC_Lo_0 (by omega)) rfl ((gm_rp (by omega)).trans (gm_rS _ _ _ _)) ?_
  refine gm_iload_n dX2_add_48 rfl ?_
  refine gm_iast (j := j3) dX2_add_49 (sC_Lo_2 (by omega)) ij3 ?_
  refine gm_aload_n dX2_add_50 rfl ?_
  refine gm_getR (own := RX2) (q := (p + 3)) rfl dX2_add_51 lfX2_18 (sC_Lo_0 (by omega)) rfl ?_
  refine gm_aload_n dX2_add_54 rfl ?_
  refine gm_getI (own := RX2) (x := ((S p 4) + 1)) rfl dX2_add_55 lfX2_21 (sC_Lo_0 (by omega)) rfl ((gm_rp (by omega)).trans ((gm_rp (by omega)).trans (gm_rS _ _ _ _))) ?_
  refine gm_iload_n dX2_add_58 rfl ?_
  refine gm_iast (j := j3) dX2_add_59 (sC_Lo_3 (by omega)) ij3 ?_
  refine gm_aload_n dX2_add_60 rfl ?_
  refine gm_getI (own := RX2) (x := (S p 3)) rfl dX2_add_61 lfX2_25 (sC_Lo_0 (by omega)) rfl ((gm_rp (by omega)).trans ((gm_rp (by omega)).trans ((gm_rp (by omega)).trans (gm_rk (by decide))))) ?_
  refine gm_bipush (v := 30) dX2_add_64 (by decide) ?_
  refine gm_icmp_ge_t (tgt := 79) dX2_add_66 (by decide) c4 ?_
  exact gm_vret dX2_add_79 rfl
/-- X2_add 0 [5f 14t 66f] -> ret  -/
theorem PX2_add_3 {p : Nat} {a1 : Int32} {a2 : Int32} {a3 : Int32} {S : gm_Mem} (kp : p = 55 ∨ p = 113) (c1 : ¬ (S p 4) < 0) (c2 : ¬ (S p 4) < 29) (c3 : (S p 3) < 30) : gm_run gC 0 YX2_add 0 [some (.ref p), some (.int a1), some (.int a2), some (.int a3)] [] S none (gm_u (gm_u (gm_u (gm_u (gm_u S p 4 0) (p + 1) 0 a1) (p + 2) 0 a2) (p + 3) 0 a3) p 3 ((S p 3) + 1)) := by
  refine gm_aload_n dX2_add_0 rfl ?_
  refine gm_aload_n dX2_add_1 rfl ?_
  refine gm_getI (own := RX2) (x := (S p 4)) rfl dX2_add_2 lfX2_21 (sC_Lo_0 (by omega)) rfl rfl ?_
  refine gm_if_lt_f dX2_add_5 ⟨26, by decide⟩ c1 ?_
  refine gm_aload_n dX2_add_8 rfl ?_
  refine gm_getI (own := RX2) (x := (S p 4)) rfl dX2_add_9 lfX2_21 (sC_Lo_0 (by omega)) rfl rfl ?_
  refine gm_bipush (v := 29) dX2_add_12 (by decide) ?_
  refine gm_icmp_ge_t (tgt := 26) dX2_add_14 (by decide) c2 ?_
  refine gm_iconst (v := 0) dX2_add_26 (by decide) ?_
  refine gm_put (own := RX2) rfl dX2_add_27 lfX2_21 (sC_Lo_0 (by omega)) rfl (gm_fit_int _) ?_
  refine gm_aload_n dX2_add_30 rfl ?_
  refine gm_getR (own := RX2) (q := (p + 1)) rfl dX2_add_31 lfX2_9 (sC_Lo_0 (by omega)) rfl ?_
  refine gm_aload_n dX2_add_34 rfl ?_
  refine gm_getI (own := RX2) (x := 0) rfl dX2_add_35 lfX2_21 (sC_Lo_0 (by omega)) rfl (gm_rS _ _ _ _) ?_
  refine gm_iload_n dX2_add_38 rfl ?_
  refine gm_iast (j := 0) dX2_add_39 (sC_Lo_1 (by omega)) ⟨by decide, by decide⟩ ?_
  refine gm_aload_n dX2_add_40 rfl ?_
  refine gm_getR (own := RX2) (q := (p + 2)) rfl dX2_add_41 lfX2_15 (sC_Lo_0 (by omega)) rfl ?_
  refine gm_aload_n dX2_add_44 rfl ?_
  refine gm_getI (own := RX2) (x := 0) rfl dX2_add_45 lfX2_21 (sC_Lo_0 (by omega)) rfl ((gm_rp (by omega)).trans (gm_rS _ _ _ _)) ?_
  refine gm_iload_n dX2_add_48 rfl ?_
  refine gm_iast (j := 0) dX2_add_49 (sC_Lo_2 (by omega)) ⟨by decide, by decide⟩ ?_
  refine gm_aload_n dX2_add_50 rfl ?_
  refine gm_getR (own := RX2) (q := (p + 3)) rfl dX2_add_51 lfX2_18 (sC_Lo_0 (by omega)) rfl ?_
  refine gm_aload_n dX2_add_54 rfl ?_
  refine gm_getI (own := RX2) (x := 0) rfl dX2_add_55 lfX2_21 (sC_Lo_0 (by omega)) rfl ((gm_rp (by omega)).trans ((gm_rp (by omega)).trans (gm_rS _ _ _ _))) ?_
  refine gm_iload_n dX2_add_58 rfl ?_
  refine gm_iast (j := 0) dX2_add_59 (sC_Lo_3 (by omega)) ⟨by decide, by decide⟩ ?_
  refine gm_aload_n dX2_add_60 rfl ?_
  refine gm_getI (own := RX2) (x := (S p 3)) rfl dX2_add_61 lfX2_25 (sC_Lo_0 (by omega)) rfl ((gm_rp (by omega)).trans ((gm_rp (by omega)).trans ((gm_rp (by omega)).trans (gm_rk (by decide))))) ?_
  refine gm_bipush (v := 30) dX2_add_64 (by decide) ?_
  refine gm_icmp_ge_f dX2_add_66 ⟨79, by decide⟩ c3 ?_
  refine gm_aload_n dX2_add_69 rfl ?_
  refine gm_dup dX2_add_70 ?_
  refine gm_getI (own := RX2) (x := (S p 3)) rfl dX2_add_71 lfX2_25 (sC_Lo_0 (by omega)) rfl ((gm_rp (by omega)).trans ((gm_rp (by omega)).trans ((gm_rp (by omega)).trans (gm_rk (by decide))))) ?_
  refine gm_iconst (v := 1) dX2_add_74 (by decide) ?_
  refine gm_iadd dX2_add_75 rfl ?_
  refine gm_put (own := RX2) rfl dX2_add_76 lfX2_25 (sC_Lo_0 (by omega)) rfl (gm_fit_int _) ?_
  exact gm_vret dX2_add_79 rfl
/-- X2_add 0 [5f 14t 66t] -> ret  -/
theorem PX2_add_4 {p : Nat} {a1 : Int32} {a2 : Int32} {a3 : Int32} {S : gm_Mem} (kp : p = 55 ∨ p = 113) (c1 : ¬ (S p 4) < 0) (c2 : ¬ (S p 4) < 29) (c3 : ¬ (S p 3) < 30) : gm_run gC 0 YX2_add 0 [some (.ref p), some (.int a1), some (.int a2), some (.int a3)] [] S none (gm_u (gm_u (gm_u (gm_u S p 4 0) (p + 1) 0 a1) (p + 2) 0 a2) (p + 3) 0 a3) := by
  refine gm_aload_n dX2_add_0 rfl ?_
  refine gm_aload_n dX2_add_1 rfl ?_
  refine gm_getI (own := RX2) (x := (S p 4)) rfl dX2_add_2 lfX2_21 (sC_Lo_0 (by omega)) rfl rfl ?_
  refine gm_if_lt_f dX2_add_5 ⟨26, by decide⟩ c1 ?_
  refine gm_aload_n dX2_add_8 rfl ?_
  refine gm_getI (own := RX2) (x := (S p 4)) rfl dX2_add_9 lfX2_21 (sC_Lo_0 (by omega)) rfl rfl ?_
  refine gm_bipush (v := 29) dX2_add_12 (by decide) ?_
  refine gm_icmp_ge_t (tgt := 26) dX2_add_14 (by decide) c2 ?_
  refine gm_iconst (v := 0) dX2_add_26 (by decide) ?_
  refine gm_put (own := RX2) rfl dX2_add_27 lfX2_21 (sC_Lo_0 (by omega)) rfl (gm_fit_int _) ?_
  refine gm_aload_n dX2_add_30 rfl ?_
  refine gm_getR (own := RX2) (q := (p + 1)) rfl dX2_add_31 lfX2_9 (sC_Lo_0 (by omega)) rfl ?_
  refine gm_aload_n dX2_add_34 rfl ?_
  refine gm_getI (own := RX2) (x := 0) rfl dX2_add_35 lfX2_21 (sC_Lo_0 (by omega)) rfl (gm_rS _ _ _ _) ?_
  refine gm_iload_n dX2_add_38 rfl ?_
  refine gm_iast (j := 0) dX2_add_39 (sC_Lo_1 (by omega)) ⟨by decide, by decide⟩ ?_
  refine gm_aload_n dX2_add_40 rfl ?_
  refine gm_getR (own := RX2) (q := (p + 2)) rfl dX2_add_41 lfX2_15 (sC_Lo_0 (by omega)) rfl ?_
  refine gm_aload_n dX2_add_44 rfl ?_
  refine gm_getI (own := RX2) (x := 0) rfl dX2_add_45 lfX2_21 (sC_Lo_0 (by omega)) rfl ((gm_rp (by omega)).trans (gm_rS _ _ _ _)) ?_
  refine gm_iload_n dX2_add_48 rfl ?_
  refine gm_iast (j := 0) dX2_add_49 (sC_Lo_2 (by omega)) ⟨by decide, by decide⟩ ?_
  refine gm_aload_n dX2_add_50 rfl ?_
  refine gm_getR (own := RX2) (q := (p + 3)) rfl dX2_add_51 lfX2_18 (sC_Lo_0 (by omega)) rfl ?_
  refine gm_aload_n dX2_add_54 rfl ?_
  refine gm_getI (own := RX2) (x := 0) rfl dX2_add_55 lfX2_21 (sC_Lo_0 (by omega)) rfl ((gm_rp (by omega)).trans ((gm_rp (by omega)).trans (gm_rS _ _ _ _))) ?_
  refine gm_iload_n dX2_add_58 rfl ?_
  refine gm_iast (j := 0) dX2_add_59 (sC_Lo_3 (by omega)) ⟨by decide, by decide⟩ ?_
  refine gm_aload_n dX2_add_60 rfl ?_
  refine gm_getI (own := RX2) (x := (S p 3)) rfl dX2_add_61 lfX2_25 (sC_Lo_0 (by omega)) rfl ((gm_rp (by omega)).trans ((gm_rp (by omega)).trans ((gm_rp (by omega)).trans (gm_rk (by decide))))) ?_
  refine gm_bipush (v := 30) dX2_add_64 (by decide) ?_
  refine gm_icmp_ge_t (tgt := 79) dX2_add_66 (by decide) c3 ?_
  exact gm_vret dX2_add_79 rfl
/-- X2_add 0 [5t 66f] -> ret  -/
theorem PX2_add_5 {p : Nat} {a1 : Int32} {a2 : Int32} {a3 : Int32} {S : gm_Mem} (kp : p = 55 ∨ p = 113) (c1 : (S p 4) < 0) (c2 : (S p 3) < 30) : gm_run gC 0 YX2_add 0 [some (.ref p), some (.int a1), some (.int a2), some (.int a3)] [] S none (gm_u (gm_u (gm_u (gm_u (gm_u S p 4 0) (p + 1) 0 a1) (p + 2) 0 a2) (p + 3) 0 a3) p 3 ((S p 3) + 1)) := by
  refine gm_aload_n dX2_add_0 rfl ?_
  refine gm_aload_n dX2_add_1 rfl ?_
  refine gm_getI (own := RX2) (x := (S p 4)) rfl dX2_add_2 lfX2_21 (sC_Lo_0 (by omega)) rfl rfl ?_
  refine gm_if_lt_t (tgt := 26) dX2_add_5 (by decide) c1 ?_
  refine gm_iconst (v := 0) dX2_add_26 (by decide) ?_
  refine gm_put (own := RX2) rfl dX2_add_27 lfX2_21 (sC_Lo_0 (by omega)) rfl (gm_fit_int _) ?_
  refine gm_aload_n dX2_add_30 rfl ?_
  refine gm_getR (own := RX2) (q := (p + 1)) rfl dX2_add_31 lfX2_9 (sC_Lo_0 (by omega)) rfl ?_
  refine gm_aload_n dX2_add_34 rfl ?_
  refine gm_getI (own := RX2) (x := 0) rfl dX2_add_35 lfX2_21 (sC_Lo_0 (by omega)) rfl (gm_rS _ _ _ _) ?_
  refine gm_iload_n dX2_add_38 rfl ?_
  refine gm_iast (j := 0) dX2_add_39 (sC_Lo_1 (by omega)) ⟨by decide, by decide⟩ ?_
  refine gm_aload_n dX2_add_40 rfl ?_
  refine gm_getR (own := RX2) (q := (p + 2)) rfl dX2_add_41 lfX2_15 (sC_Lo_0 (by omega)) rfl ?_
  refine gm_aload_n dX2_add_44 rfl ?_
  refine gm_getI (own := RX2) (x := 0) rfl dX2_add_45 lfX2_21 (sC_Lo_0 (by omega)) rfl ((gm_rp (by omega)).trans (gm_rS _ _ _ _)) ?_
  refine gm_iload_n dX2_add_48 rfl ?_
  refine gm_iast (j := 0) dX2_add_49 (sC_Lo_2 (by omega)) ⟨by decide, by decide⟩ ?_
  refine gm_aload_n dX2_add_50 rfl ?_
  refine gm_getR (own := RX2) (q := (p + 3)) rfl dX2_add_51 lfX2_18 (sC_Lo_0 (by omega)) rfl ?_
  refine gm_aload_n dX2_add_54 rfl ?_
  refine gm_getI (own := RX2) (x := 0) rfl dX2_add_55 lfX2_21 (sC_Lo_0 (by omega)) rfl ((gm_rp (by omega)).trans ((gm_rp (by omega)).trans (gm_rS _ _ _ _))) ?_
  refine gm_iload_n dX2_add_58 rfl ?_
  refine gm_iast (j := 0) dX2_add_59 (sC_Lo_3 (by omega)) ⟨by decide, by decide⟩ ?_
  refine gm_aload_n dX2_add_60 rfl ?_
  refine gm_getI (own := RX2) (x := (S p 3)) rfl dX2_add_61 lfX2_25 (sC_Lo_0 (by omega)) rfl ((gm_rp (by omega)).trans ((gm_rp (by omega)).trans ((gm_rp (by omega)).trans (gm_rk (by decide))))) ?_
  refine gm_bipush (v := 30) dX2_add_64 (by decide) ?_
  refine gm_icmp_ge_f dX2_add_66 ⟨79, by decide⟩ c2 ?_
  refine gm_aload_n dX2_add_69 rfl ?_
  refine gm_dup dX2_add_70 ?_
  refine gm_getI (own := RX2) (x := (S p 3)) rfl dX2_add_71 lfX2_25 (sC_Lo_0 (by omega)) rfl ((gm_rp (by omega)).trans ((gm_rp (by omega)).trans ((gm_rp (by omega)).trans (gm_rk (by decide))))) ?_
  refine gm_iconst (v := 1) dX2_add_74 (by decide) ?_
  refine gm_iadd dX2_add_75 rfl ?_
  refine gm_put (own := RX2) rfl dX2_add_76 lfX2_25 (sC_Lo_0 (by omega)) rfl (gm_fit_int _) ?_
  exact gm_vret dX2_add_79 rfl
/-- X2_add 0 [5t 66t] -> ret  -/
theorem PX2_add_6 {p : Nat} {a1 : Int32} {a2 : Int32} {a3 : Int32} {S : gm_Mem} (kp : p = 55 ∨ p = 113) (c1 : (S p 4) < 0) (c2 : ¬ (S p 3) < 30) : gm_run gC 0 YX2_add 0 [some (.ref p), some (.int a1), some (.int a2), some (.int a3)] [] S none (gm_u (gm_u (gm_u (gm_u S p 4 0) (p + 1) 0 a1) (p + 2) 0 a2) (p + 3) 0 a3) := by
  refine gm_aload_n dX2_add_0 rfl ?_
  refine gm_aload_n dX2_add_1 rfl ?_
  refine gm_getI (own := RX2) (x := (S p 4)) rfl dX2_add_2 lfX2_21 (sC_Lo_0 (by omega)) rfl rfl ?_
  refine gm_if_lt_t (tgt := 26) dX2_add_5 (by decide) c1 ?_
  refine gm_iconst (v := 0) dX2_add_26 (by decide) ?_
  refine gm_put (own := RX2) rfl dX2_add_27 lfX2_21 (sC_Lo_0 (by omega)) rfl (gm_fit_int _) ?_
  refine gm_aload_n dX2_add_30 rfl ?_
  refine gm_getR (own := RX2) (q := (p + 1)) rfl dX2_add_31 lfX2_9 (sC_Lo_0 (by omega)) rfl ?_
  refine gm_aload_n dX2_add_34 rfl ?_
  refine gm_getI (own := RX2) (x := 0) rfl dX2_add_35 lfX2_21 (sC_Lo_0 (by omega)) rfl (gm_rS _ _ _ _) ?_
  refine gm_iload_n dX2_add_38 rfl ?_
  refine gm_iast (j := 0) dX2_add_39 (sC_Lo_1 (by omega)) ⟨by decide, by decide⟩ ?_
  refine gm_aload_n dX2_add_40 rfl ?_
  refine gm_getR (own := RX2) (q := (p + 2)) rfl dX2_add_41 lfX2_15 (sC_Lo_0 (by omega)) rfl ?_
  refine gm_aload_n dX2_add_44 rfl ?_
  refine gm_getI (own := RX2) (x := 0) rfl dX2_add_45 lfX2_21 (sC_Lo_0 (by omega)) rfl ((gm_rp (by omega)).trans (gm_rS _ _ _ _)) ?_
  refine gm_iload_n dX2_add_48 rfl ?_
  refine gm_iast (j := 0) dX2_add_49 (sC_Lo_2 (by omega)) ⟨by decide, by decide⟩ ?_
  refine gm_aload_n dX2_add_50 rfl ?_
  refine gm_getR (own := RX2) (q := (p + 3)) rfl dX2_add_51 lfX2_18 (sC_Lo_0 (by omega)) rfl ?_
  refine gm_aload_n dX2_add_54 rfl ?_
  refine gm_getI (own := RX2) (x := 0) rfl dX2_add_55 lfX2_21 (sC_Lo_0 (by omega)) rfl ((gm_rp (by omega)).trans ((gm_rp (by omega)).trans (gm_rS _ _ _ _))) ?_
  refine gm_iload_n dX2_add_58 rfl ?_
  refine gm_iast (j := 0) dX2_add_59 (sC_Lo_3 (by omega)) ⟨by decide, by decide⟩ ?_
  refine gm_aload_n dX2_add_60 rfl ?_
  refine gm_getI (own := RX2) (x := (S p 3)) rfl dX2_add_61 lfX2_25 (sC_Lo_0 (by omega)) rfl ((gm_rp (by omega)).trans ((gm_rp (by omega)).trans ((gm_rp (by omega)).trans (gm_rk (by decide))))) ?_
  refine gm_bipush (v := 30) dX2_add_64 (by decide) ?_
  refine gm_icmp_ge_t (tgt := 79) dX2_add_66 (by decide) c2 ?_
  exact gm_vret dX2_add_79 rfl
/-- X2_copyFrom 0 [] -> ret  -/
theorem PX2_copyFrom_1 {p : Nat} {o : Nat} {S : gm_Mem} (kp : p = 55 ∨ p = 113) (ko : o = 55 ∨ o = 113) (kne : p ≠ o) : gm_run gC 1 YX2_copyFrom 0 [some (.ref p), some (.ref o)] [] S none (gm_u (gm_u (gm_cpy (gm_cpy (gm_cpy S (p + 1) (o + 1) 30) (p + 2) (o + 2) 30) (p + 3) (o + 3) 30) p 3 (S o 3)) p 4 (S o 4)) := by
  refine gm_aload_n dX2_copyFrom_0 rfl ?_
  refine gm_getR (own := RX2) (q := (o + 1)) rfl dX2_copyFrom_1 lfX2_9 (sC_Lo_0 (by omega)) rfl ?_
  refine gm_iconst (v := 0) dX2_copyFrom_4 (by decide) ?_
  refine gm_aload_n dX2_copyFrom_5 rfl ?_
  refine gm_getR (own := RX2) (q := (p + 1)) rfl dX2_copyFrom_6 lfX2_9 (sC_Lo_0 (by omega)) rfl ?_
  refine gm_iconst (v := 0) dX2_copyFrom_9 (by decide) ?_
  refine gm_bipush (v := 30) dX2_copyFrom_10 (by decide) ?_
  refine gm_copy (n := 30) (t := 0) (own := RX2) rfl dX2_copyFrom_12 llX2_28 (sC_Lo_1 (by omega)) (sC_Lo_1 (by omega)) (by decide) ⟨by decide, by decide⟩ (fun q => absurd q (by decide)) (by decide) (by decide) gm_acn gm_acs gm_aci ?_
  refine gm_aload_n dX2_copyFrom_15 rfl ?_
  refine gm_getR (own := RX2) (q := (o + 2)) rfl dX2_copyFrom_16 lfX2_15 (sC_Lo_0 (by omega)) rfl ?_
  refine gm_iconst (v := 0) dX2_copyFrom_19 (by decide) ?_
  refine gm_aload_n dX2_copyFrom_20 rfl ?_
  refine gm_getR (own := RX2) (q := (p + 2)) rfl dX2_copyFrom_21 lfX2_15 (sC_Lo_0 (by omega)) rfl ?_
  refine gm_iconst (v := 0) dX2_copyFrom_24 (by decide) ?_
  refine gm_bipush (v := 30) dX2_copyFrom_25 (by decide) ?_
  refine gm_copy (n := 30) (t := 0) (own := RX2) rfl dX2_copyFrom_27 llX2_28 (sC_Lo_2 (by omega)) (sC_Lo_2 (by omega)) (by decide) ⟨by decide, by decide⟩ (fun q => absurd q (by decide)) (by decide) (by decide) gm_acn gm_acs gm_aci ?_
  refine gm_aload_n dX2_copyFrom_30 rfl ?_
  refine gm_getR (own := RX2) (q := (o + 3)) rfl dX2_copyFrom_31 lfX2_18 (sC_Lo_0 (by omega)) rfl ?_
  refine gm_iconst (v := 0) dX2_copyFrom_34 (by decide) ?_
  refine gm_aload_n dX2_copyFrom_35 rfl ?_
  refine gm_getR (own := RX2) (q := (p + 3)) rfl dX2_copyFrom_36 lfX2_18 (sC_Lo_0 (by omega)) rfl ?_
  refine gm_iconst (v := 0) dX2_copyFrom_39 (by decide) ?_
  refine gm_bipush (v := 30) dX2_copyFrom_40 (by decide) ?_
  refine gm_copy (n := 30) (t := 0) (own := RX2) rfl dX2_copyFrom_42 llX2_28 (sC_Lo_3 (by omega)) (sC_Lo_3 (by omega)) (by decide) ⟨by decide, by decide⟩ (fun q => absurd q (by decide)) (by decide) (by decide) gm_acn gm_acs gm_aci ?_
  refine gm_aload_n dX2_copyFrom_45 rfl ?_
  refine gm_aload_n dX2_copyFrom_46 rfl ?_
  refine gm_getI (own := RX2) (x := (S o 3)) rfl dX2_copyFrom_47 lfX2_25 (sC_Lo_0 (by omega)) rfl ((gm_cq (by omega)).trans ((gm_cq (by omega)).trans (gm_cq (by omega)))) ?_
  refine gm_put (own := RX2) rfl dX2_copyFrom_50 lfX2_25 (sC_Lo_0 (by omega)) rfl (gm_fit_int _) ?_
  refine gm_aload_n dX2_copyFrom_53 rfl ?_
  refine gm_aload_n dX2_copyFrom_54 rfl ?_
  refine gm_getI (own := RX2) (x := (S o 4)) rfl dX2_copyFrom_55 lfX2_21 (sC_Lo_0 (by omega)) rfl ((gm_rp (by omega)).trans ((gm_cq (by omega)).trans ((gm_cq (by omega)).trans (gm_cq (by omega))))) ?_
  refine gm_put (own := RX2) rfl dX2_copyFrom_58 lfX2_21 (sC_Lo_0 (by omega)) rfl (gm_fit_int _) ?_
  exact gm_vret dX2_copyFrom_61 rfl
/-- J9_floorMod_7cf53 0 [7f 11f] -> ret  -/
theorem PJ9_floorMod_7cf53_1 {a1 : Int32} {a2 : Int32} {S : gm_Mem} (z1 : ¬ a2 = 0) (c2 : (a1 ^^^ a2) < 0) (c3 : ¬ (gm_rem a1 a2) = 0) : gm_run gC 0 YJ9_floorMod_7cf53 0 [some (.int a1), some (.int a2), none] [] S (some (.int ((gm_rem a1 a2) + a2))) S := by
  refine gm_iload_n dJ9_floorMod_7cf53_0 rfl ?_
  refine gm_iload_n dJ9_floorMod_7cf53_1 rfl ?_
  refine gm_irem (v := (gm_rem a1 a2)) dJ9_floorMod_7cf53_2 z1 rfl ?_
  refine gm_istore_n (L' := [some (.int a1), some (.int a2), some (.int (gm_rem a1 a2))]) dJ9_floorMod_7cf53_3 (by decide) rfl ?_
  refine gm_iload_n dJ9_floorMod_7cf53_4 rfl ?_
  refine gm_iload_n dJ9_floorMod_7cf53_5 rfl ?_
  refine gm_ixor dJ9_floorMod_7cf53_6 rfl ?_
  refine gm_if_ge_f dJ9_floorMod_7cf53_7 ⟨18, by decide⟩ c2 ?_
  refine gm_iload_n dJ9_floorMod_7cf53_10 rfl ?_
  refine gm_if_eq_f dJ9_floorMod_7cf53_11 ⟨18, by decide⟩ c3 ?_
  refine gm_iload_n dJ9_floorMod_7cf53_14 rfl ?_
  refine gm_iload_n dJ9_floorMod_7cf53_15 rfl ?_
  refine gm_iadd dJ9_floorMod_7cf53_16 rfl ?_
  exact gm_iret dJ9_floorMod_7cf53_17 rfl
/-- J9_floorMod_7cf53 0 [7f 11t] -> ret  -/
theorem PJ9_floorMod_7cf53_2 {a1 : Int32} {a2 : Int32} {S : gm_Mem} (z1 : ¬ a2 = 0) (c2 : (a1 ^^^ a2) < 0) (c3 : (gm_rem a1 a2) = 0) : gm_run gC 0 YJ9_floorMod_7cf53 0 [some (.int a1), some (.int a2), none] [] S (some (.int (gm_rem a1 a2))) S := by
  refine gm_iload_n dJ9_floorMod_7cf53_0 rfl ?_
  refine gm_iload_n dJ9_floorMod_7cf53_1 rfl ?_
  refine gm_irem (v := (gm_rem a1 a2)) dJ9_floorMod_7cf53_2 z1 rfl ?_
  refine gm_istore_n (L' := [some (.int a1), some (.int a2), some (.int (gm_rem a1 a2))]) dJ9_floorMod_7cf53_3 (by decide) rfl ?_
  refine gm_iload_n dJ9_floorMod_7cf53_4 rfl ?_
  refine gm_iload_n dJ9_floorMod_7cf53_5 rfl ?_
  refine gm_ixor dJ9_floorMod_7cf53_6 rfl ?_
  refine gm_if_ge_f dJ9_floorMod_7cf53_7 ⟨18, by decide⟩ c2 ?_
  refine gm_iload_n dJ9_floorMod_7cf53_10 rfl ?_
  refine gm_if_eq_t (tgt := 18) dJ9_floorMod_7cf53_11 (by decide) c3 ?_
  refine gm_iload_n dJ9_floorMod_7cf53_18 rfl ?_
  exact gm_iret dJ9_floorMod_7cf53_19 rfl
/-- J9_floorMod_7cf53 0 [7t] -> ret  -/
theorem PJ9_floorMod_7cf53_3 {a1 : Int32} {a2 : Int32} {S : gm_Mem} (z1 : ¬ a2 = 0) (c2 : ¬ (a1 ^^^ a2) < 0) : gm_run gC 0 YJ9_floorMod_7cf53 0 [some (.int a1), some (.int a2), none] [] S (some (.int (gm_rem a1 a2))) S := by
  refine gm_iload_n dJ9_floorMod_7cf53_0 rfl ?_
  refine gm_iload_n dJ9_floorMod_7cf53_1 rfl ?_
  refine gm_irem (v := (gm_rem a1 a2)) dJ9_floorMod_7cf53_2 z1 rfl ?_
  refine gm_istore_n (L' := [some (.int a1), some (.int a2), some (.int (gm_rem a1 a2))]) dJ9_floorMod_7cf53_3 (by decide) rfl ?_
  refine gm_iload_n dJ9_floorMod_7cf53_4 rfl ?_
  refine gm_iload_n dJ9_floorMod_7cf53_5 rfl ?_
  refine gm_ixor dJ9_floorMod_7cf53_6 rfl ?_
  refine gm_if_ge_t (tgt := 18) dJ9_floorMod_7cf53_7 (by decide) c2 ?_
  refine gm_iload_n dJ9_floorMod_7cf53_18 rfl ?_
  exact gm_iret dJ9_floorMod_7cf53_19 rfl
/-- X2_part 0 [1f 9f] -> ret  -/
theorem PX2_part_1 {p : Nat} {a1 : Int32} {a2 : Int32} {S : gm_Mem} (kp : p = 55 ∨ p = 113) (c1 : ¬ a1 < 0) (c2 : ¬ a1 < (S p 3)) : gm_run gC 1 YX2_part 0 [some (.ref p), some (.int a1), some (.int a2), none] [] S (some (.int (-1000000001))) S := by
  refine gm_iload_n dX2_part_0 rfl ?_
  refine gm_if_lt_f dX2_part_1 ⟨12, by decide⟩ c1 ?_
  refine gm_iload_n dX2_part_4 rfl ?_
  refine gm_aload_n dX2_part_5 rfl ?_
  refine gm_getI (own := RX2) (x := (S p 3)) rfl dX2_part_6 lfX2_25 (sC_Lo_0 (by omega)) rfl rfl ?_
  refine gm_icmp_lt_f dX2_part_9 ⟨15, by decide⟩ c2 ?_
  refine gm_ldc (own := RX2) rfl lcX2_34 dX2_part_12 ?_
  exact gm_iret dX2_part_14 rfl
/-- X2_part 0 [1f 9t 28=0] -> ret  -/
theorem PX2_part_2 {p : Nat} {a1 : Int32} {a2 : Int32} {S : gm_Mem} {r3 : Int32} {j6 : Nat} (kp : p = 55 ∨ p = 113) (c1 : ¬ a1 < 0) (c2 : a1 < (S p 3)) (h4 : gm_run gC 0 YJ9_floorMod_7cf53 0 [some (.int ((S p 4) - a1)), some (.int 30), none] [] S (some (.int r3)) S) (c5 : a2 = 0) (ij6 : gm_ix r3 j6 30) : gm_run gC 1 YX2_part 0 [some (.ref p), some (.int a1), some (.int a2), none] [] S (some (.int (S (p + 1) j6))) S := by
  refine gm_iload_n dX2_part_0 rfl ?_
  refine gm_if_lt_f dX2_part_1 ⟨12, by decide⟩ c1 ?_
  refine gm_iload_n dX2_part_4 rfl ?_
  refine gm_aload_n dX2_part_5 rfl ?_
  refine gm_getI (own := RX2) (x := (S p 3)) rfl dX2_part_6 lfX2_25 (sC_Lo_0 (by omega)) rfl rfl ?_
  refine gm_icmp_lt_t (tgt := 15) dX2_part_9 (by decide) c2 ?_
  refine gm_aload_n dX2_part_15 rfl ?_
  refine gm_getI (own := RX2) (x := (S p 4)) rfl dX2_part_16 lfX2_21 (sC_Lo_0 (by omega)) rfl rfl ?_
  refine gm_iload_n dX2_part_19 rfl ?_
  refine gm_isub dX2_part_20 rfl ?_
  refine gm_bipush (v := 30) dX2_part_21 (by decide) ?_
  refine gm_callS (r1 := (some (.int r3))) (own := RX2) rfl dX2_part_23 llX2_35 msJ9_floorMod_7cf53 [.int ((S p 4) - a1), .int 30] [] rfl rfl (Nat.le_of_ble_eq_true rfl) (by decide) rfl h4 rfl ?_
  refine gm_istore_n (L' := [some (.ref p), some (.int a1), some (.int a2), some (.int r3)]) dX2_part_26 (by decide) rfl ?_
  refine gm_iload_n dX2_part_27 rfl ?_
  refine gm_tabEq (v := 0) (tgt := 56) dX2_part_28 c5 (by decide) (by decide) rfl (by decide) ?_
  refine gm_aload_n dX2_part_56 rfl ?_
  refine gm_getR (own := RX2) (q := (p + 1)) rfl dX2_part_57 lfX2_9 (sC_Lo_0 (by omega)) rfl ?_
  refine gm_iload_n dX2_part_60 rfl ?_
  refine gm_iald (j := j6) (x := (S (p + 1) j6)) dX2_part_61 (sC_Lo_1 (by omega)) ij6 rfl ?_
  exact gm_iret dX2_part_62 rfl
/-- X2_part 0 [1f 9t 28=1] -> ret  -/
theorem PX2_part_3 {p : Nat} {a1 : Int32} {a2 : Int32} {S : gm_Mem} {r3 : Int32} {j6 : Nat} (kp : p = 55 ∨ p = 113) (c1 : ¬ a1 < 0) (c2 : a1 < (S p 3)) (h4 : gm_run gC 0 YJ9_floorMod_7cf53 0 [some (.int ((S p 4) - a1)), some (.int 30), none] [] S (some (.int r3)) S) (c5 : a2 = 1) (ij6 : gm_ix r3 j6 30) : gm_run gC 1 YX2_part 0 [some (.ref p), some (.int a1), some (.int a2), none] [] S (some (.int (S (p + 2) j6))) S := by
  refine gm_iload_n dX2_part_0 rfl ?_
  refine gm_if_lt_f dX2_part_1 ⟨12, by decide⟩ c1 ?_
  refine gm_iload_n dX2_part_4 rfl ?_
  refine gm_aload_n dX2_part_5 rfl ?_
  refine gm_getI (own := RX2) (x := (S p 3)) rfl dX2_part_6 lfX2_25 (sC_Lo_0 (by omega)) rfl rfl ?_
  refine gm_icmp_lt_t (tgt := 15) dX2_part_9 (by decide) c2 ?_
  refine gm_aload_n dX2_part_15 rfl ?_
  refine gm_getI (own := RX2) (x := (S p 4)) rfl dX2_part_16 lfX2_21 (sC_Lo_0 (by omega)) rfl rfl ?_
  refine gm_iload_n dX2_part_19 rfl ?_
  refine gm_isub dX2_part_20 rfl ?_
  refine gm_bipush (v := 30) dX2_part_21 (by decide) ?_
  refine gm_callS (r1 := (some (.int r3))) (own := RX2) rfl dX2_part_23 llX2_35 msJ9_floorMod_7cf53 [.int ((S p 4) - a1), .int 30] [] rfl rfl (Nat.le_of_ble_eq_true rfl) (by decide) rfl h4 rfl ?_
  refine gm_istore_n (L' := [some (.ref p), some (.int a1), some (.int a2), some (.int r3)]) dX2_part_26 (by decide) rfl ?_
  refine gm_iload_n dX2_part_27 rfl ?_
  refine gm_tabEq (v := 1) (tgt := 63) dX2_part_28 c5 (by decide) (by decide) rfl (by decide) ?_
  refine gm_aload_n dX2_part_63 rfl ?_
  refine gm_getR (own := RX2) (q := (p + 2)) rfl dX2_part_64 lfX2_15 (sC_Lo_0 (by omega)) rfl ?_
  refine gm_iload_n dX2_part_67 rfl ?_
  refine gm_iald (j := j6) (x := (S (p + 2) j6)) dX2_part_68 (sC_Lo_2 (by omega)) ij6 rfl ?_
  exact gm_iret dX2_part_69 rfl
/-- X2_part 0 [1f 9t 28=2] -> ret  -/
theorem PX2_part_4 {p : Nat} {a1 : Int32} {a2 : Int32} {S : gm_Mem} {r3 : Int32} {j6 : Nat} (kp : p = 55 ∨ p = 113) (c1 : ¬ a1 < 0) (c2 : a1 < (S p 3)) (h4 : gm_run gC 0 YJ9_floorMod_7cf53 0 [some (.int ((S p 4) - a1)), some (.int 30), none] [] S (some (.int r3)) S) (c5 : a2 = 2) (ij6 : gm_ix r3 j6 30) : gm_run gC 1 YX2_part 0 [some (.ref p), some (.int a1), some (.int a2), none] [] S (some (.int (S (p + 3) j6))) S := by
  refine gm_iload_n dX2_part_0 rfl ?_
  refine gm_if_lt_f dX2_part_1 ⟨12, by decide⟩ c1 ?_
  refine gm_iload_n dX2_part_4 rfl ?_
  refine gm_aload_n dX2_part_5 rfl ?_
  refine gm_getI (own := RX2) (x := (S p 3)) rfl dX2_part_6 lfX2_25 (sC_Lo_0 (by omega)) rfl rfl ?_
  refine gm_icmp_lt_t (tgt := 15) dX2_part_9 (by decide) c2 ?_
  refine gm_aload_n dX2_part_15 rfl ?_
  refine gm_getI (own := RX2) (x := (S p 4)) rfl dX2_part_16 lfX2_21 (sC_Lo_0 (by omega)) rfl rfl ?_
  refine gm_iload_n dX2_part_19 rfl ?_
  refine gm_isub dX2_part_20 rfl ?_
  refine gm_bipush (v := 30) dX2_part_21 (by decide) ?_
  refine gm_callS (r1 := (some (.int r3))) (own := RX2) rfl dX2_part_23 llX2_35 msJ9_floorMod_7cf53 [.int ((S p 4) - a1), .int 30] [] rfl rfl (Nat.le_of_ble_eq_true rfl) (by decide) rfl h4 rfl ?_
  refine gm_istore_n (L' := [some (.ref p), some (.int a1), some (.int a2), some (.int r3)]) dX2_part_26 (by decide) rfl ?_
  refine gm_iload_n dX2_part_27 rfl ?_
  refine gm_tabEq (v := 2) (tgt := 70) dX2_part_28 c5 (by decide) (by decide) rfl (by decide) ?_
  refine gm_aload_n dX2_part_70 rfl ?_
  refine gm_getR (own := RX2) (q := (p + 3)) rfl dX2_part_71 lfX2_18 (sC_Lo_0 (by omega)) rfl ?_
  refine gm_iload_n dX2_part_74 rfl ?_
  refine gm_iald (j := j6) (x := (S (p + 3) j6)) dX2_part_75 (sC_Lo_3 (by omega)) ij6 rfl ?_
  exact gm_iret dX2_part_76 rfl
/-- X2_part 0 [1f 9t 28out] -> ret  -/
theorem PX2_part_5 {p : Nat} {a1 : Int32} {a2 : Int32} {S : gm_Mem} {r3 : Int32} (kp : p = 55 ∨ p = 113) (c1 : ¬ a1 < 0) (c2 : a1 < (S p 3)) (h4 : gm_run gC 0 YJ9_floorMod_7cf53 0 [some (.int ((S p 4) - a1)), some (.int 30), none] [] S (some (.int r3)) S) (c5 : a2.toInt < 0 ∨ 2 < a2.toInt) : gm_run gC 1 YX2_part 0 [some (.ref p), some (.int a1), some (.int a2), none] [] S (some (.int (-1000000002))) S := by
  refine gm_iload_n dX2_part_0 rfl ?_
  refine gm_if_lt_f dX2_part_1 ⟨12, by decide⟩ c1 ?_
  refine gm_iload_n dX2_part_4 rfl ?_
  refine gm_aload_n dX2_part_5 rfl ?_
  refine gm_getI (own := RX2) (x := (S p 3)) rfl dX2_part_6 lfX2_25 (sC_Lo_0 (by omega)) rfl rfl ?_
  refine gm_icmp_lt_t (tgt := 15) dX2_part_9 (by decide) c2 ?_
  refine gm_aload_n dX2_part_15 rfl ?_
  refine gm_getI (own := RX2) (x := (S p 4)) rfl dX2_part_16 lfX2_21 (sC_Lo_0 (by omega)) rfl rfl ?_
  refine gm_iload_n dX2_part_19 rfl ?_
  refine gm_isub dX2_part_20 rfl ?_
  refine gm_bipush (v := 30) dX2_part_21 (by decide) ?_
  refine gm_callS (r1 := (some (.int r3))) (own := RX2) rfl dX2_part_23 llX2_35 msJ9_floorMod_7cf53 [.int ((S p 4) - a1), .int 30] [] rfl rfl (Nat.le_of_ble_eq_true rfl) (by decide) rfl h4 rfl ?_
  refine gm_istore_n (L' := [some (.ref p), some (.int a1), some (.int a2), some (.int r3)]) dX2_part_26 (by decide) rfl ?_
  refine gm_iload_n dX2_part_27 rfl ?_
  refine gm_tabOut (tgt := 77) dX2_part_28 c5 (by decide) ?_
  refine gm_ldc (own := RX2) rfl lcX2_41 dX2_part_77 ?_
  exact gm_iret dX2_part_79 rfl
/-- X2_part 0 [1t] -> ret  -/
theorem PX2_part_6 {p : Nat} {a1 : Int32} {a2 : Int32} {S : gm_Mem} (kp : p = 55 ∨ p = 113) (c1 : a1 < 0) : gm_run gC 1 YX2_part 0 [some (.ref p), some (.int a1), some (.int a2), none] [] S (some (.int (-1000000001))) S := by
  refine gm_iload_n dX2_part_0 rfl ?_
  refine gm_if_lt_t (tgt := 12) dX2_part_1 (by decide) c1 ?_
  refine gm_ldc (own := RX2) rfl lcX2_34 dX2_part_12 ?_
  exact gm_iret dX2_part_14 rfl
/-- X3_isFull 0 [6f] -> ret  -/
theorem PX3_isFull_1 {p : Nat} {S : gm_Mem} (kp : p = 26 ∨ p = 84) (c1 : ¬ (S p 1) < 24) : gm_run gC 0 YX3_isFull 0 [some (.ref p)] [] S (some (.int 1)) S := by
  refine gm_aload_n dX3_isFull_0 rfl ?_
  refine gm_getI (own := RX3) (x := (S p 1)) rfl dX3_isFull_1 lfX3_18 (sC_Ne_0 (by omega)) rfl rfl ?_
  refine gm_bipush (v := 24) dX3_isFull_4 (by decide) ?_
  refine gm_icmp_lt_f dX3_isFull_6 ⟨13, by decide⟩ c1 ?_
  refine gm_iconst (v := 1) dX3_isFull_9 (by decide) ?_
  refine gm_goto (tgt := 14) dX3_isFull_10 (by decide) ?_
  exact gm_zret dX3_isFull_14 rfl gm_fit_1
/-- X3_isFull 0 [6t] -> ret  -/
theorem PX3_isFull_2 {p : Nat} {S : gm_Mem} (kp : p = 26 ∨ p = 84) (c1 : (S p 1) < 24) : gm_run gC 0 YX3_isFull 0 [some (.ref p)] [] S (some (.int 0)) S := by
  refine gm_aload_n dX3_isFull_0 rfl ?_
  refine gm_getI (own := RX3) (x := (S p 1)) rfl dX3_isFull_1 lfX3_18 (sC_Ne_0 (by omega)) rfl rfl ?_
  refine gm_bipush (v := 24) dX3_isFull_4 (by decide) ?_
  refine gm_icmp_lt_t (tgt := 13) dX3_isFull_6 (by decide) c1 ?_
  refine gm_iconst (v := 0) dX3_isFull_13 (by decide) ?_
  exact gm_zret dX3_isFull_14 rfl gm_fit_0
/-- X3_at 0 [1f 9f 15f] -> ret  -/
theorem PX3_at_1 {p : Nat} {a1 : Int32} {S : gm_Mem} (kp : p = 26 ∨ p = 84) (c1 : ¬ a1 < 0) (c2 : a1 < (S p 1)) (c3 : ¬ a1 < 24) : gm_run gC 0 YX3_at 0 [some (.ref p), some (.int a1)] [] S (some .null) S := by
  refine gm_iload_n dX3_at_0 rfl ?_
  refine gm_if_lt_f dX3_at_1 ⟨18, by decide⟩ c1 ?_
  refine gm_iload_n dX3_at_4 rfl ?_
  refine gm_aload_n dX3_at_5 rfl ?_
  refine gm_getI (own := RX3) (x := (S p 1)) rfl dX3_at_6 lfX3_18 (sC_Ne_0 (by omega)) rfl rfl ?_
  refine gm_icmp_ge_f dX3_at_9 ⟨18, by decide⟩ c2 ?_
  refine gm_iload_n dX3_at_12 rfl ?_
  refine gm_bipush (v := 24) dX3_at_13 (by decide) ?_
  refine gm_icmp_lt_f dX3_at_15 ⟨20, by decide⟩ c3 ?_
  refine gm_null dX3_at_18 ?_
  exact gm_nret dX3_at_19 rfl
/-- X3_at 0 [1f 9f 15t] -> ret  -/
theorem PX3_at_2 {p : Nat} {a1 : Int32} {S : gm_Mem} {j4 : Nat} {q5 : Nat} (kp : p = 26 ∨ p = 84) (c1 : ¬ a1 < 0) (c2 : a1 < (S p 1)) (c3 : a1 < 24) (ij4 : gm_ix a1 j4 24) (hq5 : (S (p + 1) j4).toNatClampNeg = q5) (kq5 : (28 ≤ q5 ∧ q5 < 52) ∨ (86 ≤ q5 ∧ q5 < 110)) : gm_run gC 0 YX3_at 0 [some (.ref p), some (.int a1)] [] S (some (.ref q5)) S := by
  refine gm_iload_n dX3_at_0 rfl ?_
  refine gm_if_lt_f dX3_at_1 ⟨18, by decide⟩ c1 ?_
  refine gm_iload_n dX3_at_4 rfl ?_
  refine gm_aload_n dX3_at_5 rfl ?_
  refine gm_getI (own := RX3) (x := (S p 1)) rfl dX3_at_6 lfX3_18 (sC_Ne_0 (by omega)) rfl rfl ?_
  refine gm_icmp_ge_f dX3_at_9 ⟨18, by decide⟩ c2 ?_
  refine gm_iload_n dX3_at_12 rfl ?_
  refine gm_bipush (v := 24) dX3_at_13 (by decide) ?_
  refine gm_icmp_lt_t (tgt := 20) dX3_at_15 (by decide) c3 ?_
  refine gm_aload_n dX3_at_20 rfl ?_
  refine gm_getR (own := RX3) (q := (p + 1)) rfl dX3_at_21 lfX3_11 (sC_Ne_0 (by omega)) rfl ?_
  refine gm_iload_n dX3_at_24 rfl ?_
  refine gm_aald (j := j4) dX3_at_25 (sC_Ne_1 (by omega)) ij4 hq5 ?_
  exact gm_aret dX3_at_26 rfl
/-- X3_at 0 [1f 9t] -> ret  -/
theorem PX3_at_3 {p : Nat} {a1 : Int32} {S : gm_Mem} (kp : p = 26 ∨ p = 84) (c1 : ¬ a1 < 0) (c2 : ¬ a1 < (S p 1)) : gm_run gC 0 YX3_at 0 [some (.ref p), some (.int a1)] [] S (some .null) S := by
  refine gm_iload_n dX3_at_0 rfl ?_
  refine gm_if_lt_f dX3_at_1 ⟨18, by decide⟩ c1 ?_
  refine gm_iload_n dX3_at_4 rfl ?_
  refine gm_aload_n dX3_at_5 rfl ?_
  refine gm_getI (own := RX3) (x := (S p 1)) rfl dX3_at_6 lfX3_18 (sC_Ne_0 (by omega)) rfl rfl ?_
  refine gm_icmp_ge_t (tgt := 18) dX3_at_9 (by decide) c2 ?_
  refine gm_null dX3_at_18 ?_
  exact gm_nret dX3_at_19 rfl
/-- X3_at 0 [1t] -> ret  -/
theorem PX3_at_4 {p : Nat} {a1 : Int32} {S : gm_Mem} (kp : p = 26 ∨ p = 84) (c1 : a1 < 0) : gm_run gC 0 YX3_at 0 [some (.ref p), some (.int a1)] [] S (some .null) S := by
  refine gm_iload_n dX3_at_0 rfl ?_
  refine gm_if_lt_t (tgt := 18) dX3_at_1 (by decide) c1 ?_
  refine gm_null dX3_at_18 ?_
  exact gm_nret dX3_at_19 rfl
/-- X3_extend 0 [4f 13f] -> ret  -/
theorem PX3_extend_1 {p : Nat} {S : gm_Mem} (kp : p = 26 ∨ p = 84) (c1 : ¬ (S p 1) < 0) (c2 : ¬ (S p 1) < 24) : gm_run gC 0 YX3_extend 0 [some (.ref p)] [] S (some .null) S := by
  refine gm_aload_n dX3_extend_0 rfl ?_
  refine gm_getI (own := RX3) (x := (S p 1)) rfl dX3_extend_1 lfX3_18 (sC_Ne_0 (by omega)) rfl rfl ?_
  refine gm_if_lt_f dX3_extend_4 ⟨16, by decide⟩ c1 ?_
  refine gm_aload_n dX3_extend_7 rfl ?_
  refine gm_getI (own := RX3) (x := (S p 1)) rfl dX3_extend_8 lfX3_18 (sC_Ne_0 (by omega)) rfl rfl ?_
  refine gm_bipush (v := 24) dX3_extend_11 (by decide) ?_
  refine gm_icmp_lt_f dX3_extend_13 ⟨18, by decide⟩ c2 ?_
  refine gm_null dX3_extend_16 ?_
  exact gm_nret dX3_extend_17 rfl
/-- X3_extend 0 [4f 13t] -> ret  -/
theorem PX3_extend_2 {p : Nat} {S : gm_Mem} {j3 : Nat} {q4 : Nat} (kp : p = 26 ∨ p = 84) (c1 : ¬ (S p 1) < 0) (c2 : (S p 1) < 24) (ij3 : gm_ix (((S p 1) + 1) - 1) j3 24) (hq4 : (S (p + 1) j3).toNatClampNeg = q4) (kq4 : (28 ≤ q4 ∧ q4 < 52) ∨ (86 ≤ q4 ∧ q4 < 110)) : gm_run gC 0 YX3_extend 0 [some (.ref p)] [] S (some (.ref q4)) (gm_u S p 1 ((S p 1) + 1)) := by
  refine gm_aload_n dX3_extend_0 rfl ?_
  refine gm_getI (own := RX3) (x := (S p 1)) rfl dX3_extend_1 lfX3_18 (sC_Ne_0 (by omega)) rfl rfl ?_
  refine gm_if_lt_f dX3_extend_4 ⟨16, by decide⟩ c1 ?_
  refine gm_aload_n dX3_extend_7 rfl ?_
  refine gm_getI (own := RX3) (x := (S p 1)) rfl dX3_extend_8 lfX3_18 (sC_Ne_0 (by omega)) rfl rfl ?_
  refine gm_bipush (v := 24) dX3_extend_11 (by decide) ?_
  refine gm_icmp_lt_t (tgt := 18) dX3_extend_13 (by decide) c2 ?_
  refine gm_aload_n dX3_extend_18 rfl ?_
  refine gm_dup dX3_extend_19 ?_
  refine gm_getI (own := RX3) (x := (S p 1)) rfl dX3_extend_20 lfX3_18 (sC_Ne_0 (by omega)) rfl rfl ?_
  refine gm_iconst (v := 1) dX3_extend_23 (by decide) ?_
  refine gm_iadd dX3_extend_24 rfl ?_
  refine gm_put (own := RX3) rfl dX3_extend_25 lfX3_18 (sC_Ne_0 (by omega)) rfl (gm_fit_int _) ?_
  refine gm_aload_n dX3_extend_28 rfl ?_
  refine gm_getR (own := RX3) (q := (p + 1)) rfl dX3_extend_29 lfX3_11 (sC_Ne_0 (by omega)) rfl ?_
  refine gm_aload_n dX3_extend_32 rfl ?_
  refine gm_getI (own := RX3) (x := ((S p 1) + 1)) rfl dX3_extend_33 lfX3_18 (sC_Ne_0 (by omega)) rfl (gm_rS _ _ _ _) ?_
  refine gm_iconst (v := 1) dX3_extend_36 (by decide) ?_
  refine gm_isub dX3_extend_37 rfl ?_
  refine gm_aald (j := j3) dX3_extend_38 (sC_Ne_1 (by omega)) ij3 ((congrArg Int32.toNatClampNeg (gm_rp (by omega))).trans hq4) ?_
  exact gm_aret dX3_extend_39 rfl
/-- X3_extend 0 [4t] -> ret  -/
theorem PX3_extend_3 {p : Nat} {S : gm_Mem} (kp : p = 26 ∨ p = 84) (c1 : (S p 1) < 0) : gm_run gC 0 YX3_extend 0 [some (.ref p)] [] S (some .null) S := by
  refine gm_aload_n dX3_extend_0 rfl ?_
  refine gm_getI (own := RX3) (x := (S p 1)) rfl dX3_extend_1 lfX3_18 (sC_Ne_0 (by omega)) rfl rfl ?_
  refine gm_if_lt_t (tgt := 16) dX3_extend_4 (by decide) c1 ?_
  refine gm_null dX3_extend_16 ?_
  exact gm_nret dX3_extend_17 rfl
/-- X3_remove 0 [1f 9f 18f] -> ret  -/
theorem PX3_remove_1 {p : Nat} {a1 : Int32} {S : gm_Mem} (kp : p = 26 ∨ p = 84) (c1 : ¬ a1 < 0) (c2 : a1 < (S p 1)) (c3 : 24 < (S p 1)) : gm_run gC 0 YX3_remove 0 [some (.ref p), some (.int a1), none, none] [] S none S := by
  refine gm_iload_n dX3_remove_0 rfl ?_
  refine gm_if_lt_f dX3_remove_1 ⟨21, by decide⟩ c1 ?_
  refine gm_iload_n dX3_remove_4 rfl ?_
  refine gm_aload_n dX3_remove_5 rfl ?_
  refine gm_getI (own := RX3) (x := (S p 1)) rfl dX3_remove_6 lfX3_18 (sC_Ne_0 (by omega)) rfl rfl ?_
  refine gm_icmp_ge_f dX3_remove_9 ⟨21, by decide⟩ c2 ?_
  refine gm_aload_n dX3_remove_12 rfl ?_
  refine gm_getI (own := RX3) (x := (S p 1)) rfl dX3_remove_13 lfX3_18 (sC_Ne_0 (by omega)) rfl rfl ?_
  refine gm_bipush (v := 24) dX3_remove_16 (by decide) ?_
  refine gm_icmp_le_f dX3_remove_18 ⟨22, by decide⟩ c3 ?_
  exact gm_vret dX3_remove_21 rfl
/-- X3_remove 0 [1f 9f 18t] -> cut 31 -/
theorem PX3_remove_2 {p : Nat} {a1 : Int32} {S : gm_Mem} {j4 : Nat} {q5 : Nat} {r : Option Value} {S2 : gm_Mem} (kp : p = 26 ∨ p = 84) (c1 : ¬ a1 < 0) (c2 : a1 < (S p 1)) (c3 : ¬ 24 < (S p 1)) (ij4 : gm_ix a1 j4 24) (hq5 : (S (p + 1) j4).toNatClampNeg = q5) (kq5 : (28 ≤ q5 ∧ q5 < 52) ∨ (86 ≤ q5 ∧ q5 < 110)) (K : gm_run gC 0 YX3_remove 31 [some (.ref p), some (.int a1), some (.ref q5), some (.int a1)] [] S r S2) : gm_run gC 0 YX3_remove 0 [some (.ref p), some (.int a1), none, none] [] S r S2 := by
  refine gm_iload_n dX3_remove_0 rfl ?_
  refine gm_if_lt_f dX3_remove_1 ⟨21, by decide⟩ c1 ?_
  refine gm_iload_n dX3_remove_4 rfl ?_
  refine gm_aload_n dX3_remove_5 rfl ?_
  refine gm_getI (own := RX3) (x := (S p 1)) rfl dX3_remove_6 lfX3_18 (sC_Ne_0 (by omega)) rfl rfl ?_
  refine gm_icmp_ge_f dX3_remove_9 ⟨21, by decide⟩ c2 ?_
  refine gm_aload_n dX3_remove_12 rfl ?_
  refine gm_getI (own := RX3) (x := (S p 1)) rfl dX3_remove_13 lfX3_18 (sC_Ne_0 (by omega)) rfl rfl ?_
  refine gm_bipush (v := 24) dX3_remove_16 (by decide) ?_
  refine gm_icmp_le_t (tgt := 22) dX3_remove_18 (by decide) c3 ?_
  refine gm_aload_n dX3_remove_22 rfl ?_
  refine gm_getR (own := RX3) (q := (p + 1)) rfl dX3_remove_23 lfX3_11 (sC_Ne_0 (by omega)) rfl ?_
  refine gm_iload_n dX3_remove_26 rfl ?_
  refine gm_aald (j := j4) dX3_remove_27 (sC_Ne_1 (by omega)) ij4 hq5 ?_
  refine gm_astore_n (L' := [some (.ref p), some (.int a1), some (.ref q5), none]) dX3_remove_28 (by decide) rfl ?_
  refine gm_iload_n dX3_remove_29 rfl ?_
  refine gm_istore_n (L' := [some (.ref p), some (.int a1), some (.ref q5), some (.int a1)]) dX3_remove_30 (by decide) rfl ?_
  exact K
/-- X3_remove 0 [1f 9t] -> ret  -/
theorem PX3_remove_3 {p : Nat} {a1 : Int32} {S : gm_Mem} (kp : p = 26 ∨ p = 84) (c1 : ¬ a1 < 0) (c2 : ¬ a1 < (S p 1)) : gm_run gC 0 YX3_remove 0 [some (.ref p), some (.int a1), none, none] [] S none S := by
  refine gm_iload_n dX3_remove_0 rfl ?_
  refine gm_if_lt_f dX3_remove_1 ⟨21, by decide⟩ c1 ?_
  refine gm_iload_n dX3_remove_4 rfl ?_
  refine gm_aload_n dX3_remove_5 rfl ?_
  refine gm_getI (own := RX3) (x := (S p 1)) rfl dX3_remove_6 lfX3_18 (sC_Ne_0 (by omega)) rfl rfl ?_
  refine gm_icmp_ge_t (tgt := 21) dX3_remove_9 (by decide) c2 ?_
  exact gm_vret dX3_remove_21 rfl
/-- X3_remove 0 [1t] -> ret  -/
theorem PX3_remove_4 {p : Nat} {a1 : Int32} {S : gm_Mem} (kp : p = 26 ∨ p = 84) (c1 : a1 < 0) : gm_run gC 0 YX3_remove 0 [some (.ref p), some (.int a1), none, none] [] S none S := by
  refine gm_iload_n dX3_remove_0 rfl ?_
  refine gm_if_lt_t (tgt := 21) dX3_remove_1 (by decide) c1 ?_
  exact gm_vret dX3_remove_21 rfl
/-- X3_remove 31 [38f] -> cut 31 -/
theorem PX3_remove_5 {p : Nat} {x1 : Int32} {y2 : Nat} {u2 : Int32} {x3 : Int32} {S : gm_Mem} {j2 : Nat} {q3 : Nat} {j4 : Nat} {r : Option Value} {S2 : gm_Mem} (kp : p = 26 ∨ p = 84) (ky2 : (28 ≤ y2 ∧ y2 < 52) ∨ (86 ≤ y2 ∧ y2 < 110)) (hy2 : u2.toNatClampNeg = y2) (c1 : x3 < ((S p 1) - 1)) (ij2 : gm_ix (x3 + 1) j2 24) (hq3 : (S (p + 1) j2).toNatClampNeg = q3) (kq3 : (28 ≤ q3 ∧ q3 < 52) ∨ (86 ≤ q3 ∧ q3 < 110)) (ij4 : gm_ix x3 j4 24) (K : gm_run gC 0 YX3_remove 31 [some (.ref p), some (.int x1), some (.ref y2), some (.int (x3 + 1))] [] (gm_u S (p + 1) j4 (S (p + 1) j2)) r S2) : gm_run gC 0 YX3_remove 31 [some (.ref p), some (.int x1), some (.ref y2), some (.int x3)] [] S r S2 := by
  refine gm_iload_n dX3_remove_31 rfl ?_
  refine gm_aload_n dX3_remove_32 rfl ?_
  refine gm_getI (own := RX3) (x := (S p 1)) rfl dX3_remove_33 lfX3_18 (sC_Ne_0 (by omega)) rfl rfl ?_
  refine gm_iconst (v := 1) dX3_remove_36 (by decide) ?_
  refine gm_isub dX3_remove_37 rfl ?_
  refine gm_icmp_ge_f dX3_remove_38 ⟨61, by decide⟩ c1 ?_
  refine gm_aload_n dX3_remove_41 rfl ?_
  refine gm_getR (own := RX3) (q := (p + 1)) rfl dX3_remove_42 lfX3_11 (sC_Ne_0 (by omega)) rfl ?_
  refine gm_iload_n dX3_remove_45 rfl ?_
  refine gm_aload_n dX3_remove_46 rfl ?_
  refine gm_getR (own := RX3) (q := (p + 1)) rfl dX3_remove_47 lfX3_11 (sC_Ne_0 (by omega)) rfl ?_
  refine gm_iload_n dX3_remove_50 rfl ?_
  refine gm_iconst (v := 1) dX3_remove_51 (by decide) ?_
  refine gm_iadd dX3_remove_52 rfl ?_
  refine gm_aald (j := j2) dX3_remove_53 (sC_Ne_1 (by omega)) ij2 hq3 ?_
  refine gm_aast (j := j4) (x := (S (p + 1) j2)) dX3_remove_54 (sC_Ne_1 (by omega)) (sC_Pk_0 (by omega)) ij4 hq3 ?_
  refine gm_iinc (L' := [some (.ref p), some (.int x1), some (.ref y2), some (.int (x3 + 1))]) (v := (x3 + 1)) dX3_remove_55 rfl rfl (by decide) rfl ?_
  refine gm_goto (tgt := 31) dX3_remove_58 (by decide) ?_
  exact K
/-- X3_remove 31 [38t] -> ret  -/
theorem PX3_remove_6 {p : Nat} {x1 : Int32} {y2 : Nat} {u2 : Int32} {x3 : Int32} {S : gm_Mem} {j2 : Nat} (kp : p = 26 ∨ p = 84) (ky2 : (28 ≤ y2 ∧ y2 < 52) ∨ (86 ≤ y2 ∧ y2 < 110)) (hy2 : u2.toNatClampNeg = y2) (c1 : ¬ x3 < ((S p 1) - 1)) (ij2 : gm_ix ((S p 1) - 1) j2 24) : gm_run gC 0 YX3_remove 31 [some (.ref p), some (.int x1), some (.ref y2), some (.int x3)] [] S none (gm_u (gm_u S (p + 1) j2 u2) p 1 ((S p 1) - 1)) := by
  refine gm_iload_n dX3_remove_31 rfl ?_
  refine gm_aload_n dX3_remove_32 rfl ?_
  refine gm_getI (own := RX3) (x := (S p 1)) rfl dX3_remove_33 lfX3_18 (sC_Ne_0 (by omega)) rfl rfl ?_
  refine gm_iconst (v := 1) dX3_remove_36 (by decide) ?_
  refine gm_isub dX3_remove_37 rfl ?_
  refine gm_icmp_ge_t (tgt := 61) dX3_remove_38 (by decide) c1 ?_
  refine gm_aload_n dX3_remove_61 rfl ?_
  refine gm_getR (own := RX3) (q := (p + 1)) rfl dX3_remove_62 lfX3_11 (sC_Ne_0 (by omega)) rfl ?_
  refine gm_aload_n dX3_remove_65 rfl ?_
  refine gm_getI (own := RX3) (x := (S p 1)) rfl dX3_remove_66 lfX3_18 (sC_Ne_0 (by omega)) rfl rfl ?_
  refine gm_iconst (v := 1) dX3_remove_69 (by decide) ?_
  refine gm_isub dX3_remove_70 rfl ?_
  refine gm_aload_n dX3_remove_71 rfl ?_
  refine gm_aast (j := j2) (x := u2) dX3_remove_72 (sC_Ne_1 (by omega)) (sC_Pk_0 (by omega)) ij2 hy2 ?_
  refine gm_aload_n dX3_remove_73 rfl ?_
  refine gm_dup dX3_remove_74 ?_
  refine gm_getI (own := RX3) (x := (S p 1)) rfl dX3_remove_75 lfX3_18 (sC_Ne_0 (by omega)) rfl (gm_rp (by omega)) ?_
  refine gm_iconst (v := 1) dX3_remove_78 (by decide) ?_
  refine gm_isub dX3_remove_79 rfl ?_
  refine gm_put (own := RX3) rfl dX3_remove_80 lfX3_18 (sC_Ne_0 (by omega)) rfl (gm_fit_int _) ?_
  exact gm_vret dX3_remove_83 rfl
/-- X5_copyFrom 0 [] -> ret  -/
theorem PX5_copyFrom_1 {p : Nat} {o : Nat} {S : gm_Mem} (kp : (28 ≤ p ∧ p < 52) ∨ (86 ≤ p ∧ p < 110) ∨ p = 122) (ko : (28 ≤ o ∧ o < 52) ∨ (86 ≤ o ∧ o < 110) ∨ o = 122) (kne : p ≠ o) : gm_run gC 0 YX5_copyFrom 0 [some (.ref p), some (.ref o)] [] S none (gm_u (gm_u (gm_u (gm_u (gm_u (gm_u (gm_u (gm_u (gm_u S p 0 (S o 0)) p 1 (S o 1)) p 2 (S o 2)) p 3 (S o 3)) p 4 (S o 4)) p 5 (S o 5)) p 6 (S o 6)) p 7 (S o 7)) p 8 (S o 8)) := by
  refine gm_aload_n dX5_copyFrom_0 rfl ?_
  refine gm_aload_n dX5_copyFrom_1 rfl ?_
  refine gm_getI (own := RX5) (x := (S o 0)) rfl dX5_copyFrom_2 lfX5_9 (sC_Pk_0 (by omega)) rfl rfl ?_
  refine gm_put (own := RX5) rfl dX5_copyFrom_5 lfX5_9 (sC_Pk_0 (by omega)) rfl (gm_fit_int _) ?_
  refine gm_aload_n dX5_copyFrom_8 rfl ?_
  refine gm_aload_n dX5_copyFrom_9 rfl ?_
  refine gm_getI (own := RX5) (x := (S o 1)) rfl dX5_copyFrom_10 lfX5_15 (sC_Pk_0 (by omega)) rfl (gm_rp (by omega)) ?_
  refine gm_put (own := RX5) rfl dX5_copyFrom_13 lfX5_15 (sC_Pk_0 (by omega)) rfl (gm_fit_int _) ?_
  refine gm_aload_n dX5_copyFrom_16 rfl ?_
  refine gm_aload_n dX5_copyFrom_17 rfl ?_
  refine gm_getI (own := RX5) (x := (S o 2)) rfl dX5_copyFrom_18 lfX5_18 (sC_Pk_0 (by omega)) rfl ((gm_rp (by omega)).trans (gm_rp (by omega))) ?_
  refine gm_put (own := RX5) rfl dX5_copyFrom_21 lfX5_18 (sC_Pk_0 (by omega)) rfl (gm_fit_int _) ?_
  refine gm_aload_n dX5_copyFrom_24 rfl ?_
  refine gm_aload_n dX5_copyFrom_25 rfl ?_
  refine gm_getI (own := RX5) (x := (S o 3)) rfl dX5_copyFrom_26 lfX5_21 (sC_Pk_0 (by omega)) rfl ((gm_rp (by omega)).trans ((gm_rp (by omega)).trans (gm_rp (by omega)))) ?_
  refine gm_put (own := RX5) rfl dX5_copyFrom_29 lfX5_21 (sC_Pk_0 (by omega)) rfl (gm_fit_int _) ?_
  refine gm_aload_n dX5_copyFrom_32 rfl ?_
  refine gm_aload_n dX5_copyFrom_33 rfl ?_
  refine gm_getI (own := RX5) (x := (S o 4)) rfl dX5_copyFrom_34 lfX5_24 (sC_Pk_0 (by omega)) rfl ((gm_rp (by omega)).trans ((gm_rp (by omega)).trans ((gm_rp (by omega)).trans (gm_rp (by omega))))) ?_
  refine gm_put (own := RX5) rfl dX5_copyFrom_37 lfX5_24 (sC_Pk_0 (by omega)) rfl (gm_fit_int _) ?_
  refine gm_aload_n dX5_copyFrom_40 rfl ?_
  refine gm_aload_n dX5_copyFrom_41 rfl ?_
  refine gm_getI (own := RX5) (x := (S o 5)) rfl dX5_copyFrom_42 lfX5_27 (sC_Pk_0 (by omega)) rfl ((gm_rp (by omega)).trans ((gm_rp (by omega)).trans ((gm_rp (by omega)).trans ((gm_rp (by omega)).trans (gm_rp (by omega)))))) ?_
  refine gm_put (own := RX5) rfl dX5_copyFrom_45 lfX5_27 (sC_Pk_0 (by omega)) rfl (gm_fit_int _) ?_
  refine gm_aload_n dX5_copyFrom_48 rfl ?_
  refine gm_aload_n dX5_copyFrom_49 rfl ?_
  refine gm_getI (own := RX5) (x := (S o 6)) rfl dX5_copyFrom_50 lfX5_30 (sC_Pk_0 (by omega)) rfl ((gm_rp (by omega)).trans ((gm_rp (by omega)).trans ((gm_rp (by omega)).trans ((gm_rp (by omega)).trans ((gm_rp (by omega)).trans (gm_rp (by omega))))))) ?_
  refine gm_put (own := RX5) rfl dX5_copyFrom_53 lfX5_30 (sC_Pk_0 (by omega)) rfl (gm_fit_int _) ?_
  refine gm_aload_n dX5_copyFrom_56 rfl ?_
  refine gm_aload_n dX5_copyFrom_57 rfl ?_
  refine gm_getI (own := RX5) (x := (S o 7)) rfl dX5_copyFrom_58 lfX5_33 (sC_Pk_0 (by omega)) rfl ((gm_rp (by omega)).trans ((gm_rp (by omega)).trans ((gm_rp (by omega)).trans ((gm_rp (by omega)).trans ((gm_rp (by omega)).trans ((gm_rp (by omega)).trans (gm_rp (by omega)))))))) ?_
  refine gm_put (own := RX5) rfl dX5_copyFrom_61 lfX5_33 (sC_Pk_0 (by omega)) rfl (gm_fit_int _) ?_
  refine gm_aload_n dX5_copyFrom_64 rfl ?_
  refine gm_aload_n dX5_copyFrom_65 rfl ?_
  refine gm_getI (own := RX5) (x := (S o 8)) rfl dX5_copyFrom_66 lfX5_36 (sC_Pk_0 (by omega)) rfl ((gm_rp (by omega)).trans ((gm_rp (by omega)).trans ((gm_rp (by omega)).trans ((gm_rp (by omega)).trans ((gm_rp (by omega)).trans ((gm_rp (by omega)).trans ((gm_rp (by omega)).trans (gm_rp (by omega))))))))) ?_
  refine gm_put (own := RX5) rfl dX5_copyFrom_69 lfX5_36 (sC_Pk_0 (by omega)) rfl (gm_fit_int _) ?_
  exact gm_vret dX5_copyFrom_72 rfl
/-- X3_copyFrom 0 [] -> cut 10 -/
theorem PX3_copyFrom_1 {p : Nat} {o : Nat} {S : gm_Mem} {r : Option Value} {S2 : gm_Mem} (kp : p = 26 ∨ p = 84) (ko : o = 26 ∨ o = 84) (kne : p ≠ o) (K : gm_run gC 1 YX3_copyFrom 10 [some (.ref p), some (.ref o), some (.int 0)] [] (gm_u S p 1 (S o 1)) r S2) : gm_run gC 1 YX3_copyFrom 0 [some (.ref p), some (.ref o), none] [] S r S2 := by
  refine gm_aload_n dX3_copyFrom_0 rfl ?_
  refine gm_aload_n dX3_copyFrom_1 rfl ?_
  refine gm_getI (own := RX3) (x := (S o 1)) rfl dX3_copyFrom_2 lfX3_18 (sC_Ne_0 (by omega)) rfl rfl ?_
  refine gm_put (own := RX3) rfl dX3_copyFrom_5 lfX3_18 (sC_Ne_0 (by omega)) rfl (gm_fit_int _) ?_
  refine gm_iconst (v := 0) dX3_copyFrom_8 (by decide) ?_
  refine gm_istore_n (L' := [some (.ref p), some (.ref o), some (.int 0)]) dX3_copyFrom_9 (by decide) rfl ?_
  exact K
/-- X3_copyFrom 10 [13f] -> cut 10 -/
theorem PX3_copyFrom_2 {p : Nat} {o : Nat} {x2 : Int32} {S : gm_Mem} {j2 : Nat} {q3 : Nat} {q4 : Nat} {T1 : gm_Mem} {r : Option Value} {S2 : gm_Mem} (kp : p = 26 ∨ p = 84) (ko : o = 26 ∨ o = 84) (kne : p ≠ o) (c1 : x2 < 24) (ij2 : gm_ix x2 j2 24) (hq3 : (S (p + 1) j2).toNatClampNeg = q3) (kq3 : (28 ≤ q3 ∧ q3 < 52) ∨ (86 ≤ q3 ∧ q3 < 110)) (hq4 : (S (o + 1) j2).toNatClampNeg = q4) (kq4 : (28 ≤ q4 ∧ q4 < 52) ∨ (86 ≤ q4 ∧ q4 < 110)) (h5 : gm_run gC 0 YX5_copyFrom 0 [some (.ref q3), some (.ref q4)] [] S none T1) (K : gm_run gC 1 YX3_copyFrom 10 [some (.ref p), some (.ref o), some (.int (x2 + 1))] [] T1 r S2) : gm_run gC 1 YX3_copyFrom 10 [some (.ref p), some (.ref o), some (.int x2)] [] S r S2 := by
  refine gm_iload_n dX3_copyFrom_10 rfl ?_
  refine gm_bipush (v := 24) dX3_copyFrom_11 (by decide) ?_
  refine gm_icmp_ge_f dX3_copyFrom_13 ⟨37, by decide⟩ c1 ?_
  refine gm_aload_n dX3_copyFrom_16 rfl ?_
  refine gm_getR (own := RX3) (q := (p + 1)) rfl dX3_copyFrom_17 lfX3_11 (sC_Ne_0 (by omega)) rfl ?_
  refine gm_iload_n dX3_copyFrom_20 rfl ?_
  refine gm_aald (j := j2) dX3_copyFrom_21 (sC_Ne_1 (by omega)) ij2 hq3 ?_
  refine gm_aload_n dX3_copyFrom_22 rfl ?_
  refine gm_getR (own := RX3) (q := (o + 1)) rfl dX3_copyFrom_23 lfX3_11 (sC_Ne_0 (by omega)) rfl ?_
  refine gm_iload_n dX3_copyFrom_26 rfl ?_
  refine gm_aald (j := j2) dX3_copyFrom_27 (sC_Ne_1 (by omega)) ij2 hq4 ?_
  refine gm_callV (r1 := none) (own := RX3) rfl dX3_copyFrom_28 llX3_22 mvX5_copyFrom (sC_Pk_0 (by omega)) rfl [.ref q4] [] rfl rfl (Nat.le_of_ble_eq_true rfl) (by decide) rfl h5 rfl ?_
  refine gm_iinc (L' := [some (.ref p), some (.ref o), some (.int (x2 + 1))]) (v := (x2 + 1)) dX3_copyFrom_31 rfl rfl (by decide) rfl ?_
  refine gm_goto (tgt := 10) dX3_copyFrom_34 (by decide) ?_
  exact K
/-- X3_copyFrom 10 [13t] -> ret  -/
theorem PX3_copyFrom_3 {p : Nat} {o : Nat} {x2 : Int32} {S : gm_Mem} (kp : p = 26 ∨ p = 84) (ko : o = 26 ∨ o = 84) (kne : p ≠ o) (c1 : ¬ x2 < 24) : gm_run gC 1 YX3_copyFrom 10 [some (.ref p), some (.ref o), some (.int x2)] [] S none S := by
  refine gm_iload_n dX3_copyFrom_10 rfl ?_
  refine gm_bipush (v := 24) dX3_copyFrom_11 (by decide) ?_
  refine gm_icmp_ge_t (tgt := 37) dX3_copyFrom_13 (by decide) c1 ?_
  exact gm_vret dX3_copyFrom_37 rfl
/-- X4_isFull 0 [6f] -> ret  -/
theorem PX4_isFull_1 {p : Nat} {S : gm_Mem} (kp : p = 4 ∨ p = 16 ∨ p = 62 ∨ p = 74) (c1 : ¬ (S p 2) < 16) : gm_run gC 0 YX4_isFull 0 [some (.ref p)] [] S (some (.int 1)) S := by
  refine gm_aload_n dX4_isFull_0 rfl ?_
  refine gm_getI (own := RX4) (x := (S p 2)) rfl dX4_isFull_1 lfX4_22 (sC_Ob_0 (by omega)) rfl rfl ?_
  refine gm_bipush (v := 16) dX4_isFull_4 (by decide) ?_
  refine gm_icmp_lt_f dX4_isFull_6 ⟨13, by decide⟩ c1 ?_
  refine gm_iconst (v := 1) dX4_isFull_9 (by decide) ?_
  refine gm_goto (tgt := 14) dX4_isFull_10 (by decide) ?_
  exact gm_zret dX4_isFull_14 rfl gm_fit_1
/-- X4_isFull 0 [6t] -> ret  -/
theorem PX4_isFull_2 {p : Nat} {S : gm_Mem} (kp : p = 4 ∨ p = 16 ∨ p = 62 ∨ p = 74) (c1 : (S p 2) < 16) : gm_run gC 0 YX4_isFull 0 [some (.ref p)] [] S (some (.int 0)) S := by
  refine gm_aload_n dX4_isFull_0 rfl ?_
  refine gm_getI (own := RX4) (x := (S p 2)) rfl dX4_isFull_1 lfX4_22 (sC_Ob_0 (by omega)) rfl rfl ?_
  refine gm_bipush (v := 16) dX4_isFull_4 (by decide) ?_
  refine gm_icmp_lt_t (tgt := 13) dX4_isFull_6 (by decide) c1 ?_
  refine gm_iconst (v := 0) dX4_isFull_13 (by decide) ?_
  exact gm_zret dX4_isFull_14 rfl gm_fit_0
/-- X4_isClose 0 [5f 18f] -> ret  -/
theorem PX4_isClose_1 {p : Nat} {a1 : Int32} {S : gm_Mem} (kp : p = 4 ∨ p = 16 ∨ p = 62 ∨ p = 74) (c1 : ¬ (S p 4) = (-1)) (c2 : ((S p 3) + a1) = (S p 4)) : gm_run gC 0 YX4_isClose 0 [some (.ref p), some (.int a1)] [] S (some (.int 1)) S := by
  refine gm_aload_n dX4_isClose_0 rfl ?_
  refine gm_getI (own := RX4) (x := (S p 4)) rfl dX4_isClose_1 lfX4_18 (sC_Ob_0 (by omega)) rfl rfl ?_
  refine gm_iconst (v := (-1)) dX4_isClose_4 (by decide) ?_
  refine gm_icmp_eq_f dX4_isClose_5 ⟨25, by decide⟩ c1 ?_
  refine gm_aload_n dX4_isClose_8 rfl ?_
  refine gm_getI (own := RX4) (x := (S p 3)) rfl dX4_isClose_9 lfX4_25 (sC_Ob_0 (by omega)) rfl rfl ?_
  refine gm_iload_n dX4_isClose_12 rfl ?_
  refine gm_iadd dX4_isClose_13 rfl ?_
  refine gm_aload_n dX4_isClose_14 rfl ?_
  refine gm_getI (own := RX4) (x := (S p 4)) rfl dX4_isClose_15 lfX4_18 (sC_Ob_0 (by omega)) rfl rfl ?_
  refine gm_icmp_ne_f dX4_isClose_18 ⟨25, by decide⟩ c2 ?_
  refine gm_iconst (v := 1) dX4_isClose_21 (by decide) ?_
  refine gm_goto (tgt := 26) dX4_isClose_22 (by decide) ?_
  exact gm_zret dX4_isClose_26 rfl gm_fit_1
/-- X4_isClose 0 [5f 18t] -> ret  -/
theorem PX4_isClose_2 {p : Nat} {a1 : Int32} {S : gm_Mem} (kp : p = 4 ∨ p = 16 ∨ p = 62 ∨ p = 74) (c1 : ¬ (S p 4) = (-1)) (c2 : ¬ ((S p 3) + a1) = (S p 4)) : gm_run gC 0 YX4_isClose 0 [some (.ref p), some (.int a1)] [] S (some (.int 0)) S := by
  refine gm_aload_n dX4_isClose_0 rfl ?_
  refine gm_getI (own := RX4) (x := (S p 4)) rfl dX4_isClose_1 lfX4_18 (sC_Ob_0 (by omega)) rfl rfl ?_
  refine gm_iconst (v := (-1)) dX4_isClose_4 (by decide) ?_
  refine gm_icmp_eq_f dX4_isClose_5 ⟨25, by decide⟩ c1 ?_
  refine gm_aload_n dX4_isClose_8 rfl ?_
  refine gm_getI (own := RX4) (x := (S p 3)) rfl dX4_isClose_9 lfX4_25 (sC_Ob_0 (by omega)) rfl rfl ?_
  refine gm_iload_n dX4_isClose_12 rfl ?_
  refine gm_iadd dX4_isClose_13 rfl ?_
  refine gm_aload_n dX4_isClose_14 rfl ?_
  refine gm_getI (own := RX4) (x := (S p 4)) rfl dX4_isClose_15 lfX4_18 (sC_Ob_0 (by omega)) rfl rfl ?_
  refine gm_icmp_ne_t (tgt := 25) dX4_isClose_18 (by decide) c2 ?_
  refine gm_iconst (v := 0) dX4_isClose_25 (by decide) ?_
  exact gm_zret dX4_isClose_26 rfl gm_fit_0
/-- X4_isClose 0 [5t] -> ret  -/
theorem PX4_isClose_3 {p : Nat} {a1 : Int32} {S : gm_Mem} (kp : p = 4 ∨ p = 16 ∨ p = 62 ∨ p = 74) (c1 : (S p 4) = (-1)) : gm_run gC 0 YX4_isClose 0 [some (.ref p), some (.int a1)] [] S (some (.int 0)) S := by
  refine gm_aload_n dX4_isClose_0 rfl ?_
  refine gm_getI (own := RX4) (x := (S p 4)) rfl dX4_isClose_1 lfX4_18 (sC_Ob_0 (by omega)) rfl rfl ?_
  refine gm_iconst (v := (-1)) dX4_isClose_4 (by decide) ?_
  refine gm_icmp_eq_t (tgt := 25) dX4_isClose_5 (by decide) c1 ?_
  refine gm_iconst (v := 0) dX4_isClose_25 (by decide) ?_
  exact gm_zret dX4_isClose_26 rfl gm_fit_0
/-- X4_add 0 [4f 13f] -> ret  -/
theorem PX4_add_1 {p : Nat} {a1 : Int32} {a2 : Int32} {S : gm_Mem} (kp : p = 4 ∨ p = 16 ∨ p = 62 ∨ p = 74) (c1 : ¬ (S p 2) < 0) (c2 : ¬ (S p 2) < 16) : gm_run gC 0 YX4_add 0 [some (.ref p), some (.int a1), some (.int a2), none] [] S (some (.int (-1000000003))) S := by
  refine gm_aload_n dX4_add_0 rfl ?_
  refine gm_getI (own := RX4) (x := (S p 2)) rfl dX4_add_1 lfX4_22 (sC_Ob_0 (by omega)) rfl rfl ?_
  refine gm_if_lt_f dX4_add_4 ⟨16, by decide⟩ c1 ?_
  refine gm_aload_n dX4_add_7 rfl ?_
  refine gm_getI (own := RX4) (x := (S p 2)) rfl dX4_add_8 lfX4_22 (sC_Ob_0 (by omega)) rfl rfl ?_
  refine gm_bipush (v := 16) dX4_add_11 (by decide) ?_
  refine gm_icmp_lt_f dX4_add_13 ⟨19, by decide⟩ c2 ?_
  refine gm_ldc (own := RX4) rfl lcX4_34 dX4_add_16 ?_
  exact gm_iret dX4_add_18 rfl
/-- X4_add 0 [4f 13t 60f] -> ret  -/
theorem PX4_add_2 {p : Nat} {a1 : Int32} {a2 : Int32} {S : gm_Mem} {j3 : Nat} (kp : p = 4 ∨ p = 16 ∨ p = 62 ∨ p = 74) (c1 : ¬ (S p 2) < 0) (c2 : (S p 2) < 16) (ij3 : gm_ix (S p 2) j3 16) (c4 : ¬ a2 = 0) : gm_run gC 0 YX4_add 0 [some (.ref p), some (.int a1), some (.int a2), none] [] S (some (.int ((S p 3) + (S p 2)))) (gm_u (gm_u (gm_u (gm_u S (p + 1) j3 a1) (p + 2) j3 (-1)) p 2 ((S p 2) + 1)) p 4 ((S p 3) + (S p 2))) := by
  refine gm_aload_n dX4_add_0 rfl ?_
  refine gm_getI (own := RX4) (x := (S p 2)) rfl dX4_add_1 lfX4_22 (sC_Ob_0 (by omega)) rfl rfl ?_
  refine gm_if_lt_f dX4_add_4 ⟨16, by decide⟩ c1 ?_
  refine gm_aload_n dX4_add_7 rfl ?_
  refine gm_getI (own := RX4) (x := (S p 2)) rfl dX4_add_8 lfX4_22 (sC_Ob_0 (by omega)) rfl rfl ?_
  refine gm_bipush (v := 16) dX4_add_11 (by decide) ?_
  refine gm_icmp_lt_t (tgt := 19) dX4_add_13 (by decide) c2 ?_
  refine gm_aload_n dX4_add_19 rfl ?_
  refine gm_getI (own := RX4) (x := (S p 3)) rfl dX4_add_20 lfX4_25 (sC_Ob_0 (by omega)) rfl rfl ?_
  refine gm_aload_n dX4_add_23 rfl ?_
  refine gm_getI (own := RX4) (x := (S p 2)) rfl dX4_add_24 lfX4_22 (sC_Ob_0 (by omega)) rfl rfl ?_
  refine gm_iadd dX4_add_27 rfl ?_
  refine gm_istore_n (L' := [some (.ref p), some (.int a1), some (.int a2), some (.int ((S p 3) + (S p 2)))]) dX4_add_28 (by decide) rfl ?_
  refine gm_aload_n dX4_add_29 rfl ?_
  refine gm_getR (own := RX4) (q := (p + 1)) rfl dX4_add_30 lfX4_9 (sC_Ob_0 (by omega)) rfl ?_
  refine gm_aload_n dX4_add_33 rfl ?_
  refine gm_getI (own := RX4) (x := (S p 2)) rfl dX4_add_34 lfX4_22 (sC_Ob_0 (by omega)) rfl rfl ?_
  refine gm_iload_n dX4_add_37 rfl ?_
  refine gm_iast (j := j3) dX4_add_38 (sC_Ob_1 (by omega)) ij3 ?_
  refine gm_aload_n dX4_add_39 rfl ?_
  refine gm_getR (own := RX4) (q := (p + 2)) rfl dX4_add_40 lfX4_15 (sC_Ob_0 (by omega)) rfl ?_
  refine gm_aload_n dX4_add_43 rfl ?_
  refine gm_getI (own := RX4) (x := (S p 2)) rfl dX4_add_44 lfX4_22 (sC_Ob_0 (by omega)) rfl (gm_rp (by omega)) ?_
  refine gm_iconst (v := (-1)) dX4_add_47 (by decide) ?_
  refine gm_iast (j := j3) dX4_add_48 (sC_Ob_2 (by omega)) ij3 ?_
  refine gm_aload_n dX4_add_49 rfl ?_
  refine gm_dup dX4_add_50 ?_
  refine gm_getI (own := RX4) (x := (S p 2)) rfl dX4_add_51 lfX4_22 (sC_Ob_0 (by omega)) rfl ((gm_rp (by omega)).trans (gm_rp (by omega))) ?_
  refine gm_iconst (v := 1) dX4_add_54 (by decide) ?_
  refine gm_iadd dX4_add_55 rfl ?_
  refine gm_put (own := RX4) rfl dX4_add_56 lfX4_22 (sC_Ob_0 (by omega)) rfl (gm_fit_int _) ?_
  refine gm_iload_n dX4_add_59 rfl ?_
  refine gm_if_eq_f dX4_add_60 ⟨68, by decide⟩ c4 ?_
  refine gm_aload_n dX4_add_63 rfl ?_
  refine gm_iload_n dX4_add_64 rfl ?_
  refine gm_put (own := RX4) rfl dX4_add_65 lfX4_18 (sC_Ob_0 (by omega)) rfl (gm_fit_int _) ?_
  refine gm_iload_n dX4_add_68 rfl ?_
  exact gm_iret dX4_add_69 rfl
/-- X4_add 0 [4f 13t 60t] -> ret  -/
theorem PX4_add_3 {p : Nat} {a1 : Int32} {a2 : Int32} {S : gm_Mem} {j3 : Nat} (kp : p = 4 ∨ p = 16 ∨ p = 62 ∨ p = 74) (c1 : ¬ (S p 2) < 0) (c2 : (S p 2) < 16) (ij3 : gm_ix (S p 2) j3 16) (c4 : a2 = 0) : gm_run gC 0 YX4_add 0 [some (.ref p), some (.int a1), some (.int a2), none] [] S (some (.int ((S p 3) + (S p 2)))) (gm_u (gm_u (gm_u S (p + 1) j3 a1) (p + 2) j3 (-1)) p 2 ((S p 2) + 1)) := by
  refine gm_aload_n dX4_add_0 rfl ?_
  refine gm_getI (own := RX4) (x := (S p 2)) rfl dX4_add_1 lfX4_22 (sC_Ob_0 (by omega)) rfl rfl ?_
  refine gm_if_lt_f dX4_add_4 ⟨16, by decide⟩ c1 ?_
  refine gm_aload_n dX4_add_7 rfl ?_
  refine gm_getI (own := RX4) (x := (S p 2)) rfl dX4_add_8 lfX4_22 (sC_Ob_0 (by omega)) rfl rfl ?_
  refine gm_bipush (v := 16) dX4_add_11 (by decide) ?_
  refine gm_icmp_lt_t (tgt := 19) dX4_add_13 (by decide) c2 ?_
  refine gm_aload_n dX4_add_19 rfl ?_
  refine gm_getI (own := RX4) (x := (S p 3)) rfl dX4_add_20 lfX4_25 (sC_Ob_0 (by omega)) rfl rfl ?_
  refine gm_aload_n dX4_add_23 rfl ?_
  refine gm_getI (own := RX4) (x := (S p 2)) rfl dX4_add_24 lfX4_22 (sC_Ob_0 (by omega)) rfl rfl ?_
  refine gm_iadd dX4_add_27 rfl ?_
  refine gm_istore_n (L' := [some (.ref p), some (.int a1), some (.int a2), some (.int ((S p 3) + (S p 2)))]) dX4_add_28 (by decide) rfl ?_
  refine gm_aload_n dX4_add_29 rfl ?_
  refine gm_getR (own := RX4) (q := (p + 1)) rfl dX4_add_30 lfX4_9 (sC_Ob_0 (by omega)) rfl ?_
  refine gm_aload_n dX4_add_33 rfl ?_
  refine gm_getI (own := RX4) (x := (S p 2)) rfl dX4_add_34 lfX4_22 (sC_Ob_0 (by omega)) rfl rfl ?_
  refine gm_iload_n dX4_add_37 rfl ?_
  refine gm_iast (j := j3) dX4_add_38 (sC_Ob_1 (by omega)) ij3 ?_
  refine gm_aload_n dX4_add_39 rfl ?_
  refine gm_getR (own := RX4) (q := (p + 2)) rfl dX4_add_40 lfX4_15 (sC_Ob_0 (by omega)) rfl ?_
  refine gm_aload_n dX4_add_43 rfl ?_
  refine gm_getI (own := RX4) (x := (S p 2)) rfl dX4_add_44 lfX4_22 (sC_Ob_0 (by omega)) rfl (gm_rp (by omega)) ?_
  refine gm_iconst (v := (-1)) dX4_add_47 (by decide) ?_
  refine gm_iast (j := j3) dX4_add_48 (sC_Ob_2 (by omega)) ij3 ?_
  refine gm_aload_n dX4_add_49 rfl ?_
  refine gm_dup dX4_add_50 ?_
  refine gm_getI (own := RX4) (x := (S p 2)) rfl dX4_add_51 lfX4_22 (sC_Ob_0 (by omega)) rfl ((gm_rp (by omega)).trans (gm_rp (by omega))) ?_
  refine gm_iconst (v := 1) dX4_add_54 (by decide) ?_
  refine gm_iadd dX4_add_55 rfl ?_
  refine gm_put (own := RX4) rfl dX4_add_56 lfX4_22 (sC_Ob_0 (by omega)) rfl (gm_fit_int _) ?_
  refine gm_iload_n dX4_add_59 rfl ?_
  refine gm_if_eq_t (tgt := 68) dX4_add_60 (by decide) c4 ?_
  refine gm_iload_n dX4_add_68 rfl ?_
  exact gm_iret dX4_add_69 rfl
/-- X4_add 0 [4t] -> ret  -/
theorem PX4_add_4 {p : Nat} {a1 : Int32} {a2 : Int32} {S : gm_Mem} (kp : p = 4 ∨ p = 16 ∨ p = 62 ∨ p = 74) (c1 : (S p 2) < 0) : gm_run gC 0 YX4_add 0 [some (.ref p), some (.int a1), some (.int a2), none] [] S (some (.int (-1000000003))) S := by
  refine gm_aload_n dX4_add_0 rfl ?_
  refine gm_getI (own := RX4) (x := (S p 2)) rfl dX4_add_1 lfX4_22 (sC_Ob_0 (by omega)) rfl rfl ?_
  refine gm_if_lt_t (tgt := 16) dX4_add_4 (by decide) c1 ?_
  refine gm_ldc (own := RX4) rfl lcX4_34 dX4_add_16 ?_
  exact gm_iret dX4_add_18 rfl
/-- J9_min_7cf53 0 [2f] -> ret  -/
theorem PJ9_min_7cf53_1 {a1 : Int32} {a2 : Int32} {S : gm_Mem} (c1 : ¬ a2 < a1) : gm_run gC 0 YJ9_min_7cf53 0 [some (.int a1), some (.int a2)] [] S (some (.int a1)) S := by
  refine gm_iload_n dJ9_min_7cf53_0 rfl ?_
  refine gm_iload_n dJ9_min_7cf53_1 rfl ?_
  refine gm_icmp_gt_f dJ9_min_7cf53_2 ⟨9, by decide⟩ c1 ?_
  refine gm_iload_n dJ9_min_7cf53_5 rfl ?_
  refine gm_goto (tgt := 10) dJ9_min_7cf53_6 (by decide) ?_
  exact gm_iret dJ9_min_7cf53_10 rfl
/-- J9_min_7cf53 0 [2t] -> ret  -/
theorem PJ9_min_7cf53_2 {a1 : Int32} {a2 : Int32} {S : gm_Mem} (c1 : a2 < a1) : gm_run gC 0 YJ9_min_7cf53 0 [some (.int a1), some (.int a2)] [] S (some (.int a2)) S := by
  refine gm_iload_n dJ9_min_7cf53_0 rfl ?_
  refine gm_iload_n dJ9_min_7cf53_1 rfl ?_
  refine gm_icmp_gt_t (tgt := 9) dJ9_min_7cf53_2 (by decide) c1 ?_
  refine gm_iload_n dJ9_min_7cf53_9 rfl ?_
  exact gm_iret dJ9_min_7cf53_10 rfl
/-- X4_acknowledge 0 [15f] -> ret  -/
theorem PX4_acknowledge_1 {p : Nat} {a1 : Int32} {S : gm_Mem} {r1 : Int32} (kp : p = 4 ∨ p = 16 ∨ p = 62 ∨ p = 74) (h2 : gm_run gC 0 YJ9_min_7cf53 0 [some (.int (a1 - (S p 3))), some (.int (S p 2))] [] S (some (.int r1)) S) (c3 : ¬ 0 < r1) : gm_run gC 1 YX4_acknowledge 0 [some (.ref p), some (.int a1), none, none] [] S none S := by
  refine gm_iload_n dX4_acknowledge_0 rfl ?_
  refine gm_aload_n dX4_acknowledge_1 rfl ?_
  refine gm_getI (own := RX4) (x := (S p 3)) rfl dX4_acknowledge_2 lfX4_25 (sC_Ob_0 (by omega)) rfl rfl ?_
  refine gm_isub dX4_acknowledge_5 rfl ?_
  refine gm_aload_n dX4_acknowledge_6 rfl ?_
  refine gm_getI (own := RX4) (x := (S p 2)) rfl dX4_acknowledge_7 lfX4_22 (sC_Ob_0 (by omega)) rfl rfl ?_
  refine gm_callS (r1 := (some (.int r1))) (own := RX4) rfl dX4_acknowledge_10 llX4_35 msJ9_min_7cf53 [.int (a1 - (S p 3)), .int (S p 2)] [] rfl rfl (Nat.le_of_ble_eq_true rfl) (by decide) rfl h2 rfl ?_
  refine gm_istore_n (L' := [some (.ref p), some (.int a1), some (.int r1), none]) dX4_acknowledge_13 (by decide) rfl ?_
  refine gm_iload_n dX4_acknowledge_14 rfl ?_
  refine gm_if_gt_f dX4_acknowledge_15 ⟨19, by decide⟩ c3 ?_
  exact gm_vret dX4_acknowledge_18 rfl
/-- X4_acknowledge 0 [15t] -> cut 21 -/
theorem PX4_acknowledge_2 {p : Nat} {a1 : Int32} {S : gm_Mem} {r1 : Int32} {r : Option Value} {S2 : gm_Mem} (kp : p = 4 ∨ p = 16 ∨ p = 62 ∨ p = 74) (h2 : gm_run gC 0 YJ9_min_7cf53 0 [some (.int (a1 - (S p 3))), some (.int (S p 2))] [] S (some (.int r1)) S) (c3 : 0 < r1) (K : gm_run gC 1 YX4_acknowledge 21 [some (.ref p), some (.int a1), some (.int r1), some (.int r1)] [] S r S2) : gm_run gC 1 YX4_acknowledge 0 [some (.ref p), some (.int a1), none, none] [] S r S2 := by
  refine gm_iload_n dX4_acknowledge_0 rfl ?_
  refine gm_aload_n dX4_acknowledge_1 rfl ?_
  refine gm_getI (own := RX4) (x := (S p 3)) rfl dX4_acknowledge_2 lfX4_25 (sC_Ob_0 (by omega)) rfl rfl ?_
  refine gm_isub dX4_acknowledge_5 rfl ?_
  refine gm_aload_n dX4_acknowledge_6 rfl ?_
  refine gm_getI (own := RX4) (x := (S p 2)) rfl dX4_acknowledge_7 lfX4_22 (sC_Ob_0 (by omega)) rfl rfl ?_
  refine gm_callS (r1 := (some (.int r1))) (own := RX4) rfl dX4_acknowledge_10 llX4_35 msJ9_min_7cf53 [.int (a1 - (S p 3)), .int (S p 2)] [] rfl rfl (Nat.le_of_ble_eq_true rfl) (by decide) rfl h2 rfl ?_
  refine gm_istore_n (L' := [some (.ref p), some (.int a1), some (.int r1), none]) dX4_acknowledge_13 (by decide) rfl ?_
  refine gm_iload_n dX4_acknowledge_14 rfl ?_
  refine gm_if_gt_t (tgt := 19) dX4_acknowledge_15 (by decide) c3 ?_
  refine gm_iload_n dX4_acknowledge_19 rfl ?_
  refine gm_istore_n (L' := [some (.ref p), some (.int a1), some (.int r1), some (.int r1)]) dX4_acknowledge_20 (by decide) rfl ?_
  exact K
/-- X4_acknowledge 21 [26f 32f] -> cut 21 -/
theorem PX4_acknowledge_3 {p : Nat} {x1 : Int32} {x2 : Int32} {x3 : Int32} {S : gm_Mem} {j3 : Nat} {j4 : Nat} {r : Option Value} {S2 : gm_Mem} (kp : p = 4 ∨ p = 16 ∨ p = 62 ∨ p = 74) (c1 : x3 < (S p 2)) (c2 : x3 < 16) (ij3 : gm_ix x3 j3 16) (ij4 : gm_ix (x3 - x2) j4 16) (K : gm_run gC 1 YX4_acknowledge 21 [some (.ref p), some (.int x1), some (.int x2), some (.int (x3 + 1))] [] (gm_u (gm_u S (p + 1) j4 (S (p + 1) j3)) (p + 2) j4 (S (p + 2) j3)) r S2) : gm_run gC 1 YX4_acknowledge 21 [some (.ref p), some (.int x1), some (.int x2), some (.int x3)] [] S r S2 := by
  refine gm_iload_n dX4_acknowledge_21 rfl ?_
  refine gm_aload_n dX4_acknowledge_22 rfl ?_
  refine gm_getI (own := RX4) (x := (S p 2)) rfl dX4_acknowledge_23 lfX4_22 (sC_Ob_0 (by omega)) rfl rfl ?_
  refine gm_icmp_ge_f dX4_acknowledge_26 ⟨69, by decide⟩ c1 ?_
  refine gm_iload_n dX4_acknowledge_29 rfl ?_
  refine gm_bipush (v := 16) dX4_acknowledge_30 (by decide) ?_
  refine gm_icmp_ge_f dX4_acknowledge_32 ⟨69, by decide⟩ c2 ?_
  refine gm_aload_n dX4_acknowledge_35 rfl ?_
  refine gm_getR (own := RX4) (q := (p + 1)) rfl dX4_acknowledge_36 lfX4_9 (sC_Ob_0 (by omega)) rfl ?_
  refine gm_iload_n dX4_acknowledge_39 rfl ?_
  refine gm_iload_n dX4_acknowledge_40 rfl ?_
  refine gm_isub dX4_acknowledge_41 rfl ?_
  refine gm_aload_n dX4_acknowledge_42 rfl ?_
  refine gm_getR (own := RX4) (q := (p + 1)) rfl dX4_acknowledge_43 lfX4_9 (sC_Ob_0 (by omega)) rfl ?_
  refine gm_iload_n dX4_acknowledge_46 rfl ?_
  refine gm_iald (j := j3) (x := (S (p + 1) j3)) dX4_acknowledge_47 (sC_Ob_1 (by omega)) ij3 rfl ?_
  refine gm_iast (j := j4) dX4_acknowledge_48 (sC_Ob_1 (by omega)) ij4 ?_
  refine gm_aload_n dX4_acknowledge_49 rfl ?_
  refine gm_getR (own := RX4) (q := (p + 2)) rfl dX4_acknowledge_50 lfX4_15 (sC_Ob_0 (by omega)) rfl ?_
  refine gm_iload_n dX4_acknowledge_53 rfl ?_
  refine gm_iload_n dX4_acknowledge_54 rfl ?_
  refine gm_isub dX4_acknowledge_55 rfl ?_
  refine gm_aload_n dX4_acknowledge_56 rfl ?_
  refine gm_getR (own := RX4) (q := (p + 2)) rfl dX4_acknowledge_57 lfX4_15 (sC_Ob_0 (by omega)) rfl ?_
  refine gm_iload_n dX4_acknowledge_60 rfl ?_
  refine gm_iald (j := j3) (x := (S (p + 2) j3)) dX4_acknowledge_61 (sC_Ob_2 (by omega)) ij3 (gm_rp (by omega)) ?_
  refine gm_iast (j := j4) dX4_acknowledge_62 (sC_Ob_2 (by omega)) ij4 ?_
  refine gm_iinc (L' := [some (.ref p), some (.int x1), some (.int x2), some (.int (x3 + 1))]) (v := (x3 + 1)) dX4_acknowledge_63 rfl rfl (by decide) rfl ?_
  refine gm_goto (tgt := 21) dX4_acknowledge_66 (by decide) ?_
  exact K
/-- X4_acknowledge 21 [26f 32t] -> ret  -/
theorem PX4_acknowledge_4 {p : Nat} {x1 : Int32} {x2 : Int32} {x3 : Int32} {S : gm_Mem} (kp : p = 4 ∨ p = 16 ∨ p = 62 ∨ p = 74) (c1 : x3 < (S p 2)) (c2 : ¬ x3 < 16) : gm_run gC 1 YX4_acknowledge 21 [some (.ref p), some (.int x1), some (.int x2), some (.int x3)] [] S none (gm_u (gm_u S p 2 ((S p 2) - x2)) p 3 ((S p 3) + x2)) := by
  refine gm_iload_n dX4_acknowledge_21 rfl ?_
  refine gm_aload_n dX4_acknowledge_22 rfl ?_
  refine gm_getI (own := RX4) (x := (S p 2)) rfl dX4_acknowledge_23 lfX4_22 (sC_Ob_0 (by omega)) rfl rfl ?_
  refine gm_icmp_ge_f dX4_acknowledge_26 ⟨69, by decide⟩ c1 ?_
  refine gm_iload_n dX4_acknowledge_29 rfl ?_
  refine gm_bipush (v := 16) dX4_acknowledge_30 (by decide) ?_
  refine gm_icmp_ge_t (tgt := 69) dX4_acknowledge_32 (by decide) c2 ?_
  refine gm_aload_n dX4_acknowledge_69 rfl ?_
  refine gm_dup dX4_acknowledge_70 ?_
  refine gm_getI (own := RX4) (x := (S p 2)) rfl dX4_acknowledge_71 lfX4_22 (sC_Ob_0 (by omega)) rfl rfl ?_
  refine gm_iload_n dX4_acknowledge_74 rfl ?_
  refine gm_isub dX4_acknowledge_75 rfl ?_
  refine gm_put (own := RX4) rfl dX4_acknowledge_76 lfX4_22 (sC_Ob_0 (by omega)) rfl (gm_fit_int _) ?_
  refine gm_aload_n dX4_acknowledge_79 rfl ?_
  refine gm_dup dX4_acknowledge_80 ?_
  refine gm_getI (own := RX4) (x := (S p 3)) rfl dX4_acknowledge_81 lfX4_25 (sC_Ob_0 (by omega)) rfl (gm_rk (by decide)) ?_
  refine gm_iload_n dX4_acknowledge_84 rfl ?_
  refine gm_iadd dX4_acknowledge_85 rfl ?_
  refine gm_put (own := RX4) rfl dX4_acknowledge_86 lfX4_25 (sC_Ob_0 (by omega)) rfl (gm_fit_int _) ?_
  exact gm_vret dX4_acknowledge_89 rfl
/-- X4_acknowledge 21 [26t] -> ret  -/
theorem PX4_acknowledge_5 {p : Nat} {x1 : Int32} {x2 : Int32} {x3 : Int32} {S : gm_Mem} (kp : p = 4 ∨ p = 16 ∨ p = 62 ∨ p = 74) (c1 : ¬ x3 < (S p 2)) : gm_run gC 1 YX4_acknowledge 21 [some (.ref p), some (.int x1), some (.int x2), some (.int x3)] [] S none (gm_u (gm_u S p 2 ((S p 2) - x2)) p 3 ((S p 3) + x2)) := by
  refine gm_iload_n dX4_acknowledge_21 rfl ?_
  refine gm_aload_n dX4_acknowledge_22 rfl ?_
  refine gm_getI (own := RX4) (x := (S p 2)) rfl dX4_acknowledge_23 lfX4_22 (sC_Ob_0 (by omega)) rfl rfl ?_
  refine gm_icmp_ge_t (tgt := 69) dX4_acknowledge_26 (by decide) c1 ?_
  refine gm_aload_n dX4_acknowledge_69 rfl ?_
  refine gm_dup dX4_acknowledge_70 ?_
  refine gm_getI (own := RX4) (x := (S p 2)) rfl dX4_acknowledge_71 lfX4_22 (sC_Ob_0 (by omega)) rfl rfl ?_
  refine gm_iload_n dX4_acknowledge_74 rfl ?_
  refine gm_isub dX4_acknowledge_75 rfl ?_
  refine gm_put (own := RX4) rfl dX4_acknowledge_76 lfX4_22 (sC_Ob_0 (by omega)) rfl (gm_fit_int _) ?_
  refine gm_aload_n dX4_acknowledge_79 rfl ?_
  refine gm_dup dX4_acknowledge_80 ?_
  refine gm_getI (own := RX4) (x := (S p 3)) rfl dX4_acknowledge_81 lfX4_25 (sC_Ob_0 (by omega)) rfl (gm_rk (by decide)) ?_
  refine gm_iload_n dX4_acknowledge_84 rfl ?_
  refine gm_iadd dX4_acknowledge_85 rfl ?_
  refine gm_put (own := RX4) rfl dX4_acknowledge_86 lfX4_25 (sC_Ob_0 (by omega)) rfl (gm_fit_int _) ?_
  exact gm_vret dX4_acknowledge_89 rfl
/-- X4_forgetSentUntil 0 [] -> cut 2 -/
theorem PX4_forgetSentUntil_1 {p : Nat} {a1 : Int32} {S : gm_Mem} {r : Option Value} {S2 : gm_Mem} (kp : p = 4 ∨ p = 16 ∨ p = 62 ∨ p = 74) (K : gm_run gC 0 YX4_forgetSentUntil 2 [some (.ref p), some (.int a1), some (.int 0)] [] S r S2) : gm_run gC 0 YX4_forgetSentUntil 0 [some (.ref p), some (.int a1), none] [] S r S2 := by
  refine gm_iconst (v := 0) dX4_forgetSentUntil_0 (by decide) ?_
  refine gm_istore_n (L' := [some (.ref p), some (.int a1), some (.int 0)]) dX4_forgetSentUntil_1 (by decide) rfl ?_
  exact K
/-- X4_forgetSentUntil 2 [5f 15f] -> cut 2 -/
theorem PX4_forgetSentUntil_2 {p : Nat} {x1 : Int32} {x2 : Int32} {S : gm_Mem} {j2 : Nat} {r : Option Value} {S2 : gm_Mem} (kp : p = 4 ∨ p = 16 ∨ p = 62 ∨ p = 74) (c1 : x2 < 16) (ij2 : gm_ix x2 j2 16) (c3 : ¬ x1 < (S (p + 2) j2)) (K : gm_run gC 0 YX4_forgetSentUntil 2 [some (.ref p), some (.int x1), some (.int (x2 + 1))] [] (gm_u S (p + 2) j2 (-1)) r S2) : gm_run gC 0 YX4_forgetSentUntil 2 [some (.ref p), some (.int x1), some (.int x2)] [] S r S2 := by
  refine gm_iload_n dX4_forgetSentUntil_2 rfl ?_
  refine gm_bipush (v := 16) dX4_forgetSentUntil_3 (by decide) ?_
  refine gm_icmp_ge_f dX4_forgetSentUntil_5 ⟨31, by decide⟩ c1 ?_
  refine gm_aload_n dX4_forgetSentUntil_8 rfl ?_
  refine gm_getR (own := RX4) (q := (p + 2)) rfl dX4_forgetSentUntil_9 lfX4_15 (sC_Ob_0 (by omega)) rfl ?_
  refine gm_iload_n dX4_forgetSentUntil_12 rfl ?_
  refine gm_iald (j := j2) (x := (S (p + 2) j2)) dX4_forgetSentUntil_13 (sC_Ob_2 (by omega)) ij2 rfl ?_
  refine gm_iload_n dX4_forgetSentUntil_14 rfl ?_
  refine gm_icmp_gt_f dX4_forgetSentUntil_15 ⟨25, by decide⟩ c3 ?_
  refine gm_aload_n dX4_forgetSentUntil_18 rfl ?_
  refine gm_getR (own := RX4) (q := (p + 2)) rfl dX4_forgetSentUntil_19 lfX4_15 (sC_Ob_0 (by omega)) rfl ?_
  refine gm_iload_n dX4_forgetSentUntil_22 rfl ?_
  refine gm_iconst (v := (-1)) dX4_forgetSentUntil_23 (by decide) ?_
  refine gm_iast (j := j2) dX4_forgetSentUntil_24 (sC_Ob_2 (by omega)) ij2 ?_
  refine gm_iinc (L' := [some (.ref p), some (.int x1), some (.int (x2 + 1))]) (v := (x2 + 1)) dX4_forgetSentUntil_25 rfl rfl (by decide) rfl ?_
  refine gm_goto (tgt := 2) dX4_forgetSentUntil_28 (by decide) ?_
  exact K
/-- X4_forgetSentUntil 2 [5f 15t] -> cut 2 -/
theorem PX4_forgetSentUntil_3 {p : Nat} {x1 : Int32} {x2 : Int32} {S : gm_Mem} {j2 : Nat} {r : Option Value} {S2 : gm_Mem} (kp : p = 4 ∨ p = 16 ∨ p = 62 ∨ p = 74) (c1 : x2 < 16) (ij2 : gm_ix x2 j2 16) (c3 : x1 < (S (p + 2) j2)) (K : gm_run gC 0 YX4_forgetSentUntil 2 [some (.ref p), some (.int x1), some (.int (x2 + 1))] [] S r S2) : gm_run gC 0 YX4_forgetSentUntil 2 [some (.ref p), some (.int x1), some (.int x2)] [] S r S2 := by
  refine gm_iload_n dX4_forgetSentUntil_2 rfl ?_
  refine gm_bipush (v := 16) dX4_forgetSentUntil_3 (by decide) ?_
  refine gm_icmp_ge_f dX4_forgetSentUntil_5 ⟨31, by decide⟩ c1 ?_
  refine gm_aload_n dX4_forgetSentUntil_8 rfl ?_
  refine gm_getR (own := RX4) (q := (p + 2)) rfl dX4_forgetSentUntil_9 lfX4_15 (sC_Ob_0 (by omega)) rfl ?_
  refine gm_iload_n dX4_forgetSentUntil_12 rfl ?_
  refine gm_iald (j := j2) (x := (S (p + 2) j2)) dX4_forgetSentUntil_13 (sC_Ob_2 (by omega)) ij2 rfl ?_
  refine gm_iload_n dX4_forgetSentUntil_14 rfl ?_
  refine gm_icmp_gt_t (tgt := 25) dX4_forgetSentUntil_15 (by decide) c3 ?_
  refine gm_iinc (L' := [some (.ref p), some (.int x1), some (.int (x2 + 1))]) (v := (x2 + 1)) dX4_forgetSentUntil_25 rfl rfl (by decide) rfl ?_
  refine gm_goto (tgt := 2) dX4_forgetSentUntil_28 (by decide) ?_
  exact K
/-- X4_forgetSentUntil 2 [5t] -> ret  -/
theorem PX4_forgetSentUntil_4 {p : Nat} {x1 : Int32} {x2 : Int32} {S : gm_Mem} (kp : p = 4 ∨ p = 16 ∨ p = 62 ∨ p = 74) (c1 : ¬ x2 < 16) : gm_run gC 0 YX4_forgetSentUntil 2 [some (.ref p), some (.int x1), some (.int x2)] [] S none S := by
  refine gm_iload_n dX4_forgetSentUntil_2 rfl ?_
  refine gm_bipush (v := 16) dX4_forgetSentUntil_3 (by decide) ?_
  refine gm_icmp_ge_t (tgt := 31) dX4_forgetSentUntil_5 (by decide) c1 ?_
  exact gm_vret dX4_forgetSentUntil_31 rfl
/-- X4_part 0 [1f 9f 15f] -> ret  -/
theorem PX4_part_1 {p : Nat} {a1 : Int32} {a2 : Int32} {S : gm_Mem} (kp : p = 4 ∨ p = 16 ∨ p = 62 ∨ p = 74) (c1 : ¬ a1 < 0) (c2 : a1 < (S p 2)) (c3 : ¬ a1 < 16) : gm_run gC 1 YX4_part 0 [some (.ref p), some (.int a1), some (.int a2)] [] S (some (.int (-1000000001))) S := by
  refine gm_iload_n dX4_part_0 rfl ?_
  refine gm_if_lt_f dX4_part_1 ⟨18, by decide⟩ c1 ?_
  refine gm_iload_n dX4_part_4 rfl ?_
  refine gm_aload_n dX4_part_5 rfl ?_
  refine gm_getI (own := RX4) (x := (S p 2)) rfl dX4_part_6 lfX4_22 (sC_Ob_0 (by omega)) rfl rfl ?_
  refine gm_icmp_ge_f dX4_part_9 ⟨18, by decide⟩ c2 ?_
  refine gm_iload_n dX4_part_12 rfl ?_
  refine gm_bipush (v := 16) dX4_part_13 (by decide) ?_
  refine gm_icmp_lt_f dX4_part_15 ⟨21, by decide⟩ c3 ?_
  refine gm_ldc (own := RX4) rfl lcX4_41 dX4_part_18 ?_
  exact gm_iret dX4_part_20 rfl
/-- X4_part 0 [1f 9f 15t 22=0] -> ret  -/
theorem PX4_part_2 {p : Nat} {a1 : Int32} {a2 : Int32} {S : gm_Mem} (kp : p = 4 ∨ p = 16 ∨ p = 62 ∨ p = 74) (c1 : ¬ a1 < 0) (c2 : a1 < (S p 2)) (c3 : a1 < 16) (c4 : a2 = 0) : gm_run gC 1 YX4_part 0 [some (.ref p), some (.int a1), some (.int a2)] [] S (some (.int ((S p 3) + a1))) S := by
  refine gm_iload_n dX4_part_0 rfl ?_
  refine gm_if_lt_f dX4_part_1 ⟨18, by decide⟩ c1 ?_
  refine gm_iload_n dX4_part_4 rfl ?_
  refine gm_aload_n dX4_part_5 rfl ?_
  refine gm_getI (own := RX4) (x := (S p 2)) rfl dX4_part_6 lfX4_22 (sC_Ob_0 (by omega)) rfl rfl ?_
  refine gm_icmp_ge_f dX4_part_9 ⟨18, by decide⟩ c2 ?_
  refine gm_iload_n dX4_part_12 rfl ?_
  refine gm_bipush (v := 16) dX4_part_13 (by decide) ?_
  refine gm_icmp_lt_t (tgt := 21) dX4_part_15 (by decide) c3 ?_
  refine gm_iload_n dX4_part_21 rfl ?_
  refine gm_tabEq (v := 0) (tgt := 52) dX4_part_22 c4 (by decide) (by decide) rfl (by decide) ?_
  refine gm_aload_n dX4_part_52 rfl ?_
  refine gm_getI (own := RX4) (x := (S p 3)) rfl dX4_part_53 lfX4_25 (sC_Ob_0 (by omega)) rfl rfl ?_
  refine gm_iload_n dX4_part_56 rfl ?_
  refine gm_iadd dX4_part_57 rfl ?_
  exact gm_iret dX4_part_58 rfl
/-- X4_part 0 [1f 9f 15t 22=1] -> ret  -/
theorem PX4_part_3 {p : Nat} {a1 : Int32} {a2 : Int32} {S : gm_Mem} {j5 : Nat} (kp : p = 4 ∨ p = 16 ∨ p = 62 ∨ p = 74) (c1 : ¬ a1 < 0) (c2 : a1 < (S p 2)) (c3 : a1 < 16) (c4 : a2 = 1) (ij5 : gm_ix a1 j5 16) : gm_run gC 1 YX4_part 0 [some (.ref p), some (.int a1), some (.int a2)] [] S (some (.int (S (p + 1) j5))) S := by
  refine gm_iload_n dX4_part_0 rfl ?_
  refine gm_if_lt_f dX4_part_1 ⟨18, by decide⟩ c1 ?_
  refine gm_iload_n dX4_part_4 rfl ?_
  refine gm_aload_n dX4_part_5 rfl ?_
  refine gm_getI (own := RX4) (x := (S p 2)) rfl dX4_part_6 lfX4_22 (sC_Ob_0 (by omega)) rfl rfl ?_
  refine gm_icmp_ge_f dX4_part_9 ⟨18, by decide⟩ c2 ?_
  refine gm_iload_n dX4_part_12 rfl ?_
  refine gm_bipush (v := 16) dX4_part_13 (by decide) ?_
  refine gm_icmp_lt_t (tgt := 21) dX4_part_15 (by decide) c3 ?_
  refine gm_iload_n dX4_part_21 rfl ?_
  refine gm_tabEq (v := 1) (tgt := 59) dX4_part_22 c4 (by decide) (by decide) rfl (by decide) ?_
  refine gm_aload_n dX4_part_59 rfl ?_
  refine gm_getR (own := RX4) (q := (p + 1)) rfl dX4_part_60 lfX4_9 (sC_Ob_0 (by omega)) rfl ?_
  refine gm_iload_n dX4_part_63 rfl ?_
  refine gm_iald (j := j5) (x := (S (p + 1) j5)) dX4_part_64 (sC_Ob_1 (by omega)) ij5 rfl ?_
  exact gm_iret dX4_part_65 rfl
/-- X4_part 0 [1f 9f 15t 22=2 71f] -> ret  -/
theorem PX4_part_4 {p : Nat} {a1 : Int32} {a2 : Int32} {S : gm_Mem} {r5 : Int32} (kp : p = 4 ∨ p = 16 ∨ p = 62 ∨ p = 74) (c1 : ¬ a1 < 0) (c2 : a1 < (S p 2)) (c3 : a1 < 16) (c4 : a2 = 2) (h6 : gm_run gC 0 YX4_isClose 0 [some (.ref p), some (.int a1)] [] S (some (.int r5)) S) (c7 : ¬ r5 = 0) : gm_run gC 1 YX4_part 0 [some (.ref p), some (.int a1), some (.int a2)] [] S (some (.int 1)) S := by
  refine gm_iload_n dX4_part_0 rfl ?_
  refine gm_if_lt_f dX4_part_1 ⟨18, by decide⟩ c1 ?_
  refine gm_iload_n dX4_part_4 rfl ?_
  refine gm_aload_n dX4_part_5 rfl ?_
  refine gm_getI (own := RX4) (x := (S p 2)) rfl dX4_part_6 lfX4_22 (sC_Ob_0 (by omega)) rfl rfl ?_
  refine gm_icmp_ge_f dX4_part_9 ⟨18, by decide⟩ c2 ?_
  refine gm_iload_n dX4_part_12 rfl ?_
  refine gm_bipush (v := 16) dX4_part_13 (by decide) ?_
  refine gm_icmp_lt_t (tgt := 21) dX4_part_15 (by decide) c3 ?_
  refine gm_iload_n dX4_part_21 rfl ?_
  refine gm_tabEq (v := 2) (tgt := 66) dX4_part_22 c4 (by decide) (by decide) rfl (by decide) ?_
  refine gm_aload_n dX4_part_66 rfl ?_
  refine gm_iload_n dX4_part_67 rfl ?_
  refine gm_callV (r1 := (some (.int r5))) (own := RX4) rfl dX4_part_68 llX4_42 mvX4_isClose (sC_Ob_0 (by omega)) rfl [.int a1] [] rfl rfl (Nat.le_of_ble_eq_true rfl) (by decide) rfl h6 rfl ?_
  refine gm_if_eq_f dX4_part_71 ⟨78, by decide⟩ c7 ?_
  refine gm_iconst (v := 1) dX4_part_74 (by decide) ?_
  refine gm_goto (tgt := 79) dX4_part_75 (by decide) ?_
  exact gm_iret dX4_part_79 rfl
/-- X4_part 0 [1f 9f 15t 22=2 71t] -> ret  -/
theorem PX4_part_5 {p : Nat} {a1 : Int32} {a2 : Int32} {S : gm_Mem} {r5 : Int32} (kp : p = 4 ∨ p = 16 ∨ p = 62 ∨ p = 74) (c1 : ¬ a1 < 0) (c2 : a1 < (S p 2)) (c3 : a1 < 16) (c4 : a2 = 2) (h6 : gm_run gC 0 YX4_isClose 0 [some (.ref p), some (.int a1)] [] S (some (.int r5)) S) (c7 : r5 = 0) : gm_run gC 1 YX4_part 0 [some (.ref p), some (.int a1), some (.int a2)] [] S (some (.int 0)) S := by
  refine gm_iload_n dX4_part_0 rfl ?_
  refine gm_if_lt_f dX4_part_1 ⟨18, by decide⟩ c1 ?_
  refine gm_iload_n dX4_part_4 rfl ?_
  refine gm_aload_n dX4_part_5 rfl ?_
  refine gm_getI (own := RX4) (x := (S p 2)) rfl dX4_part_6 lfX4_22 (sC_Ob_0 (by omega)) rfl rfl ?_
  refine gm_icmp_ge_f dX4_part_9 ⟨18, by decide⟩ c2 ?_
  refine gm_iload_n dX4_part_12 rfl ?_
  refine gm_bipush (v := 16) dX4_part_13 (by decide) ?_
  refine gm_icmp_lt_t (tgt := 21) dX4_part_15 (by decide) c3 ?_
  refine gm_iload_n dX4_part_21 rfl ?_
  refine gm_tabEq (v := 2) (tgt := 66) dX4_part_22 c4 (by decide) (by decide) rfl (by decide) ?_
  refine gm_aload_n dX4_part_66 rfl ?_
  refine gm_iload_n dX4_part_67 rfl ?_
  refine gm_callV (r1 := (some (.int r5))) (own := RX4) rfl dX4_part_68 llX4_42 mvX4_isClose (sC_Ob_0 (by omega)) rfl [.int a1] [] rfl rfl (Nat.le_of_ble_eq_true rfl) (by decide) rfl h6 rfl ?_
  refine gm_if_eq_t (tgt := 78) dX4_part_71 (by decide) c7 ?_
  refine gm_iconst (v := 0) dX4_part_78 (by decide) ?_
  exact gm_iret dX4_part_79 rfl
/-- X4_part 0 [1f 9f 15t 22=3] -> ret  -/
theorem PX4_part_6 {p : Nat} {a1 : Int32} {a2 : Int32} {S : gm_Mem} {j5 : Nat} (kp : p = 4 ∨ p = 16 ∨ p = 62 ∨ p = 74) (c1 : ¬ a1 < 0) (c2 : a1 < (S p 2)) (c3 : a1 < 16) (c4 : a2 = 3) (ij5 : gm_ix a1 j5 16) : gm_run gC 1 YX4_part 0 [some (.ref p), some (.int a1), some (.int a2)] [] S (some (.int (S (p + 2) j5))) S := by
  refine gm_iload_n dX4_part_0 rfl ?_
  refine gm_if_lt_f dX4_part_1 ⟨18, by decide⟩ c1 ?_
  refine gm_iload_n dX4_part_4 rfl ?_
  refine gm_aload_n dX4_part_5 rfl ?_
  refine gm_getI (own := RX4) (x := (S p 2)) rfl dX4_part_6 lfX4_22 (sC_Ob_0 (by omega)) rfl rfl ?_
  refine gm_icmp_ge_f dX4_part_9 ⟨18, by decide⟩ c2 ?_
  refine gm_iload_n dX4_part_12 rfl ?_
  refine gm_bipush (v := 16) dX4_part_13 (by decide) ?_
  refine gm_icmp_lt_t (tgt := 21) dX4_part_15 (by decide) c3 ?_
  refine gm_iload_n dX4_part_21 rfl ?_
  refine gm_tabEq (v := 3) (tgt := 80) dX4_part_22 c4 (by decide) (by decide) rfl (by decide) ?_
  refine gm_aload_n dX4_part_80 rfl ?_
  refine gm_getR (own := RX4) (q := (p + 2)) rfl dX4_part_81 lfX4_15 (sC_Ob_0 (by omega)) rfl ?_
  refine gm_iload_n dX4_part_84 rfl ?_
  refine gm_iald (j := j5) (x := (S (p + 2) j5)) dX4_part_85 (sC_Ob_2 (by omega)) ij5 rfl ?_
  exact gm_iret dX4_part_86 rfl
/-- X4_part 0 [1f 9f 15t 22out] -> ret  -/
theorem PX4_part_7 {p : Nat} {a1 : Int32} {a2 : Int32} {S : gm_Mem} (kp : p = 4 ∨ p = 16 ∨ p = 62 ∨ p = 74) (c1 : ¬ a1 < 0) (c2 : a1 < (S p 2)) (c3 : a1 < 16) (c4 : a2.toInt < 0 ∨ 3 < a2.toInt) : gm_run gC 1 YX4_part 0 [some (.ref p), some (.int a1), some (.int a2)] [] S (some (.int (-1000000002))) S := by
  refine gm_iload_n dX4_part_0 rfl ?_
  refine gm_if_lt_f dX4_part_1 ⟨18, by decide⟩ c1 ?_
  refine gm_iload_n dX4_part_4 rfl ?_
  refine gm_aload_n dX4_part_5 rfl ?_
  refine gm_getI (own := RX4) (x := (S p 2)) rfl dX4_part_6 lfX4_22 (sC_Ob_0 (by omega)) rfl rfl ?_
  refine gm_icmp_ge_f dX4_part_9 ⟨18, by decide⟩ c2 ?_
  refine gm_iload_n dX4_part_12 rfl ?_
  refine gm_bipush (v := 16) dX4_part_13 (by decide) ?_
  refine gm_icmp_lt_t (tgt := 21) dX4_part_15 (by decide) c3 ?_
  refine gm_iload_n dX4_part_21 rfl ?_
  refine gm_tabOut (tgt := 87) dX4_part_22 c4 (by decide) ?_
  refine gm_ldc (own := RX4) rfl lcX4_46 dX4_part_87 ?_
  exact gm_iret dX4_part_89 rfl
/-- X4_part 0 [1f 9t] -> ret  -/
theorem PX4_part_8 {p : Nat} {a1 : Int32} {a2 : Int32} {S : gm_Mem} (kp : p = 4 ∨ p = 16 ∨ p = 62 ∨ p = 74) (c1 : ¬ a1 < 0) (c2 : ¬ a1 < (S p 2)) : gm_run gC 1 YX4_part 0 [some (.ref p), some (.int a1), some (.int a2)] [] S (some (.int (-1000000001))) S := by
  refine gm_iload_n dX4_part_0 rfl ?_
  refine gm_if_lt_f dX4_part_1 ⟨18, by decide⟩ c1 ?_
  refine gm_iload_n dX4_part_4 rfl ?_
  refine gm_aload_n dX4_part_5 rfl ?_
  refine gm_getI (own := RX4) (x := (S p 2)) rfl dX4_part_6 lfX4_22 (sC_Ob_0 (by omega)) rfl rfl ?_
  refine gm_icmp_ge_t (tgt := 18) dX4_part_9 (by decide) c2 ?_
  refine gm_ldc (own := RX4) rfl lcX4_41 dX4_part_18 ?_
  exact gm_iret dX4_part_20 rfl
/-- X4_part 0 [1t] -> ret  -/
theorem PX4_part_9 {p : Nat} {a1 : Int32} {a2 : Int32} {S : gm_Mem} (kp : p = 4 ∨ p = 16 ∨ p = 62 ∨ p = 74) (c1 : a1 < 0) : gm_run gC 1 YX4_part 0 [some (.ref p), some (.int a1), some (.int a2)] [] S (some (.int (-1000000001))) S := by
  refine gm_iload_n dX4_part_0 rfl ?_
  refine gm_if_lt_t (tgt := 18) dX4_part_1 (by decide) c1 ?_
  refine gm_ldc (own := RX4) rfl lcX4_41 dX4_part_18 ?_
  exact gm_iret dX4_part_20 rfl
/-- X5_fill 0 [] -> ret  -/
theorem PX5_fill_1 {p : Nat} {a1 : Int32} {a2 : Int32} {a3 : Int32} {a4 : Int32} {a5 : Int32} {S : gm_Mem} (kp : (28 ≤ p ∧ p < 52) ∨ (86 ≤ p ∧ p < 110) ∨ p = 122) : gm_run gC 0 YX5_fill 0 [some (.ref p), some (.int a1), some (.int a2), some (.int a3), some (.int a4), some (.int a5)] [] S none (gm_u (gm_u (gm_u (gm_u (gm_u (gm_u (gm_u (gm_u (gm_u S p 0 a1) p 1 a2) p 2 a3) p 3 0) p 4 0) p 5 a4) p 6 a5) p 7 0) p 8 0) := by
  refine gm_aload_n dX5_fill_0 rfl ?_
  refine gm_iload_n dX5_fill_1 rfl ?_
  refine gm_put (own := RX5) rfl dX5_fill_2 lfX5_9 (sC_Pk_0 (by omega)) rfl (gm_fit_int _) ?_
  refine gm_aload_n dX5_fill_5 rfl ?_
  refine gm_iload_n dX5_fill_6 rfl ?_
  refine gm_put (own := RX5) rfl dX5_fill_7 lfX5_15 (sC_Pk_0 (by omega)) rfl (gm_fit_int _) ?_
  refine gm_aload_n dX5_fill_10 rfl ?_
  refine gm_iload_n dX5_fill_11 rfl ?_
  refine gm_put (own := RX5) rfl dX5_fill_12 lfX5_18 (sC_Pk_0 (by omega)) rfl (gm_fit_int _) ?_
  refine gm_aload_n dX5_fill_15 rfl ?_
  refine gm_iconst (v := 0) dX5_fill_16 (by decide) ?_
  refine gm_put (own := RX5) rfl dX5_fill_17 lfX5_21 (sC_Pk_0 (by omega)) rfl (gm_fit_int _) ?_
  refine gm_aload_n dX5_fill_20 rfl ?_
  refine gm_iconst (v := 0) dX5_fill_21 (by decide) ?_
  refine gm_put (own := RX5) rfl dX5_fill_22 lfX5_24 (sC_Pk_0 (by omega)) rfl (gm_fit_int _) ?_
  refine gm_aload_n dX5_fill_25 rfl ?_
  refine gm_iload dX5_fill_26 rfl ?_
  refine gm_put (own := RX5) rfl dX5_fill_28 lfX5_27 (sC_Pk_0 (by omega)) rfl (gm_fit_int _) ?_
  refine gm_aload_n dX5_fill_31 rfl ?_
  refine gm_iload dX5_fill_32 rfl ?_
  refine gm_put (own := RX5) rfl dX5_fill_34 lfX5_30 (sC_Pk_0 (by omega)) rfl (gm_fit_int _) ?_
  refine gm_aload_n dX5_fill_37 rfl ?_
  refine gm_iconst (v := 0) dX5_fill_38 (by decide) ?_
  refine gm_put (own := RX5) rfl dX5_fill_39 lfX5_33 (sC_Pk_0 (by omega)) rfl (gm_fit_int _) ?_
  refine gm_aload_n dX5_fill_42 rfl ?_
  refine gm_iconst (v := 0) dX5_fill_43 (by decide) ?_
  refine gm_put (own := RX5) rfl dX5_fill_44 lfX5_36 (sC_Pk_0 (by omega)) rfl (gm_fit_int _) ?_
  exact gm_vret dX5_fill_47 rfl
/-- X5_isProtected 0 [5f] -> ret  -/
theorem PX5_isProtected_1 {p : Nat} {S : gm_Mem} (kp : (28 ≤ p ∧ p < 52) ∨ (86 ≤ p ∧ p < 110) ∨ p = 122) (c1 : ¬ (S p 1) < 3) : gm_run gC 0 YX5_isProtected 0 [some (.ref p)] [] S (some (.int 1)) S := by
  refine gm_aload_n dX5_isProtected_0 rfl ?_
  refine gm_getI (own := RX5) (x := (S p 1)) rfl dX5_isProtected_1 lfX5_15 (sC_Pk_0 (by omega)) rfl rfl ?_
  refine gm_iconst (v := 3) dX5_isProtected_4 (by decide) ?_
  refine gm_icmp_lt_f dX5_isProtected_5 ⟨12, by decide⟩ c1 ?_
  refine gm_iconst (v := 1) dX5_isProtected_8 (by decide) ?_
  refine gm_goto (tgt := 13) dX5_isProtected_9 (by decide) ?_
  exact gm_zret dX5_isProtected_13 rfl gm_fit_1
/-- X5_isProtected 0 [5t] -> ret  -/
theorem PX5_isProtected_2 {p : Nat} {S : gm_Mem} (kp : (28 ≤ p ∧ p < 52) ∨ (86 ≤ p ∧ p < 110) ∨ p = 122) (c1 : (S p 1) < 3) : gm_run gC 0 YX5_isProtected 0 [some (.ref p)] [] S (some (.int 0)) S := by
  refine gm_aload_n dX5_isProtected_0 rfl ?_
  refine gm_getI (own := RX5) (x := (S p 1)) rfl dX5_isProtected_1 lfX5_15 (sC_Pk_0 (by omega)) rfl rfl ?_
  refine gm_iconst (v := 3) dX5_isProtected_4 (by decide) ?_
  refine gm_icmp_lt_t (tgt := 12) dX5_isProtected_5 (by decide) c1 ?_
  refine gm_iconst (v := 0) dX5_isProtected_12 (by decide) ?_
  exact gm_zret dX5_isProtected_13 rfl gm_fit_0
/-- X5_bringsMessage 0 [5f 14f] -> ret  -/
theorem PX5_bringsMessage_1 {p : Nat} {S : gm_Mem} (kp : (28 ≤ p ∧ p < 52) ∨ (86 ≤ p ∧ p < 110) ∨ p = 122) (c1 : ¬ (S p 1) = 4) (c2 : (S p 1) = 7) : gm_run gC 0 YX5_bringsMessage 0 [some (.ref p)] [] S (some (.int 1)) S := by
  refine gm_aload_n dX5_bringsMessage_0 rfl ?_
  refine gm_getI (own := RX5) (x := (S p 1)) rfl dX5_bringsMessage_1 lfX5_15 (sC_Pk_0 (by omega)) rfl rfl ?_
  refine gm_iconst (v := 4) dX5_bringsMessage_4 (by decide) ?_
  refine gm_icmp_eq_f dX5_bringsMessage_5 ⟨17, by decide⟩ c1 ?_
  refine gm_aload_n dX5_bringsMessage_8 rfl ?_
  refine gm_getI (own := RX5) (x := (S p 1)) rfl dX5_bringsMessage_9 lfX5_15 (sC_Pk_0 (by omega)) rfl rfl ?_
  refine gm_bipush (v := 7) dX5_bringsMessage_12 (by decide) ?_
  refine gm_icmp_ne_f dX5_bringsMessage_14 ⟨21, by decide⟩ c2 ?_
  refine gm_iconst (v := 1) dX5_bringsMessage_17 (by decide) ?_
  refine gm_goto (tgt := 22) dX5_bringsMessage_18 (by decide) ?_
  exact gm_zret dX5_bringsMessage_22 rfl gm_fit_1
/-- X5_bringsMessage 0 [5f 14t] -> ret  -/
theorem PX5_bringsMessage_2 {p : Nat} {S : gm_Mem} (kp : (28 ≤ p ∧ p < 52) ∨ (86 ≤ p ∧ p < 110) ∨ p = 122) (c1 : ¬ (S p 1) = 4) (c2 : ¬ (S p 1) = 7) : gm_run gC 0 YX5_bringsMessage 0 [some (.ref p)] [] S (some (.int 0)) S := by
  refine gm_aload_n dX5_bringsMessage_0 rfl ?_
  refine gm_getI (own := RX5) (x := (S p 1)) rfl dX5_bringsMessage_1 lfX5_15 (sC_Pk_0 (by omega)) rfl rfl ?_
  refine gm_iconst (v := 4) dX5_bringsMessage_4 (by decide) ?_
  refine gm_icmp_eq_f dX5_bringsMessage_5 ⟨17, by decide⟩ c1 ?_
  refine gm_aload_n dX5_bringsMessage_8 rfl ?_
  refine gm_getI (own := RX5) (x := (S p 1)) rfl dX5_bringsMessage_9 lfX5_15 (sC_Pk_0 (by omega)) rfl rfl ?_
  refine gm_bipush (v := 7) dX5_bringsMessage_12 (by decide) ?_
  refine gm_icmp_ne_t (tgt := 21) dX5_bringsMessage_14 (by decide) c2 ?_
  refine gm_iconst (v := 0) dX5_bringsMessage_21 (by decide) ?_
  exact gm_zret dX5_bringsMessage_22 rfl gm_fit_0
/-- X5_bringsMessage 0 [5t] -> ret  -/
theorem PX5_bringsMessage_3 {p : Nat} {S : gm_Mem} (kp : (28 ≤ p ∧ p < 52) ∨ (86 ≤ p ∧ p < 110) ∨ p = 122) (c1 : (S p 1) = 4) : gm_run gC 0 YX5_bringsMessage 0 [some (.ref p)] [] S (some (.int 1)) S := by
  refine gm_aload_n dX5_bringsMessage_0 rfl ?_
  refine gm_getI (own := RX5) (x := (S p 1)) rfl dX5_bringsMessage_1 lfX5_15 (sC_Pk_0 (by omega)) rfl rfl ?_
  refine gm_iconst (v := 4) dX5_bringsMessage_4 (by decide) ?_
  refine gm_icmp_eq_t (tgt := 17) dX5_bringsMessage_5 (by decide) c1 ?_
  refine gm_iconst (v := 1) dX5_bringsMessage_17 (by decide) ?_
  refine gm_goto (tgt := 22) dX5_bringsMessage_18 (by decide) ?_
  exact gm_zret dX5_bringsMessage_22 rfl gm_fit_1
/-- X5_part 0 [1=0] -> ret  -/
theorem PX5_part_1 {p : Nat} {a1 : Int32} {S : gm_Mem} (kp : (28 ≤ p ∧ p < 52) ∨ (86 ≤ p ∧ p < 110) ∨ p = 122) (c1 : a1 = 0) : gm_run gC 0 YX5_part 0 [some (.ref p), some (.int a1)] [] S (some (.int (S p 0))) S := by
  refine gm_iload_n dX5_part_0 rfl ?_
  refine gm_tabEq (v := 0) (tgt := 52) dX5_part_1 c1 (by decide) (by decide) rfl (by decide) ?_
  refine gm_aload_n dX5_part_52 rfl ?_
  refine gm_getI (own := RX5) (x := (S p 0)) rfl dX5_part_53 lfX5_9 (sC_Pk_0 (by omega)) rfl rfl ?_
  exact gm_iret dX5_part_56 rfl
/-- X5_part 0 [1=1] -> ret  -/
theorem PX5_part_2 {p : Nat} {a1 : Int32} {S : gm_Mem} (kp : (28 ≤ p ∧ p < 52) ∨ (86 ≤ p ∧ p < 110) ∨ p = 122) (c1 : a1 = 1) : gm_run gC 0 YX5_part 0 [some (.ref p), some (.int a1)] [] S (some (.int (S p 1))) S := by
  refine gm_iload_n dX5_part_0 rfl ?_
  refine gm_tabEq (v := 1) (tgt := 57) dX5_part_1 c1 (by decide) (by decide) rfl (by decide) ?_
  refine gm_aload_n dX5_part_57 rfl ?_
  refine gm_getI (own := RX5) (x := (S p 1)) rfl dX5_part_58 lfX5_15 (sC_Pk_0 (by omega)) rfl rfl ?_
  exact gm_iret dX5_part_61 rfl
/-- X5_part 0 [1=2] -> ret  -/
theorem PX5_part_3 {p : Nat} {a1 : Int32} {S : gm_Mem} (kp : (28 ≤ p ∧ p < 52) ∨ (86 ≤ p ∧ p < 110) ∨ p = 122) (c1 : a1 = 2) : gm_run gC 0 YX5_part 0 [some (.ref p), some (.int a1)] [] S (some (.int (S p 2))) S := by
  refine gm_iload_n dX5_part_0 rfl ?_
  refine gm_tabEq (v := 2) (tgt := 62) dX5_part_1 c1 (by decide) (by decide) rfl (by decide) ?_
  refine gm_aload_n dX5_part_62 rfl ?_
  refine gm_getI (own := RX5) (x := (S p 2)) rfl dX5_part_63 lfX5_18 (sC_Pk_0 (by omega)) rfl rfl ?_
  exact gm_iret dX5_part_66 rfl
/-- X5_part 0 [1=3] -> ret  -/
theorem PX5_part_4 {p : Nat} {a1 : Int32} {S : gm_Mem} (kp : (28 ≤ p ∧ p < 52) ∨ (86 ≤ p ∧ p < 110) ∨ p = 122) (c1 : a1 = 3) : gm_run gC 0 YX5_part 0 [some (.ref p), some (.int a1)] [] S (some (.int (S p 3))) S := by
  refine gm_iload_n dX5_part_0 rfl ?_
  refine gm_tabEq (v := 3) (tgt := 67) dX5_part_1 c1 (by decide) (by decide) rfl (by decide) ?_
  refine gm_aload_n dX5_part_67 rfl ?_
  refine gm_getI (own := RX5) (x := (S p 3)) rfl dX5_part_68 lfX5_21 (sC_Pk_0 (by omega)) rfl rfl ?_
  exact gm_iret dX5_part_71 rfl
/-- X5_part 0 [1=4] -> ret  -/
theorem PX5_part_5 {p : Nat} {a1 : Int32} {S : gm_Mem} (kp : (28 ≤ p ∧ p < 52) ∨ (86 ≤ p ∧ p < 110) ∨ p = 122) (c1 : a1 = 4) : gm_run gC 0 YX5_part 0 [some (.ref p), some (.int a1)] [] S (some (.int (S p 4))) S := by
  refine gm_iload_n dX5_part_0 rfl ?_
  refine gm_tabEq (v := 4) (tgt := 72) dX5_part_1 c1 (by decide) (by decide) rfl (by decide) ?_
  refine gm_aload_n dX5_part_72 rfl ?_
  refine gm_getI (own := RX5) (x := (S p 4)) rfl dX5_part_73 lfX5_24 (sC_Pk_0 (by omega)) rfl rfl ?_
  exact gm_iret dX5_part_76 rfl
/-- X5_part 0 [1=5] -> ret  -/
theorem PX5_part_6 {p : Nat} {a1 : Int32} {S : gm_Mem} (kp : (28 ≤ p ∧ p < 52) ∨ (86 ≤ p ∧ p < 110) ∨ p = 122) (c1 : a1 = 5) : gm_run gC 0 YX5_part 0 [some (.ref p), some (.int a1)] [] S (some (.int (S p 5))) S := by
  refine gm_iload_n dX5_part_0 rfl ?_
  refine gm_tabEq (v := 5) (tgt := 77) dX5_part_1 c1 (by decide) (by decide) rfl (by decide) ?_
  refine gm_aload_n dX5_part_77 rfl ?_
  refine gm_getI (own := RX5) (x := (S p 5)) rfl dX5_part_78 lfX5_27 (sC_Pk_0 (by omega)) rfl rfl ?_
  exact gm_iret dX5_part_81 rfl
/-- X5_part 0 [1=6] -> ret  -/
theorem PX5_part_7 {p : Nat} {a1 : Int32} {S : gm_Mem} (kp : (28 ≤ p ∧ p < 52) ∨ (86 ≤ p ∧ p < 110) ∨ p = 122) (c1 : a1 = 6) : gm_run gC 0 YX5_part 0 [some (.ref p), some (.int a1)] [] S (some (.int (S p 6))) S := by
  refine gm_iload_n dX5_part_0 rfl ?_
  refine gm_tabEq (v := 6) (tgt := 82) dX5_part_1 c1 (by decide) (by decide) rfl (by decide) ?_
  refine gm_aload_n dX5_part_82 rfl ?_
  refine gm_getI (own := RX5) (x := (S p 6)) rfl dX5_part_83 lfX5_30 (sC_Pk_0 (by omega)) rfl rfl ?_
  exact gm_iret dX5_part_86 rfl
/-- X5_part 0 [1=7] -> ret  -/
theorem PX5_part_8 {p : Nat} {a1 : Int32} {S : gm_Mem} (kp : (28 ≤ p ∧ p < 52) ∨ (86 ≤ p ∧ p < 110) ∨ p = 122) (c1 : a1 = 7) : gm_run gC 0 YX5_part 0 [some (.ref p), some (.int a1)] [] S (some (.int (S p 7))) S := by
  refine gm_iload_n dX5_part_0 rfl ?_
  refine gm_tabEq (v := 7) (tgt := 87) dX5_part_1 c1 (by decide) (by decide) rfl (by decide) ?_
  refine gm_aload_n dX5_part_87 rfl ?_
  refine gm_getI (own := RX5) (x := (S p 7)) rfl dX5_part_88 lfX5_33 (sC_Pk_0 (by omega)) rfl rfl ?_
  exact gm_iret dX5_part_91 rfl
/-- X5_part 0 [1=8] -> ret  -/
theorem PX5_part_9 {p : Nat} {a1 : Int32} {S : gm_Mem} (kp : (28 ≤ p ∧ p < 52) ∨ (86 ≤ p ∧ p < 110) ∨ p = 122) (c1 : a1 = 8) : gm_run gC 0 YX5_part 0 [some (.ref p), some (.int a1)] [] S (some (.int (S p 8))) S := by
  refine gm_iload_n dX5_part_0 rfl ?_
  refine gm_tabEq (v := 8) (tgt := 92) dX5_part_1 c1 (by decide) (by decide) rfl (by decide) ?_
  refine gm_aload_n dX5_part_92 rfl ?_
  refine gm_getI (own := RX5) (x := (S p 8)) rfl dX5_part_93 lfX5_36 (sC_Pk_0 (by omega)) rfl rfl ?_
  exact gm_iret dX5_part_96 rfl
/-- X5_part 0 [1out] -> ret  -/
theorem PX5_part_10 {p : Nat} {a1 : Int32} {S : gm_Mem} (kp : (28 ≤ p ∧ p < 52) ∨ (86 ≤ p ∧ p < 110) ∨ p = 122) (c1 : a1.toInt < 0 ∨ 8 < a1.toInt) : gm_run gC 0 YX5_part 0 [some (.ref p), some (.int a1)] [] S (some (.int (-1000000002))) S := by
  refine gm_iload_n dX5_part_0 rfl ?_
  refine gm_tabOut (tgt := 97) dX5_part_1 c1 (by decide) ?_
  refine gm_ldc (own := RX5) rfl lcX5_39 dX5_part_97 ?_
  exact gm_iret dX5_part_99 rfl
/-- X6_extend 0 [] -> cut 2 -/
theorem PX6_extend_1 {a1 : Int32} {a2 : Int32} {S : gm_Mem} {r : Option Value} {S2 : gm_Mem}  (K : gm_run gC 0 YX6_extend 2 [some (.ref 117), some (.int a1), some (.int a2), some (.int 0)] [] S r S2) : gm_run gC 0 YX6_extend 0 [some (.ref 117), some (.int a1), some (.int a2), none] [] S r S2 := by
  refine gm_iconst (v := 0) dX6_extend_0 (by decide) ?_
  refine gm_istore_n (L' := [some (.ref 117), some (.int a1), some (.int a2), some (.int 0)]) dX6_extend_1 (by decide) rfl ?_
  exact K
/-- X6_extend 2 [4f 11f 20f] -> cut 2 -/
theorem PX6_extend_2 {x1 : Int32} {x2 : Int32} {x3 : Int32} {S : gm_Mem} {j4 : Nat} {r : Option Value} {S2 : gm_Mem} (c1 : x3 < x2) (c2 : ¬ (S 117 4) < 0) (c3 : (S 117 4) < 40) (ij4 : gm_ix (S 117 4) j4 40) (K : gm_run gC 0 YX6_extend 2 [some (.ref 117), some (.int x1), some (.int x2), some (.int (x3 + 1))] [] (gm_u (gm_u S 118 j4 x1) 117 4 ((S 117 4) + 1)) r S2) : gm_run gC 0 YX6_extend 2 [some (.ref 117), some (.int x1), some (.int x2), some (.int x3)] [] S r S2 := by
  refine gm_iload_n dX6_extend_2 rfl ?_
  refine gm_iload_n dX6_extend_3 rfl ?_
  refine gm_icmp_ge_f dX6_extend_4 ⟨49, by decide⟩ c1 ?_
  refine gm_aload_n dX6_extend_7 rfl ?_
  refine gm_getI (own := RX6) (x := (S 117 4)) rfl dX6_extend_8 lfX6_24 sC_117 rfl rfl ?_
  refine gm_if_lt_f dX6_extend_11 ⟨49, by decide⟩ c2 ?_
  refine gm_aload_n dX6_extend_14 rfl ?_
  refine gm_getI (own := RX6) (x := (S 117 4)) rfl dX6_extend_15 lfX6_24 sC_117 rfl rfl ?_
  refine gm_bipush (v := 40) dX6_extend_18 (by decide) ?_
  refine gm_icmp_ge_f dX6_extend_20 ⟨49, by decide⟩ c3 ?_
  refine gm_aload_n dX6_extend_23 rfl ?_
  refine gm_getR (own := RX6) (q := 118) rfl dX6_extend_24 lfX6_9 sC_117 rfl ?_
  refine gm_aload_n dX6_extend_27 rfl ?_
  refine gm_getI (own := RX6) (x := (S 117 4)) rfl dX6_extend_28 lfX6_24 sC_117 rfl rfl ?_
  refine gm_iload_n dX6_extend_31 rfl ?_
  refine gm_iast (j := j4) dX6_extend_32 sC_118 ij4 ?_
  refine gm_aload_n dX6_extend_33 rfl ?_
  refine gm_dup dX6_extend_34 ?_
  refine gm_getI (own := RX6) (x := (S 117 4)) rfl dX6_extend_35 lfX6_24 sC_117 rfl (gm_rp (by omega)) ?_
  refine gm_iconst (v := 1) dX6_extend_38 (by decide) ?_
  refine gm_iadd dX6_extend_39 rfl ?_
  refine gm_put (own := RX6) rfl dX6_extend_40 lfX6_24 sC_117 rfl (gm_fit_int _) ?_
  refine gm_iinc (L' := [some (.ref 117), some (.int x1), some (.int x2), some (.int (x3 + 1))]) (v := (x3 + 1)) dX6_extend_43 rfl rfl (by decide) rfl ?_
  refine gm_goto (tgt := 2) dX6_extend_46 (by decide) ?_
  exact K
/-- X6_extend 2 [4f 11f 20t] -> ret  -/
theorem PX6_extend_3 {x1 : Int32} {x2 : Int32} {x3 : Int32} {S : gm_Mem} (c1 : x3 < x2) (c2 : ¬ (S 117 4) < 0) (c3 : ¬ (S 117 4) < 40) : gm_run gC 0 YX6_extend 2 [some (.ref 117), some (.int x1), some (.int x2), some (.int x3)] [] S none S := by
  refine gm_iload_n dX6_extend_2 rfl ?_
  refine gm_iload_n dX6_extend_3 rfl ?_
  refine gm_icmp_ge_f dX6_extend_4 ⟨49, by decide⟩ c1 ?_
  refine gm_aload_n dX6_extend_7 rfl ?_
  refine gm_getI (own := RX6) (x := (S 117 4)) rfl dX6_extend_8 lfX6_24 sC_117 rfl rfl ?_
  refine gm_if_lt_f dX6_extend_11 ⟨49, by decide⟩ c2 ?_
  refine gm_aload_n dX6_extend_14 rfl ?_
  refine gm_getI (own := RX6) (x := (S 117 4)) rfl dX6_extend_15 lfX6_24 sC_117 rfl rfl ?_
  refine gm_bipush (v := 40) dX6_extend_18 (by decide) ?_
  refine gm_icmp_ge_t (tgt := 49) dX6_extend_20 (by decide) c3 ?_
  exact gm_vret dX6_extend_49 rfl
/-- X6_extend 2 [4f 11t] -> ret  -/
theorem PX6_extend_4 {x1 : Int32} {x2 : Int32} {x3 : Int32} {S : gm_Mem} (c1 : x3 < x2) (c2 : (S 117 4) < 0) : gm_run gC 0 YX6_extend 2 [some (.ref 117), some (.int x1), some (.int x2), some (.int x3)] [] S none S := by
  refine gm_iload_n dX6_extend_2 rfl ?_
  refine gm_iload_n dX6_extend_3 rfl ?_
  refine gm_icmp_ge_f dX6_extend_4 ⟨49, by decide⟩ c1 ?_
  refine gm_aload_n dX6_extend_7 rfl ?_
  refine gm_getI (own := RX6) (x := (S 117 4)) rfl dX6_extend_8 lfX6_24 sC_117 rfl rfl ?_
  refine gm_if_lt_t (tgt := 49) dX6_extend_11 (by decide) c2 ?_
  exact gm_vret dX6_extend_49 rfl
/-- X6_extend 2 [4t] -> ret  -/
theorem PX6_extend_5 {x1 : Int32} {x2 : Int32} {x3 : Int32} {S : gm_Mem} (c1 : ¬ x3 < x2) : gm_run gC 0 YX6_extend 2 [some (.ref 117), some (.int x1), some (.int x2), some (.int x3)] [] S none S := by
  refine gm_iload_n dX6_extend_2 rfl ?_
  refine gm_iload_n dX6_extend_3 rfl ?_
  refine gm_icmp_ge_t (tgt := 49) dX6_extend_4 (by decide) c1 ?_
  exact gm_vret dX6_extend_49 rfl
/-- X6_here 0 [4f 15f 24f] -> ret  -/
theorem PX6_here_1 {S : gm_Mem} (c1 : ¬ (S 117 6) < 0) (c2 : (S 117 6) < (S 117 4)) (c3 : ¬ (S 117 6) < 40) : gm_run gC 0 YX6_here 0 [some (.ref 117)] [] S (some (.int (-1))) S := by
  refine gm_aload_n dX6_here_0 rfl ?_
  refine gm_getI (own := RX6) (x := (S 117 6)) rfl dX6_here_1 lfX6_28 sC_117 rfl rfl ?_
  refine gm_if_lt_f dX6_here_4 ⟨27, by decide⟩ c1 ?_
  refine gm_aload_n dX6_here_7 rfl ?_
  refine gm_getI (own := RX6) (x := (S 117 6)) rfl dX6_here_8 lfX6_28 sC_117 rfl rfl ?_
  refine gm_aload_n dX6_here_11 rfl ?_
  refine gm_getI (own := RX6) (x := (S 117 4)) rfl dX6_here_12 lfX6_24 sC_117 rfl rfl ?_
  refine gm_icmp_ge_f dX6_here_15 ⟨27, by decide⟩ c2 ?_
  refine gm_aload_n dX6_here_18 rfl ?_
  refine gm_getI (own := RX6) (x := (S 117 6)) rfl dX6_here_19 lfX6_28 sC_117 rfl rfl ?_
  refine gm_bipush (v := 40) dX6_here_22 (by decide) ?_
  refine gm_icmp_lt_f dX6_here_24 ⟨29, by decide⟩ c3 ?_
  refine gm_iconst (v := (-1)) dX6_here_27 (by decide) ?_
  exact gm_iret dX6_here_28 rfl
/-- X6_here 0 [4f 15f 24t] -> ret  -/
theorem PX6_here_2 {S : gm_Mem} {j4 : Nat} (c1 : ¬ (S 117 6) < 0) (c2 : (S 117 6) < (S 117 4)) (c3 : (S 117 6) < 40) (ij4 : gm_ix (S 117 6) j4 40) : gm_run gC 0 YX6_here 0 [some (.ref 117)] [] S (some (.int (S 118 j4))) S := by
  refine gm_aload_n dX6_here_0 rfl ?_
  refine gm_getI (own := RX6) (x := (S 117 6)) rfl dX6_here_1 lfX6_28 sC_117 rfl rfl ?_
  refine gm_if_lt_f dX6_here_4 ⟨27, by decide⟩ c1 ?_
  refine gm_aload_n dX6_here_7 rfl ?_
  refine gm_getI (own := RX6) (x := (S 117 6)) rfl dX6_here_8 lfX6_28 sC_117 rfl rfl ?_
  refine gm_aload_n dX6_here_11 rfl ?_
  refine gm_getI (own := RX6) (x := (S 117 4)) rfl dX6_here_12 lfX6_24 sC_117 rfl rfl ?_
  refine gm_icmp_ge_f dX6_here_15 ⟨27, by decide⟩ c2 ?_
  refine gm_aload_n dX6_here_18 rfl ?_
  refine gm_getI (own := RX6) (x := (S 117 6)) rfl dX6_here_19 lfX6_28 sC_117 rfl rfl ?_
  refine gm_bipush (v := 40) dX6_here_22 (by decide) ?_
  refine gm_icmp_lt_t (tgt := 29) dX6_here_24 (by decide) c3 ?_
  refine gm_aload_n dX6_here_29 rfl ?_
  refine gm_getR (own := RX6) (q := 118) rfl dX6_here_30 lfX6_9 sC_117 rfl ?_
  refine gm_aload_n dX6_here_33 rfl ?_
  refine gm_getI (own := RX6) (x := (S 117 6)) rfl dX6_here_34 lfX6_28 sC_117 rfl rfl ?_
  refine gm_iald (j := j4) (x := (S 118 j4)) dX6_here_37 sC_118 ij4 rfl ?_
  exact gm_iret dX6_here_38 rfl
/-- X6_here 0 [4f 15t] -> ret  -/
theorem PX6_here_3 {S : gm_Mem} (c1 : ¬ (S 117 6) < 0) (c2 : ¬ (S 117 6) < (S 117 4)) : gm_run gC 0 YX6_here 0 [some (.ref 117)] [] S (some (.int (-1))) S := by
  refine gm_aload_n dX6_here_0 rfl ?_
  refine gm_getI (own := RX6) (x := (S 117 6)) rfl dX6_here_1 lfX6_28 sC_117 rfl rfl ?_
  refine gm_if_lt_f dX6_here_4 ⟨27, by decide⟩ c1 ?_
  refine gm_aload_n dX6_here_7 rfl ?_
  refine gm_getI (own := RX6) (x := (S 117 6)) rfl dX6_here_8 lfX6_28 sC_117 rfl rfl ?_
  refine gm_aload_n dX6_here_11 rfl ?_
  refine gm_getI (own := RX6) (x := (S 117 4)) rfl dX6_here_12 lfX6_24 sC_117 rfl rfl ?_
  refine gm_icmp_ge_t (tgt := 27) dX6_here_15 (by decide) c2 ?_
  refine gm_iconst (v := (-1)) dX6_here_27 (by decide) ?_
  exact gm_iret dX6_here_28 rfl
/-- X6_here 0 [4t] -> ret  -/
theorem PX6_here_4 {S : gm_Mem} (c1 : (S 117 6) < 0) : gm_run gC 0 YX6_here 0 [some (.ref 117)] [] S (some (.int (-1))) S := by
  refine gm_aload_n dX6_here_0 rfl ?_
  refine gm_getI (own := RX6) (x := (S 117 6)) rfl dX6_here_1 lfX6_28 sC_117 rfl rfl ?_
  refine gm_if_lt_t (tgt := 27) dX6_here_4 (by decide) c1 ?_
  refine gm_iconst (v := (-1)) dX6_here_27 (by decide) ?_
  exact gm_iret dX6_here_28 rfl
/-- X6_addAction 0 [4f 13f] -> ret  -/
theorem PX6_addAction_1 {a1 : Int32} {a2 : Int32} {a3 : Int32} {S : gm_Mem} {j3 : Nat} (c1 : ¬ (S 117 5) < 0) (c2 : (S 117 5) < 40) (ij3 : gm_ix (S 117 5) j3 40) : gm_run gC 0 YX6_addAction 0 [some (.ref 117), some (.int a1), some (.int a2), some (.int a3)] [] S none (gm_u (gm_u (gm_u (gm_u S 119 j3 a1) 120 j3 a2) 121 j3 a3) 117 5 ((S 117 5) + 1)) := by
  refine gm_aload_n dX6_addAction_0 rfl ?_
  refine gm_getI (own := RX6) (x := (S 117 5)) rfl dX6_addAction_1 lfX6_31 sC_117 rfl rfl ?_
  refine gm_if_lt_f dX6_addAction_4 ⟨56, by decide⟩ c1 ?_
  refine gm_aload_n dX6_addAction_7 rfl ?_
  refine gm_getI (own := RX6) (x := (S 117 5)) rfl dX6_addAction_8 lfX6_31 sC_117 rfl rfl ?_
  refine gm_bipush (v := 40) dX6_addAction_11 (by decide) ?_
  refine gm_icmp_ge_f dX6_addAction_13 ⟨56, by decide⟩ c2 ?_
  refine gm_aload_n dX6_addAction_16 rfl ?_
  refine gm_getR (own := RX6) (q := 119) rfl dX6_addAction_17 lfX6_15 sC_117 rfl ?_
  refine gm_aload_n dX6_addAction_20 rfl ?_
  refine gm_getI (own := RX6) (x := (S 117 5)) rfl dX6_addAction_21 lfX6_31 sC_117 rfl rfl ?_
  refine gm_iload_n dX6_addAction_24 rfl ?_
  refine gm_iast (j := j3) dX6_addAction_25 sC_119 ij3 ?_
  refine gm_aload_n dX6_addAction_26 rfl ?_
  refine gm_getR (own := RX6) (q := 120) rfl dX6_addAction_27 lfX6_18 sC_117 rfl ?_
  refine gm_aload_n dX6_addAction_30 rfl ?_
  refine gm_getI (own := RX6) (x := (S 117 5)) rfl dX6_addAction_31 lfX6_31 sC_117 rfl (gm_rp (by omega)) ?_
  refine gm_iload_n dX6_addAction_34 rfl ?_
  refine gm_iast (j := j3) dX6_addAction_35 sC_120 ij3 ?_
  refine gm_aload_n dX6_addAction_36 rfl ?_
  refine gm_getR (own := RX6) (q := 121) rfl dX6_addAction_37 lfX6_21 sC_117 rfl ?_
  refine gm_aload_n dX6_addAction_40 rfl ?_
  refine gm_getI (own := RX6) (x := (S 117 5)) rfl dX6_addAction_41 lfX6_31 sC_117 rfl ((gm_rp (by omega)).trans (gm_rp (by omega))) ?_
  refine gm_iload_n dX6_addAction_44 rfl ?_
  refine gm_iast (j := j3) dX6_addAction_45 sC_121 ij3 ?_
  refine gm_aload_n dX6_addAction_46 rfl ?_
  refine gm_dup dX6_addAction_47 ?_
  refine gm_getI (own := RX6) (x := (S 117 5)) rfl dX6_addAction_48 lfX6_31 sC_117 rfl ((gm_rp (by omega)).trans ((gm_rp (by omega)).trans (gm_rp (by omega)))) ?_
  refine gm_iconst (v := 1) dX6_addAction_51 (by decide) ?_
  refine gm_iadd dX6_addAction_52 rfl ?_
  refine gm_put (own := RX6) rfl dX6_addAction_53 lfX6_31 sC_117 rfl (gm_fit_int _) ?_
  exact gm_vret dX6_addAction_56 rfl
/-- X6_addAction 0 [4f 13t] -> ret  -/
theorem PX6_addAction_2 {a1 : Int32} {a2 : Int32} {a3 : Int32} {S : gm_Mem} (c1 : ¬ (S 117 5) < 0) (c2 : ¬ (S 117 5) < 40) : gm_run gC 0 YX6_addAction 0 [some (.ref 117), some (.int a1), some (.int a2), some (.int a3)] [] S none S := by
  refine gm_aload_n dX6_addAction_0 rfl ?_
  refine gm_getI (own := RX6) (x := (S 117 5)) rfl dX6_addAction_1 lfX6_31 sC_117 rfl rfl ?_
  refine gm_if_lt_f dX6_addAction_4 ⟨56, by decide⟩ c1 ?_
  refine gm_aload_n dX6_addAction_7 rfl ?_
  refine gm_getI (own := RX6) (x := (S 117 5)) rfl dX6_addAction_8 lfX6_31 sC_117 rfl rfl ?_
  refine gm_bipush (v := 40) dX6_addAction_11 (by decide) ?_
  refine gm_icmp_ge_t (tgt := 56) dX6_addAction_13 (by decide) c2 ?_
  exact gm_vret dX6_addAction_56 rfl
/-- X6_addAction 0 [4t] -> ret  -/
theorem PX6_addAction_3 {a1 : Int32} {a2 : Int32} {a3 : Int32} {S : gm_Mem} (c1 : (S 117 5) < 0) : gm_run gC 0 YX6_addAction 0 [some (.ref 117), some (.int a1), some (.int a2), some (.int a3)] [] S none S := by
  refine gm_aload_n dX6_addAction_0 rfl ?_
  refine gm_getI (own := RX6) (x := (S 117 5)) rfl dX6_addAction_1 lfX6_31 sC_117 rfl rfl ?_
  refine gm_if_lt_t (tgt := 56) dX6_addAction_4 (by decide) c1 ?_
  exact gm_vret dX6_addAction_56 rfl
/-- X6_isDigit 0 [6f 15f] -> ret  -/
theorem PX6_isDigit_1 {S : gm_Mem} {r1 : Int32} {r4 : Int32} (h2 : gm_run gC 0 YX6_here 0 [some (.ref 117)] [] S (some (.int r1)) S) (c3 : ¬ r1 < 48) (h5 : gm_run gC 0 YX6_here 0 [some (.ref 117)] [] S (some (.int r4)) S) (c6 : ¬ 57 < r4) : gm_run gC 1 YX6_isDigit 0 [some (.ref 117)] [] S (some (.int 1)) S := by
  refine gm_aload_n dX6_isDigit_0 rfl ?_
  refine gm_callV (r1 := (some (.int r1))) (own := RX6) rfl dX6_isDigit_1 llX6_38 mvX6_here sC_117 rfl [] [] rfl rfl (Nat.le_of_ble_eq_true rfl) (by decide) rfl h2 rfl ?_
  refine gm_bipush (v := 48) dX6_isDigit_4 (by decide) ?_
  refine gm_icmp_lt_f dX6_isDigit_6 ⟨22, by decide⟩ c3 ?_
  refine gm_aload_n dX6_isDigit_9 rfl ?_
  refine gm_callV (r1 := (some (.int r4))) (own := RX6) rfl dX6_isDigit_10 llX6_38 mvX6_here sC_117 rfl [] [] rfl rfl (Nat.le_of_ble_eq_true rfl) (by decide) rfl h5 rfl ?_
  refine gm_bipush (v := 57) dX6_isDigit_13 (by decide) ?_
  refine gm_icmp_gt_f dX6_isDigit_15 ⟨22, by decide⟩ c6 ?_
  refine gm_iconst (v := 1) dX6_isDigit_18 (by decide) ?_
  refine gm_goto (tgt := 23) dX6_isDigit_19 (by decide) ?_
  exact gm_zret dX6_isDigit_23 rfl gm_fit_1
/-- X6_isDigit 0 [6f 15t] -> ret  -/
theorem PX6_isDigit_2 {S : gm_Mem} {r1 : Int32} {r4 : Int32} (h2 : gm_run gC 0 YX6_here 0 [some (.ref 117)] [] S (some (.int r1)) S) (c3 : ¬ r1 < 48) (h5 : gm_run gC 0 YX6_here 0 [some (.ref 117)] [] S (some (.int r4)) S) (c6 : 57 < r4) : gm_run gC 1 YX6_isDigit 0 [some (.ref 117)] [] S (some (.int 0)) S := by
  refine gm_aload_n dX6_isDigit_0 rfl ?_
  refine gm_callV (r1 := (some (.int r1))) (own := RX6) rfl dX6_isDigit_1 llX6_38 mvX6_here sC_117 rfl [] [] rfl rfl (Nat.le_of_ble_eq_true rfl) (by decide) rfl h2 rfl ?_
  refine gm_bipush (v := 48) dX6_isDigit_4 (by decide) ?_
  refine gm_icmp_lt_f dX6_isDigit_6 ⟨22, by decide⟩ c3 ?_
  refine gm_aload_n dX6_isDigit_9 rfl ?_
  refine gm_callV (r1 := (some (.int r4))) (own := RX6) rfl dX6_isDigit_10 llX6_38 mvX6_here sC_117 rfl [] [] rfl rfl (Nat.le_of_ble_eq_true rfl) (by decide) rfl h5 rfl ?_
  refine gm_bipush (v := 57) dX6_isDigit_13 (by decide) ?_
  refine gm_icmp_gt_t (tgt := 22) dX6_isDigit_15 (by decide) c6 ?_
  refine gm_iconst (v := 0) dX6_isDigit_22 (by decide) ?_
  exact gm_zret dX6_isDigit_23 rfl gm_fit_0
/-- X6_isDigit 0 [6t] -> ret  -/
theorem PX6_isDigit_3 {S : gm_Mem} {r1 : Int32} (h2 : gm_run gC 0 YX6_here 0 [some (.ref 117)] [] S (some (.int r1)) S) (c3 : r1 < 48) : gm_run gC 1 YX6_isDigit 0 [some (.ref 117)] [] S (some (.int 0)) S := by
  refine gm_aload_n dX6_isDigit_0 rfl ?_
  refine gm_callV (r1 := (some (.int r1))) (own := RX6) rfl dX6_isDigit_1 llX6_38 mvX6_here sC_117 rfl [] [] rfl rfl (Nat.le_of_ble_eq_true rfl) (by decide) rfl h2 rfl ?_
  refine gm_bipush (v := 48) dX6_isDigit_4 (by decide) ?_
  refine gm_icmp_lt_t (tgt := 22) dX6_isDigit_6 (by decide) c3 ?_
  refine gm_iconst (v := 0) dX6_isDigit_22 (by decide) ?_
  exact gm_zret dX6_isDigit_23 rfl gm_fit_0
/-- X6_readDigit 0 [] -> ret  -/
theorem PX6_readDigit_1 {S : gm_Mem} {r1 : Int32} (h2 : gm_run gC 0 YX6_here 0 [some (.ref 117)] [] S (some (.int r1)) S) : gm_run gC 1 YX6_readDigit 0 [some (.ref 117), none] [] S (some (.int (r1 - 48))) (gm_u S 117 6 ((S 117 6) + 1)) := by
  refine gm_aload_n dX6_readDigit_0 rfl ?_
  refine gm_callV (r1 := (some (.int r1))) (own := RX6) rfl dX6_readDigit_1 llX6_38 mvX6_here sC_117 rfl [] [] rfl rfl (Nat.le_of_ble_eq_true rfl) (by decide) rfl h2 rfl ?_
  refine gm_bipush (v := 48) dX6_readDigit_4 (by decide) ?_
  refine gm_isub dX6_readDigit_6 rfl ?_
  refine gm_istore_n (L' := [some (.ref 117), some (.int (r1 - 48))]) dX6_readDigit_7 (by decide) rfl ?_
  refine gm_aload_n dX6_readDigit_8 rfl ?_
  refine gm_dup dX6_readDigit_9 ?_
  refine gm_getI (own := RX6) (x := (S 117 6)) rfl dX6_readDigit_10 lfX6_28 sC_117 rfl rfl ?_
  refine gm_iconst (v := 1) dX6_readDigit_13 (by decide) ?_
  refine gm_iadd dX6_readDigit_14 rfl ?_
  refine gm_put (own := RX6) rfl dX6_readDigit_15 lfX6_28 sC_117 rfl (gm_fit_int _) ?_
  refine gm_iload_n dX6_readDigit_18 rfl ?_
  exact gm_iret dX6_readDigit_19 rfl
/-- X6_readNumber 0 [9f] -> ret  -/
theorem PX6_readNumber_1 {S : gm_Mem} {T1 : gm_Mem} {r1 : Int32} {r3 : Int32} {T2 : gm_Mem} {r6 : Int32} (h2 : gm_run gC 1 YX6_readDigit 0 [some (.ref 117), none] [] S (some (.int r1)) T1) (h4 : gm_run gC 1 YX6_isDigit 0 [some (.ref 117)] [] T1 (some (.int r3)) T1) (c5 : ¬ r3 = 0) (h7 : gm_run gC 1 YX6_readDigit 0 [some (.ref 117), none] [] T1 (some (.int r6)) T2) : gm_run gC 2 YX6_readNumber 0 [some (.ref 117), none] [] S (some (.int ((r1 * 10) + r6))) T2 := by
  refine gm_aload_n dX6_readNumber_0 rfl ?_
  refine gm_callV (r1 := (some (.int r1))) (own := RX6) rfl dX6_readNumber_1 llX6_42 mvX6_readDigit sC_117 rfl [] [] rfl rfl (Nat.le_of_ble_eq_true rfl) (by decide) rfl h2 rfl ?_
  refine gm_istore_n (L' := [some (.ref 117), some (.int r1)]) dX6_readNumber_4 (by decide) rfl ?_
  refine gm_aload_n dX6_readNumber_5 rfl ?_
  refine gm_callV (r1 := (some (.int r3))) (own := RX6) rfl dX6_readNumber_6 llX6_45 mvX6_isDigit sC_117 rfl [] [] rfl rfl (Nat.le_of_ble_eq_true rfl) (by decide) rfl h4 rfl ?_
  refine gm_if_eq_f dX6_readNumber_9 ⟨24, by decide⟩ c5 ?_
  refine gm_iload_n dX6_readNumber_12 rfl ?_
  refine gm_bipush (v := 10) dX6_readNumber_13 (by decide) ?_
  refine gm_imul dX6_readNumber_15 rfl ?_
  refine gm_aload_n dX6_readNumber_16 rfl ?_
  refine gm_callV (r1 := (some (.int r6))) (own := RX6) rfl dX6_readNumber_17 llX6_42 mvX6_readDigit sC_117 rfl [] [.int (r1 * 10)] rfl rfl (Nat.le_of_ble_eq_true rfl) (by decide) rfl h7 rfl ?_
  refine gm_iadd dX6_readNumber_20 rfl ?_
  refine gm_goto (tgt := 25) dX6_readNumber_21 (by decide) ?_
  exact gm_iret dX6_readNumber_25 rfl
/-- X6_readNumber 0 [9t] -> ret  -/
theorem PX6_readNumber_2 {S : gm_Mem} {T1 : gm_Mem} {r1 : Int32} {r3 : Int32} (h2 : gm_run gC 1 YX6_readDigit 0 [some (.ref 117), none] [] S (some (.int r1)) T1) (h4 : gm_run gC 1 YX6_isDigit 0 [some (.ref 117)] [] T1 (some (.int r3)) T1) (c5 : r3 = 0) : gm_run gC 2 YX6_readNumber 0 [some (.ref 117), none] [] S (some (.int r1)) T1 := by
  refine gm_aload_n dX6_readNumber_0 rfl ?_
  refine gm_callV (r1 := (some (.int r1))) (own := RX6) rfl dX6_readNumber_1 llX6_42 mvX6_readDigit sC_117 rfl [] [] rfl rfl (Nat.le_of_ble_eq_true rfl) (by decide) rfl h2 rfl ?_
  refine gm_istore_n (L' := [some (.ref 117), some (.int r1)]) dX6_readNumber_4 (by decide) rfl ?_
  refine gm_aload_n dX6_readNumber_5 rfl ?_
  refine gm_callV (r1 := (some (.int r3))) (own := RX6) rfl dX6_readNumber_6 llX6_45 mvX6_isDigit sC_117 rfl [] [] rfl rfl (Nat.le_of_ble_eq_true rfl) (by decide) rfl h4 rfl ?_
  refine gm_if_eq_t (tgt := 24) dX6_readNumber_9 (by decide) c5 ?_
  refine gm_iload_n dX6_readNumber_24 rfl ?_
  exact gm_iret dX6_readNumber_25 rfl
/-- X6_readAction 0 [8f 14f 20f 26f 32f] -> ret  -/
theorem PX6_readAction_1 {S : gm_Mem} {r1 : Int32} (h2 : gm_run gC 0 YX6_here 0 [some (.ref 117)] [] S (some (.int r1)) S) (c3 : ¬ r1 = 100) (c4 : ¬ r1 = 120) (c5 : ¬ r1 = 117) (c6 : ¬ r1 = 116) (c7 : ¬ r1 = 115) : gm_run gC 3 YX6_readAction 0 [some (.ref 117), none, none, none] [] S (some (.int 0)) S := by
  refine gm_aload_n dX6_readAction_0 rfl ?_
  refine gm_callV (r1 := (some (.int r1))) (own := RX6) rfl dX6_readAction_1 llX6_38 mvX6_here sC_117 rfl [] [] rfl rfl (Nat.le_of_ble_eq_true rfl) (by decide) rfl h2 rfl ?_
  refine gm_istore_n (L' := [some (.ref 117), some (.int r1), none, none]) dX6_readAction_4 (by decide) rfl ?_
  refine gm_iload_n dX6_readAction_5 rfl ?_
  refine gm_bipush (v := 100) dX6_readAction_6 (by decide) ?_
  refine gm_icmp_eq_f dX6_readAction_8 ⟨37, by decide⟩ c3 ?_
  refine gm_iload_n dX6_readAction_11 rfl ?_
  refine gm_bipush (v := 120) dX6_readAction_12 (by decide) ?_
  refine gm_icmp_eq_f dX6_readAction_14 ⟨37, by decide⟩ c4 ?_
  refine gm_iload_n dX6_readAction_17 rfl ?_
  refine gm_bipush (v := 117) dX6_readAction_18 (by decide) ?_
  refine gm_icmp_eq_f dX6_readAction_20 ⟨37, by decide⟩ c5 ?_
  refine gm_iload_n dX6_readAction_23 rfl ?_
  refine gm_bipush (v := 116) dX6_readAction_24 (by decide) ?_
  refine gm_icmp_eq_f dX6_readAction_26 ⟨37, by decide⟩ c6 ?_
  refine gm_iload_n dX6_readAction_29 rfl ?_
  refine gm_bipush (v := 115) dX6_readAction_30 (by decide) ?_
  refine gm_icmp_eq_f dX6_readAction_32 ⟨37, by decide⟩ c7 ?_
  refine gm_iconst (v := 0) dX6_readAction_35 (by decide) ?_
  exact gm_zret dX6_readAction_36 rfl gm_fit_0
/-- X6_readAction 0 [8f 14f 20f 26f 32t] -> cut 37 -/
theorem PX6_readAction_2 {S : gm_Mem} {r1 : Int32} {r : Option Value} {S2 : gm_Mem} (h2 : gm_run gC 0 YX6_here 0 [some (.ref 117)] [] S (some (.int r1)) S) (c3 : ¬ r1 = 100) (c4 : ¬ r1 = 120) (c5 : ¬ r1 = 117) (c6 : ¬ r1 = 116) (c7 : r1 = 115) (K : gm_run gC 3 YX6_readAction 37 [some (.ref 117), some (.int r1), none, none] [] S r S2) : gm_run gC 3 YX6_readAction 0 [some (.ref 117), none, none, none] [] S r S2 := by
  refine gm_aload_n dX6_readAction_0 rfl ?_
  refine gm_callV (r1 := (some (.int r1))) (own := RX6) rfl dX6_readAction_1 llX6_38 mvX6_here sC_117 rfl [] [] rfl rfl (Nat.le_of_ble_eq_true rfl) (by decide) rfl h2 rfl ?_
  refine gm_istore_n (L' := [some (.ref 117), some (.int r1), none, none]) dX6_readAction_4 (by decide) rfl ?_
  refine gm_iload_n dX6_readAction_5 rfl ?_
  refine gm_bipush (v := 100) dX6_readAction_6 (by decide) ?_
  refine gm_icmp_eq_f dX6_readAction_8 ⟨37, by decide⟩ c3 ?_
  refine gm_iload_n dX6_readAction_11 rfl ?_
  refine gm_bipush (v := 120) dX6_readAction_12 (by decide) ?_
  refine gm_icmp_eq_f dX6_readAction_14 ⟨37, by decide⟩ c4 ?_
  refine gm_iload_n dX6_readAction_17 rfl ?_
  refine gm_bipush (v := 117) dX6_readAction_18 (by decide) ?_
  refine gm_icmp_eq_f dX6_readAction_20 ⟨37, by decide⟩ c5 ?_
  refine gm_iload_n dX6_readAction_23 rfl ?_
  refine gm_bipush (v := 116) dX6_readAction_24 (by decide) ?_
  refine gm_icmp_eq_f dX6_readAction_26 ⟨37, by decide⟩ c6 ?_
  refine gm_iload_n dX6_readAction_29 rfl ?_
  refine gm_bipush (v := 115) dX6_readAction_30 (by decide) ?_
  refine gm_icmp_eq_t (tgt := 37) dX6_readAction_32 (by decide) c7 ?_
  exact K
/-- X6_readAction 0 [8f 14f 20f 26t] -> cut 37 -/
theorem PX6_readAction_3 {S : gm_Mem} {r1 : Int32} {r : Option Value} {S2 : gm_Mem} (h2 : gm_run gC 0 YX6_here 0 [some (.ref 117)] [] S (some (.int r1)) S) (c3 : ¬ r1 = 100) (c4 : ¬ r1 = 120) (c5 : ¬ r1 = 117) (c6 : r1 = 116) (K : gm_run gC 3 YX6_readAction 37 [some (.ref 117), some (.int r1), none, none] [] S r S2) : gm_run gC 3 YX6_readAction 0 [some (.ref 117), none, none, none] [] S r S2 := by
  refine gm_aload_n dX6_readAction_0 rfl ?_
  refine gm_callV (r1 := (some (.int r1))) (own := RX6) rfl dX6_readAction_1 llX6_38 mvX6_here sC_117 rfl [] [] rfl rfl (Nat.le_of_ble_eq_true rfl) (by decide) rfl h2 rfl ?_
  refine gm_istore_n (L' := [some (.ref 117), some (.int r1), none, none]) dX6_readAction_4 (by decide) rfl ?_
  refine gm_iload_n dX6_readAction_5 rfl ?_
  refine gm_bipush (v := 100) dX6_readAction_6 (by decide) ?_
  refine gm_icmp_eq_f dX6_readAction_8 ⟨37, by decide⟩ c3 ?_
  refine gm_iload_n dX6_readAction_11 rfl ?_
  refine gm_bipush (v := 120) dX6_readAction_12 (by decide) ?_
  refine gm_icmp_eq_f dX6_readAction_14 ⟨37, by decide⟩ c4 ?_
  refine gm_iload_n dX6_readAction_17 rfl ?_
  refine gm_bipush (v := 117) dX6_readAction_18 (by decide) ?_
  refine gm_icmp_eq_f dX6_readAction_20 ⟨37, by decide⟩ c5 ?_
  refine gm_iload_n dX6_readAction_23 rfl ?_
  refine gm_bipush (v := 116) dX6_readAction_24 (by decide) ?_
  refine gm_icmp_eq_t (tgt := 37) dX6_readAction_26 (by decide) c6 ?_
  exact K
/-- X6_readAction 0 [8f 14f 20t] -> cut 37 -/
theorem PX6_readAction_4 {S : gm_Mem} {r1 : Int32} {r : Option Value} {S2 : gm_Mem} (h2 : gm_run gC 0 YX6_here 0 [some (.ref 117)] [] S (some (.int r1)) S) (c3 : ¬ r1 = 100) (c4 : ¬ r1 = 120) (c5 : r1 = 117) (K : gm_run gC 3 YX6_readAction 37 [some (.ref 117), some (.int r1), none, none] [] S r S2) : gm_run gC 3 YX6_readAction 0 [some (.ref 117), none, none, none] [] S r S2 := by
  refine gm_aload_n dX6_readAction_0 rfl ?_
  refine gm_callV (r1 := (some (.int r1))) (own := RX6) rfl dX6_readAction_1 llX6_38 mvX6_here sC_117 rfl [] [] rfl rfl (Nat.le_of_ble_eq_true rfl) (by decide) rfl h2 rfl ?_
  refine gm_istore_n (L' := [some (.ref 117), some (.int r1), none, none]) dX6_readAction_4 (by decide) rfl ?_
  refine gm_iload_n dX6_readAction_5 rfl ?_
  refine gm_bipush (v := 100) dX6_readAction_6 (by decide) ?_
  refine gm_icmp_eq_f dX6_readAction_8 ⟨37, by decide⟩ c3 ?_
  refine gm_iload_n dX6_readAction_11 rfl ?_
  refine gm_bipush (v := 120) dX6_readAction_12 (by decide) ?_
  refine gm_icmp_eq_f dX6_readAction_14 ⟨37, by decide⟩ c4 ?_
  refine gm_iload_n dX6_readAction_17 rfl ?_
  refine gm_bipush (v := 117) dX6_readAction_18 (by decide) ?_
  refine gm_icmp_eq_t (tgt := 37) dX6_readAction_20 (by decide) c5 ?_
  exact K
/-- X6_readAction 0 [8f 14t] -> cut 37 -/
theorem PX6_readAction_5 {S : gm_Mem} {r1 : Int32} {r : Option Value} {S2 : gm_Mem} (h2 : gm_run gC 0 YX6_here 0 [some (.ref 117)] [] S (some (.int r1)) S) (c3 : ¬ r1 = 100) (c4 : r1 = 120) (K : gm_run gC 3 YX6_readAction 37 [some (.ref 117), some (.int r1), none, none] [] S r S2) : gm_run gC 3 YX6_readAction 0 [some (.ref 117), none, none, none] [] S r S2 := by
  refine gm_aload_n dX6_readAction_0 rfl ?_
  refine gm_callV (r1 := (some (.int r1))) (own := RX6) rfl dX6_readAction_1 llX6_38 mvX6_here sC_117 rfl [] [] rfl rfl (Nat.le_of_ble_eq_true rfl) (by decide) rfl h2 rfl ?_
  refine gm_istore_n (L' := [some (.ref 117), some (.int r1), none, none]) dX6_readAction_4 (by decide) rfl ?_
  refine gm_iload_n dX6_readAction_5 rfl ?_
  refine gm_bipush (v := 100) dX6_readAction_6 (by decide) ?_
  refine gm_icmp_eq_f dX6_readAction_8 ⟨37, by decide⟩ c3 ?_
  refine gm_iload_n dX6_readAction_11 rfl ?_
  refine gm_bipush (v := 120) dX6_readAction_12 (by decide) ?_
  refine gm_icmp_eq_t (tgt := 37) dX6_readAction_14 (by decide) c4 ?_
  exact K
/-- X6_readAction 0 [8t] -> cut 37 -/
theorem PX6_readAction_6 {S : gm_Mem} {r1 : Int32} {r : Option Value} {S2 : gm_Mem} (h2 : gm_run gC 0 YX6_here 0 [some (.ref 117)] [] S (some (.int r1)) S) (c3 : r1 = 100) (K : gm_run gC 3 YX6_readAction 37 [some (.ref 117), some (.int r1), none, none] [] S r S2) : gm_run gC 3 YX6_readAction 0 [some (.ref 117), none, none, none] [] S r S2 := by
  refine gm_aload_n dX6_readAction_0 rfl ?_
  refine gm_callV (r1 := (some (.int r1))) (own := RX6) rfl dX6_readAction_1 llX6_38 mvX6_here sC_117 rfl [] [] rfl rfl (Nat.le_of_ble_eq_true rfl) (by decide) rfl h2 rfl ?_
  refine gm_istore_n (L' := [some (.ref 117), some (.int r1), none, none]) dX6_readAction_4 (by decide) rfl ?_
  refine gm_iload_n dX6_readAction_5 rfl ?_
  refine gm_bipush (v := 100) dX6_readAction_6 (by decide) ?_
  refine gm_icmp_eq_t (tgt := 37) dX6_readAction_8 (by decide) c3 ?_
  exact K
/-- X6_readAction 37 [52f 61f 70f] -> ret  -/
theorem PX6_readAction_7 {x1 : Int32} {S : gm_Mem} {r2 : Int32} {r5 : Int32} (c1 : x1 = 115) (h3 : gm_run gC 0 YX6_here 0 [some (.ref 117)] [] (gm_u S 117 6 ((S 117 6) + 1)) (some (.int r2)) (gm_u S 117 6 ((S 117 6) + 1))) (c4 : ¬ r2 = 48) (h6 : gm_run gC 0 YX6_here 0 [some (.ref 117)] [] (gm_u S 117 6 ((S 117 6) + 1)) (some (.int r5)) (gm_u S 117 6 ((S 117 6) + 1))) (c7 : ¬ r5 = 49) : gm_run gC 3 YX6_readAction 37 [some (.ref 117), some (.int x1), none, none] [] S (some (.int 0)) (gm_u S 117 6 ((S 117 6) + 1)) := by
  refine gm_aload_n dX6_readAction_37 rfl ?_
  refine gm_dup dX6_readAction_38 ?_
  refine gm_getI (own := RX6) (x := (S 117 6)) rfl dX6_readAction_39 lfX6_28 sC_117 rfl rfl ?_
  refine gm_iconst (v := 1) dX6_readAction_42 (by decide) ?_
  refine gm_iadd dX6_readAction_43 rfl ?_
  refine gm_put (own := RX6) rfl dX6_readAction_44 lfX6_28 sC_117 rfl (gm_fit_int _) ?_
  refine gm_iconst (v := 0) dX6_readAction_47 (by decide) ?_
  refine gm_istore_n (L' := [some (.ref 117), some (.int x1), some (.int 0), none]) dX6_readAction_48 (by decide) rfl ?_
  refine gm_iload_n dX6_readAction_49 rfl ?_
  refine gm_bipush (v := 115) dX6_readAction_50 (by decide) ?_
  refine gm_icmp_ne_f dX6_readAction_52 ⟨80, by decide⟩ c1 ?_
  refine gm_aload_n dX6_readAction_55 rfl ?_
  refine gm_callV (r1 := (some (.int r2))) (own := RX6) rfl dX6_readAction_56 llX6_38 mvX6_here sC_117 rfl [] [] rfl rfl (Nat.le_of_ble_eq_true rfl) (by decide) rfl h3 rfl ?_
  refine gm_bipush (v := 48) dX6_readAction_59 (by decide) ?_
  refine gm_icmp_eq_f dX6_readAction_61 ⟨75, by decide⟩ c4 ?_
  refine gm_aload_n dX6_readAction_64 rfl ?_
  refine gm_callV (r1 := (some (.int r5))) (own := RX6) rfl dX6_readAction_65 llX6_38 mvX6_here sC_117 rfl [] [] rfl rfl (Nat.le_of_ble_eq_true rfl) (by decide) rfl h6 rfl ?_
  refine gm_bipush (v := 49) dX6_readAction_68 (by decide) ?_
  refine gm_icmp_eq_f dX6_readAction_70 ⟨75, by decide⟩ c7 ?_
  refine gm_iconst (v := 0) dX6_readAction_73 (by decide) ?_
  exact gm_zret dX6_readAction_74 rfl gm_fit_0
/-- X6_readAction 37 [52f 61f 70t] -> cut 75 -/
theorem PX6_readAction_8 {x1 : Int32} {S : gm_Mem} {r2 : Int32} {r5 : Int32} {r : Option Value} {S2 : gm_Mem} (c1 : x1 = 115) (h3 : gm_run gC 0 YX6_here 0 [some (.ref 117)] [] (gm_u S 117 6 ((S 117 6) + 1)) (some (.int r2)) (gm_u S 117 6 ((S 117 6) + 1))) (c4 : ¬ r2 = 48) (h6 : gm_run gC 0 YX6_here 0 [some (.ref 117)] [] (gm_u S 117 6 ((S 117 6) + 1)) (some (.int r5)) (gm_u S 117 6 ((S 117 6) + 1))) (c7 : r5 = 49) (K : gm_run gC 3 YX6_readAction 75 [some (.ref 117), some (.int x1), some (.int 0), none] [] (gm_u S 117 6 ((S 117 6) + 1)) r S2) : gm_run gC 3 YX6_readAction 37 [some (.ref 117), some (.int x1), none, none] [] S r S2 := by
  refine gm_aload_n dX6_readAction_37 rfl ?_
  refine gm_dup dX6_readAction_38 ?_
  refine gm_getI (own := RX6) (x := (S 117 6)) rfl dX6_readAction_39 lfX6_28 sC_117 rfl rfl ?_
  refine gm_iconst (v := 1) dX6_readAction_42 (by decide) ?_
  refine gm_iadd dX6_readAction_43 rfl ?_
  refine gm_put (own := RX6) rfl dX6_readAction_44 lfX6_28 sC_117 rfl (gm_fit_int _) ?_
  refine gm_iconst (v := 0) dX6_readAction_47 (by decide) ?_
  refine gm_istore_n (L' := [some (.ref 117), some (.int x1), some (.int 0), none]) dX6_readAction_48 (by decide) rfl ?_
  refine gm_iload_n dX6_readAction_49 rfl ?_
  refine gm_bipush (v := 115) dX6_readAction_50 (by decide) ?_
  refine gm_icmp_ne_f dX6_readAction_52 ⟨80, by decide⟩ c1 ?_
  refine gm_aload_n dX6_readAction_55 rfl ?_
  refine gm_callV (r1 := (some (.int r2))) (own := RX6) rfl dX6_readAction_56 llX6_38 mvX6_here sC_117 rfl [] [] rfl rfl (Nat.le_of_ble_eq_true rfl) (by decide) rfl h3 rfl ?_
  refine gm_bipush (v := 48) dX6_readAction_59 (by decide) ?_
  refine gm_icmp_eq_f dX6_readAction_61 ⟨75, by decide⟩ c4 ?_
  refine gm_aload_n dX6_readAction_64 rfl ?_
  refine gm_callV (r1 := (some (.int r5))) (own := RX6) rfl dX6_readAction_65 llX6_38 mvX6_here sC_117 rfl [] [] rfl rfl (Nat.le_of_ble_eq_true rfl) (by decide) rfl h6 rfl ?_
  refine gm_bipush (v := 49) dX6_readAction_68 (by decide) ?_
  refine gm_icmp_eq_t (tgt := 75) dX6_readAction_70 (by decide) c7 ?_
  exact K
/-- X6_readAction 37 [52f 61t] -> cut 75 -/
theorem PX6_readAction_9 {x1 : Int32} {S : gm_Mem} {r2 : Int32} {r : Option Value} {S2 : gm_Mem} (c1 : x1 = 115) (h3 : gm_run gC 0 YX6_here 0 [some (.ref 117)] [] (gm_u S 117 6 ((S 117 6) + 1)) (some (.int r2)) (gm_u S 117 6 ((S 117 6) + 1))) (c4 : r2 = 48) (K : gm_run gC 3 YX6_readAction 75 [some (.ref 117), some (.int x1), some (.int 0), none] [] (gm_u S 117 6 ((S 117 6) + 1)) r S2) : gm_run gC 3 YX6_readAction 37 [some (.ref 117), some (.int x1), none, none] [] S r S2 := by
  refine gm_aload_n dX6_readAction_37 rfl ?_
  refine gm_dup dX6_readAction_38 ?_
  refine gm_getI (own := RX6) (x := (S 117 6)) rfl dX6_readAction_39 lfX6_28 sC_117 rfl rfl ?_
  refine gm_iconst (v := 1) dX6_readAction_42 (by decide) ?_
  refine gm_iadd dX6_readAction_43 rfl ?_
  refine gm_put (own := RX6) rfl dX6_readAction_44 lfX6_28 sC_117 rfl (gm_fit_int _) ?_
  refine gm_iconst (v := 0) dX6_readAction_47 (by decide) ?_
  refine gm_istore_n (L' := [some (.ref 117), some (.int x1), some (.int 0), none]) dX6_readAction_48 (by decide) rfl ?_
  refine gm_iload_n dX6_readAction_49 rfl ?_
  refine gm_bipush (v := 115) dX6_readAction_50 (by decide) ?_
  refine gm_icmp_ne_f dX6_readAction_52 ⟨80, by decide⟩ c1 ?_
  refine gm_aload_n dX6_readAction_55 rfl ?_
  refine gm_callV (r1 := (some (.int r2))) (own := RX6) rfl dX6_readAction_56 llX6_38 mvX6_here sC_117 rfl [] [] rfl rfl (Nat.le_of_ble_eq_true rfl) (by decide) rfl h3 rfl ?_
  refine gm_bipush (v := 48) dX6_readAction_59 (by decide) ?_
  refine gm_icmp_eq_t (tgt := 75) dX6_readAction_61 (by decide) c4 ?_
  exact K
/-- X6_readAction 37 [52t] -> cut 80 -/
theorem PX6_readAction_10 {x1 : Int32} {S : gm_Mem} {r : Option Value} {S2 : gm_Mem} (c1 : ¬ x1 = 115) (K : gm_run gC 3 YX6_readAction 80 [some (.ref 117), some (.int x1), some (.int 0), none] [] (gm_u S 117 6 ((S 117 6) + 1)) r S2) : gm_run gC 3 YX6_readAction 37 [some (.ref 117), some (.int x1), none, none] [] S r S2 := by
  refine gm_aload_n dX6_readAction_37 rfl ?_
  refine gm_dup dX6_readAction_38 ?_
  refine gm_getI (own := RX6) (x := (S 117 6)) rfl dX6_readAction_39 lfX6_28 sC_117 rfl rfl ?_
  refine gm_iconst (v := 1) dX6_readAction_42 (by decide) ?_
  refine gm_iadd dX6_readAction_43 rfl ?_
  refine gm_put (own := RX6) rfl dX6_readAction_44 lfX6_28 sC_117 rfl (gm_fit_int _) ?_
  refine gm_iconst (v := 0) dX6_readAction_47 (by decide) ?_
  refine gm_istore_n (L' := [some (.ref 117), some (.int x1), some (.int 0), none]) dX6_readAction_48 (by decide) rfl ?_
  refine gm_iload_n dX6_readAction_49 rfl ?_
  refine gm_bipush (v := 115) dX6_readAction_50 (by decide) ?_
  refine gm_icmp_ne_t (tgt := 80) dX6_readAction_52 (by decide) c1 ?_
  exact K
/-- X6_readAction 75 [] -> cut 80 -/
theorem PX6_readAction_11 {x1 : Int32} {x2 : Int32} {S : gm_Mem} {T1 : gm_Mem} {r1 : Int32} {r : Option Value} {S2 : gm_Mem} (h2 : gm_run gC 1 YX6_readDigit 0 [some (.ref 117), none] [] S (some (.int r1)) T1) (K : gm_run gC 3 YX6_readAction 80 [some (.ref 117), some (.int x1), some (.int r1), none] [] T1 r S2) : gm_run gC 3 YX6_readAction 75 [some (.ref 117), some (.int x1), some (.int x2), none] [] S r S2 := by
  refine gm_aload_n dX6_readAction_75 rfl ?_
  refine gm_callV (r1 := (some (.int r1))) (own := RX6) rfl dX6_readAction_76 llX6_42 mvX6_readDigit sC_117 rfl [] [] rfl rfl (Nat.le_of_ble_eq_true rfl) (by decide) rfl h2 rfl ?_
  refine gm_istore_n (L' := [some (.ref 117), some (.int x1), some (.int r1), none]) dX6_readAction_79 (by decide) rfl ?_
  exact K
/-- X6_readAction 80 [86f] -> cut 105 -/
theorem PX6_readAction_12 {x1 : Int32} {x2 : Int32} {S : gm_Mem} {r1 : Int32} {T1 : gm_Mem} {r4 : Int32} {r : Option Value} {S2 : gm_Mem} (h2 : gm_run gC 1 YX6_isDigit 0 [some (.ref 117)] [] S (some (.int r1)) S) (c3 : ¬ r1 = 0) (h5 : gm_run gC 2 YX6_readNumber 0 [some (.ref 117), none] [] S (some (.int r4)) T1) (K : gm_run gC 3 YX6_readAction 105 [some (.ref 117), some (.int x1), some (.int x2), some (.int r4)] [] T1 r S2) : gm_run gC 3 YX6_readAction 80 [some (.ref 117), some (.int x1), some (.int x2), none] [] S r S2 := by
  refine gm_iconst (v := 1) dX6_readAction_80 (by decide) ?_
  refine gm_istore_n (L' := [some (.ref 117), some (.int x1), some (.int x2), some (.int 1)]) dX6_readAction_81 (by decide) rfl ?_
  refine gm_aload_n dX6_readAction_82 rfl ?_
  refine gm_callV (r1 := (some (.int r1))) (own := RX6) rfl dX6_readAction_83 llX6_45 mvX6_isDigit sC_117 rfl [] [] rfl rfl (Nat.le_of_ble_eq_true rfl) (by decide) rfl h2 rfl ?_
  refine gm_if_eq_f dX6_readAction_86 ⟨97, by decide⟩ c3 ?_
  refine gm_aload_n dX6_readAction_89 rfl ?_
  refine gm_callV (r1 := (some (.int r4))) (own := RX6) rfl dX6_readAction_90 llX6_48 mvX6_readNumber sC_117 rfl [] [] rfl rfl (Nat.le_of_ble_eq_true rfl) (by decide) rfl h5 rfl ?_
  refine gm_istore_n (L' := [some (.ref 117), some (.int x1), some (.int x2), some (.int r4)]) dX6_readAction_93 (by decide) rfl ?_
  refine gm_goto (tgt := 105) dX6_readAction_94 (by decide) ?_
  exact K
/-- X6_readAction 80 [86t 100f] -> ret  -/
theorem PX6_readAction_13 {x1 : Int32} {x2 : Int32} {S : gm_Mem} {r1 : Int32} (h2 : gm_run gC 1 YX6_isDigit 0 [some (.ref 117)] [] S (some (.int r1)) S) (c3 : r1 = 0) (c4 : ¬ x1 = 116) : gm_run gC 3 YX6_readAction 80 [some (.ref 117), some (.int x1), some (.int x2), none] [] S (some (.int 0)) S := by
  refine gm_iconst (v := 1) dX6_readAction_80 (by decide) ?_
  refine gm_istore_n (L' := [some (.ref 117), some (.int x1), some (.int x2), some (.int 1)]) dX6_readAction_81 (by decide) rfl ?_
  refine gm_aload_n dX6_readAction_82 rfl ?_
  refine gm_callV (r1 := (some (.int r1))) (own := RX6) rfl dX6_readAction_83 llX6_45 mvX6_isDigit sC_117 rfl [] [] rfl rfl (Nat.le_of_ble_eq_true rfl) (by decide) rfl h2 rfl ?_
  refine gm_if_eq_t (tgt := 97) dX6_readAction_86 (by decide) c3 ?_
  refine gm_iload_n dX6_readAction_97 rfl ?_
  refine gm_bipush (v := 116) dX6_readAction_98 (by decide) ?_
  refine gm_icmp_eq_f dX6_readAction_100 ⟨105, by decide⟩ c4 ?_
  refine gm_iconst (v := 0) dX6_readAction_103 (by decide) ?_
  exact gm_zret dX6_readAction_104 rfl gm_fit_0
/-- X6_readAction 80 [86t 100t] -> cut 105 -/
theorem PX6_readAction_14 {x1 : Int32} {x2 : Int32} {S : gm_Mem} {r1 : Int32} {r : Option Value} {S2 : gm_Mem} (h2 : gm_run gC 1 YX6_isDigit 0 [some (.ref 117)] [] S (some (.int r1)) S) (c3 : r1 = 0) (c4 : x1 = 116) (K : gm_run gC 3 YX6_readAction 105 [some (.ref 117), some (.int x1), some (.int x2), some (.int 1)] [] S r S2) : gm_run gC 3 YX6_readAction 80 [some (.ref 117), some (.int x1), some (.int x2), none] [] S r S2 := by
  refine gm_iconst (v := 1) dX6_readAction_80 (by decide) ?_
  refine gm_istore_n (L' := [some (.ref 117), some (.int x1), some (.int x2), some (.int 1)]) dX6_readAction_81 (by decide) rfl ?_
  refine gm_aload_n dX6_readAction_82 rfl ?_
  refine gm_callV (r1 := (some (.int r1))) (own := RX6) rfl dX6_readAction_83 llX6_45 mvX6_isDigit sC_117 rfl [] [] rfl rfl (Nat.le_of_ble_eq_true rfl) (by decide) rfl h2 rfl ?_
  refine gm_if_eq_t (tgt := 97) dX6_readAction_86 (by decide) c3 ?_
  refine gm_iload_n dX6_readAction_97 rfl ?_
  refine gm_bipush (v := 116) dX6_readAction_98 (by decide) ?_
  refine gm_icmp_eq_t (tgt := 105) dX6_readAction_100 (by decide) c4 ?_
  exact K
/-- X6_readAction 105 [] -> ret  -/
theorem PX6_readAction_15 {x1 : Int32} {x2 : Int32} {x3 : Int32} {S : gm_Mem} {T1 : gm_Mem} (h1 : gm_run gC 0 YX6_addAction 0 [some (.ref 117), some (.int x1), some (.int x2), some (.int x3)] [] S none T1) : gm_run gC 3 YX6_readAction 105 [some (.ref 117), some (.int x1), some (.int x2), some (.int x3)] [] S (some (.int 1)) T1 := by
  refine gm_aload_n dX6_readAction_105 rfl ?_
  refine gm_iload_n dX6_readAction_106 rfl ?_
  refine gm_iload_n dX6_readAction_107 rfl ?_
  refine gm_iload_n dX6_readAction_108 rfl ?_
  refine gm_callV (r1 := none) (own := RX6) rfl dX6_readAction_109 llX6_51 mvX6_addAction sC_117 rfl [.int x1, .int x2, .int x3] [] rfl rfl (Nat.le_of_ble_eq_true rfl) (by decide) rfl h1 rfl ?_
  refine gm_iconst (v := 1) dX6_readAction_112 (by decide) ?_
  exact gm_zret dX6_readAction_113 rfl gm_fit_1
/-- X6_parse 0 [] -> cut 12 -/
theorem PX6_parse_1 {S : gm_Mem} {r : Option Value} {S2 : gm_Mem}  (K : gm_run gC 4 YX6_parse 12 [some (.ref 117), some (.int 0)] [] (gm_u (gm_u S 117 6 0) 117 5 0) r S2) : gm_run gC 4 YX6_parse 0 [some (.ref 117), none] [] S r S2 := by
  refine gm_aload_n dX6_parse_0 rfl ?_
  refine gm_iconst (v := 0) dX6_parse_1 (by decide) ?_
  refine gm_put (own := RX6) rfl dX6_parse_2 lfX6_28 sC_117 rfl (gm_fit_int _) ?_
  refine gm_aload_n dX6_parse_5 rfl ?_
  refine gm_iconst (v := 0) dX6_parse_6 (by decide) ?_
  refine gm_put (own := RX6) rfl dX6_parse_7 lfX6_31 sC_117 rfl (gm_fit_int _) ?_
  refine gm_iconst (v := 0) dX6_parse_10 (by decide) ?_
  refine gm_istore_n (L' := [some (.ref 117), some (.int 0)]) dX6_parse_11 (by decide) rfl ?_
  exact K
/-- X6_parse 12 [15f 22f 33f] -> ret  -/
theorem PX6_parse_2 {x1 : Int32} {S : gm_Mem} {T1 : gm_Mem} {r2 : Int32} (c1 : x1 < 40) (h3 : gm_run gC 3 YX6_readAction 0 [some (.ref 117), none, none, none] [] S (some (.int r2)) T1) (c4 : ¬ r2 = 0) (c5 : (T1 117 6) = (T1 117 4)) : gm_run gC 4 YX6_parse 12 [some (.ref 117), some (.int x1)] [] S (some (.int 1)) T1 := by
  refine gm_iload_n dX6_parse_12 rfl ?_
  refine gm_bipush (v := 40) dX6_parse_13 (by decide) ?_
  refine gm_icmp_ge_f dX6_parse_15 ⟨65, by decide⟩ c1 ?_
  refine gm_aload_n dX6_parse_18 rfl ?_
  refine gm_callV (r1 := (some (.int r2))) (own := RX6) rfl dX6_parse_19 llX6_34 mvX6_readAction sC_117 rfl [] [] rfl rfl (Nat.le_of_ble_eq_true rfl) (by decide) rfl h3 rfl ?_
  refine gm_if_eq_f dX6_parse_22 ⟨65, by decide⟩ c4 ?_
  refine gm_aload_n dX6_parse_25 rfl ?_
  refine gm_getI (own := RX6) (x := (T1 117 6)) rfl dX6_parse_26 lfX6_28 sC_117 rfl rfl ?_
  refine gm_aload_n dX6_parse_29 rfl ?_
  refine gm_getI (own := RX6) (x := (T1 117 4)) rfl dX6_parse_30 lfX6_24 sC_117 rfl rfl ?_
  refine gm_icmp_ne_f dX6_parse_33 ⟨38, by decide⟩ c5 ?_
  refine gm_iconst (v := 1) dX6_parse_36 (by decide) ?_
  exact gm_zret dX6_parse_37 rfl gm_fit_1
/-- X6_parse 12 [15f 22f 33t 44f] -> ret  -/
theorem PX6_parse_3 {x1 : Int32} {S : gm_Mem} {T1 : gm_Mem} {r2 : Int32} {r6 : Int32} (c1 : x1 < 40) (h3 : gm_run gC 3 YX6_readAction 0 [some (.ref 117), none, none, none] [] S (some (.int r2)) T1) (c4 : ¬ r2 = 0) (c5 : ¬ (T1 117 6) = (T1 117 4)) (h7 : gm_run gC 0 YX6_here 0 [some (.ref 117)] [] T1 (some (.int r6)) T1) (c8 : ¬ r6 = 59) : gm_run gC 4 YX6_parse 12 [some (.ref 117), some (.int x1)] [] S (some (.int 0)) T1 := by
  refine gm_iload_n dX6_parse_12 rfl ?_
  refine gm_bipush (v := 40) dX6_parse_13 (by decide) ?_
  refine gm_icmp_ge_f dX6_parse_15 ⟨65, by decide⟩ c1 ?_
  refine gm_aload_n dX6_parse_18 rfl ?_
  refine gm_callV (r1 := (some (.int r2))) (own := RX6) rfl dX6_parse_19 llX6_34 mvX6_readAction sC_117 rfl [] [] rfl rfl (Nat.le_of_ble_eq_true rfl) (by decide) rfl h3 rfl ?_
  refine gm_if_eq_f dX6_parse_22 ⟨65, by decide⟩ c4 ?_
  refine gm_aload_n dX6_parse_25 rfl ?_
  refine gm_getI (own := RX6) (x := (T1 117 6)) rfl dX6_parse_26 lfX6_28 sC_117 rfl rfl ?_
  refine gm_aload_n dX6_parse_29 rfl ?_
  refine gm_getI (own := RX6) (x := (T1 117 4)) rfl dX6_parse_30 lfX6_24 sC_117 rfl rfl ?_
  refine gm_icmp_ne_t (tgt := 38) dX6_parse_33 (by decide) c5 ?_
  refine gm_aload_n dX6_parse_38 rfl ?_
  refine gm_callV (r1 := (some (.int r6))) (own := RX6) rfl dX6_parse_39 llX6_38 mvX6_here sC_117 rfl [] [] rfl rfl (Nat.le_of_ble_eq_true rfl) (by decide) rfl h7 rfl ?_
  refine gm_bipush (v := 59) dX6_parse_42 (by decide) ?_
  refine gm_icmp_eq_f dX6_parse_44 ⟨49, by decide⟩ c8 ?_
  refine gm_iconst (v := 0) dX6_parse_47 (by decide) ?_
  exact gm_zret dX6_parse_48 rfl gm_fit_0
/-- X6_parse 12 [15f 22f 33t 44t] -> cut 12 -/
theorem PX6_parse_4 {x1 : Int32} {S : gm_Mem} {T1 : gm_Mem} {r2 : Int32} {r6 : Int32} {r : Option Value} {S2 : gm_Mem} (c1 : x1 < 40) (h3 : gm_run gC 3 YX6_readAction 0 [some (.ref 117), none, none, none] [] S (some (.int r2)) T1) (c4 : ¬ r2 = 0) (c5 : ¬ (T1 117 6) = (T1 117 4)) (h7 : gm_run gC 0 YX6_here 0 [some (.ref 117)] [] T1 (some (.int r6)) T1) (c8 : r6 = 59) (K : gm_run gC 4 YX6_parse 12 [some (.ref 117), some (.int (x1 + 1))] [] (gm_u T1 117 6 ((T1 117 6) + 1)) r S2) : gm_run gC 4 YX6_parse 12 [some (.ref 117), some (.int x1)] [] S r S2 := by
  refine gm_iload_n dX6_parse_12 rfl ?_
  refine gm_bipush (v := 40) dX6_parse_13 (by decide) ?_
  refine gm_icmp_ge_f dX6_parse_15 ⟨65, by decide⟩ c1 ?_
  refine gm_aload_n dX6_parse_18 rfl ?_
  refine gm_callV (r1 := (some (.int r2))) (own := RX6) rfl dX6_parse_19 llX6_34 mvX6_readAction sC_117 rfl [] [] rfl rfl (Nat.le_of_ble_eq_true rfl) (by decide) rfl h3 rfl ?_
  refine gm_if_eq_f dX6_parse_22 ⟨65, by decide⟩ c4 ?_
  refine gm_aload_n dX6_parse_25 rfl ?_
  refine gm_getI (own := RX6) (x := (T1 117 6)) rfl dX6_parse_26 lfX6_28 sC_117 rfl rfl ?_
  refine gm_aload_n dX6_parse_29 rfl ?_
  refine gm_getI (own := RX6) (x := (T1 117 4)) rfl dX6_parse_30 lfX6_24 sC_117 rfl rfl ?_
  refine gm_icmp_ne_t (tgt := 38) dX6_parse_33 (by decide) c5 ?_
  refine gm_aload_n dX6_parse_38 rfl ?_
  refine gm_callV (r1 := (some (.int r6))) (own := RX6) rfl dX6_parse_39 llX6_38 mvX6_here sC_117 rfl [] [] rfl rfl (Nat.le_of_ble_eq_true rfl) (by decide) rfl h7 rfl ?_
  refine gm_bipush (v := 59) dX6_parse_42 (by decide) ?_
  refine gm_icmp_eq_t (tgt := 49) dX6_parse_44 (by decide) c8 ?_
  refine gm_aload_n dX6_parse_49 rfl ?_
  refine gm_dup dX6_parse_50 ?_
  refine gm_getI (own := RX6) (x := (T1 117 6)) rfl dX6_parse_51 lfX6_28 sC_117 rfl rfl ?_
  refine gm_iconst (v := 1) dX6_parse_54 (by decide) ?_
  refine gm_iadd dX6_parse_55 rfl ?_
  refine gm_put (own := RX6) rfl dX6_parse_56 lfX6_28 sC_117 rfl (gm_fit_int _) ?_
  refine gm_iinc (L' := [some (.ref 117), some (.int (x1 + 1))]) (v := (x1 + 1)) dX6_parse_59 rfl rfl (by decide) rfl ?_
  refine gm_goto (tgt := 12) dX6_parse_62 (by decide) ?_
  exact K
/-- X6_parse 12 [15f 22t] -> ret  -/
theorem PX6_parse_5 {x1 : Int32} {S : gm_Mem} {T1 : gm_Mem} {r2 : Int32} (c1 : x1 < 40) (h3 : gm_run gC 3 YX6_readAction 0 [some (.ref 117), none, none, none] [] S (some (.int r2)) T1) (c4 : r2 = 0) : gm_run gC 4 YX6_parse 12 [some (.ref 117), some (.int x1)] [] S (some (.int 0)) T1 := by
  refine gm_iload_n dX6_parse_12 rfl ?_
  refine gm_bipush (v := 40) dX6_parse_13 (by decide) ?_
  refine gm_icmp_ge_f dX6_parse_15 ⟨65, by decide⟩ c1 ?_
  refine gm_aload_n dX6_parse_18 rfl ?_
  refine gm_callV (r1 := (some (.int r2))) (own := RX6) rfl dX6_parse_19 llX6_34 mvX6_readAction sC_117 rfl [] [] rfl rfl (Nat.le_of_ble_eq_true rfl) (by decide) rfl h3 rfl ?_
  refine gm_if_eq_t (tgt := 65) dX6_parse_22 (by decide) c4 ?_
  refine gm_iconst (v := 0) dX6_parse_65 (by decide) ?_
  exact gm_zret dX6_parse_66 rfl gm_fit_0
/-- X6_parse 12 [15t] -> ret  -/
theorem PX6_parse_6 {x1 : Int32} {S : gm_Mem} (c1 : ¬ x1 < 40) : gm_run gC 4 YX6_parse 12 [some (.ref 117), some (.int x1)] [] S (some (.int 0)) S := by
  refine gm_iload_n dX6_parse_12 rfl ?_
  refine gm_bipush (v := 40) dX6_parse_13 (by decide) ?_
  refine gm_icmp_ge_t (tgt := 65) dX6_parse_15 (by decide) c1 ?_
  refine gm_iconst (v := 0) dX6_parse_65 (by decide) ?_
  exact gm_zret dX6_parse_66 rfl gm_fit_0
/-- X7_copyFrom 0 [] -> cut 2 -/
theorem PX7_copyFrom_1 {p : Nat} {o : Nat} {S : gm_Mem} {r : Option Value} {S2 : gm_Mem} (kp : p = 52 ∨ p = 110) (ko : o = 52 ∨ o = 110) (kne : p ≠ o) (K : gm_run gC 0 YX7_copyFrom 2 [some (.ref p), some (.ref o), some (.int 0)] [] S r S2) : gm_run gC 0 YX7_copyFrom 0 [some (.ref p), some (.ref o), none] [] S r S2 := by
  refine gm_iconst (v := 0) dX7_copyFrom_0 (by decide) ?_
  refine gm_istore_n (L' := [some (.ref p), some (.ref o), some (.int 0)]) dX7_copyFrom_1 (by decide) rfl ?_
  exact K
/-- X7_copyFrom 2 [5f] -> cut 2 -/
theorem PX7_copyFrom_2 {p : Nat} {o : Nat} {x2 : Int32} {S : gm_Mem} {j2 : Nat} {r : Option Value} {S2 : gm_Mem} (kp : p = 52 ∨ p = 110) (ko : o = 52 ∨ o = 110) (kne : p ≠ o) (c1 : x2 < 16) (ij2 : gm_ix x2 j2 16) (z3 : gm_fit .boolean (S (o + 2) j2)) (K : gm_run gC 0 YX7_copyFrom 2 [some (.ref p), some (.ref o), some (.int (x2 + 1))] [] (gm_u (gm_u S (p + 1) j2 (S (o + 1) j2)) (p + 2) j2 (S (o + 2) j2)) r S2) : gm_run gC 0 YX7_copyFrom 2 [some (.ref p), some (.ref o), some (.int x2)] [] S r S2 := by
  refine gm_iload_n dX7_copyFrom_2 rfl ?_
  refine gm_bipush (v := 16) dX7_copyFrom_3 (by decide) ?_
  refine gm_icmp_ge_f dX7_copyFrom_5 ⟨38, by decide⟩ c1 ?_
  refine gm_aload_n dX7_copyFrom_8 rfl ?_
  refine gm_getR (own := RX7) (q := (p + 1)) rfl dX7_copyFrom_9 lfX7_9 (sC_Ti_0 (by omega)) rfl ?_
  refine gm_iload_n dX7_copyFrom_12 rfl ?_
  refine gm_aload_n dX7_copyFrom_13 rfl ?_
  refine gm_getR (own := RX7) (q := (o + 1)) rfl dX7_copyFrom_14 lfX7_9 (sC_Ti_0 (by omega)) rfl ?_
  refine gm_iload_n dX7_copyFrom_17 rfl ?_
  refine gm_iald (j := j2) (x := (S (o + 1) j2)) dX7_copyFrom_18 (sC_Ti_1 (by omega)) ij2 rfl ?_
  refine gm_iast (j := j2) dX7_copyFrom_19 (sC_Ti_1 (by omega)) ij2 ?_
  refine gm_aload_n dX7_copyFrom_20 rfl ?_
  refine gm_getR (own := RX7) (q := (p + 2)) rfl dX7_copyFrom_21 lfX7_15 (sC_Ti_0 (by omega)) rfl ?_
  refine gm_iload_n dX7_copyFrom_24 rfl ?_
  refine gm_aload_n dX7_copyFrom_25 rfl ?_
  refine gm_getR (own := RX7) (q := (o + 2)) rfl dX7_copyFrom_26 lfX7_15 (sC_Ti_0 (by omega)) rfl ?_
  refine gm_iload_n dX7_copyFrom_29 rfl ?_
  refine gm_zald (j := j2) (x := (S (o + 2) j2)) dX7_copyFrom_30 (sC_Ti_2 (by omega)) ij2 (gm_rp (by omega)) ?_
  refine gm_zast (j := j2) dX7_copyFrom_31 (sC_Ti_2 (by omega)) ij2 z3 ?_
  refine gm_iinc (L' := [some (.ref p), some (.ref o), some (.int (x2 + 1))]) (v := (x2 + 1)) dX7_copyFrom_32 rfl rfl (by decide) rfl ?_
  refine gm_goto (tgt := 2) dX7_copyFrom_35 (by decide) ?_
  exact K
/-- X7_copyFrom 2 [5t] -> ret  -/
theorem PX7_copyFrom_3 {p : Nat} {o : Nat} {x2 : Int32} {S : gm_Mem} (kp : p = 52 ∨ p = 110) (ko : o = 52 ∨ o = 110) (kne : p ≠ o) (c1 : ¬ x2 < 16) : gm_run gC 0 YX7_copyFrom 2 [some (.ref p), some (.ref o), some (.int x2)] [] S none (gm_u S p 2 (S o 2)) := by
  refine gm_iload_n dX7_copyFrom_2 rfl ?_
  refine gm_bipush (v := 16) dX7_copyFrom_3 (by decide) ?_
  refine gm_icmp_ge_t (tgt := 38) dX7_copyFrom_5 (by decide) c1 ?_
  refine gm_aload_n dX7_copyFrom_38 rfl ?_
  refine gm_aload_n dX7_copyFrom_39 rfl ?_
  refine gm_getI (own := RX7) (x := (S o 2)) rfl dX7_copyFrom_40 lfX7_19 (sC_Ti_0 (by omega)) rfl rfl ?_
  refine gm_put (own := RX7) rfl dX7_copyFrom_43 lfX7_19 (sC_Ti_0 (by omega)) rfl (gm_fit_int _) ?_
  exact gm_vret dX7_copyFrom_46 rfl
/-- X7_isIssued 0 [1f 9f 15f] -> ret  -/
theorem PX7_isIssued_1 {p : Nat} {a1 : Int32} {S : gm_Mem} (kp : p = 52 ∨ p = 110) (c1 : ¬ a1 < 0) (c2 : a1 < (S p 2)) (c3 : a1 < 16) : gm_run gC 0 YX7_isIssued 0 [some (.ref p), some (.int a1)] [] S (some (.int 1)) S := by
  refine gm_iload_n dX7_isIssued_0 rfl ?_
  refine gm_if_lt_f dX7_isIssued_1 ⟨22, by decide⟩ c1 ?_
  refine gm_iload_n dX7_isIssued_4 rfl ?_
  refine gm_aload_n dX7_isIssued_5 rfl ?_
  refine gm_getI (own := RX7) (x := (S p 2)) rfl dX7_isIssued_6 lfX7_19 (sC_Ti_0 (by omega)) rfl rfl ?_
  refine gm_icmp_ge_f dX7_isIssued_9 ⟨22, by decide⟩ c2 ?_
  refine gm_iload_n dX7_isIssued_12 rfl ?_
  refine gm_bipush (v := 16) dX7_isIssued_13 (by decide) ?_
  refine gm_icmp_ge_f dX7_isIssued_15 ⟨22, by decide⟩ c3 ?_
  refine gm_iconst (v := 1) dX7_isIssued_18 (by decide) ?_
  refine gm_goto (tgt := 23) dX7_isIssued_19 (by decide) ?_
  exact gm_zret dX7_isIssued_23 rfl gm_fit_1
/-- X7_isIssued 0 [1f 9f 15t] -> ret  -/
theorem PX7_isIssued_2 {p : Nat} {a1 : Int32} {S : gm_Mem} (kp : p = 52 ∨ p = 110) (c1 : ¬ a1 < 0) (c2 : a1 < (S p 2)) (c3 : ¬ a1 < 16) : gm_run gC 0 YX7_isIssued 0 [some (.ref p), some (.int a1)] [] S (some (.int 0)) S := by
  refine gm_iload_n dX7_isIssued_0 rfl ?_
  refine gm_if_lt_f dX7_isIssued_1 ⟨22, by decide⟩ c1 ?_
  refine gm_iload_n dX7_isIssued_4 rfl ?_
  refine gm_aload_n dX7_isIssued_5 rfl ?_
  refine gm_getI (own := RX7) (x := (S p 2)) rfl dX7_isIssued_6 lfX7_19 (sC_Ti_0 (by omega)) rfl rfl ?_
  refine gm_icmp_ge_f dX7_isIssued_9 ⟨22, by decide⟩ c2 ?_
  refine gm_iload_n dX7_isIssued_12 rfl ?_
  refine gm_bipush (v := 16) dX7_isIssued_13 (by decide) ?_
  refine gm_icmp_ge_t (tgt := 22) dX7_isIssued_15 (by decide) c3 ?_
  refine gm_iconst (v := 0) dX7_isIssued_22 (by decide) ?_
  exact gm_zret dX7_isIssued_23 rfl gm_fit_0
/-- X7_isIssued 0 [1f 9t] -> ret  -/
theorem PX7_isIssued_3 {p : Nat} {a1 : Int32} {S : gm_Mem} (kp : p = 52 ∨ p = 110) (c1 : ¬ a1 < 0) (c2 : ¬ a1 < (S p 2)) : gm_run gC 0 YX7_isIssued 0 [some (.ref p), some (.int a1)] [] S (some (.int 0)) S := by
  refine gm_iload_n dX7_isIssued_0 rfl ?_
  refine gm_if_lt_f dX7_isIssued_1 ⟨22, by decide⟩ c1 ?_
  refine gm_iload_n dX7_isIssued_4 rfl ?_
  refine gm_aload_n dX7_isIssued_5 rfl ?_
  refine gm_getI (own := RX7) (x := (S p 2)) rfl dX7_isIssued_6 lfX7_19 (sC_Ti_0 (by omega)) rfl rfl ?_
  refine gm_icmp_ge_t (tgt := 22) dX7_isIssued_9 (by decide) c2 ?_
  refine gm_iconst (v := 0) dX7_isIssued_22 (by decide) ?_
  exact gm_zret dX7_isIssued_23 rfl gm_fit_0
/-- X7_isIssued 0 [1t] -> ret  -/
theorem PX7_isIssued_4 {p : Nat} {a1 : Int32} {S : gm_Mem} (kp : p = 52 ∨ p = 110) (c1 : a1 < 0) : gm_run gC 0 YX7_isIssued 0 [some (.ref p), some (.int a1)] [] S (some (.int 0)) S := by
  refine gm_iload_n dX7_isIssued_0 rfl ?_
  refine gm_if_lt_t (tgt := 22) dX7_isIssued_1 (by decide) c1 ?_
  refine gm_iconst (v := 0) dX7_isIssued_22 (by decide) ?_
  exact gm_zret dX7_isIssued_23 rfl gm_fit_0
/-- X7_isValid 0 [5f 14f 26f] -> ret  -/
theorem PX7_isValid_1 {p : Nat} {a1 : Int32} {a2 : Int32} {a3 : Int32} {S : gm_Mem} {r1 : Int32} {j4 : Nat} (kp : p = 52 ∨ p = 110) (h2 : gm_run gC 0 YX7_isIssued 0 [some (.ref p), some (.int a1)] [] S (some (.int r1)) S) (c3 : ¬ r1 = 0) (ij4 : gm_ix a1 j4 16) (c5 : (S (p + 2) j4) = 0) (c6 : ¬ a3 < (a2 - (S (p + 1) j4))) : gm_run gC 1 YX7_isValid 0 [some (.ref p), some (.int a1), some (.int a2), some (.int a3)] [] S (some (.int 1)) S := by
  refine gm_aload_n dX7_isValid_0 rfl ?_
  refine gm_iload_n dX7_isValid_1 rfl ?_
  refine gm_callV (r1 := (some (.int r1))) (own := RX7) rfl dX7_isValid_2 llX7_23 mvX7_isIssued (sC_Ti_0 (by omega)) rfl [.int a1] [] rfl rfl (Nat.le_of_ble_eq_true rfl) (by decide) rfl h2 rfl ?_
  refine gm_if_eq_f dX7_isValid_5 ⟨33, by decide⟩ c3 ?_
  refine gm_aload_n dX7_isValid_8 rfl ?_
  refine gm_getR (own := RX7) (q := (p + 2)) rfl dX7_isValid_9 lfX7_15 (sC_Ti_0 (by omega)) rfl ?_
  refine gm_iload_n dX7_isValid_12 rfl ?_
  refine gm_zald (j := j4) (x := (S (p + 2) j4)) dX7_isValid_13 (sC_Ti_2 (by omega)) ij4 rfl ?_
  refine gm_if_ne_f dX7_isValid_14 ⟨33, by decide⟩ c5 ?_
  refine gm_iload_n dX7_isValid_17 rfl ?_
  refine gm_aload_n dX7_isValid_18 rfl ?_
  refine gm_getR (own := RX7) (q := (p + 1)) rfl dX7_isValid_19 lfX7_9 (sC_Ti_0 (by omega)) rfl ?_
  refine gm_iload_n dX7_isValid_22 rfl ?_
  refine gm_iald (j := j4) (x := (S (p + 1) j4)) dX7_isValid_23 (sC_Ti_1 (by omega)) ij4 rfl ?_
  refine gm_isub dX7_isValid_24 rfl ?_
  refine gm_iload_n dX7_isValid_25 rfl ?_
  refine gm_icmp_gt_f dX7_isValid_26 ⟨33, by decide⟩ c6 ?_
  refine gm_iconst (v := 1) dX7_isValid_29 (by decide) ?_
  refine gm_goto (tgt := 34) dX7_isValid_30 (by decide) ?_
  exact gm_zret dX7_isValid_34 rfl gm_fit_1
/-- X7_isValid 0 [5f 14f 26t] -> ret  -/
theorem PX7_isValid_2 {p : Nat} {a1 : Int32} {a2 : Int32} {a3 : Int32} {S : gm_Mem} {r1 : Int32} {j4 : Nat} (kp : p = 52 ∨ p = 110) (h2 : gm_run gC 0 YX7_isIssued 0 [some (.ref p), some (.int a1)] [] S (some (.int r1)) S) (c3 : ¬ r1 = 0) (ij4 : gm_ix a1 j4 16) (c5 : (S (p + 2) j4) = 0) (c6 : a3 < (a2 - (S (p + 1) j4))) : gm_run gC 1 YX7_isValid 0 [some (.ref p), some (.int a1), some (.int a2), some (.int a3)] [] S (some (.int 0)) S := by
  refine gm_aload_n dX7_isValid_0 rfl ?_
  refine gm_iload_n dX7_isValid_1 rfl ?_
  refine gm_callV (r1 := (some (.int r1))) (own := RX7) rfl dX7_isValid_2 llX7_23 mvX7_isIssued (sC_Ti_0 (by omega)) rfl [.int a1] [] rfl rfl (Nat.le_of_ble_eq_true rfl) (by decide) rfl h2 rfl ?_
  refine gm_if_eq_f dX7_isValid_5 ⟨33, by decide⟩ c3 ?_
  refine gm_aload_n dX7_isValid_8 rfl ?_
  refine gm_getR (own := RX7) (q := (p + 2)) rfl dX7_isValid_9 lfX7_15 (sC_Ti_0 (by omega)) rfl ?_
  refine gm_iload_n dX7_isValid_12 rfl ?_
  refine gm_zald (j := j4) (x := (S (p + 2) j4)) dX7_isValid_13 (sC_Ti_2 (by omega)) ij4 rfl ?_
  refine gm_if_ne_f dX7_isValid_14 ⟨33, by decide⟩ c5 ?_
  refine gm_iload_n dX7_isValid_17 rfl ?_
  refine gm_aload_n dX7_isValid_18 rfl ?_
  refine gm_getR (own := RX7) (q := (p + 1)) rfl dX7_isValid_19 lfX7_9 (sC_Ti_0 (by omega)) rfl ?_
  refine gm_iload_n dX7_isValid_22 rfl ?_
  refine gm_iald (j := j4) (x := (S (p + 1) j4)) dX7_isValid_23 (sC_Ti_1 (by omega)) ij4 rfl ?_
  refine gm_isub dX7_isValid_24 rfl ?_
  refine gm_iload_n dX7_isValid_25 rfl ?_
  refine gm_icmp_gt_t (tgt := 33) dX7_isValid_26 (by decide) c6 ?_
  refine gm_iconst (v := 0) dX7_isValid_33 (by decide) ?_
  exact gm_zret dX7_isValid_34 rfl gm_fit_0
/-- X7_isValid 0 [5f 14t] -> ret  -/
theorem PX7_isValid_3 {p : Nat} {a1 : Int32} {a2 : Int32} {a3 : Int32} {S : gm_Mem} {r1 : Int32} {j4 : Nat} (kp : p = 52 ∨ p = 110) (h2 : gm_run gC 0 YX7_isIssued 0 [some (.ref p), some (.int a1)] [] S (some (.int r1)) S) (c3 : ¬ r1 = 0) (ij4 : gm_ix a1 j4 16) (c5 : ¬ (S (p + 2) j4) = 0) : gm_run gC 1 YX7_isValid 0 [some (.ref p), some (.int a1), some (.int a2), some (.int a3)] [] S (some (.int 0)) S := by
  refine gm_aload_n dX7_isValid_0 rfl ?_
  refine gm_iload_n dX7_isValid_1 rfl ?_
  refine gm_callV (r1 := (some (.int r1))) (own := RX7) rfl dX7_isValid_2 llX7_23 mvX7_isIssued (sC_Ti_0 (by omega)) rfl [.int a1] [] rfl rfl (Nat.le_of_ble_eq_true rfl) (by decide) rfl h2 rfl ?_
  refine gm_if_eq_f dX7_isValid_5 ⟨33, by decide⟩ c3 ?_
  refine gm_aload_n dX7_isValid_8 rfl ?_
  refine gm_getR (own := RX7) (q := (p + 2)) rfl dX7_isValid_9 lfX7_15 (sC_Ti_0 (by omega)) rfl ?_
  refine gm_iload_n dX7_isValid_12 rfl ?_
  refine gm_zald (j := j4) (x := (S (p + 2) j4)) dX7_isValid_13 (sC_Ti_2 (by omega)) ij4 rfl ?_
  refine gm_if_ne_t (tgt := 33) dX7_isValid_14 (by decide) c5 ?_
  refine gm_iconst (v := 0) dX7_isValid_33 (by decide) ?_
  exact gm_zret dX7_isValid_34 rfl gm_fit_0
/-- X7_isValid 0 [5t] -> ret  -/
theorem PX7_isValid_4 {p : Nat} {a1 : Int32} {a2 : Int32} {a3 : Int32} {S : gm_Mem} {r1 : Int32} (kp : p = 52 ∨ p = 110) (h2 : gm_run gC 0 YX7_isIssued 0 [some (.ref p), some (.int a1)] [] S (some (.int r1)) S) (c3 : r1 = 0) : gm_run gC 1 YX7_isValid 0 [some (.ref p), some (.int a1), some (.int a2), some (.int a3)] [] S (some (.int 0)) S := by
  refine gm_aload_n dX7_isValid_0 rfl ?_
  refine gm_iload_n dX7_isValid_1 rfl ?_
  refine gm_callV (r1 := (some (.int r1))) (own := RX7) rfl dX7_isValid_2 llX7_23 mvX7_isIssued (sC_Ti_0 (by omega)) rfl [.int a1] [] rfl rfl (Nat.le_of_ble_eq_true rfl) (by decide) rfl h2 rfl ?_
  refine gm_if_eq_t (tgt := 33) dX7_isValid_5 (by decide) c3 ?_
  refine gm_iconst (v := 0) dX7_isValid_33 (by decide) ?_
  exact gm_zret dX7_isValid_34 rfl gm_fit_0
/-- X7_issue 0 [4f 13f] -> ret  -/
theorem PX7_issue_1 {p : Nat} {a1 : Int32} {S : gm_Mem} (kp : p = 52 ∨ p = 110) (c1 : ¬ (S p 2) < 0) (c2 : ¬ (S p 2) < 16) : gm_run gC 0 YX7_issue 0 [some (.ref p), some (.int a1), none] [] S (some (.int (-1))) S := by
  refine gm_aload_n dX7_issue_0 rfl ?_
  refine gm_getI (own := RX7) (x := (S p 2)) rfl dX7_issue_1 lfX7_19 (sC_Ti_0 (by omega)) rfl rfl ?_
  refine gm_if_lt_f dX7_issue_4 ⟨16, by decide⟩ c1 ?_
  refine gm_aload_n dX7_issue_7 rfl ?_
  refine gm_getI (own := RX7) (x := (S p 2)) rfl dX7_issue_8 lfX7_19 (sC_Ti_0 (by omega)) rfl rfl ?_
  refine gm_bipush (v := 16) dX7_issue_11 (by decide) ?_
  refine gm_icmp_lt_f dX7_issue_13 ⟨18, by decide⟩ c2 ?_
  refine gm_iconst (v := (-1)) dX7_issue_16 (by decide) ?_
  exact gm_iret dX7_issue_17 rfl
/-- X7_issue 0 [4f 13t] -> ret  -/
theorem PX7_issue_2 {p : Nat} {a1 : Int32} {S : gm_Mem} {j3 : Nat} (kp : p = 52 ∨ p = 110) (c1 : ¬ (S p 2) < 0) (c2 : (S p 2) < 16) (ij3 : gm_ix (S p 2) j3 16) : gm_run gC 0 YX7_issue 0 [some (.ref p), some (.int a1), none] [] S (some (.int (S p 2))) (gm_u (gm_u S (p + 1) j3 a1) p 2 ((S p 2) + 1)) := by
  refine gm_aload_n dX7_issue_0 rfl ?_
  refine gm_getI (own := RX7) (x := (S p 2)) rfl dX7_issue_1 lfX7_19 (sC_Ti_0 (by omega)) rfl rfl ?_
  refine gm_if_lt_f dX7_issue_4 ⟨16, by decide⟩ c1 ?_
  refine gm_aload_n dX7_issue_7 rfl ?_
  refine gm_getI (own := RX7) (x := (S p 2)) rfl dX7_issue_8 lfX7_19 (sC_Ti_0 (by omega)) rfl rfl ?_
  refine gm_bipush (v := 16) dX7_issue_11 (by decide) ?_
  refine gm_icmp_lt_t (tgt := 18) dX7_issue_13 (by decide) c2 ?_
  refine gm_aload_n dX7_issue_18 rfl ?_
  refine gm_getI (own := RX7) (x := (S p 2)) rfl dX7_issue_19 lfX7_19 (sC_Ti_0 (by omega)) rfl rfl ?_
  refine gm_istore_n (L' := [some (.ref p), some (.int a1), some (.int (S p 2))]) dX7_issue_22 (by decide) rfl ?_
  refine gm_aload_n dX7_issue_23 rfl ?_
  refine gm_getR (own := RX7) (q := (p + 1)) rfl dX7_issue_24 lfX7_9 (sC_Ti_0 (by omega)) rfl ?_
  refine gm_iload_n dX7_issue_27 rfl ?_
  refine gm_iload_n dX7_issue_28 rfl ?_
  refine gm_iast (j := j3) dX7_issue_29 (sC_Ti_1 (by omega)) ij3 ?_
  refine gm_aload_n dX7_issue_30 rfl ?_
  refine gm_dup dX7_issue_31 ?_
  refine gm_getI (own := RX7) (x := (S p 2)) rfl dX7_issue_32 lfX7_19 (sC_Ti_0 (by omega)) rfl (gm_rp (by omega)) ?_
  refine gm_iconst (v := 1) dX7_issue_35 (by decide) ?_
  refine gm_iadd dX7_issue_36 rfl ?_
  refine gm_put (own := RX7) rfl dX7_issue_37 lfX7_19 (sC_Ti_0 (by omega)) rfl (gm_fit_int _) ?_
  refine gm_iload_n dX7_issue_40 rfl ?_
  exact gm_iret dX7_issue_41 rfl
/-- X7_issue 0 [4t] -> ret  -/
theorem PX7_issue_3 {p : Nat} {a1 : Int32} {S : gm_Mem} (kp : p = 52 ∨ p = 110) (c1 : (S p 2) < 0) : gm_run gC 0 YX7_issue 0 [some (.ref p), some (.int a1), none] [] S (some (.int (-1))) S := by
  refine gm_aload_n dX7_issue_0 rfl ?_
  refine gm_getI (own := RX7) (x := (S p 2)) rfl dX7_issue_1 lfX7_19 (sC_Ti_0 (by omega)) rfl rfl ?_
  refine gm_if_lt_t (tgt := 16) dX7_issue_4 (by decide) c1 ?_
  refine gm_iconst (v := (-1)) dX7_issue_16 (by decide) ?_
  exact gm_iret dX7_issue_17 rfl
/-- X7_use 0 [5f] -> ret  -/
theorem PX7_use_1 {p : Nat} {a1 : Int32} {S : gm_Mem} {r1 : Int32} {j4 : Nat} (kp : p = 52 ∨ p = 110) (h2 : gm_run gC 0 YX7_isIssued 0 [some (.ref p), some (.int a1)] [] S (some (.int r1)) S) (c3 : ¬ r1 = 0) (ij4 : gm_ix a1 j4 16) : gm_run gC 1 YX7_use 0 [some (.ref p), some (.int a1)] [] S none (gm_u S (p + 2) j4 1) := by
  refine gm_aload_n dX7_use_0 rfl ?_
  refine gm_iload_n dX7_use_1 rfl ?_
  refine gm_callV (r1 := (some (.int r1))) (own := RX7) rfl dX7_use_2 llX7_23 mvX7_isIssued (sC_Ti_0 (by omega)) rfl [.int a1] [] rfl rfl (Nat.le_of_ble_eq_true rfl) (by decide) rfl h2 rfl ?_
  refine gm_if_eq_f dX7_use_5 ⟨15, by decide⟩ c3 ?_
  refine gm_aload_n dX7_use_8 rfl ?_
  refine gm_getR (own := RX7) (q := (p + 2)) rfl dX7_use_9 lfX7_15 (sC_Ti_0 (by omega)) rfl ?_
  refine gm_iload_n dX7_use_12 rfl ?_
  refine gm_iconst (v := 1) dX7_use_13 (by decide) ?_
  refine gm_zast (j := j4) dX7_use_14 (sC_Ti_2 (by omega)) ij4 gm_fit_1 ?_
  exact gm_vret dX7_use_15 rfl
/-- X7_use 0 [5t] -> ret  -/
theorem PX7_use_2 {p : Nat} {a1 : Int32} {S : gm_Mem} {r1 : Int32} (kp : p = 52 ∨ p = 110) (h2 : gm_run gC 0 YX7_isIssued 0 [some (.ref p), some (.int a1)] [] S (some (.int r1)) S) (c3 : r1 = 0) : gm_run gC 1 YX7_use 0 [some (.ref p), some (.int a1)] [] S none S := by
  refine gm_aload_n dX7_use_0 rfl ?_
  refine gm_iload_n dX7_use_1 rfl ?_
  refine gm_callV (r1 := (some (.int r1))) (own := RX7) rfl dX7_use_2 llX7_23 mvX7_isIssued (sC_Ti_0 (by omega)) rfl [.int a1] [] rfl rfl (Nat.le_of_ble_eq_true rfl) (by decide) rfl h2 rfl ?_
  refine gm_if_eq_t (tgt := 15) dX7_use_5 (by decide) c3 ?_
  exact gm_vret dX7_use_15 rfl
/-- X8_isBehind 0 [4f 15f] -> ret  -/
theorem PX8_isBehind_1 {p : Nat} {a1 : Int32} {S : gm_Mem} (kp : p = 12 ∨ p = 13 ∨ p = 24 ∨ p = 25 ∨ p = 70 ∨ p = 71 ∨ p = 82 ∨ p = 83) (c1 : ¬ (S p 1) = 0) (c2 : a1 < ((S p 0) - 7)) : gm_run gC 0 YX8_isBehind 0 [some (.ref p), some (.int a1)] [] S (some (.int 1)) S := by
  refine gm_aload_n dX8_isBehind_0 rfl ?_
  refine gm_getI (own := RX8) (x := (S p 1)) rfl dX8_isBehind_1 lfX8_15 (sC_Wi_0 (by omega)) rfl rfl ?_
  refine gm_if_eq_f dX8_isBehind_4 ⟨22, by decide⟩ c1 ?_
  refine gm_iload_n dX8_isBehind_7 rfl ?_
  refine gm_aload_n dX8_isBehind_8 rfl ?_
  refine gm_getI (own := RX8) (x := (S p 0)) rfl dX8_isBehind_9 lfX8_9 (sC_Wi_0 (by omega)) rfl rfl ?_
  refine gm_bipush (v := 7) dX8_isBehind_12 (by decide) ?_
  refine gm_isub dX8_isBehind_14 rfl ?_
  refine gm_icmp_ge_f dX8_isBehind_15 ⟨22, by decide⟩ c2 ?_
  refine gm_iconst (v := 1) dX8_isBehind_18 (by decide) ?_
  refine gm_goto (tgt := 23) dX8_isBehind_19 (by decide) ?_
  exact gm_zret dX8_isBehind_23 rfl gm_fit_1
/-- X8_isBehind 0 [4f 15t] -> ret  -/
theorem PX8_isBehind_2 {p : Nat} {a1 : Int32} {S : gm_Mem} (kp : p = 12 ∨ p = 13 ∨ p = 24 ∨ p = 25 ∨ p = 70 ∨ p = 71 ∨ p = 82 ∨ p = 83) (c1 : ¬ (S p 1) = 0) (c2 : ¬ a1 < ((S p 0) - 7)) : gm_run gC 0 YX8_isBehind 0 [some (.ref p), some (.int a1)] [] S (some (.int 0)) S := by
  refine gm_aload_n dX8_isBehind_0 rfl ?_
  refine gm_getI (own := RX8) (x := (S p 1)) rfl dX8_isBehind_1 lfX8_15 (sC_Wi_0 (by omega)) rfl rfl ?_
  refine gm_if_eq_f dX8_isBehind_4 ⟨22, by decide⟩ c1 ?_
  refine gm_iload_n dX8_isBehind_7 rfl ?_
  refine gm_aload_n dX8_isBehind_8 rfl ?_
  refine gm_getI (own := RX8) (x := (S p 0)) rfl dX8_isBehind_9 lfX8_9 (sC_Wi_0 (by omega)) rfl rfl ?_
  refine gm_bipush (v := 7) dX8_isBehind_12 (by decide) ?_
  refine gm_isub dX8_isBehind_14 rfl ?_
  refine gm_icmp_ge_t (tgt := 22) dX8_isBehind_15 (by decide) c2 ?_
  refine gm_iconst (v := 0) dX8_isBehind_22 (by decide) ?_
  exact gm_zret dX8_isBehind_23 rfl gm_fit_0
/-- X8_isBehind 0 [4t] -> ret  -/
theorem PX8_isBehind_3 {p : Nat} {a1 : Int32} {S : gm_Mem} (kp : p = 12 ∨ p = 13 ∨ p = 24 ∨ p = 25 ∨ p = 70 ∨ p = 71 ∨ p = 82 ∨ p = 83) (c1 : (S p 1) = 0) : gm_run gC 0 YX8_isBehind 0 [some (.ref p), some (.int a1)] [] S (some (.int 0)) S := by
  refine gm_aload_n dX8_isBehind_0 rfl ?_
  refine gm_getI (own := RX8) (x := (S p 1)) rfl dX8_isBehind_1 lfX8_15 (sC_Wi_0 (by omega)) rfl rfl ?_
  refine gm_if_eq_t (tgt := 22) dX8_isBehind_4 (by decide) c1 ?_
  refine gm_iconst (v := 0) dX8_isBehind_22 (by decide) ?_
  exact gm_zret dX8_isBehind_23 rfl gm_fit_0
/-- X8_holds 0 [8f 14f 26f] -> ret  -/
theorem PX8_holds_1 {p : Nat} {a1 : Int32} {S : gm_Mem} (kp : p = 12 ∨ p = 13 ∨ p = 24 ∨ p = 25 ∨ p = 70 ∨ p = 71 ∨ p = 82 ∨ p = 83) (c1 : ¬ ((S p 0) - a1) < 0) (c2 : ¬ 7 < ((S p 0) - a1)) (c3 : ((gm_ushr (S p 1) ((S p 0) - a1)) &&& 1) = 1) : gm_run gC 0 YX8_holds 0 [some (.ref p), some (.int a1), none] [] S (some (.int 1)) S := by
  refine gm_aload_n dX8_holds_0 rfl ?_
  refine gm_getI (own := RX8) (x := (S p 0)) rfl dX8_holds_1 lfX8_9 (sC_Wi_0 (by omega)) rfl rfl ?_
  refine gm_iload_n dX8_holds_4 rfl ?_
  refine gm_isub dX8_holds_5 rfl ?_
  refine gm_istore_n (L' := [some (.ref p), some (.int a1), some (.int ((S p 0) - a1))]) dX8_holds_6 (by decide) rfl ?_
  refine gm_iload_n dX8_holds_7 rfl ?_
  refine gm_if_lt_f dX8_holds_8 ⟨33, by decide⟩ c1 ?_
  refine gm_iload_n dX8_holds_11 rfl ?_
  refine gm_bipush (v := 7) dX8_holds_12 (by decide) ?_
  refine gm_icmp_gt_f dX8_holds_14 ⟨33, by decide⟩ c2 ?_
  refine gm_aload_n dX8_holds_17 rfl ?_
  refine gm_getI (own := RX8) (x := (S p 1)) rfl dX8_holds_18 lfX8_15 (sC_Wi_0 (by omega)) rfl rfl ?_
  refine gm_iload_n dX8_holds_21 rfl ?_
  refine gm_iushr (v := (gm_ushr (S p 1) ((S p 0) - a1))) dX8_holds_22 rfl ?_
  refine gm_iconst (v := 1) dX8_holds_23 (by decide) ?_
  refine gm_iand dX8_holds_24 rfl ?_
  refine gm_iconst (v := 1) dX8_holds_25 (by decide) ?_
  refine gm_icmp_ne_f dX8_holds_26 ⟨33, by decide⟩ c3 ?_
  refine gm_iconst (v := 1) dX8_holds_29 (by decide) ?_
  refine gm_goto (tgt := 34) dX8_holds_30 (by decide) ?_
  exact gm_zret dX8_holds_34 rfl gm_fit_1
/-- X8_holds 0 [8f 14f 26t] -> ret  -/
theorem PX8_holds_2 {p : Nat} {a1 : Int32} {S : gm_Mem} (kp : p = 12 ∨ p = 13 ∨ p = 24 ∨ p = 25 ∨ p = 70 ∨ p = 71 ∨ p = 82 ∨ p = 83) (c1 : ¬ ((S p 0) - a1) < 0) (c2 : ¬ 7 < ((S p 0) - a1)) (c3 : ¬ ((gm_ushr (S p 1) ((S p 0) - a1)) &&& 1) = 1) : gm_run gC 0 YX8_holds 0 [some (.ref p), some (.int a1), none] [] S (some (.int 0)) S := by
  refine gm_aload_n dX8_holds_0 rfl ?_
  refine gm_getI (own := RX8) (x := (S p 0)) rfl dX8_holds_1 lfX8_9 (sC_Wi_0 (by omega)) rfl rfl ?_
  refine gm_iload_n dX8_holds_4 rfl ?_
  refine gm_isub dX8_holds_5 rfl ?_
  refine gm_istore_n (L' := [some (.ref p), some (.int a1), some (.int ((S p 0) - a1))]) dX8_holds_6 (by decide) rfl ?_
  refine gm_iload_n dX8_holds_7 rfl ?_
  refine gm_if_lt_f dX8_holds_8 ⟨33, by decide⟩ c1 ?_
  refine gm_iload_n dX8_holds_11 rfl ?_
  refine gm_bipush (v := 7) dX8_holds_12 (by decide) ?_
  refine gm_icmp_gt_f dX8_holds_14 ⟨33, by decide⟩ c2 ?_
  refine gm_aload_n dX8_holds_17 rfl ?_
  refine gm_getI (own := RX8) (x := (S p 1)) rfl dX8_holds_18 lfX8_15 (sC_Wi_0 (by omega)) rfl rfl ?_
  refine gm_iload_n dX8_holds_21 rfl ?_
  refine gm_iushr (v := (gm_ushr (S p 1) ((S p 0) - a1))) dX8_holds_22 rfl ?_
  refine gm_iconst (v := 1) dX8_holds_23 (by decide) ?_
  refine gm_iand dX8_holds_24 rfl ?_
  refine gm_iconst (v := 1) dX8_holds_25 (by decide) ?_
  refine gm_icmp_ne_t (tgt := 33) dX8_holds_26 (by decide) c3 ?_
  refine gm_iconst (v := 0) dX8_holds_33 (by decide) ?_
  exact gm_zret dX8_holds_34 rfl gm_fit_0
/-- X8_holds 0 [8f 14t] -> ret  -/
theorem PX8_holds_3 {p : Nat} {a1 : Int32} {S : gm_Mem} (kp : p = 12 ∨ p = 13 ∨ p = 24 ∨ p = 25 ∨ p = 70 ∨ p = 71 ∨ p = 82 ∨ p = 83) (c1 : ¬ ((S p 0) - a1) < 0) (c2 : 7 < ((S p 0) - a1)) : gm_run gC 0 YX8_holds 0 [some (.ref p), some (.int a1), none] [] S (some (.int 0)) S := by
  refine gm_aload_n dX8_holds_0 rfl ?_
  refine gm_getI (own := RX8) (x := (S p 0)) rfl dX8_holds_1 lfX8_9 (sC_Wi_0 (by omega)) rfl rfl ?_
  refine gm_iload_n dX8_holds_4 rfl ?_
  refine gm_isub dX8_holds_5 rfl ?_
  refine gm_istore_n (L' := [some (.ref p), some (.int a1), some (.int ((S p 0) - a1))]) dX8_holds_6 (by decide) rfl ?_
  refine gm_iload_n dX8_holds_7 rfl ?_
  refine gm_if_lt_f dX8_holds_8 ⟨33, by decide⟩ c1 ?_
  refine gm_iload_n dX8_holds_11 rfl ?_
  refine gm_bipush (v := 7) dX8_holds_12 (by decide) ?_
  refine gm_icmp_gt_t (tgt := 33) dX8_holds_14 (by decide) c2 ?_
  refine gm_iconst (v := 0) dX8_holds_33 (by decide) ?_
  exact gm_zret dX8_holds_34 rfl gm_fit_0
/-- X8_holds 0 [8t] -> ret  -/
theorem PX8_holds_4 {p : Nat} {a1 : Int32} {S : gm_Mem} (kp : p = 12 ∨ p = 13 ∨ p = 24 ∨ p = 25 ∨ p = 70 ∨ p = 71 ∨ p = 82 ∨ p = 83) (c1 : ((S p 0) - a1) < 0) : gm_run gC 0 YX8_holds 0 [some (.ref p), some (.int a1), none] [] S (some (.int 0)) S := by
  refine gm_aload_n dX8_holds_0 rfl ?_
  refine gm_getI (own := RX8) (x := (S p 0)) rfl dX8_holds_1 lfX8_9 (sC_Wi_0 (by omega)) rfl rfl ?_
  refine gm_iload_n dX8_holds_4 rfl ?_
  refine gm_isub dX8_holds_5 rfl ?_
  refine gm_istore_n (L' := [some (.ref p), some (.int a1), some (.int ((S p 0) - a1))]) dX8_holds_6 (by decide) rfl ?_
  refine gm_iload_n dX8_holds_7 rfl ?_
  refine gm_if_lt_t (tgt := 33) dX8_holds_8 (by decide) c1 ?_
  refine gm_iconst (v := 0) dX8_holds_33 (by decide) ?_
  exact gm_zret dX8_holds_34 rfl gm_fit_0
/-- X8_asNumber 0 [4f] -> ret  -/
theorem PX8_asNumber_1 {p : Nat} {S : gm_Mem} (kp : p = 12 ∨ p = 13 ∨ p = 24 ∨ p = 25 ∨ p = 70 ∨ p = 71 ∨ p = 82 ∨ p = 83) (c1 : (S p 1) = 0) : gm_run gC 0 YX8_asNumber 0 [some (.ref p)] [] S (some (.int (-1))) S := by
  refine gm_aload_n dX8_asNumber_0 rfl ?_
  refine gm_getI (own := RX8) (x := (S p 1)) rfl dX8_asNumber_1 lfX8_15 (sC_Wi_0 (by omega)) rfl rfl ?_
  refine gm_if_ne_f dX8_asNumber_4 ⟨11, by decide⟩ c1 ?_
  refine gm_iconst (v := (-1)) dX8_asNumber_7 (by decide) ?_
  refine gm_goto (tgt := 24) dX8_asNumber_8 (by decide) ?_
  exact gm_iret dX8_asNumber_24 rfl
/-- X8_asNumber 0 [4t] -> ret  -/
theorem PX8_asNumber_2 {p : Nat} {S : gm_Mem} (kp : p = 12 ∨ p = 13 ∨ p = 24 ∨ p = 25 ∨ p = 70 ∨ p = 71 ∨ p = 82 ∨ p = 83) (c1 : ¬ (S p 1) = 0) : gm_run gC 0 YX8_asNumber 0 [some (.ref p)] [] S (some (.int (((S p 0) * 256) + (S p 1)))) S := by
  refine gm_aload_n dX8_asNumber_0 rfl ?_
  refine gm_getI (own := RX8) (x := (S p 1)) rfl dX8_asNumber_1 lfX8_15 (sC_Wi_0 (by omega)) rfl rfl ?_
  refine gm_if_ne_t (tgt := 11) dX8_asNumber_4 (by decide) c1 ?_
  refine gm_aload_n dX8_asNumber_11 rfl ?_
  refine gm_getI (own := RX8) (x := (S p 0)) rfl dX8_asNumber_12 lfX8_9 (sC_Wi_0 (by omega)) rfl rfl ?_
  refine gm_sipush (v := 256) dX8_asNumber_15 (by decide) ?_
  refine gm_imul dX8_asNumber_18 rfl ?_
  refine gm_aload_n dX8_asNumber_19 rfl ?_
  refine gm_getI (own := RX8) (x := (S p 1)) rfl dX8_asNumber_20 lfX8_15 (sC_Wi_0 (by omega)) rfl rfl ?_
  refine gm_iadd dX8_asNumber_23 rfl ?_
  exact gm_iret dX8_asNumber_24 rfl
/-- X9_copyFrom 0 [] -> ret  -/
theorem PX9_copyFrom_1 {p : Nat} {o : Nat} {S : gm_Mem} {T1 : gm_Mem} {T2 : gm_Mem} {T3 : gm_Mem} {T4 : gm_Mem} {T5 : gm_Mem} (kp : p = 1 ∨ p = 59) (ko : o = 1 ∨ o = 59) (kne : p ≠ o) (h1 : gm_run gC 2 YX0_copyFrom 0 [some (.ref (p + 1)), some (.ref (o + 1))] [] S none T1) (h2 : gm_run gC 2 YX0_copyFrom 0 [some (.ref (p + 13)), some (.ref (o + 13))] [] T1 none T2) (h3 : gm_run gC 1 YX3_copyFrom 0 [some (.ref (p + 25)), some (.ref (o + 25)), none] [] T2 none T3) (h4 : gm_run gC 0 YX7_copyFrom 0 [some (.ref (p + 51)), some (.ref (o + 51)), none] [] T3 none T4) (h5 : gm_run gC 1 YX2_copyFrom 0 [some (.ref (p + 54)), some (.ref (o + 54))] [] T4 none T5) : gm_run gC 3 YX9_copyFrom 0 [some (.ref p), some (.ref o)] [] S none (gm_u (gm_u (gm_u (gm_u (gm_u (gm_u (gm_u (gm_u (gm_u T5 p 5 (T5 o 5)) p 6 (T5 o 6)) p 7 (T5 o 7)) p 8 (T5 o 8)) p 9 (T5 o 9)) p 10 (T5 o 10)) p 11 (T5 o 11)) p 12 (T5 o 12)) p 13 (T5 o 13)) := by
  refine gm_aload_n dX9_copyFrom_0 rfl ?_
  refine gm_getR (own := RX9) (q := (p + 1)) rfl dX9_copyFrom_1 lfX9_12 (sC_W_0 (by omega)) rfl ?_
  refine gm_aload_n dX9_copyFrom_4 rfl ?_
  refine gm_getR (own := RX9) (q := (o + 1)) rfl dX9_copyFrom_5 lfX9_12 (sC_W_0 (by omega)) rfl ?_
  refine gm_callV (r1 := none) (own := RX9) rfl dX9_copyFrom_8 llX9_52 mvX0_copyFrom (sC_W_1 (by omega)) rfl [.ref (o + 1)] [] rfl rfl (Nat.le_of_ble_eq_true rfl) (by decide) rfl h1 rfl ?_
  refine gm_aload_n dX9_copyFrom_11 rfl ?_
  refine gm_getR (own := RX9) (q := (p + 13)) rfl dX9_copyFrom_12 lfX9_18 (sC_W_0 (by omega)) rfl ?_
  refine gm_aload_n dX9_copyFrom_15 rfl ?_
  refine gm_getR (own := RX9) (q := (o + 13)) rfl dX9_copyFrom_16 lfX9_18 (sC_W_0 (by omega)) rfl ?_
  refine gm_callV (r1 := none) (own := RX9) rfl dX9_copyFrom_19 llX9_52 mvX0_copyFrom (sC_W_13 (by omega)) rfl [.ref (o + 13)] [] rfl rfl (Nat.le_of_ble_eq_true rfl) (by decide) rfl h2 rfl ?_
  refine gm_aload_n dX9_copyFrom_22 rfl ?_
  refine gm_getR (own := RX9) (q := (p + 25)) rfl dX9_copyFrom_23 lfX9_24 (sC_W_0 (by omega)) rfl ?_
  refine gm_aload_n dX9_copyFrom_26 rfl ?_
  refine gm_getR (own := RX9) (q := (o + 25)) rfl dX9_copyFrom_27 lfX9_24 (sC_W_0 (by omega)) rfl ?_
  refine gm_callV (r1 := none) (own := RX9) rfl dX9_copyFrom_30 llX9_56 mvX3_copyFrom (sC_W_25 (by omega)) rfl [.ref (o + 25)] [] rfl rfl (Nat.le_of_ble_eq_true rfl) (by decide) rfl h3 rfl ?_
  refine gm_aload_n dX9_copyFrom_33 rfl ?_
  refine gm_getR (own := RX9) (q := (p + 51)) rfl dX9_copyFrom_34 lfX9_31 (sC_W_0 (by omega)) rfl ?_
  refine gm_aload_n dX9_copyFrom_37 rfl ?_
  refine gm_getR (own := RX9) (q := (o + 51)) rfl dX9_copyFrom_38 lfX9_31 (sC_W_0 (by omega)) rfl ?_
  refine gm_callV (r1 := none) (own := RX9) rfl dX9_copyFrom_41 llX9_59 mvX7_copyFrom (sC_W_51 (by omega)) rfl [.ref (o + 51)] [] rfl rfl (Nat.le_of_ble_eq_true rfl) (by decide) rfl h4 rfl ?_
  refine gm_aload_n dX9_copyFrom_44 rfl ?_
  refine gm_getR (own := RX9) (q := (p + 54)) rfl dX9_copyFrom_45 lfX9_38 (sC_W_0 (by omega)) rfl ?_
  refine gm_aload_n dX9_copyFrom_48 rfl ?_
  refine gm_getR (own := RX9) (q := (o + 54)) rfl dX9_copyFrom_49 lfX9_38 (sC_W_0 (by omega)) rfl ?_
  refine gm_callV (r1 := none) (own := RX9) rfl dX9_copyFrom_52 llX9_62 mvX2_copyFrom (sC_W_54 (by omega)) rfl [.ref (o + 54)] [] rfl rfl (Nat.le_of_ble_eq_true rfl) (by decide) rfl h5 rfl ?_
  refine gm_aload_n dX9_copyFrom_55 rfl ?_
  refine gm_aload_n dX9_copyFrom_56 rfl ?_
  refine gm_getI (own := RX9) (x := (T5 o 5)) rfl dX9_copyFrom_57 lfX9_42 (sC_W_0 (by omega)) rfl rfl ?_
  refine gm_put (own := RX9) rfl dX9_copyFrom_60 lfX9_42 (sC_W_0 (by omega)) rfl (gm_fit_int _) ?_
  refine gm_aload_n dX9_copyFrom_63 rfl ?_
  refine gm_aload_n dX9_copyFrom_64 rfl ?_
  refine gm_getI (own := RX9) (x := (T5 o 6)) rfl dX9_copyFrom_65 lfX9_46 (sC_W_0 (by omega)) rfl (gm_rp (by omega)) ?_
  refine gm_put (own := RX9) rfl dX9_copyFrom_68 lfX9_46 (sC_W_0 (by omega)) rfl (gm_fit_int _) ?_
  refine gm_aload_n dX9_copyFrom_71 rfl ?_
  refine gm_aload_n dX9_copyFrom_72 rfl ?_
  refine gm_getI (own := RX9) (x := (T5 o 7)) rfl dX9_copyFrom_73 lfX9_49 (sC_W_0 (by omega)) rfl ((gm_rp (by omega)).trans (gm_rp (by omega))) ?_
  refine gm_put (own := RX9) rfl dX9_copyFrom_76 lfX9_49 (sC_W_0 (by omega)) rfl (gm_fit_int _) ?_
  refine gm_aload_n dX9_copyFrom_79 rfl ?_
  refine gm_aload_n dX9_copyFrom_80 rfl ?_
  refine gm_getI (own := RX9) (x := (T5 o 8)) rfl dX9_copyFrom_81 lfX9_65 (sC_W_0 (by omega)) rfl ((gm_rp (by omega)).trans ((gm_rp (by omega)).trans (gm_rp (by omega)))) ?_
  refine gm_put (own := RX9) rfl dX9_copyFrom_84 lfX9_65 (sC_W_0 (by omega)) rfl (gm_fit_int _) ?_
  refine gm_aload_n dX9_copyFrom_87 rfl ?_
  refine gm_aload_n dX9_copyFrom_88 rfl ?_
  refine gm_getI (own := RX9) (x := (T5 o 9)) rfl dX9_copyFrom_89 lfX9_68 (sC_W_0 (by omega)) rfl ((gm_rp (by omega)).trans ((gm_rp (by omega)).trans ((gm_rp (by omega)).trans (gm_rp (by omega))))) ?_
  refine gm_put (own := RX9) rfl dX9_copyFrom_92 lfX9_68 (sC_W_0 (by omega)) rfl (gm_fit_int _) ?_
  refine gm_aload_n dX9_copyFrom_95 rfl ?_
  refine gm_aload_n dX9_copyFrom_96 rfl ?_
  refine gm_getI (own := RX9) (x := (T5 o 10)) rfl dX9_copyFrom_97 lfX9_71 (sC_W_0 (by omega)) rfl ((gm_rp (by omega)).trans ((gm_rp (by omega)).trans ((gm_rp (by omega)).trans ((gm_rp (by omega)).trans (gm_rp (by omega)))))) ?_
  refine gm_put (own := RX9) rfl dX9_copyFrom_100 lfX9_71 (sC_W_0 (by omega)) rfl (gm_fit_int _) ?_
  refine gm_aload_n dX9_copyFrom_103 rfl ?_
  refine gm_aload_n dX9_copyFrom_104 rfl ?_
  refine gm_getI (own := RX9) (x := (T5 o 11)) rfl dX9_copyFrom_105 lfX9_74 (sC_W_0 (by omega)) rfl ((gm_rp (by omega)).trans ((gm_rp (by omega)).trans ((gm_rp (by omega)).trans ((gm_rp (by omega)).trans ((gm_rp (by omega)).trans (gm_rp (by omega))))))) ?_
  refine gm_put (own := RX9) rfl dX9_copyFrom_108 lfX9_74 (sC_W_0 (by omega)) rfl (gm_fit_int _) ?_
  refine gm_aload_n dX9_copyFrom_111 rfl ?_
  refine gm_aload_n dX9_copyFrom_112 rfl ?_
  refine gm_getI (own := RX9) (x := (T5 o 12)) rfl dX9_copyFrom_113 lfX9_77 (sC_W_0 (by omega)) rfl ((gm_rp (by omega)).trans ((gm_rp (by omega)).trans ((gm_rp (by omega)).trans ((gm_rp (by omega)).trans ((gm_rp (by omega)).trans ((gm_rp (by omega)).trans (gm_rp (by omega)))))))) ?_
  refine gm_put (own := RX9) rfl dX9_copyFrom_116 lfX9_77 (sC_W_0 (by omega)) rfl (gm_fit_int _) ?_
  refine gm_aload_n dX9_copyFrom_119 rfl ?_
  refine gm_aload_n dX9_copyFrom_120 rfl ?_
  refine gm_getI (own := RX9) (x := (T5 o 13)) rfl dX9_copyFrom_121 lfX9_80 (sC_W_0 (by omega)) rfl ((gm_rp (by omega)).trans ((gm_rp (by omega)).trans ((gm_rp (by omega)).trans ((gm_rp (by omega)).trans ((gm_rp (by omega)).trans ((gm_rp (by omega)).trans ((gm_rp (by omega)).trans (gm_rp (by omega))))))))) ?_
  refine gm_put (own := RX9) rfl dX9_copyFrom_124 lfX9_80 (sC_W_0 (by omega)) rfl (gm_fit_int _) ?_
  exact gm_vret dX9_copyFrom_127 rfl
/-- X10_configure 0 [2f 8f 13f 19f 23f 29f] -> ret  -/
theorem PX10_configure_1 {a1 : Int32} {a2 : Int32} {a3 : Int32} {S : gm_Mem} (c1 : ¬ a1 < 1) (c2 : ¬ 20 < a1) (c3 : ¬ a2 < 1) (c4 : ¬ 9 < a2) (c5 : ¬ a3 < 0) (c6 : 50 < a3) : gm_run gC 0 YX10_configure 0 [some (.ref 0), some (.int a1), some (.int a2), some (.int a3), none] [] S (some (.int (-1000000002))) S := by
  refine gm_iload_n dX10_configure_0 rfl ?_
  refine gm_iconst (v := 1) dX10_configure_1 (by decide) ?_
  refine gm_icmp_lt_f dX10_configure_2 ⟨32, by decide⟩ c1 ?_
  refine gm_iload_n dX10_configure_5 rfl ?_
  refine gm_bipush (v := 20) dX10_configure_6 (by decide) ?_
  refine gm_icmp_gt_f dX10_configure_8 ⟨32, by decide⟩ c2 ?_
  refine gm_iload_n dX10_configure_11 rfl ?_
  refine gm_iconst (v := 1) dX10_configure_12 (by decide) ?_
  refine gm_icmp_lt_f dX10_configure_13 ⟨32, by decide⟩ c3 ?_
  refine gm_iload_n dX10_configure_16 rfl ?_
  refine gm_bipush (v := 9) dX10_configure_17 (by decide) ?_
  refine gm_icmp_gt_f dX10_configure_19 ⟨32, by decide⟩ c4 ?_
  refine gm_iload_n dX10_configure_22 rfl ?_
  refine gm_if_lt_f dX10_configure_23 ⟨32, by decide⟩ c5 ?_
  refine gm_iload_n dX10_configure_26 rfl ?_
  refine gm_bipush (v := 50) dX10_configure_27 (by decide) ?_
  refine gm_icmp_le_f dX10_configure_29 ⟨35, by decide⟩ c6 ?_
  refine gm_ldc (own := RX10) rfl lcX10_37 dX10_configure_32 ?_
  exact gm_iret dX10_configure_34 rfl
/-- X10_configure 0 [2f 8f 13f 19f 23f 29t] -> ret  -/
theorem PX10_configure_2 {a1 : Int32} {a2 : Int32} {a3 : Int32} {S : gm_Mem} (c1 : ¬ a1 < 1) (c2 : ¬ 20 < a1) (c3 : ¬ a2 < 1) (c4 : ¬ 9 < a2) (c5 : ¬ a3 < 0) (c6 : ¬ 50 < a3) : gm_run gC 0 YX10_configure 0 [some (.ref 0), some (.int a1), some (.int a2), some (.int a3), none] [] S (some (.int (((1000 * (S 1 5)) + (100 * (S 1 6))) + (S 1 7)))) (gm_u (gm_u (gm_u S 1 5 a1) 1 6 a2) 1 7 a3) := by
  refine gm_iload_n dX10_configure_0 rfl ?_
  refine gm_iconst (v := 1) dX10_configure_1 (by decide) ?_
  refine gm_icmp_lt_f dX10_configure_2 ⟨32, by decide⟩ c1 ?_
  refine gm_iload_n dX10_configure_5 rfl ?_
  refine gm_bipush (v := 20) dX10_configure_6 (by decide) ?_
  refine gm_icmp_gt_f dX10_configure_8 ⟨32, by decide⟩ c2 ?_
  refine gm_iload_n dX10_configure_11 rfl ?_
  refine gm_iconst (v := 1) dX10_configure_12 (by decide) ?_
  refine gm_icmp_lt_f dX10_configure_13 ⟨32, by decide⟩ c3 ?_
  refine gm_iload_n dX10_configure_16 rfl ?_
  refine gm_bipush (v := 9) dX10_configure_17 (by decide) ?_
  refine gm_icmp_gt_f dX10_configure_19 ⟨32, by decide⟩ c4 ?_
  refine gm_iload_n dX10_configure_22 rfl ?_
  refine gm_if_lt_f dX10_configure_23 ⟨32, by decide⟩ c5 ?_
  refine gm_iload_n dX10_configure_26 rfl ?_
  refine gm_bipush (v := 50) dX10_configure_27 (by decide) ?_
  refine gm_icmp_le_t (tgt := 35) dX10_configure_29 (by decide) c6 ?_
  refine gm_sipush (v := 1000) dX10_configure_35 (by decide) ?_
  refine gm_aload_n dX10_configure_38 rfl ?_
  refine gm_getR (own := RX10) (q := 1) rfl dX10_configure_39 lfX10_10 sC_0 rfl ?_
  refine gm_getI (own := RX10) (x := (S 1 5)) rfl dX10_configure_42 lfX10_38 sC_1 rfl rfl ?_
  refine gm_imul dX10_configure_45 rfl ?_
  refine gm_bipush (v := 100) dX10_configure_46 (by decide) ?_
  refine gm_aload_n dX10_configure_48 rfl ?_
  refine gm_getR (own := RX10) (q := 1) rfl dX10_configure_49 lfX10_10 sC_0 rfl ?_
  refine gm_getI (own := RX10) (x := (S 1 6)) rfl dX10_configure_52 lfX10_42 sC_1 rfl rfl ?_
  refine gm_imul dX10_configure_55 rfl ?_
  refine gm_iadd dX10_configure_56 rfl ?_
  refine gm_aload_n dX10_configure_57 rfl ?_
  refine gm_getR (own := RX10) (q := 1) rfl dX10_configure_58 lfX10_10 sC_0 rfl ?_
  refine gm_getI (own := RX10) (x := (S 1 7)) rfl dX10_configure_61 lfX10_45 sC_1 rfl rfl ?_
  refine gm_iadd dX10_configure_64 rfl ?_
  refine gm_istore (L' := [some (.ref 0), some (.int a1), some (.int a2), some (.int a3), some (.int (((1000 * (S 1 5)) + (100 * (S 1 6))) + (S 1 7)))]) dX10_configure_65 (by decide) rfl ?_
  refine gm_aload_n dX10_configure_67 rfl ?_
  refine gm_getR (own := RX10) (q := 1) rfl dX10_configure_68 lfX10_10 sC_0 rfl ?_
  refine gm_iload_n dX10_configure_71 rfl ?_
  refine gm_put (own := RX10) rfl dX10_configure_72 lfX10_38 sC_1 rfl (gm_fit_int _) ?_
  refine gm_aload_n dX10_configure_75 rfl ?_
  refine gm_getR (own := RX10) (q := 1) rfl dX10_configure_76 lfX10_10 sC_0 rfl ?_
  refine gm_iload_n dX10_configure_79 rfl ?_
  refine gm_put (own := RX10) rfl dX10_configure_80 lfX10_42 sC_1 rfl (gm_fit_int _) ?_
  refine gm_aload_n dX10_configure_83 rfl ?_
  refine gm_getR (own := RX10) (q := 1) rfl dX10_configure_84 lfX10_10 sC_0 rfl ?_
  refine gm_iload_n dX10_configure_87 rfl ?_
  refine gm_put (own := RX10) rfl dX10_configure_88 lfX10_45 sC_1 rfl (gm_fit_int _) ?_
  refine gm_iload dX10_configure_91 rfl ?_
  exact gm_iret dX10_configure_93 rfl
/-- X10_configure 0 [2f 8f 13f 19f 23t] -> ret  -/
theorem PX10_configure_3 {a1 : Int32} {a2 : Int32} {a3 : Int32} {S : gm_Mem} (c1 : ¬ a1 < 1) (c2 : ¬ 20 < a1) (c3 : ¬ a2 < 1) (c4 : ¬ 9 < a2) (c5 : a3 < 0) : gm_run gC 0 YX10_configure 0 [some (.ref 0), some (.int a1), some (.int a2), some (.int a3), none] [] S (some (.int (-1000000002))) S := by
  refine gm_iload_n dX10_configure_0 rfl ?_
  refine gm_iconst (v := 1) dX10_configure_1 (by decide) ?_
  refine gm_icmp_lt_f dX10_configure_2 ⟨32, by decide⟩ c1 ?_
  refine gm_iload_n dX10_configure_5 rfl ?_
  refine gm_bipush (v := 20) dX10_configure_6 (by decide) ?_
  refine gm_icmp_gt_f dX10_configure_8 ⟨32, by decide⟩ c2 ?_
  refine gm_iload_n dX10_configure_11 rfl ?_
  refine gm_iconst (v := 1) dX10_configure_12 (by decide) ?_
  refine gm_icmp_lt_f dX10_configure_13 ⟨32, by decide⟩ c3 ?_
  refine gm_iload_n dX10_configure_16 rfl ?_
  refine gm_bipush (v := 9) dX10_configure_17 (by decide) ?_
  refine gm_icmp_gt_f dX10_configure_19 ⟨32, by decide⟩ c4 ?_
  refine gm_iload_n dX10_configure_22 rfl ?_
  refine gm_if_lt_t (tgt := 32) dX10_configure_23 (by decide) c5 ?_
  refine gm_ldc (own := RX10) rfl lcX10_37 dX10_configure_32 ?_
  exact gm_iret dX10_configure_34 rfl
/-- X10_configure 0 [2f 8f 13f 19t] -> ret  -/
theorem PX10_configure_4 {a1 : Int32} {a2 : Int32} {a3 : Int32} {S : gm_Mem} (c1 : ¬ a1 < 1) (c2 : ¬ 20 < a1) (c3 : ¬ a2 < 1) (c4 : 9 < a2) : gm_run gC 0 YX10_configure 0 [some (.ref 0), some (.int a1), some (.int a2), some (.int a3), none] [] S (some (.int (-1000000002))) S := by
  refine gm_iload_n dX10_configure_0 rfl ?_
  refine gm_iconst (v := 1) dX10_configure_1 (by decide) ?_
  refine gm_icmp_lt_f dX10_configure_2 ⟨32, by decide⟩ c1 ?_
  refine gm_iload_n dX10_configure_5 rfl ?_
  refine gm_bipush (v := 20) dX10_configure_6 (by decide) ?_
  refine gm_icmp_gt_f dX10_configure_8 ⟨32, by decide⟩ c2 ?_
  refine gm_iload_n dX10_configure_11 rfl ?_
  refine gm_iconst (v := 1) dX10_configure_12 (by decide) ?_
  refine gm_icmp_lt_f dX10_configure_13 ⟨32, by decide⟩ c3 ?_
  refine gm_iload_n dX10_configure_16 rfl ?_
  refine gm_bipush (v := 9) dX10_configure_17 (by decide) ?_
  refine gm_icmp_gt_t (tgt := 32) dX10_configure_19 (by decide) c4 ?_
  refine gm_ldc (own := RX10) rfl lcX10_37 dX10_configure_32 ?_
  exact gm_iret dX10_configure_34 rfl
/-- X10_configure 0 [2f 8f 13t] -> ret  -/
theorem PX10_configure_5 {a1 : Int32} {a2 : Int32} {a3 : Int32} {S : gm_Mem} (c1 : ¬ a1 < 1) (c2 : ¬ 20 < a1) (c3 : a2 < 1) : gm_run gC 0 YX10_configure 0 [some (.ref 0), some (.int a1), some (.int a2), some (.int a3), none] [] S (some (.int (-1000000002))) S := by
  refine gm_iload_n dX10_configure_0 rfl ?_
  refine gm_iconst (v := 1) dX10_configure_1 (by decide) ?_
  refine gm_icmp_lt_f dX10_configure_2 ⟨32, by decide⟩ c1 ?_
  refine gm_iload_n dX10_configure_5 rfl ?_
  refine gm_bipush (v := 20) dX10_configure_6 (by decide) ?_
  refine gm_icmp_gt_f dX10_configure_8 ⟨32, by decide⟩ c2 ?_
  refine gm_iload_n dX10_configure_11 rfl ?_
  refine gm_iconst (v := 1) dX10_configure_12 (by decide) ?_
  refine gm_icmp_lt_t (tgt := 32) dX10_configure_13 (by decide) c3 ?_
  refine gm_ldc (own := RX10) rfl lcX10_37 dX10_configure_32 ?_
  exact gm_iret dX10_configure_34 rfl
/-- X10_configure 0 [2f 8t] -> ret  -/
theorem PX10_configure_6 {a1 : Int32} {a2 : Int32} {a3 : Int32} {S : gm_Mem} (c1 : ¬ a1 < 1) (c2 : 20 < a1) : gm_run gC 0 YX10_configure 0 [some (.ref 0), some (.int a1), some (.int a2), some (.int a3), none] [] S (some (.int (-1000000002))) S := by
  refine gm_iload_n dX10_configure_0 rfl ?_
  refine gm_iconst (v := 1) dX10_configure_1 (by decide) ?_
  refine gm_icmp_lt_f dX10_configure_2 ⟨32, by decide⟩ c1 ?_
  refine gm_iload_n dX10_configure_5 rfl ?_
  refine gm_bipush (v := 20) dX10_configure_6 (by decide) ?_
  refine gm_icmp_gt_t (tgt := 32) dX10_configure_8 (by decide) c2 ?_
  refine gm_ldc (own := RX10) rfl lcX10_37 dX10_configure_32 ?_
  exact gm_iret dX10_configure_34 rfl
/-- X10_configure 0 [2t] -> ret  -/
theorem PX10_configure_7 {a1 : Int32} {a2 : Int32} {a3 : Int32} {S : gm_Mem} (c1 : a1 < 1) : gm_run gC 0 YX10_configure 0 [some (.ref 0), some (.int a1), some (.int a2), some (.int a3), none] [] S (some (.int (-1000000002))) S := by
  refine gm_iload_n dX10_configure_0 rfl ?_
  refine gm_iconst (v := 1) dX10_configure_1 (by decide) ?_
  refine gm_icmp_lt_t (tgt := 32) dX10_configure_2 (by decide) c1 ?_
  refine gm_ldc (own := RX10) rfl lcX10_37 dX10_configure_32 ?_
  exact gm_iret dX10_configure_34 rfl
/-- X10_changeState 0 [5f] -> ret  -/
theorem PX10_changeState_1 {e : Nat} {a2 : Int32} {S : gm_Mem} {T1 : gm_Mem} (ke : e = 2 ∨ e = 14) (c1 : ¬ (S e 8) = a2) (h2 : gm_run gC 0 YX2_add 0 [some (.ref 55), some (.int 3), some (.int (S e 0)), some (.int a2)] [] (gm_u S e 8 a2) none T1) : gm_run gC 1 YX10_changeState 0 [some (.ref 0), some (.ref e), some (.int a2)] [] S none T1 := by
  refine gm_aload_n dX10_changeState_0 rfl ?_
  refine gm_getI (own := RX10) (x := (S e 8)) rfl dX10_changeState_1 lfX10_52 (sC_E_0 (by omega)) rfl rfl ?_
  refine gm_iload_n dX10_changeState_4 rfl ?_
  refine gm_icmp_eq_f dX10_changeState_5 ⟨29, by decide⟩ c1 ?_
  refine gm_aload_n dX10_changeState_8 rfl ?_
  refine gm_iload_n dX10_changeState_9 rfl ?_
  refine gm_put (own := RX10) rfl dX10_changeState_10 lfX10_52 (sC_E_0 (by omega)) rfl (gm_fit_int _) ?_
  refine gm_aload_n dX10_changeState_13 rfl ?_
  refine gm_getR (own := RX10) (q := 1) rfl dX10_changeState_14 lfX10_10 sC_0 rfl ?_
  refine gm_getR (own := RX10) (q := 55) rfl dX10_changeState_17 lfX10_133 sC_1 rfl ?_
  refine gm_iconst (v := 3) dX10_changeState_20 (by decide) ?_
  refine gm_aload_n dX10_changeState_21 rfl ?_
  refine gm_getI (own := RX10) (x := (S e 0)) rfl dX10_changeState_22 lfX10_301 (sC_E_0 (by omega)) rfl (gm_rk (by decide)) ?_
  refine gm_iload_n dX10_changeState_25 rfl ?_
  refine gm_callV (r1 := none) (own := RX10) rfl dX10_changeState_26 llX10_140 mvX2_add sC_55 rfl [.int 3, .int (S e 0), .int a2] [] rfl rfl (Nat.le_of_ble_eq_true rfl) (by decide) rfl h2 rfl ?_
  exact gm_vret dX10_changeState_29 rfl
/-- X10_changeState 0 [5t] -> ret  -/
theorem PX10_changeState_2 {e : Nat} {a2 : Int32} {S : gm_Mem} (ke : e = 2 ∨ e = 14) (c1 : (S e 8) = a2) : gm_run gC 1 YX10_changeState 0 [some (.ref 0), some (.ref e), some (.int a2)] [] S none S := by
  refine gm_aload_n dX10_changeState_0 rfl ?_
  refine gm_getI (own := RX10) (x := (S e 8)) rfl dX10_changeState_1 lfX10_52 (sC_E_0 (by omega)) rfl rfl ?_
  refine gm_iload_n dX10_changeState_4 rfl ?_
  refine gm_icmp_eq_t (tgt := 29) dX10_changeState_5 (by decide) c1 ?_
  exact gm_vret dX10_changeState_29 rfl
/-- X10_noteSent 0 [] -> ret  -/
theorem PX10_noteSent_1 {q : Nat} {S : gm_Mem} {T1 : gm_Mem} (kq : (28 ≤ q ∧ q < 52) ∨ q = 122) (h1 : gm_run gC 0 YX2_add 0 [some (.ref 55), some (.int 0), some (.int (S q 0)), some (.int (S q 1))] [] (gm_u S 1 10 ((S 1 10) + 1)) none T1) : gm_run gC 1 YX10_noteSent 0 [some (.ref 0), some (.ref q)] [] S none T1 := by
  refine gm_aload_n dX10_noteSent_0 rfl ?_
  refine gm_getR (own := RX10) (q := 1) rfl dX10_noteSent_1 lfX10_10 sC_0 rfl ?_
  refine gm_dup dX10_noteSent_4 ?_
  refine gm_getI (own := RX10) (x := (S 1 10)) rfl dX10_noteSent_5 lfX10_234 sC_1 rfl rfl ?_
  refine gm_iconst (v := 1) dX10_noteSent_8 (by decide) ?_
  refine gm_iadd dX10_noteSent_9 rfl ?_
  refine gm_put (own := RX10) rfl dX10_noteSent_10 lfX10_234 sC_1 rfl (gm_fit_int _) ?_
  refine gm_aload_n dX10_noteSent_13 rfl ?_
  refine gm_getR (own := RX10) (q := 1) rfl dX10_noteSent_14 lfX10_10 sC_0 rfl ?_
  refine gm_getR (own := RX10) (q := 55) rfl dX10_noteSent_17 lfX10_133 sC_1 rfl ?_
  refine gm_iconst (v := 0) dX10_noteSent_20 (by decide) ?_
  refine gm_aload_n dX10_noteSent_21 rfl ?_
  refine gm_getI (own := RX10) (x := (S q 0)) rfl dX10_noteSent_22 lfX10_120 (sC_Pk_0 (by omega)) rfl (gm_rp (by omega)) ?_
  refine gm_aload_n dX10_noteSent_25 rfl ?_
  refine gm_getI (own := RX10) (x := (S q 1)) rfl dX10_noteSent_26 lfX10_137 (sC_Pk_0 (by omega)) rfl (gm_rp (by omega)) ?_
  refine gm_callV (r1 := none) (own := RX10) rfl dX10_noteSent_29 llX10_140 mvX2_add sC_55 rfl [.int 0, .int (S q 0), .int (S q 1)] [] rfl rfl (Nat.le_of_ble_eq_true rfl) (by decide) rfl h1 rfl ?_
  exact gm_vret dX10_noteSent_32 rfl
/-- X10_sendPlain 0 [7R] -> ret  -/
theorem PX10_sendPlain_1 {e : Nat} {a2 : Int32} {a3 : Int32} {a4 : Int32} {a5 : Int32} {S : gm_Mem} {T1 : gm_Mem} {q1 : Nat} {T2 : gm_Mem} {T3 : gm_Mem} (ke : e = 2 ∨ e = 14) (kq1 : 28 ≤ q1 ∧ q1 < 52) (h2 : gm_run gC 0 YX3_extend 0 [some (.ref 26)] [] S (some (.ref q1)) T1) (h3 : gm_run gC 0 YX5_fill 0 [some (.ref q1), some (.int (T1 e 0)), some (.int a2), some (.int a3), some (.int a4), some (.int a5)] [] T1 none T2) (h4 : gm_run gC 1 YX10_noteSent 0 [some (.ref 0), some (.ref q1)] [] T2 none T3) : gm_run gC 2 YX10_sendPlain 0 [some (.ref 0), some (.ref e), some (.int a2), some (.int a3), some (.int a4), some (.int a5), none] [] S (some (.int 1)) T3 := by
  refine gm_aload_n dX10_sendPlain_0 rfl ?_
  refine gm_getR (own := RX10) (q := 1) rfl dX10_sendPlain_1 lfX10_10 sC_0 rfl ?_
  refine gm_getR (own := RX10) (q := 26) rfl dX10_sendPlain_4 lfX10_58 sC_1 rfl ?_
  refine gm_callV (r1 := (some (.ref q1))) (own := RX10) rfl dX10_sendPlain_7 llX10_163 mvX3_extend sC_26 rfl [] [] rfl rfl (Nat.le_of_ble_eq_true rfl) (by decide) rfl h2 rfl ?_
  refine gm_astore (L' := [some (.ref 0), some (.ref e), some (.int a2), some (.int a3), some (.int a4), some (.int a5), some (.ref q1)]) dX10_sendPlain_10 (by decide) rfl ?_
  refine gm_aload dX10_sendPlain_12 rfl ?_
  refine gm_nonnull_t (tgt := 19) dX10_sendPlain_14 (by decide) ?_
  refine gm_aload dX10_sendPlain_19 rfl ?_
  refine gm_aload_n dX10_sendPlain_21 rfl ?_
  refine gm_getI (own := RX10) (x := (T1 e 0)) rfl dX10_sendPlain_22 lfX10_301 (sC_E_0 (by omega)) rfl rfl ?_
  refine gm_iload_n dX10_sendPlain_25 rfl ?_
  refine gm_iload_n dX10_sendPlain_26 rfl ?_
  refine gm_iload dX10_sendPlain_27 rfl ?_
  refine gm_iload dX10_sendPlain_29 rfl ?_
  refine gm_callV (r1 := none) (own := RX10) rfl dX10_sendPlain_31 llX10_333 mvX5_fill (sC_Pk_0 (by omega)) rfl [.int (T1 e 0), .int a2, .int a3, .int a4, .int a5] [] rfl rfl (Nat.le_of_ble_eq_true rfl) (by decide) rfl h3 rfl ?_
  refine gm_aload_n dX10_sendPlain_34 rfl ?_
  refine gm_aload dX10_sendPlain_35 rfl ?_
  refine gm_callV (r1 := none) (own := RX10) rfl dX10_sendPlain_37 llX10_337 mvX10_noteSent sC_0 rfl [.ref q1] [] rfl rfl (Nat.le_of_ble_eq_true rfl) (by decide) rfl h4 rfl ?_
  refine gm_iconst (v := 1) dX10_sendPlain_40 (by decide) ?_
  exact gm_zret dX10_sendPlain_41 rfl gm_fit_1
/-- X10_sendPlain 0 [7N] -> ret  -/
theorem PX10_sendPlain_2 {e : Nat} {a2 : Int32} {a3 : Int32} {a4 : Int32} {a5 : Int32} {S : gm_Mem} {T1 : gm_Mem} (ke : e = 2 ∨ e = 14) (h1 : gm_run gC 0 YX3_extend 0 [some (.ref 26)] [] S (some .null) T1) : gm_run gC 2 YX10_sendPlain 0 [some (.ref 0), some (.ref e), some (.int a2), some (.int a3), some (.int a4), some (.int a5), none] [] S (some (.int 0)) T1 := by
  refine gm_aload_n dX10_sendPlain_0 rfl ?_
  refine gm_getR (own := RX10) (q := 1) rfl dX10_sendPlain_1 lfX10_10 sC_0 rfl ?_
  refine gm_getR (own := RX10) (q := 26) rfl dX10_sendPlain_4 lfX10_58 sC_1 rfl ?_
  refine gm_callV (r1 := (some .null)) (own := RX10) rfl dX10_sendPlain_7 llX10_163 mvX3_extend sC_26 rfl [] [] rfl rfl (Nat.le_of_ble_eq_true rfl) (by decide) rfl h1 rfl ?_
  refine gm_astoreN (L' := [some (.ref 0), some (.ref e), some (.int a2), some (.int a3), some (.int a4), some (.int a5), some (.null)]) dX10_sendPlain_10 (by decide) rfl ?_
  refine gm_aloadN dX10_sendPlain_12 rfl ?_
  refine gm_nonnull_f dX10_sendPlain_14 ?_
  refine gm_iconst (v := 0) dX10_sendPlain_17 (by decide) ?_
  exact gm_zret dX10_sendPlain_18 rfl gm_fit_0
/-- X10_sendHello 0 [26f] -> ret  -/
theorem PX10_sendHello_1 {S : gm_Mem} {T1 : gm_Mem} {r1 : Int32} (h2 : gm_run gC 2 YX10_sendPlain 0 [some (.ref 0), some (.ref 2), some (.int 0), some (.int (S 2 9)), some (.int (S 2 15)), some (.int (S 2 16)), none] [] S (some (.int r1)) T1) (c3 : ¬ r1 = 0) : gm_run gC 3 YX10_sendHello 0 [some (.ref 0), none] [] S none (gm_u T1 2 17 (T1 1 8)) := by
  refine gm_aload_n dX10_sendHello_0 rfl ?_
  refine gm_getR (own := RX10) (q := 1) rfl dX10_sendHello_1 lfX10_10 sC_0 rfl ?_
  refine gm_getR (own := RX10) (q := 2) rfl dX10_sendHello_4 lfX10_48 sC_1 rfl ?_
  refine gm_astore_n (L' := [some (.ref 0), some (.ref 2)]) dX10_sendHello_7 (by decide) rfl ?_
  refine gm_aload_n dX10_sendHello_8 rfl ?_
  refine gm_aload_n dX10_sendHello_9 rfl ?_
  refine gm_iconst (v := 0) dX10_sendHello_10 (by decide) ?_
  refine gm_aload_n dX10_sendHello_11 rfl ?_
  refine gm_getI (own := RX10) (x := (S 2 9)) rfl dX10_sendHello_12 lfX10_241 sC_2 rfl rfl ?_
  refine gm_aload_n dX10_sendHello_15 rfl ?_
  refine gm_getI (own := RX10) (x := (S 2 15)) rfl dX10_sendHello_16 lfX10_304 sC_2 rfl rfl ?_
  refine gm_aload_n dX10_sendHello_19 rfl ?_
  refine gm_getI (own := RX10) (x := (S 2 16)) rfl dX10_sendHello_20 lfX10_307 sC_2 rfl rfl ?_
  refine gm_callV (r1 := (some (.int r1))) (own := RX10) rfl dX10_sendHello_23 llX10_149 mvX10_sendPlain sC_0 rfl [.ref 2, .int 0, .int (S 2 9), .int (S 2 15), .int (S 2 16)] [] rfl rfl (Nat.le_of_ble_eq_true rfl) (by decide) rfl h2 rfl ?_
  refine gm_if_eq_f dX10_sendHello_26 ⟨40, by decide⟩ c3 ?_
  refine gm_aload_n dX10_sendHello_29 rfl ?_
  refine gm_aload_n dX10_sendHello_30 rfl ?_
  refine gm_getR (own := RX10) (q := 1) rfl dX10_sendHello_31 lfX10_10 sC_0 rfl ?_
  refine gm_getI (own := RX10) (x := (T1 1 8)) rfl dX10_sendHello_34 lfX10_173 sC_1 rfl rfl ?_
  refine gm_put (own := RX10) rfl dX10_sendHello_37 lfX10_330 sC_2 rfl (gm_fit_int _) ?_
  exact gm_vret dX10_sendHello_40 rfl
/-- X10_sendHello 0 [26t] -> ret  -/
theorem PX10_sendHello_2 {S : gm_Mem} {T1 : gm_Mem} {r1 : Int32} (h2 : gm_run gC 2 YX10_sendPlain 0 [some (.ref 0), some (.ref 2), some (.int 0), some (.int (S 2 9)), some (.int (S 2 15)), some (.int (S 2 16)), none] [] S (some (.int r1)) T1) (c3 : r1 = 0) : gm_run gC 3 YX10_sendHello 0 [some (.ref 0), none] [] S none T1 := by
  refine gm_aload_n dX10_sendHello_0 rfl ?_
  refine gm_getR (own := RX10) (q := 1) rfl dX10_sendHello_1 lfX10_10 sC_0 rfl ?_
  refine gm_getR (own := RX10) (q := 2) rfl dX10_sendHello_4 lfX10_48 sC_1 rfl ?_
  refine gm_astore_n (L' := [some (.ref 0), some (.ref 2)]) dX10_sendHello_7 (by decide) rfl ?_
  refine gm_aload_n dX10_sendHello_8 rfl ?_
  refine gm_aload_n dX10_sendHello_9 rfl ?_
  refine gm_iconst (v := 0) dX10_sendHello_10 (by decide) ?_
  refine gm_aload_n dX10_sendHello_11 rfl ?_
  refine gm_getI (own := RX10) (x := (S 2 9)) rfl dX10_sendHello_12 lfX10_241 sC_2 rfl rfl ?_
  refine gm_aload_n dX10_sendHello_15 rfl ?_
  refine gm_getI (own := RX10) (x := (S 2 15)) rfl dX10_sendHello_16 lfX10_304 sC_2 rfl rfl ?_
  refine gm_aload_n dX10_sendHello_19 rfl ?_
  refine gm_getI (own := RX10) (x := (S 2 16)) rfl dX10_sendHello_20 lfX10_307 sC_2 rfl rfl ?_
  refine gm_callV (r1 := (some (.int r1))) (own := RX10) rfl dX10_sendHello_23 llX10_149 mvX10_sendPlain sC_0 rfl [.ref 2, .int 0, .int (S 2 9), .int (S 2 15), .int (S 2 16)] [] rfl rfl (Nat.le_of_ble_eq_true rfl) (by decide) rfl h2 rfl ?_
  refine gm_if_eq_t (tgt := 40) dX10_sendHello_26 (by decide) c3 ?_
  exact gm_vret dX10_sendHello_40 rfl
/-- X10_beginSession 0 [] -> ret  -/
theorem PX10_beginSession_1 {a1 : Int32} {a2 : Int32} {S : gm_Mem} {T1 : gm_Mem} {T2 : gm_Mem} (h1 : gm_run gC 1 YX10_changeState 0 [some (.ref 0), some (.ref 2), some (.int 1)] [] (gm_u (gm_u (gm_u (gm_u S 1 9 ((S 1 9) + 1)) 2 9 ((S 1 9) + 1)) 2 15 a1) 2 16 a2) none T1) (h2 : gm_run gC 3 YX10_sendHello 0 [some (.ref 0), none] [] T1 none T2) : gm_run gC 4 YX10_beginSession 0 [some (.ref 0), some (.int a1), some (.int a2), none] [] S none T2 := by
  refine gm_aload_n dX10_beginSession_0 rfl ?_
  refine gm_getR (own := RX10) (q := 1) rfl dX10_beginSession_1 lfX10_10 sC_0 rfl ?_
  refine gm_getR (own := RX10) (q := 2) rfl dX10_beginSession_4 lfX10_48 sC_1 rfl ?_
  refine gm_astore_n (L' := [some (.ref 0), some (.int a1), some (.int a2), some (.ref 2)]) dX10_beginSession_7 (by decide) rfl ?_
  refine gm_aload_n dX10_beginSession_8 rfl ?_
  refine gm_getR (own := RX10) (q := 1) rfl dX10_beginSession_9 lfX10_10 sC_0 rfl ?_
  refine gm_dup dX10_beginSession_12 ?_
  refine gm_getI (own := RX10) (x := (S 1 9)) rfl dX10_beginSession_13 lfX10_76 sC_1 rfl rfl ?_
  refine gm_iconst (v := 1) dX10_beginSession_16 (by decide) ?_
  refine gm_iadd dX10_beginSession_17 rfl ?_
  refine gm_put (own := RX10) rfl dX10_beginSession_18 lfX10_76 sC_1 rfl (gm_fit_int _) ?_
  refine gm_aload_n dX10_beginSession_21 rfl ?_
  refine gm_aload_n dX10_beginSession_22 rfl ?_
  refine gm_getR (own := RX10) (q := 1) rfl dX10_beginSession_23 lfX10_10 sC_0 rfl ?_
  refine gm_getI (own := RX10) (x := ((S 1 9) + 1)) rfl dX10_beginSession_26 lfX10_76 sC_1 rfl (gm_rS _ _ _ _) ?_
  refine gm_put (own := RX10) rfl dX10_beginSession_29 lfX10_241 sC_2 rfl (gm_fit_int _) ?_
  refine gm_aload_n dX10_beginSession_32 rfl ?_
  refine gm_iload_n dX10_beginSession_33 rfl ?_
  refine gm_put (own := RX10) rfl dX10_beginSession_34 lfX10_304 sC_2 rfl (gm_fit_int _) ?_
  refine gm_aload_n dX10_beginSession_37 rfl ?_
  refine gm_iload_n dX10_beginSession_38 rfl ?_
  refine gm_put (own := RX10) rfl dX10_beginSession_39 lfX10_307 sC_2 rfl (gm_fit_int _) ?_
  refine gm_aload_n dX10_beginSession_42 rfl ?_
  refine gm_aload_n dX10_beginSession_43 rfl ?_
  refine gm_iconst (v := 1) dX10_beginSession_44 (by decide) ?_
  refine gm_callV (r1 := none) (own := RX10) rfl dX10_beginSession_45 llX10_310 mvX10_changeState sC_0 rfl [.ref 2, .int 1] [] rfl rfl (Nat.le_of_ble_eq_true rfl) (by decide) rfl h1 rfl ?_
  refine gm_aload_n dX10_beginSession_48 rfl ?_
  refine gm_callV (r1 := none) (own := RX10) rfl dX10_beginSession_49 llX10_314 mvX10_sendHello sC_0 rfl [] [] rfl rfl (Nat.le_of_ble_eq_true rfl) (by decide) rfl h2 rfl ?_
  exact gm_vret dX10_beginSession_52 rfl
/-- X10_connect 0 [9f 16f] -> ret  -/
theorem PX10_connect_1 {a1 : Int32} {S : gm_Mem} (c1 : ¬ a1 < 0) (c2 : 9999 < a1) : gm_run gC 5 YX10_connect 0 [some (.ref 0), some (.int a1), none] [] S (some (.int (-1000000002))) S := by
  refine gm_aload_n dX10_connect_0 rfl ?_
  refine gm_getR (own := RX10) (q := 1) rfl dX10_connect_1 lfX10_10 sC_0 rfl ?_
  refine gm_getR (own := RX10) (q := 2) rfl dX10_connect_4 lfX10_48 sC_1 rfl ?_
  refine gm_astore_n (L' := [some (.ref 0), some (.int a1), some (.ref 2)]) dX10_connect_7 (by decide) rfl ?_
  refine gm_iload_n dX10_connect_8 rfl ?_
  refine gm_if_lt_f dX10_connect_9 ⟨19, by decide⟩ c1 ?_
  refine gm_iload_n dX10_connect_12 rfl ?_
  refine gm_sipush (v := 9999) dX10_connect_13 (by decide) ?_
  refine gm_icmp_le_f dX10_connect_16 ⟨22, by decide⟩ c2 ?_
  refine gm_ldc (own := RX10) rfl lcX10_37 dX10_connect_19 ?_
  exact gm_iret dX10_connect_21 rfl
/-- X10_connect 0 [9f 16t 26f 34f] -> ret  -/
theorem PX10_connect_2 {a1 : Int32} {S : gm_Mem} (c1 : ¬ a1 < 0) (c2 : ¬ 9999 < a1) (c3 : ¬ (S 2 8) = 0) (c4 : ¬ (S 2 8) = 4) : gm_run gC 5 YX10_connect 0 [some (.ref 0), some (.int a1), none] [] S (some (.int (-1000000004))) S := by
  refine gm_aload_n dX10_connect_0 rfl ?_
  refine gm_getR (own := RX10) (q := 1) rfl dX10_connect_1 lfX10_10 sC_0 rfl ?_
  refine gm_getR (own := RX10) (q := 2) rfl dX10_connect_4 lfX10_48 sC_1 rfl ?_
  refine gm_astore_n (L' := [some (.ref 0), some (.int a1), some (.ref 2)]) dX10_connect_7 (by decide) rfl ?_
  refine gm_iload_n dX10_connect_8 rfl ?_
  refine gm_if_lt_f dX10_connect_9 ⟨19, by decide⟩ c1 ?_
  refine gm_iload_n dX10_connect_12 rfl ?_
  refine gm_sipush (v := 9999) dX10_connect_13 (by decide) ?_
  refine gm_icmp_le_t (tgt := 22) dX10_connect_16 (by decide) c2 ?_
  refine gm_aload_n dX10_connect_22 rfl ?_
  refine gm_getI (own := RX10) (x := (S 2 8)) rfl dX10_connect_23 lfX10_52 sC_2 rfl rfl ?_
  refine gm_if_eq_f dX10_connect_26 ⟨40, by decide⟩ c3 ?_
  refine gm_aload_n dX10_connect_29 rfl ?_
  refine gm_getI (own := RX10) (x := (S 2 8)) rfl dX10_connect_30 lfX10_52 sC_2 rfl rfl ?_
  refine gm_iconst (v := 4) dX10_connect_33 (by decide) ?_
  refine gm_icmp_eq_f dX10_connect_34 ⟨40, by decide⟩ c4 ?_
  refine gm_ldc (own := RX10) rfl lcX10_57 dX10_connect_37 ?_
  exact gm_iret dX10_connect_39 rfl
/-- X10_connect 0 [9f 16t 26f 34t 50f] -> ret  -/
theorem PX10_connect_3 {a1 : Int32} {S : gm_Mem} {r5 : Int32} (c1 : ¬ a1 < 0) (c2 : ¬ 9999 < a1) (c3 : ¬ (S 2 8) = 0) (c4 : (S 2 8) = 4) (h6 : gm_run gC 0 YX3_isFull 0 [some (.ref 26)] [] S (some (.int r5)) S) (c7 : ¬ r5 = 0) : gm_run gC 5 YX10_connect 0 [some (.ref 0), some (.int a1), none] [] S (some (.int (-1000000003))) S := by
  refine gm_aload_n dX10_connect_0 rfl ?_
  refine gm_getR (own := RX10) (q := 1) rfl dX10_connect_1 lfX10_10 sC_0 rfl ?_
  refine gm_getR (own := RX10) (q := 2) rfl dX10_connect_4 lfX10_48 sC_1 rfl ?_
  refine gm_astore_n (L' := [some (.ref 0), some (.int a1), some (.ref 2)]) dX10_connect_7 (by decide) rfl ?_
  refine gm_iload_n dX10_connect_8 rfl ?_
  refine gm_if_lt_f dX10_connect_9 ⟨19, by decide⟩ c1 ?_
  refine gm_iload_n dX10_connect_12 rfl ?_
  refine gm_sipush (v := 9999) dX10_connect_13 (by decide) ?_
  refine gm_icmp_le_t (tgt := 22) dX10_connect_16 (by decide) c2 ?_
  refine gm_aload_n dX10_connect_22 rfl ?_
  refine gm_getI (own := RX10) (x := (S 2 8)) rfl dX10_connect_23 lfX10_52 sC_2 rfl rfl ?_
  refine gm_if_eq_f dX10_connect_26 ⟨40, by decide⟩ c3 ?_
  refine gm_aload_n dX10_connect_29 rfl ?_
  refine gm_getI (own := RX10) (x := (S 2 8)) rfl dX10_connect_30 lfX10_52 sC_2 rfl rfl ?_
  refine gm_iconst (v := 4) dX10_connect_33 (by decide) ?_
  refine gm_icmp_eq_t (tgt := 40) dX10_connect_34 (by decide) c4 ?_
  refine gm_aload_n dX10_connect_40 rfl ?_
  refine gm_getR (own := RX10) (q := 1) rfl dX10_connect_41 lfX10_10 sC_0 rfl ?_
  refine gm_getR (own := RX10) (q := 26) rfl dX10_connect_44 lfX10_58 sC_1 rfl ?_
  refine gm_callV (r1 := (some (.int r5))) (own := RX10) rfl dX10_connect_47 llX10_62 mvX3_isFull sC_26 rfl [] [] rfl rfl (Nat.le_of_ble_eq_true rfl) (by decide) rfl h6 rfl ?_
  refine gm_if_eq_f dX10_connect_50 ⟨56, by decide⟩ c7 ?_
  refine gm_ldc (own := RX10) rfl lcX10_68 dX10_connect_53 ?_
  exact gm_iret dX10_connect_55 rfl
/-- X10_connect 0 [9f 16t 26f 34t 50t] -> ret  -/
theorem PX10_connect_4 {a1 : Int32} {S : gm_Mem} {r5 : Int32} {T1 : gm_Mem} {T2 : gm_Mem} (c1 : ¬ a1 < 0) (c2 : ¬ 9999 < a1) (c3 : ¬ (S 2 8) = 0) (c4 : (S 2 8) = 4) (h6 : gm_run gC 0 YX3_isFull 0 [some (.ref 26)] [] S (some (.int r5)) S) (c7 : r5 = 0) (h8 : gm_run gC 2 YX0_beginStream 0 [some (.ref 2)] [] S none T1) (h9 : gm_run gC 4 YX10_beginSession 0 [some (.ref 0), some (.int a1), some (.int (-1)), none] [] T1 none T2) : gm_run gC 5 YX10_connect 0 [some (.ref 0), some (.int a1), none] [] S (some (.int (T2 1 9))) T2 := by
  refine gm_aload_n dX10_connect_0 rfl ?_
  refine gm_getR (own := RX10) (q := 1) rfl dX10_connect_1 lfX10_10 sC_0 rfl ?_
  refine gm_getR (own := RX10) (q := 2) rfl dX10_connect_4 lfX10_48 sC_1 rfl ?_
  refine gm_astore_n (L' := [some (.ref 0), some (.int a1), some (.ref 2)]) dX10_connect_7 (by decide) rfl ?_
  refine gm_iload_n dX10_connect_8 rfl ?_
  refine gm_if_lt_f dX10_connect_9 ⟨19, by decide⟩ c1 ?_
  refine gm_iload_n dX10_connect_12 rfl ?_
  refine gm_sipush (v := 9999) dX10_connect_13 (by decide) ?_
  refine gm_icmp_le_t (tgt := 22) dX10_connect_16 (by decide) c2 ?_
  refine gm_aload_n dX10_connect_22 rfl ?_
  refine gm_getI (own := RX10) (x := (S 2 8)) rfl dX10_connect_23 lfX10_52 sC_2 rfl rfl ?_
  refine gm_if_eq_f dX10_connect_26 ⟨40, by decide⟩ c3 ?_
  refine gm_aload_n dX10_connect_29 rfl ?_
  refine gm_getI (own := RX10) (x := (S 2 8)) rfl dX10_connect_30 lfX10_52 sC_2 rfl rfl ?_
  refine gm_iconst (v := 4) dX10_connect_33 (by decide) ?_
  refine gm_icmp_eq_t (tgt := 40) dX10_connect_34 (by decide) c4 ?_
  refine gm_aload_n dX10_connect_40 rfl ?_
  refine gm_getR (own := RX10) (q := 1) rfl dX10_connect_41 lfX10_10 sC_0 rfl ?_
  refine gm_getR (own := RX10) (q := 26) rfl dX10_connect_44 lfX10_58 sC_1 rfl ?_
  refine gm_callV (r1 := (some (.int r5))) (own := RX10) rfl dX10_connect_47 llX10_62 mvX3_isFull sC_26 rfl [] [] rfl rfl (Nat.le_of_ble_eq_true rfl) (by decide) rfl h6 rfl ?_
  refine gm_if_eq_t (tgt := 56) dX10_connect_50 (by decide) c7 ?_
  refine gm_aload_n dX10_connect_56 rfl ?_
  refine gm_callV (r1 := none) (own := RX10) rfl dX10_connect_57 llX10_69 mvX0_beginStream sC_2 rfl [] [] rfl rfl (Nat.le_of_ble_eq_true rfl) (by decide) rfl h8 rfl ?_
  refine gm_aload_n dX10_connect_60 rfl ?_
  refine gm_iload_n dX10_connect_61 rfl ?_
  refine gm_iconst (v := (-1)) dX10_connect_62 (by decide) ?_
  refine gm_callV (r1 := none) (own := RX10) rfl dX10_connect_63 llX10_72 mvX10_beginSession sC_0 rfl [.int a1, .int (-1)] [] rfl rfl (Nat.le_of_ble_eq_true rfl) (by decide) rfl h9 rfl ?_
  refine gm_aload_n dX10_connect_66 rfl ?_
  refine gm_getR (own := RX10) (q := 1) rfl dX10_connect_67 lfX10_10 sC_0 rfl ?_
  refine gm_getI (own := RX10) (x := (T2 1 9)) rfl dX10_connect_70 lfX10_76 sC_1 rfl rfl ?_
  exact gm_iret dX10_connect_73 rfl
/-- X10_connect 0 [9f 16t 26t 50f] -> ret  -/
theorem PX10_connect_5 {a1 : Int32} {S : gm_Mem} {r4 : Int32} (c1 : ¬ a1 < 0) (c2 : ¬ 9999 < a1) (c3 : (S 2 8) = 0) (h5 : gm_run gC 0 YX3_isFull 0 [some (.ref 26)] [] S (some (.int r4)) S) (c6 : ¬ r4 = 0) : gm_run gC 5 YX10_connect 0 [some (.ref 0), some (.int a1), none] [] S (some (.int (-1000000003))) S := by
  refine gm_aload_n dX10_connect_0 rfl ?_
  refine gm_getR (own := RX10) (q := 1) rfl dX10_connect_1 lfX10_10 sC_0 rfl ?_
  refine gm_getR (own := RX10) (q := 2) rfl dX10_connect_4 lfX10_48 sC_1 rfl ?_
  refine gm_astore_n (L' := [some (.ref 0), some (.int a1), some (.ref 2)]) dX10_connect_7 (by decide) rfl ?_
  refine gm_iload_n dX10_connect_8 rfl ?_
  refine gm_if_lt_f dX10_connect_9 ⟨19, by decide⟩ c1 ?_
  refine gm_iload_n dX10_connect_12 rfl ?_
  refine gm_sipush (v := 9999) dX10_connect_13 (by decide) ?_
  refine gm_icmp_le_t (tgt := 22) dX10_connect_16 (by decide) c2 ?_
  refine gm_aload_n dX10_connect_22 rfl ?_
  refine gm_getI (own := RX10) (x := (S 2 8)) rfl dX10_connect_23 lfX10_52 sC_2 rfl rfl ?_
  refine gm_if_eq_t (tgt := 40) dX10_connect_26 (by decide) c3 ?_
  refine gm_aload_n dX10_connect_40 rfl ?_
  refine gm_getR (own := RX10) (q := 1) rfl dX10_connect_41 lfX10_10 sC_0 rfl ?_
  refine gm_getR (own := RX10) (q := 26) rfl dX10_connect_44 lfX10_58 sC_1 rfl ?_
  refine gm_callV (r1 := (some (.int r4))) (own := RX10) rfl dX10_connect_47 llX10_62 mvX3_isFull sC_26 rfl [] [] rfl rfl (Nat.le_of_ble_eq_true rfl) (by decide) rfl h5 rfl ?_
  refine gm_if_eq_f dX10_connect_50 ⟨56, by decide⟩ c6 ?_
  refine gm_ldc (own := RX10) rfl lcX10_68 dX10_connect_53 ?_
  exact gm_iret dX10_connect_55 rfl
/-- X10_connect 0 [9f 16t 26t 50t] -> ret  -/
theorem PX10_connect_6 {a1 : Int32} {S : gm_Mem} {r4 : Int32} {T1 : gm_Mem} {T2 : gm_Mem} (c1 : ¬ a1 < 0) (c2 : ¬ 9999 < a1) (c3 : (S 2 8) = 0) (h5 : gm_run gC 0 YX3_isFull 0 [some (.ref 26)] [] S (some (.int r4)) S) (c6 : r4 = 0) (h7 : gm_run gC 2 YX0_beginStream 0 [some (.ref 2)] [] S none T1) (h8 : gm_run gC 4 YX10_beginSession 0 [some (.ref 0), some (.int a1), some (.int (-1)), none] [] T1 none T2) : gm_run gC 5 YX10_connect 0 [some (.ref 0), some (.int a1), none] [] S (some (.int (T2 1 9))) T2 := by
  refine gm_aload_n dX10_connect_0 rfl ?_
  refine gm_getR (own := RX10) (q := 1) rfl dX10_connect_1 lfX10_10 sC_0 rfl ?_
  refine gm_getR (own := RX10) (q := 2) rfl dX10_connect_4 lfX10_48 sC_1 rfl ?_
  refine gm_astore_n (L' := [some (.ref 0), some (.int a1), some (.ref 2)]) dX10_connect_7 (by decide) rfl ?_
  refine gm_iload_n dX10_connect_8 rfl ?_
  refine gm_if_lt_f dX10_connect_9 ⟨19, by decide⟩ c1 ?_
  refine gm_iload_n dX10_connect_12 rfl ?_
  refine gm_sipush (v := 9999) dX10_connect_13 (by decide) ?_
  refine gm_icmp_le_t (tgt := 22) dX10_connect_16 (by decide) c2 ?_
  refine gm_aload_n dX10_connect_22 rfl ?_
  refine gm_getI (own := RX10) (x := (S 2 8)) rfl dX10_connect_23 lfX10_52 sC_2 rfl rfl ?_
  refine gm_if_eq_t (tgt := 40) dX10_connect_26 (by decide) c3 ?_
  refine gm_aload_n dX10_connect_40 rfl ?_
  refine gm_getR (own := RX10) (q := 1) rfl dX10_connect_41 lfX10_10 sC_0 rfl ?_
  refine gm_getR (own := RX10) (q := 26) rfl dX10_connect_44 lfX10_58 sC_1 rfl ?_
  refine gm_callV (r1 := (some (.int r4))) (own := RX10) rfl dX10_connect_47 llX10_62 mvX3_isFull sC_26 rfl [] [] rfl rfl (Nat.le_of_ble_eq_true rfl) (by decide) rfl h5 rfl ?_
  refine gm_if_eq_t (tgt := 56) dX10_connect_50 (by decide) c6 ?_
  refine gm_aload_n dX10_connect_56 rfl ?_
  refine gm_callV (r1 := none) (own := RX10) rfl dX10_connect_57 llX10_69 mvX0_beginStream sC_2 rfl [] [] rfl rfl (Nat.le_of_ble_eq_true rfl) (by decide) rfl h7 rfl ?_
  refine gm_aload_n dX10_connect_60 rfl ?_
  refine gm_iload_n dX10_connect_61 rfl ?_
  refine gm_iconst (v := (-1)) dX10_connect_62 (by decide) ?_
  refine gm_callV (r1 := none) (own := RX10) rfl dX10_connect_63 llX10_72 mvX10_beginSession sC_0 rfl [.int a1, .int (-1)] [] rfl rfl (Nat.le_of_ble_eq_true rfl) (by decide) rfl h8 rfl ?_
  refine gm_aload_n dX10_connect_66 rfl ?_
  refine gm_getR (own := RX10) (q := 1) rfl dX10_connect_67 lfX10_10 sC_0 rfl ?_
  refine gm_getI (own := RX10) (x := (T2 1 9)) rfl dX10_connect_70 lfX10_76 sC_1 rfl rfl ?_
  exact gm_iret dX10_connect_73 rfl
/-- X10_connect 0 [9t] -> ret  -/
theorem PX10_connect_7 {a1 : Int32} {S : gm_Mem} (c1 : a1 < 0) : gm_run gC 5 YX10_connect 0 [some (.ref 0), some (.int a1), none] [] S (some (.int (-1000000002))) S := by
  refine gm_aload_n dX10_connect_0 rfl ?_
  refine gm_getR (own := RX10) (q := 1) rfl dX10_connect_1 lfX10_10 sC_0 rfl ?_
  refine gm_getR (own := RX10) (q := 2) rfl dX10_connect_4 lfX10_48 sC_1 rfl ?_
  refine gm_astore_n (L' := [some (.ref 0), some (.int a1), some (.ref 2)]) dX10_connect_7 (by decide) rfl ?_
  refine gm_iload_n dX10_connect_8 rfl ?_
  refine gm_if_lt_t (tgt := 19) dX10_connect_9 (by decide) c1 ?_
  refine gm_ldc (own := RX10) rfl lcX10_37 dX10_connect_19 ?_
  exact gm_iret dX10_connect_21 rfl
/-- X10_resume 0 [9f 16f] -> ret  -/
theorem PX10_resume_1 {a1 : Int32} {S : gm_Mem} (c1 : ¬ a1 < 0) (c2 : 9999 < a1) : gm_run gC 5 YX10_resume 0 [some (.ref 0), some (.int a1), none, none] [] S (some (.int (-1000000002))) S := by
  refine gm_aload_n dX10_resume_0 rfl ?_
  refine gm_getR (own := RX10) (q := 1) rfl dX10_resume_1 lfX10_10 sC_0 rfl ?_
  refine gm_getR (own := RX10) (q := 2) rfl dX10_resume_4 lfX10_48 sC_1 rfl ?_
  refine gm_astore_n (L' := [some (.ref 0), some (.int a1), some (.ref 2), none]) dX10_resume_7 (by decide) rfl ?_
  refine gm_iload_n dX10_resume_8 rfl ?_
  refine gm_if_lt_f dX10_resume_9 ⟨19, by decide⟩ c1 ?_
  refine gm_iload_n dX10_resume_12 rfl ?_
  refine gm_sipush (v := 9999) dX10_resume_13 (by decide) ?_
  refine gm_icmp_le_f dX10_resume_16 ⟨22, by decide⟩ c2 ?_
  refine gm_ldc (own := RX10) rfl lcX10_37 dX10_resume_19 ?_
  exact gm_iret dX10_resume_21 rfl
/-- X10_resume 0 [9f 16t 26f] -> ret  -/
theorem PX10_resume_2 {a1 : Int32} {S : gm_Mem} (c1 : ¬ a1 < 0) (c2 : ¬ 9999 < a1) (c3 : ¬ (S 2 8) = 0) : gm_run gC 5 YX10_resume 0 [some (.ref 0), some (.int a1), none, none] [] S (some (.int (-1000000004))) S := by
  refine gm_aload_n dX10_resume_0 rfl ?_
  refine gm_getR (own := RX10) (q := 1) rfl dX10_resume_1 lfX10_10 sC_0 rfl ?_
  refine gm_getR (own := RX10) (q := 2) rfl dX10_resume_4 lfX10_48 sC_1 rfl ?_
  refine gm_astore_n (L' := [some (.ref 0), some (.int a1), some (.ref 2), none]) dX10_resume_7 (by decide) rfl ?_
  refine gm_iload_n dX10_resume_8 rfl ?_
  refine gm_if_lt_f dX10_resume_9 ⟨19, by decide⟩ c1 ?_
  refine gm_iload_n dX10_resume_12 rfl ?_
  refine gm_sipush (v := 9999) dX10_resume_13 (by decide) ?_
  refine gm_icmp_le_t (tgt := 22) dX10_resume_16 (by decide) c2 ?_
  refine gm_aload_n dX10_resume_22 rfl ?_
  refine gm_getI (own := RX10) (x := (S 2 8)) rfl dX10_resume_23 lfX10_52 sC_2 rfl rfl ?_
  refine gm_if_eq_f dX10_resume_26 ⟨32, by decide⟩ c3 ?_
  refine gm_ldc (own := RX10) rfl lcX10_57 dX10_resume_29 ?_
  exact gm_iret dX10_resume_31 rfl
/-- X10_resume 0 [9f 16t 26t 37f] -> ret  -/
theorem PX10_resume_3 {a1 : Int32} {S : gm_Mem} (c1 : ¬ a1 < 0) (c2 : ¬ 9999 < a1) (c3 : (S 2 8) = 0) (c4 : (S 2 14) = (-1)) : gm_run gC 5 YX10_resume 0 [some (.ref 0), some (.int a1), none, none] [] S (some (.int (-1000000001))) S := by
  refine gm_aload_n dX10_resume_0 rfl ?_
  refine gm_getR (own := RX10) (q := 1) rfl dX10_resume_1 lfX10_10 sC_0 rfl ?_
  refine gm_getR (own := RX10) (q := 2) rfl dX10_resume_4 lfX10_48 sC_1 rfl ?_
  refine gm_astore_n (L' := [some (.ref 0), some (.int a1), some (.ref 2), none]) dX10_resume_7 (by decide) rfl ?_
  refine gm_iload_n dX10_resume_8 rfl ?_
  refine gm_if_lt_f dX10_resume_9 ⟨19, by decide⟩ c1 ?_
  refine gm_iload_n dX10_resume_12 rfl ?_
  refine gm_sipush (v := 9999) dX10_resume_13 (by decide) ?_
  refine gm_icmp_le_t (tgt := 22) dX10_resume_16 (by decide) c2 ?_
  refine gm_aload_n dX10_resume_22 rfl ?_
  refine gm_getI (own := RX10) (x := (S 2 8)) rfl dX10_resume_23 lfX10_52 sC_2 rfl rfl ?_
  refine gm_if_eq_t (tgt := 32) dX10_resume_26 (by decide) c3 ?_
  refine gm_aload_n dX10_resume_32 rfl ?_
  refine gm_getI (own := RX10) (x := (S 2 14)) rfl dX10_resume_33 lfX10_79 sC_2 rfl rfl ?_
  refine gm_iconst (v := (-1)) dX10_resume_36 (by decide) ?_
  refine gm_icmp_ne_f dX10_resume_37 ⟨43, by decide⟩ c4 ?_
  refine gm_ldc (own := RX10) rfl lcX10_82 dX10_resume_40 ?_
  exact gm_iret dX10_resume_42 rfl
/-- X10_resume 0 [9f 16t 26t 37t 53f] -> ret  -/
theorem PX10_resume_4 {a1 : Int32} {S : gm_Mem} {r5 : Int32} (c1 : ¬ a1 < 0) (c2 : ¬ 9999 < a1) (c3 : (S 2 8) = 0) (c4 : ¬ (S 2 14) = (-1)) (h6 : gm_run gC 0 YX3_isFull 0 [some (.ref 26)] [] S (some (.int r5)) S) (c7 : ¬ r5 = 0) : gm_run gC 5 YX10_resume 0 [some (.ref 0), some (.int a1), none, none] [] S (some (.int (-1000000003))) S := by
  refine gm_aload_n dX10_resume_0 rfl ?_
  refine gm_getR (own := RX10) (q := 1) rfl dX10_resume_1 lfX10_10 sC_0 rfl ?_
  refine gm_getR (own := RX10) (q := 2) rfl dX10_resume_4 lfX10_48 sC_1 rfl ?_
  refine gm_astore_n (L' := [some (.ref 0), some (.int a1), some (.ref 2), none]) dX10_resume_7 (by decide) rfl ?_
  refine gm_iload_n dX10_resume_8 rfl ?_
  refine gm_if_lt_f dX10_resume_9 ⟨19, by decide⟩ c1 ?_
  refine gm_iload_n dX10_resume_12 rfl ?_
  refine gm_sipush (v := 9999) dX10_resume_13 (by decide) ?_
  refine gm_icmp_le_t (tgt := 22) dX10_resume_16 (by decide) c2 ?_
  refine gm_aload_n dX10_resume_22 rfl ?_
  refine gm_getI (own := RX10) (x := (S 2 8)) rfl dX10_resume_23 lfX10_52 sC_2 rfl rfl ?_
  refine gm_if_eq_t (tgt := 32) dX10_resume_26 (by decide) c3 ?_
  refine gm_aload_n dX10_resume_32 rfl ?_
  refine gm_getI (own := RX10) (x := (S 2 14)) rfl dX10_resume_33 lfX10_79 sC_2 rfl rfl ?_
  refine gm_iconst (v := (-1)) dX10_resume_36 (by decide) ?_
  refine gm_icmp_ne_t (tgt := 43) dX10_resume_37 (by decide) c4 ?_
  refine gm_aload_n dX10_resume_43 rfl ?_
  refine gm_getR (own := RX10) (q := 1) rfl dX10_resume_44 lfX10_10 sC_0 rfl ?_
  refine gm_getR (own := RX10) (q := 26) rfl dX10_resume_47 lfX10_58 sC_1 rfl ?_
  refine gm_callV (r1 := (some (.int r5))) (own := RX10) rfl dX10_resume_50 llX10_62 mvX3_isFull sC_26 rfl [] [] rfl rfl (Nat.le_of_ble_eq_true rfl) (by decide) rfl h6 rfl ?_
  refine gm_if_eq_f dX10_resume_53 ⟨59, by decide⟩ c7 ?_
  refine gm_ldc (own := RX10) rfl lcX10_68 dX10_resume_56 ?_
  exact gm_iret dX10_resume_58 rfl
/-- X10_resume 0 [9f 16t 26t 37t 53t] -> ret  -/
theorem PX10_resume_5 {a1 : Int32} {S : gm_Mem} {r5 : Int32} {T1 : gm_Mem} (c1 : ¬ a1 < 0) (c2 : ¬ 9999 < a1) (c3 : (S 2 8) = 0) (c4 : ¬ (S 2 14) = (-1)) (h6 : gm_run gC 0 YX3_isFull 0 [some (.ref 26)] [] S (some (.int r5)) S) (c7 : r5 = 0) (h8 : gm_run gC 4 YX10_beginSession 0 [some (.ref 0), some (.int a1), some (.int (S 2 14)), none] [] (gm_u S 2 14 (-1)) none T1) : gm_run gC 5 YX10_resume 0 [some (.ref 0), some (.int a1), none, none] [] S (some (.int (T1 1 9))) T1 := by
  refine gm_aload_n dX10_resume_0 rfl ?_
  refine gm_getR (own := RX10) (q := 1) rfl dX10_resume_1 lfX10_10 sC_0 rfl ?_
  refine gm_getR (own := RX10) (q := 2) rfl dX10_resume_4 lfX10_48 sC_1 rfl ?_
  refine gm_astore_n (L' := [some (.ref 0), some (.int a1), some (.ref 2), none]) dX10_resume_7 (by decide) rfl ?_
  refine gm_iload_n dX10_resume_8 rfl ?_
  refine gm_if_lt_f dX10_resume_9 ⟨19, by decide⟩ c1 ?_
  refine gm_iload_n dX10_resume_12 rfl ?_
  refine gm_sipush (v := 9999) dX10_resume_13 (by decide) ?_
  refine gm_icmp_le_t (tgt := 22) dX10_resume_16 (by decide) c2 ?_
  refine gm_aload_n dX10_resume_22 rfl ?_
  refine gm_getI (own := RX10) (x := (S 2 8)) rfl dX10_resume_23 lfX10_52 sC_2 rfl rfl ?_
  refine gm_if_eq_t (tgt := 32) dX10_resume_26 (by decide) c3 ?_
  refine gm_aload_n dX10_resume_32 rfl ?_
  refine gm_getI (own := RX10) (x := (S 2 14)) rfl dX10_resume_33 lfX10_79 sC_2 rfl rfl ?_
  refine gm_iconst (v := (-1)) dX10_resume_36 (by decide) ?_
  refine gm_icmp_ne_t (tgt := 43) dX10_resume_37 (by decide) c4 ?_
  refine gm_aload_n dX10_resume_43 rfl ?_
  refine gm_getR (own := RX10) (q := 1) rfl dX10_resume_44 lfX10_10 sC_0 rfl ?_
  refine gm_getR (own := RX10) (q := 26) rfl dX10_resume_47 lfX10_58 sC_1 rfl ?_
  refine gm_callV (r1 := (some (.int r5))) (own := RX10) rfl dX10_resume_50 llX10_62 mvX3_isFull sC_26 rfl [] [] rfl rfl (Nat.le_of_ble_eq_true rfl) (by decide) rfl h6 rfl ?_
  refine gm_if_eq_t (tgt := 59) dX10_resume_53 (by decide) c7 ?_
  refine gm_aload_n dX10_resume_59 rfl ?_
  refine gm_getI (own := RX10) (x := (S 2 14)) rfl dX10_resume_60 lfX10_79 sC_2 rfl rfl ?_
  refine gm_istore_n (L' := [some (.ref 0), some (.int a1), some (.ref 2), some (.int (S 2 14))]) dX10_resume_63 (by decide) rfl ?_
  refine gm_aload_n dX10_resume_64 rfl ?_
  refine gm_iconst (v := (-1)) dX10_resume_65 (by decide) ?_
  refine gm_put (own := RX10) rfl dX10_resume_66 lfX10_79 sC_2 rfl (gm_fit_int _) ?_
  refine gm_aload_n dX10_resume_69 rfl ?_
  refine gm_iload_n dX10_resume_70 rfl ?_
  refine gm_iload_n dX10_resume_71 rfl ?_
  refine gm_callV (r1 := none) (own := RX10) rfl dX10_resume_72 llX10_72 mvX10_beginSession sC_0 rfl [.int a1, .int (S 2 14)] [] rfl rfl (Nat.le_of_ble_eq_true rfl) (by decide) rfl h8 rfl ?_
  refine gm_aload_n dX10_resume_75 rfl ?_
  refine gm_getR (own := RX10) (q := 1) rfl dX10_resume_76 lfX10_10 sC_0 rfl ?_
  refine gm_getI (own := RX10) (x := (T1 1 9)) rfl dX10_resume_79 lfX10_76 sC_1 rfl rfl ?_
  exact gm_iret dX10_resume_82 rfl
