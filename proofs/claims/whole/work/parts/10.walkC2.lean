/-- X10_resume 0 [9t] -> ret  -/
theorem PX10_resume_6 {a1 : Int32} {S : gm_Mem} (c1 : a1 < 0) : gm_run gC 5 YX10_resume 0 [some (.ref 0), some (.int a1), none, none] [] S (some (.int (-1000000002))) S := by
  refine gm_aload_n dX10_resume_0 rfl ?_
  refine gm_getR (own := RX10) (q := 1) rfl dX10_resume_1 lfX10_10 sC_0 rfl ?_
  refine gm_getR (own := RX10) (q := 2) rfl dX10_resume_4 lfX10_48 sC_1 rfl ?_
  refine gm_astore_n (L' := [some (.ref 0), some (.int a1), some (.ref 2), none]) dX10_resume_7 (by decide) rfl ?_
  refine gm_iload_n dX10_resume_8 rfl ?_
  refine gm_if_lt_t (tgt := 19) dX10_resume_9 (by decide) c1 ?_
  refine gm_ldc (own := RX10) rfl lcX10_37 dX10_resume_19 ?_
  exact gm_iret dX10_resume_21 rfl
/-- X10_breakOff 0 [5f] -> ret  -/
theorem PX10_breakOff_1 {e : Nat} {S : gm_Mem} {T1 : gm_Mem} {T2 : gm_Mem} (ke : e = 2 ∨ e = 14) (c1 : ¬ (S e 8) = 4) (h2 : gm_run gC 1 YX10_changeState 0 [some (.ref 0), some (.ref e), some (.int 0)] [] S none T1) (h3 : gm_run gC 0 YX1_discardWaiting 0 [some (.ref (e + 5)), none] [] T1 none T2) : gm_run gC 2 YX10_breakOff 0 [some (.ref 0), some (.ref e)] [] S none T2 := by
  refine gm_aload_n dX10_breakOff_0 rfl ?_
  refine gm_getI (own := RX10) (x := (S e 8)) rfl dX10_breakOff_1 lfX10_52 (sC_E_0 (by omega)) rfl rfl ?_
  refine gm_iconst (v := 4) dX10_breakOff_4 (by decide) ?_
  refine gm_icmp_eq_f dX10_breakOff_5 ⟨14, by decide⟩ c1 ?_
  refine gm_aload_n dX10_breakOff_8 rfl ?_
  refine gm_aload_n dX10_breakOff_9 rfl ?_
  refine gm_iconst (v := 0) dX10_breakOff_10 (by decide) ?_
  refine gm_callV (r1 := none) (own := RX10) rfl dX10_breakOff_11 llX10_310 mvX10_changeState sC_0 rfl [.ref e, .int 0] [] rfl rfl (Nat.le_of_ble_eq_true rfl) (by decide) rfl h2 rfl ?_
  refine gm_aload_n dX10_breakOff_14 rfl ?_
  refine gm_getR (own := RX10) (q := (e + 5)) rfl dX10_breakOff_15 lfX10_212 (sC_E_0 (by omega)) rfl ?_
  refine gm_callV (r1 := none) (own := RX10) rfl dX10_breakOff_18 llX10_317 mvX1_discardWaiting (sC_E_5 (by omega)) rfl [] [] rfl rfl (Nat.le_of_ble_eq_true rfl) (by decide) rfl h3 rfl ?_
  exact gm_vret dX10_breakOff_21 rfl
/-- X10_breakOff 0 [5t] -> ret  -/
theorem PX10_breakOff_2 {e : Nat} {S : gm_Mem} {T1 : gm_Mem} (ke : e = 2 ∨ e = 14) (c1 : (S e 8) = 4) (h2 : gm_run gC 0 YX1_discardWaiting 0 [some (.ref (e + 5)), none] [] S none T1) : gm_run gC 2 YX10_breakOff 0 [some (.ref 0), some (.ref e)] [] S none T1 := by
  refine gm_aload_n dX10_breakOff_0 rfl ?_
  refine gm_getI (own := RX10) (x := (S e 8)) rfl dX10_breakOff_1 lfX10_52 (sC_E_0 (by omega)) rfl rfl ?_
  refine gm_iconst (v := 4) dX10_breakOff_4 (by decide) ?_
  refine gm_icmp_eq_t (tgt := 14) dX10_breakOff_5 (by decide) c1 ?_
  refine gm_aload_n dX10_breakOff_14 rfl ?_
  refine gm_getR (own := RX10) (q := (e + 5)) rfl dX10_breakOff_15 lfX10_212 (sC_E_0 (by omega)) rfl ?_
  refine gm_callV (r1 := none) (own := RX10) rfl dX10_breakOff_18 llX10_317 mvX1_discardWaiting (sC_E_5 (by omega)) rfl [] [] rfl rfl (Nat.le_of_ble_eq_true rfl) (by decide) rfl h2 rfl ?_
  exact gm_vret dX10_breakOff_21 rfl
/-- X10_disconnect 0 [] -> ret  -/
theorem PX10_disconnect_1 {S : gm_Mem} {T1 : gm_Mem} {T2 : gm_Mem} (h1 : gm_run gC 2 YX10_breakOff 0 [some (.ref 0), some (.ref 2)] [] (gm_u (gm_u S 26 1 0) 1 12 ((S 1 12) + (S 26 1))) none T1) (h2 : gm_run gC 2 YX10_breakOff 0 [some (.ref 0), some (.ref 14)] [] T1 none T2) : gm_run gC 3 YX10_disconnect 0 [some (.ref 0), none] [] S (some (.int (S 26 1))) T2 := by
  refine gm_aload_n dX10_disconnect_0 rfl ?_
  refine gm_getR (own := RX10) (q := 1) rfl dX10_disconnect_1 lfX10_10 sC_0 rfl ?_
  refine gm_getR (own := RX10) (q := 26) rfl dX10_disconnect_4 lfX10_58 sC_1 rfl ?_
  refine gm_getI (own := RX10) (x := (S 26 1)) rfl dX10_disconnect_7 lfX10_83 sC_26 rfl rfl ?_
  refine gm_istore_n (L' := [some (.ref 0), some (.int (S 26 1))]) dX10_disconnect_10 (by decide) rfl ?_
  refine gm_aload_n dX10_disconnect_11 rfl ?_
  refine gm_getR (own := RX10) (q := 1) rfl dX10_disconnect_12 lfX10_10 sC_0 rfl ?_
  refine gm_getR (own := RX10) (q := 26) rfl dX10_disconnect_15 lfX10_58 sC_1 rfl ?_
  refine gm_iconst (v := 0) dX10_disconnect_18 (by decide) ?_
  refine gm_put (own := RX10) rfl dX10_disconnect_19 lfX10_83 sC_26 rfl (gm_fit_int _) ?_
  refine gm_aload_n dX10_disconnect_22 rfl ?_
  refine gm_getR (own := RX10) (q := 1) rfl dX10_disconnect_23 lfX10_10 sC_0 rfl ?_
  refine gm_dup dX10_disconnect_26 ?_
  refine gm_getI (own := RX10) (x := (S 1 12)) rfl dX10_disconnect_27 lfX10_86 sC_1 rfl (gm_rp (by omega)) ?_
  refine gm_iload_n dX10_disconnect_30 rfl ?_
  refine gm_iadd dX10_disconnect_31 rfl ?_
  refine gm_put (own := RX10) rfl dX10_disconnect_32 lfX10_86 sC_1 rfl (gm_fit_int _) ?_
  refine gm_aload_n dX10_disconnect_35 rfl ?_
  refine gm_aload_n dX10_disconnect_36 rfl ?_
  refine gm_getR (own := RX10) (q := 1) rfl dX10_disconnect_37 lfX10_10 sC_0 rfl ?_
  refine gm_getR (own := RX10) (q := 2) rfl dX10_disconnect_40 lfX10_48 sC_1 rfl ?_
  refine gm_callV (r1 := none) (own := RX10) rfl dX10_disconnect_43 llX10_89 mvX10_breakOff sC_0 rfl [.ref 2] [] rfl rfl (Nat.le_of_ble_eq_true rfl) (by decide) rfl h1 rfl ?_
  refine gm_aload_n dX10_disconnect_46 rfl ?_
  refine gm_aload_n dX10_disconnect_47 rfl ?_
  refine gm_getR (own := RX10) (q := 1) rfl dX10_disconnect_48 lfX10_10 sC_0 rfl ?_
  refine gm_getR (own := RX10) (q := 14) rfl dX10_disconnect_51 lfX10_93 sC_1 rfl ?_
  refine gm_callV (r1 := none) (own := RX10) rfl dX10_disconnect_54 llX10_89 mvX10_breakOff sC_0 rfl [.ref 14] [] rfl rfl (Nat.le_of_ble_eq_true rfl) (by decide) rfl h2 rfl ?_
  refine gm_iload_n dX10_disconnect_57 rfl ?_
  exact gm_iret dX10_disconnect_58 rfl
/-- X10_mix 0 [] -> ret  -/
theorem PX10_mix_1 {a1 : Int32} {a2 : Int32} {S : gm_Mem}  : gm_run gC 0 YX10_mix 0 [some (.int a1), some (.int a2), none] [] S (some (.int (((a1 * 31) + a2) ^^^ (gm_ushr ((a1 * 31) + a2) 7)))) S := by
  refine gm_iload_n dX10_mix_0 rfl ?_
  refine gm_bipush (v := 31) dX10_mix_1 (by decide) ?_
  refine gm_imul dX10_mix_3 rfl ?_
  refine gm_iload_n dX10_mix_4 rfl ?_
  refine gm_iadd dX10_mix_5 rfl ?_
  refine gm_istore_n (L' := [some (.int a1), some (.int a2), some (.int ((a1 * 31) + a2))]) dX10_mix_6 (by decide) rfl ?_
  refine gm_iload_n dX10_mix_7 rfl ?_
  refine gm_iload_n dX10_mix_8 rfl ?_
  refine gm_bipush (v := 7) dX10_mix_9 (by decide) ?_
  refine gm_iushr (v := (gm_ushr ((a1 * 31) + a2) 7)) dX10_mix_11 rfl ?_
  refine gm_ixor dX10_mix_12 rfl ?_
  exact gm_iret dX10_mix_13 rfl
/-- X10_tagOf 0 [] -> ret  -/
theorem PX10_tagOf_1 {q : Nat} {a2 : Int32} {S : gm_Mem} {r1 : Int32} {r3 : Int32} {r5 : Int32} {r7 : Int32} {r9 : Int32} {r11 : Int32} {r13 : Int32} (kq : (28 ≤ q ∧ q < 52) ∨ q = 122) (h2 : gm_run gC 0 YX10_mix 0 [some (.int a2), some (.int (S q 3)), none] [] S (some (.int r1)) S) (h4 : gm_run gC 0 YX10_mix 0 [some (.int r1), some (.int (S q 0)), none] [] S (some (.int r3)) S) (h6 : gm_run gC 0 YX10_mix 0 [some (.int r3), some (.int (S q 4)), none] [] S (some (.int r5)) S) (h8 : gm_run gC 0 YX10_mix 0 [some (.int (S q 1)), some (.int (S q 5)), none] [] S (some (.int r7)) S) (h10 : gm_run gC 0 YX10_mix 0 [some (.int r5), some (.int r7), none] [] S (some (.int r9)) S) (h12 : gm_run gC 0 YX10_mix 0 [some (.int r9), some (.int (S q 6)), none] [] S (some (.int r11)) S) (h14 : gm_run gC 0 YX10_mix 0 [some (.int r11), some (.int (S q 7)), none] [] S (some (.int r13)) S) : gm_run gC 1 YX10_tagOf 0 [some (.ref q), some (.int a2), none, none] [] S (some (.int r13)) S := by
  refine gm_iload_n dX10_tagOf_0 rfl ?_
  refine gm_aload_n dX10_tagOf_1 rfl ?_
  refine gm_getI (own := RX10) (x := (S q 3)) rfl dX10_tagOf_2 lfX10_289 (sC_Pk_0 (by omega)) rfl rfl ?_
  refine gm_callS (r1 := (some (.int r1))) (own := RX10) rfl dX10_tagOf_5 llX10_286 msX10_mix [.int a2, .int (S q 3)] [] rfl rfl (Nat.le_of_ble_eq_true rfl) (by decide) rfl h2 rfl ?_
  refine gm_aload_n dX10_tagOf_8 rfl ?_
  refine gm_getI (own := RX10) (x := (S q 0)) rfl dX10_tagOf_9 lfX10_120 (sC_Pk_0 (by omega)) rfl rfl ?_
  refine gm_callS (r1 := (some (.int r3))) (own := RX10) rfl dX10_tagOf_12 llX10_286 msX10_mix [.int r1, .int (S q 0)] [] rfl rfl (Nat.le_of_ble_eq_true rfl) (by decide) rfl h4 rfl ?_
  refine gm_istore_n (L' := [some (.ref q), some (.int a2), some (.int r3), none]) dX10_tagOf_15 (by decide) rfl ?_
  refine gm_iload_n dX10_tagOf_16 rfl ?_
  refine gm_aload_n dX10_tagOf_17 rfl ?_
  refine gm_getI (own := RX10) (x := (S q 4)) rfl dX10_tagOf_18 lfX10_292 (sC_Pk_0 (by omega)) rfl rfl ?_
  refine gm_callS (r1 := (some (.int r5))) (own := RX10) rfl dX10_tagOf_21 llX10_286 msX10_mix [.int r3, .int (S q 4)] [] rfl rfl (Nat.le_of_ble_eq_true rfl) (by decide) rfl h6 rfl ?_
  refine gm_aload_n dX10_tagOf_24 rfl ?_
  refine gm_getI (own := RX10) (x := (S q 1)) rfl dX10_tagOf_25 lfX10_137 (sC_Pk_0 (by omega)) rfl rfl ?_
  refine gm_aload_n dX10_tagOf_28 rfl ?_
  refine gm_getI (own := RX10) (x := (S q 5)) rfl dX10_tagOf_29 lfX10_295 (sC_Pk_0 (by omega)) rfl rfl ?_
  refine gm_callS (r1 := (some (.int r7))) (own := RX10) rfl dX10_tagOf_32 llX10_286 msX10_mix [.int (S q 1), .int (S q 5)] [.int r5] rfl rfl (Nat.le_of_ble_eq_true rfl) (by decide) rfl h8 rfl ?_
  refine gm_callS (r1 := (some (.int r9))) (own := RX10) rfl dX10_tagOf_35 llX10_286 msX10_mix [.int r5, .int r7] [] rfl rfl (Nat.le_of_ble_eq_true rfl) (by decide) rfl h10 rfl ?_
  refine gm_istore_n (L' := [some (.ref q), some (.int a2), some (.int r3), some (.int r9)]) dX10_tagOf_38 (by decide) rfl ?_
  refine gm_iload_n dX10_tagOf_39 rfl ?_
  refine gm_aload_n dX10_tagOf_40 rfl ?_
  refine gm_getI (own := RX10) (x := (S q 6)) rfl dX10_tagOf_41 lfX10_170 (sC_Pk_0 (by omega)) rfl rfl ?_
  refine gm_callS (r1 := (some (.int r11))) (own := RX10) rfl dX10_tagOf_44 llX10_286 msX10_mix [.int r9, .int (S q 6)] [] rfl rfl (Nat.le_of_ble_eq_true rfl) (by decide) rfl h12 rfl ?_
  refine gm_aload_n dX10_tagOf_47 rfl ?_
  refine gm_getI (own := RX10) (x := (S q 7)) rfl dX10_tagOf_48 lfX10_298 (sC_Pk_0 (by omega)) rfl rfl ?_
  refine gm_callS (r1 := (some (.int r13))) (own := RX10) rfl dX10_tagOf_51 llX10_286 msX10_mix [.int r11, .int (S q 7)] [] rfl rfl (Nat.le_of_ble_eq_true rfl) (by decide) rfl h14 rfl ?_
  exact gm_iret dX10_tagOf_54 rfl
/-- X10_sendProtected 0 [7R 30f] -> ret  -/
theorem PX10_sendProtected_1 {e : Nat} {a2 : Int32} {a3 : Int32} {a4 : Int32} {S : gm_Mem} {T1 : gm_Mem} {q1 : Nat} {T2 : gm_Mem} {r5 : Int32} {T3 : gm_Mem} (ke : e = 2 ∨ e = 14) (kq1 : 28 ≤ q1 ∧ q1 < 52) (h2 : gm_run gC 0 YX3_extend 0 [some (.ref 26)] [] S (some (.ref q1)) T1) (c3 : ¬ (T1 e 12) < (T1 1 5)) (h4 : gm_run gC 0 YX5_fill 0 [some (.ref q1), some (.int (T1 e 0)), some (.int a2), some (.int (T1 e 9)), some (.int a3), some (.int a4)] [] (gm_u (gm_u T1 e 11 ((T1 e 11) + 1)) e 12 0) none T2) (h6 : gm_run gC 1 YX10_tagOf 0 [some (.ref q1), some (.int (T2 e 10)), none, none] [] (gm_u (gm_u (gm_u T2 q1 3 (T2 e 11)) q1 4 (T2 e 12)) q1 7 (T2 (e + 5) 5)) (some (.int r5)) (gm_u (gm_u (gm_u T2 q1 3 (T2 e 11)) q1 4 (T2 e 12)) q1 7 (T2 (e + 5) 5))) (h7 : gm_run gC 1 YX10_noteSent 0 [some (.ref 0), some (.ref q1)] [] (gm_u (gm_u (gm_u (gm_u (gm_u T2 q1 3 (T2 e 11)) q1 4 (T2 e 12)) q1 7 (T2 (e + 5) 5)) q1 8 r5) e 12 ((T2 e 12) + 1)) none T3) : gm_run gC 2 YX10_sendProtected 0 [some (.ref 0), some (.ref e), some (.int a2), some (.int a3), some (.int a4), none] [] S (some (.int 1)) T3 := by
  refine gm_aload_n dX10_sendProtected_0 rfl ?_
  refine gm_getR (own := RX10) (q := 1) rfl dX10_sendProtected_1 lfX10_10 sC_0 rfl ?_
  refine gm_getR (own := RX10) (q := 26) rfl dX10_sendProtected_4 lfX10_58 sC_1 rfl ?_
  refine gm_callV (r1 := (some (.ref q1))) (own := RX10) rfl dX10_sendProtected_7 llX10_163 mvX3_extend sC_26 rfl [] [] rfl rfl (Nat.le_of_ble_eq_true rfl) (by decide) rfl h2 rfl ?_
  refine gm_astore (L' := [some (.ref 0), some (.ref e), some (.int a2), some (.int a3), some (.int a4), some (.ref q1)]) dX10_sendProtected_10 (by decide) rfl ?_
  refine gm_aload dX10_sendProtected_12 rfl ?_
  refine gm_nonnull_t (tgt := 19) dX10_sendProtected_14 (by decide) ?_
  refine gm_aload_n dX10_sendProtected_19 rfl ?_
  refine gm_getI (own := RX10) (x := (T1 e 12)) rfl dX10_sendProtected_20 lfX10_340 (sC_E_0 (by omega)) rfl rfl ?_
  refine gm_aload_n dX10_sendProtected_23 rfl ?_
  refine gm_getR (own := RX10) (q := 1) rfl dX10_sendProtected_24 lfX10_10 sC_0 rfl ?_
  refine gm_getI (own := RX10) (x := (T1 1 5)) rfl dX10_sendProtected_27 lfX10_38 sC_1 rfl rfl ?_
  refine gm_icmp_lt_f dX10_sendProtected_30 ⟨48, by decide⟩ c3 ?_
  refine gm_aload_n dX10_sendProtected_33 rfl ?_
  refine gm_dup dX10_sendProtected_34 ?_
  refine gm_getI (own := RX10) (x := (T1 e 11)) rfl dX10_sendProtected_35 lfX10_343 (sC_E_0 (by omega)) rfl rfl ?_
  refine gm_iconst (v := 1) dX10_sendProtected_38 (by decide) ?_
  refine gm_iadd dX10_sendProtected_39 rfl ?_
  refine gm_put (own := RX10) rfl dX10_sendProtected_40 lfX10_343 (sC_E_0 (by omega)) rfl (gm_fit_int _) ?_
  refine gm_aload_n dX10_sendProtected_43 rfl ?_
  refine gm_iconst (v := 0) dX10_sendProtected_44 (by decide) ?_
  refine gm_put (own := RX10) rfl dX10_sendProtected_45 lfX10_340 (sC_E_0 (by omega)) rfl (gm_fit_int _) ?_
  refine gm_aload dX10_sendProtected_48 rfl ?_
  refine gm_aload_n dX10_sendProtected_50 rfl ?_
  refine gm_getI (own := RX10) (x := (T1 e 0)) rfl dX10_sendProtected_51 lfX10_301 (sC_E_0 (by omega)) rfl ((gm_rk (by decide)).trans (gm_rk (by decide))) ?_
  refine gm_iload_n dX10_sendProtected_54 rfl ?_
  refine gm_aload_n dX10_sendProtected_55 rfl ?_
  refine gm_getI (own := RX10) (x := (T1 e 9)) rfl dX10_sendProtected_56 lfX10_241 (sC_E_0 (by omega)) rfl ((gm_rk (by decide)).trans (gm_rk (by decide))) ?_
  refine gm_iload_n dX10_sendProtected_59 rfl ?_
  refine gm_iload dX10_sendProtected_60 rfl ?_
  refine gm_callV (r1 := none) (own := RX10) rfl dX10_sendProtected_62 llX10_333 mvX5_fill (sC_Pk_0 (by omega)) rfl [.int (T1 e 0), .int a2, .int (T1 e 9), .int a3, .int a4] [] rfl rfl (Nat.le_of_ble_eq_true rfl) (by decide) rfl h4 rfl ?_
  refine gm_aload dX10_sendProtected_65 rfl ?_
  refine gm_aload_n dX10_sendProtected_67 rfl ?_
  refine gm_getI (own := RX10) (x := (T2 e 11)) rfl dX10_sendProtected_68 lfX10_343 (sC_E_0 (by omega)) rfl rfl ?_
  refine gm_put (own := RX10) rfl dX10_sendProtected_71 lfX10_289 (sC_Pk_0 (by omega)) rfl (gm_fit_int _) ?_
  refine gm_aload dX10_sendProtected_74 rfl ?_
  refine gm_aload_n dX10_sendProtected_76 rfl ?_
  refine gm_getI (own := RX10) (x := (T2 e 12)) rfl dX10_sendProtected_77 lfX10_340 (sC_E_0 (by omega)) rfl (gm_rp (by omega)) ?_
  refine gm_put (own := RX10) rfl dX10_sendProtected_80 lfX10_292 (sC_Pk_0 (by omega)) rfl (gm_fit_int _) ?_
  refine gm_aload dX10_sendProtected_83 rfl ?_
  refine gm_aload_n dX10_sendProtected_85 rfl ?_
  refine gm_getR (own := RX10) (q := (e + 5)) rfl dX10_sendProtected_86 lfX10_212 (sC_E_0 (by omega)) rfl ?_
  refine gm_getI (own := RX10) (x := (T2 (e + 5) 5)) rfl dX10_sendProtected_89 lfX10_346 (sC_E_5 (by omega)) rfl ((gm_rp (by omega)).trans (gm_rp (by omega))) ?_
  refine gm_put (own := RX10) rfl dX10_sendProtected_92 lfX10_298 (sC_Pk_0 (by omega)) rfl (gm_fit_int _) ?_
  refine gm_aload dX10_sendProtected_95 rfl ?_
  refine gm_aload dX10_sendProtected_97 rfl ?_
  refine gm_aload_n dX10_sendProtected_99 rfl ?_
  refine gm_getI (own := RX10) (x := (T2 e 10)) rfl dX10_sendProtected_100 lfX10_242 (sC_E_0 (by omega)) rfl ((gm_rp (by omega)).trans ((gm_rp (by omega)).trans (gm_rp (by omega)))) ?_
  refine gm_callS (r1 := (some (.int r5))) (own := RX10) rfl dX10_sendProtected_103 llX10_349 msX10_tagOf [.ref q1, .int (T2 e 10)] [.ref q1] rfl rfl (Nat.le_of_ble_eq_true rfl) (by decide) rfl h6 rfl ?_
  refine gm_put (own := RX10) rfl dX10_sendProtected_106 lfX10_353 (sC_Pk_0 (by omega)) rfl (gm_fit_int _) ?_
  refine gm_aload_n dX10_sendProtected_109 rfl ?_
  refine gm_dup dX10_sendProtected_110 ?_
  refine gm_getI (own := RX10) (x := (T2 e 12)) rfl dX10_sendProtected_111 lfX10_340 (sC_E_0 (by omega)) rfl ((gm_rp (by omega)).trans ((gm_rp (by omega)).trans ((gm_rp (by omega)).trans (gm_rp (by omega))))) ?_
  refine gm_iconst (v := 1) dX10_sendProtected_114 (by decide) ?_
  refine gm_iadd dX10_sendProtected_115 rfl ?_
  refine gm_put (own := RX10) rfl dX10_sendProtected_116 lfX10_340 (sC_E_0 (by omega)) rfl (gm_fit_int _) ?_
  refine gm_aload_n dX10_sendProtected_119 rfl ?_
  refine gm_aload dX10_sendProtected_120 rfl ?_
  refine gm_callV (r1 := none) (own := RX10) rfl dX10_sendProtected_122 llX10_337 mvX10_noteSent sC_0 rfl [.ref q1] [] rfl rfl (Nat.le_of_ble_eq_true rfl) (by decide) rfl h7 rfl ?_
  refine gm_iconst (v := 1) dX10_sendProtected_125 (by decide) ?_
  exact gm_zret dX10_sendProtected_126 rfl gm_fit_1
/-- X10_sendProtected 0 [7R 30t] -> ret  -/
theorem PX10_sendProtected_2 {e : Nat} {a2 : Int32} {a3 : Int32} {a4 : Int32} {S : gm_Mem} {T1 : gm_Mem} {q1 : Nat} {T2 : gm_Mem} {r5 : Int32} {T3 : gm_Mem} (ke : e = 2 ∨ e = 14) (kq1 : 28 ≤ q1 ∧ q1 < 52) (h2 : gm_run gC 0 YX3_extend 0 [some (.ref 26)] [] S (some (.ref q1)) T1) (c3 : (T1 e 12) < (T1 1 5)) (h4 : gm_run gC 0 YX5_fill 0 [some (.ref q1), some (.int (T1 e 0)), some (.int a2), some (.int (T1 e 9)), some (.int a3), some (.int a4)] [] T1 none T2) (h6 : gm_run gC 1 YX10_tagOf 0 [some (.ref q1), some (.int (T2 e 10)), none, none] [] (gm_u (gm_u (gm_u T2 q1 3 (T2 e 11)) q1 4 (T2 e 12)) q1 7 (T2 (e + 5) 5)) (some (.int r5)) (gm_u (gm_u (gm_u T2 q1 3 (T2 e 11)) q1 4 (T2 e 12)) q1 7 (T2 (e + 5) 5))) (h7 : gm_run gC 1 YX10_noteSent 0 [some (.ref 0), some (.ref q1)] [] (gm_u (gm_u (gm_u (gm_u (gm_u T2 q1 3 (T2 e 11)) q1 4 (T2 e 12)) q1 7 (T2 (e + 5) 5)) q1 8 r5) e 12 ((T2 e 12) + 1)) none T3) : gm_run gC 2 YX10_sendProtected 0 [some (.ref 0), some (.ref e), some (.int a2), some (.int a3), some (.int a4), none] [] S (some (.int 1)) T3 := by
  refine gm_aload_n dX10_sendProtected_0 rfl ?_
  refine gm_getR (own := RX10) (q := 1) rfl dX10_sendProtected_1 lfX10_10 sC_0 rfl ?_
  refine gm_getR (own := RX10) (q := 26) rfl dX10_sendProtected_4 lfX10_58 sC_1 rfl ?_
  refine gm_callV (r1 := (some (.ref q1))) (own := RX10) rfl dX10_sendProtected_7 llX10_163 mvX3_extend sC_26 rfl [] [] rfl rfl (Nat.le_of_ble_eq_true rfl) (by decide) rfl h2 rfl ?_
  refine gm_astore (L' := [some (.ref 0), some (.ref e), some (.int a2), some (.int a3), some (.int a4), some (.ref q1)]) dX10_sendProtected_10 (by decide) rfl ?_
  refine gm_aload dX10_sendProtected_12 rfl ?_
  refine gm_nonnull_t (tgt := 19) dX10_sendProtected_14 (by decide) ?_
  refine gm_aload_n dX10_sendProtected_19 rfl ?_
  refine gm_getI (own := RX10) (x := (T1 e 12)) rfl dX10_sendProtected_20 lfX10_340 (sC_E_0 (by omega)) rfl rfl ?_
  refine gm_aload_n dX10_sendProtected_23 rfl ?_
  refine gm_getR (own := RX10) (q := 1) rfl dX10_sendProtected_24 lfX10_10 sC_0 rfl ?_
  refine gm_getI (own := RX10) (x := (T1 1 5)) rfl dX10_sendProtected_27 lfX10_38 sC_1 rfl rfl ?_
  refine gm_icmp_lt_t (tgt := 48) dX10_sendProtected_30 (by decide) c3 ?_
  refine gm_aload dX10_sendProtected_48 rfl ?_
  refine gm_aload_n dX10_sendProtected_50 rfl ?_
  refine gm_getI (own := RX10) (x := (T1 e 0)) rfl dX10_sendProtected_51 lfX10_301 (sC_E_0 (by omega)) rfl rfl ?_
  refine gm_iload_n dX10_sendProtected_54 rfl ?_
  refine gm_aload_n dX10_sendProtected_55 rfl ?_
  refine gm_getI (own := RX10) (x := (T1 e 9)) rfl dX10_sendProtected_56 lfX10_241 (sC_E_0 (by omega)) rfl rfl ?_
  refine gm_iload_n dX10_sendProtected_59 rfl ?_
  refine gm_iload dX10_sendProtected_60 rfl ?_
  refine gm_callV (r1 := none) (own := RX10) rfl dX10_sendProtected_62 llX10_333 mvX5_fill (sC_Pk_0 (by omega)) rfl [.int (T1 e 0), .int a2, .int (T1 e 9), .int a3, .int a4] [] rfl rfl (Nat.le_of_ble_eq_true rfl) (by decide) rfl h4 rfl ?_
  refine gm_aload dX10_sendProtected_65 rfl ?_
  refine gm_aload_n dX10_sendProtected_67 rfl ?_
  refine gm_getI (own := RX10) (x := (T2 e 11)) rfl dX10_sendProtected_68 lfX10_343 (sC_E_0 (by omega)) rfl rfl ?_
  refine gm_put (own := RX10) rfl dX10_sendProtected_71 lfX10_289 (sC_Pk_0 (by omega)) rfl (gm_fit_int _) ?_
  refine gm_aload dX10_sendProtected_74 rfl ?_
  refine gm_aload_n dX10_sendProtected_76 rfl ?_
  refine gm_getI (own := RX10) (x := (T2 e 12)) rfl dX10_sendProtected_77 lfX10_340 (sC_E_0 (by omega)) rfl (gm_rp (by omega)) ?_
  refine gm_put (own := RX10) rfl dX10_sendProtected_80 lfX10_292 (sC_Pk_0 (by omega)) rfl (gm_fit_int _) ?_
  refine gm_aload dX10_sendProtected_83 rfl ?_
  refine gm_aload_n dX10_sendProtected_85 rfl ?_
  refine gm_getR (own := RX10) (q := (e + 5)) rfl dX10_sendProtected_86 lfX10_212 (sC_E_0 (by omega)) rfl ?_
  refine gm_getI (own := RX10) (x := (T2 (e + 5) 5)) rfl dX10_sendProtected_89 lfX10_346 (sC_E_5 (by omega)) rfl ((gm_rp (by omega)).trans (gm_rp (by omega))) ?_
  refine gm_put (own := RX10) rfl dX10_sendProtected_92 lfX10_298 (sC_Pk_0 (by omega)) rfl (gm_fit_int _) ?_
  refine gm_aload dX10_sendProtected_95 rfl ?_
  refine gm_aload dX10_sendProtected_97 rfl ?_
  refine gm_aload_n dX10_sendProtected_99 rfl ?_
  refine gm_getI (own := RX10) (x := (T2 e 10)) rfl dX10_sendProtected_100 lfX10_242 (sC_E_0 (by omega)) rfl ((gm_rp (by omega)).trans ((gm_rp (by omega)).trans (gm_rp (by omega)))) ?_
  refine gm_callS (r1 := (some (.int r5))) (own := RX10) rfl dX10_sendProtected_103 llX10_349 msX10_tagOf [.ref q1, .int (T2 e 10)] [.ref q1] rfl rfl (Nat.le_of_ble_eq_true rfl) (by decide) rfl h6 rfl ?_
  refine gm_put (own := RX10) rfl dX10_sendProtected_106 lfX10_353 (sC_Pk_0 (by omega)) rfl (gm_fit_int _) ?_
  refine gm_aload_n dX10_sendProtected_109 rfl ?_
  refine gm_dup dX10_sendProtected_110 ?_
  refine gm_getI (own := RX10) (x := (T2 e 12)) rfl dX10_sendProtected_111 lfX10_340 (sC_E_0 (by omega)) rfl ((gm_rp (by omega)).trans ((gm_rp (by omega)).trans ((gm_rp (by omega)).trans (gm_rp (by omega))))) ?_
  refine gm_iconst (v := 1) dX10_sendProtected_114 (by decide) ?_
  refine gm_iadd dX10_sendProtected_115 rfl ?_
  refine gm_put (own := RX10) rfl dX10_sendProtected_116 lfX10_340 (sC_E_0 (by omega)) rfl (gm_fit_int _) ?_
  refine gm_aload_n dX10_sendProtected_119 rfl ?_
  refine gm_aload dX10_sendProtected_120 rfl ?_
  refine gm_callV (r1 := none) (own := RX10) rfl dX10_sendProtected_122 llX10_337 mvX10_noteSent sC_0 rfl [.ref q1] [] rfl rfl (Nat.le_of_ble_eq_true rfl) (by decide) rfl h7 rfl ?_
  refine gm_iconst (v := 1) dX10_sendProtected_125 (by decide) ?_
  exact gm_zret dX10_sendProtected_126 rfl gm_fit_1
/-- X10_sendProtected 0 [7N] -> ret  -/
theorem PX10_sendProtected_3 {e : Nat} {a2 : Int32} {a3 : Int32} {a4 : Int32} {S : gm_Mem} {T1 : gm_Mem} (ke : e = 2 ∨ e = 14) (h1 : gm_run gC 0 YX3_extend 0 [some (.ref 26)] [] S (some .null) T1) : gm_run gC 2 YX10_sendProtected 0 [some (.ref 0), some (.ref e), some (.int a2), some (.int a3), some (.int a4), none] [] S (some (.int 0)) T1 := by
  refine gm_aload_n dX10_sendProtected_0 rfl ?_
  refine gm_getR (own := RX10) (q := 1) rfl dX10_sendProtected_1 lfX10_10 sC_0 rfl ?_
  refine gm_getR (own := RX10) (q := 26) rfl dX10_sendProtected_4 lfX10_58 sC_1 rfl ?_
  refine gm_callV (r1 := (some .null)) (own := RX10) rfl dX10_sendProtected_7 llX10_163 mvX3_extend sC_26 rfl [] [] rfl rfl (Nat.le_of_ble_eq_true rfl) (by decide) rfl h1 rfl ?_
  refine gm_astoreN (L' := [some (.ref 0), some (.ref e), some (.int a2), some (.int a3), some (.int a4), some (.null)]) dX10_sendProtected_10 (by decide) rfl ?_
  refine gm_aloadN dX10_sendProtected_12 rfl ?_
  refine gm_nonnull_f dX10_sendProtected_14 ?_
  refine gm_iconst (v := 0) dX10_sendProtected_17 (by decide) ?_
  exact gm_zret dX10_sendProtected_18 rfl gm_fit_0
/-- X10_sendDue 0 [5f] -> ret  -/
theorem PX10_sendDue_1 {e : Nat} {S : gm_Mem} (ke : e = 2 ∨ e = 14) (c1 : ¬ (S e 8) = 3) : gm_run gC 3 YX10_sendDue 0 [some (.ref 0), some (.ref e), none, none, none] [] S none S := by
  refine gm_aload_n dX10_sendDue_0 rfl ?_
  refine gm_getI (own := RX10) (x := (S e 8)) rfl dX10_sendDue_1 lfX10_52 (sC_E_0 (by omega)) rfl rfl ?_
  refine gm_iconst (v := 3) dX10_sendDue_4 (by decide) ?_
  refine gm_icmp_eq_f dX10_sendDue_5 ⟨9, by decide⟩ c1 ?_
  exact gm_vret dX10_sendDue_8 rfl
/-- X10_sendDue 0 [5t] -> cut 16 -/
theorem PX10_sendDue_2 {e : Nat} {S : gm_Mem} {r : Option Value} {S2 : gm_Mem} (ke : e = 2 ∨ e = 14) (c1 : (S e 8) = 3) (K : gm_run gC 3 YX10_sendDue 16 [some (.ref 0), some (.ref e), some (.ref (e + 2)), some (.int 0), none] [] S r S2) : gm_run gC 3 YX10_sendDue 0 [some (.ref 0), some (.ref e), none, none, none] [] S r S2 := by
  refine gm_aload_n dX10_sendDue_0 rfl ?_
  refine gm_getI (own := RX10) (x := (S e 8)) rfl dX10_sendDue_1 lfX10_52 (sC_E_0 (by omega)) rfl rfl ?_
  refine gm_iconst (v := 3) dX10_sendDue_4 (by decide) ?_
  refine gm_icmp_eq_t (tgt := 9) dX10_sendDue_5 (by decide) c1 ?_
  refine gm_aload_n dX10_sendDue_9 rfl ?_
  refine gm_getR (own := RX10) (q := (e + 2)) rfl dX10_sendDue_10 lfX10_221 (sC_E_0 (by omega)) rfl ?_
  refine gm_astore_n (L' := [some (.ref 0), some (.ref e), some (.ref (e + 2)), none, none]) dX10_sendDue_13 (by decide) rfl ?_
  refine gm_iconst (v := 0) dX10_sendDue_14 (by decide) ?_
  refine gm_istore_n (L' := [some (.ref 0), some (.ref e), some (.ref (e + 2)), some (.int 0), none]) dX10_sendDue_15 (by decide) rfl ?_
  exact K
/-- X10_sendDue 16 [21f 26f 36f 44f 74f] -> ret  -/
theorem PX10_sendDue_3 {e : Nat} {x3 : Int32} {S : gm_Mem} {j3 : Nat} {r5 : Int32} {T1 : gm_Mem} {r8 : Int32} (ke : e = 2 ∨ e = 14) (c1 : x3 < (S (e + 2) 2)) (c2 : x3 < 3) (ij3 : gm_ix x3 j3 16) (c4 : (S (e + 4) j3) = (-1)) (h6 : gm_run gC 0 YX4_isClose 0 [some (.ref (e + 2)), some (.int x3)] [] S (some (.int r5)) S) (c7 : ¬ r5 = 0) (h9 : gm_run gC 2 YX10_sendProtected 0 [some (.ref 0), some (.ref e), some (.int 7), some (.int ((S (e + 2) 3) + x3)), some (.int (S (e + 3) j3)), none] [] S (some (.int r8)) T1) (c10 : r8 = 0) : gm_run gC 3 YX10_sendDue 16 [some (.ref 0), some (.ref e), some (.ref (e + 2)), some (.int x3), none] [] S none T1 := by
  refine gm_iload_n dX10_sendDue_16 rfl ?_
  refine gm_aload_n dX10_sendDue_17 rfl ?_
  refine gm_getI (own := RX10) (x := (S (e + 2) 2)) rfl dX10_sendDue_18 lfX10_356 (sC_E_2 (by omega)) rfl rfl ?_
  refine gm_icmp_ge_f dX10_sendDue_21 ⟨97, by decide⟩ c1 ?_
  refine gm_iload_n dX10_sendDue_24 rfl ?_
  refine gm_iconst (v := 3) dX10_sendDue_25 (by decide) ?_
  refine gm_icmp_ge_f dX10_sendDue_26 ⟨97, by decide⟩ c2 ?_
  refine gm_aload_n dX10_sendDue_29 rfl ?_
  refine gm_getR (own := RX10) (q := (e + 4)) rfl dX10_sendDue_30 lfX10_357 (sC_E_2 (by omega)) rfl ?_
  refine gm_iload_n dX10_sendDue_33 rfl ?_
  refine gm_iald (j := j3) (x := (S (e + 4) j3)) dX10_sendDue_34 (sC_E_4 (by omega)) ij3 rfl ?_
  refine gm_iconst (v := (-1)) dX10_sendDue_35 (by decide) ?_
  refine gm_icmp_ne_f dX10_sendDue_36 ⟨91, by decide⟩ c4 ?_
  refine gm_aload_n dX10_sendDue_39 rfl ?_
  refine gm_iload_n dX10_sendDue_40 rfl ?_
  refine gm_callV (r1 := (some (.int r5))) (own := RX10) rfl dX10_sendDue_41 llX10_360 mvX4_isClose (sC_E_2 (by omega)) rfl [.int x3] [] rfl rfl (Nat.le_of_ble_eq_true rfl) (by decide) rfl h6 rfl ?_
  refine gm_if_eq_f dX10_sendDue_44 ⟨52, by decide⟩ c7 ?_
  refine gm_bipush (v := 7) dX10_sendDue_47 (by decide) ?_
  refine gm_goto (tgt := 53) dX10_sendDue_49 (by decide) ?_
  refine gm_istore (L' := [some (.ref 0), some (.ref e), some (.ref (e + 2)), some (.int x3), some (.int 7)]) dX10_sendDue_53 (by decide) rfl ?_
  refine gm_aload_n dX10_sendDue_55 rfl ?_
  refine gm_aload_n dX10_sendDue_56 rfl ?_
  refine gm_iload dX10_sendDue_57 rfl ?_
  refine gm_aload_n dX10_sendDue_59 rfl ?_
  refine gm_getI (own := RX10) (x := (S (e + 2) 3)) rfl dX10_sendDue_60 lfX10_363 (sC_E_2 (by omega)) rfl rfl ?_
  refine gm_iload_n dX10_sendDue_63 rfl ?_
  refine gm_iadd dX10_sendDue_64 rfl ?_
  refine gm_aload_n dX10_sendDue_65 rfl ?_
  refine gm_getR (own := RX10) (q := (e + 3)) rfl dX10_sendDue_66 lfX10_366 (sC_E_2 (by omega)) rfl ?_
  refine gm_iload_n dX10_sendDue_69 rfl ?_
  refine gm_iald (j := j3) (x := (S (e + 3) j3)) dX10_sendDue_70 (sC_E_3 (by omega)) ij3 rfl ?_
  refine gm_callV (r1 := (some (.int r8))) (own := RX10) rfl dX10_sendDue_71 llX10_369 mvX10_sendProtected sC_0 rfl [.ref e, .int 7, .int ((S (e + 2) 3) + x3), .int (S (e + 3) j3)] [] rfl rfl (Nat.le_of_ble_eq_true rfl) (by decide) rfl h9 rfl ?_
  refine gm_if_ne_f dX10_sendDue_74 ⟨78, by decide⟩ c10 ?_
  exact gm_vret dX10_sendDue_77 rfl
/-- X10_sendDue 16 [21f 26f 36f 44f 74t] -> cut 16 -/
theorem PX10_sendDue_4 {e : Nat} {x3 : Int32} {S : gm_Mem} {j3 : Nat} {r5 : Int32} {T1 : gm_Mem} {r8 : Int32} {r : Option Value} {S2 : gm_Mem} (ke : e = 2 ∨ e = 14) (c1 : x3 < (S (e + 2) 2)) (c2 : x3 < 3) (ij3 : gm_ix x3 j3 16) (c4 : (S (e + 4) j3) = (-1)) (h6 : gm_run gC 0 YX4_isClose 0 [some (.ref (e + 2)), some (.int x3)] [] S (some (.int r5)) S) (c7 : ¬ r5 = 0) (h9 : gm_run gC 2 YX10_sendProtected 0 [some (.ref 0), some (.ref e), some (.int 7), some (.int ((S (e + 2) 3) + x3)), some (.int (S (e + 3) j3)), none] [] S (some (.int r8)) T1) (c10 : ¬ r8 = 0) (K : gm_run gC 3 YX10_sendDue 16 [some (.ref 0), some (.ref e), some (.ref (e + 2)), some (.int (x3 + 1)), none] [] (gm_u T1 (e + 4) j3 (T1 1 8)) r S2) : gm_run gC 3 YX10_sendDue 16 [some (.ref 0), some (.ref e), some (.ref (e + 2)), some (.int x3), none] [] S r S2 := by
  refine gm_iload_n dX10_sendDue_16 rfl ?_
  refine gm_aload_n dX10_sendDue_17 rfl ?_
  refine gm_getI (own := RX10) (x := (S (e + 2) 2)) rfl dX10_sendDue_18 lfX10_356 (sC_E_2 (by omega)) rfl rfl ?_
  refine gm_icmp_ge_f dX10_sendDue_21 ⟨97, by decide⟩ c1 ?_
  refine gm_iload_n dX10_sendDue_24 rfl ?_
  refine gm_iconst (v := 3) dX10_sendDue_25 (by decide) ?_
  refine gm_icmp_ge_f dX10_sendDue_26 ⟨97, by decide⟩ c2 ?_
  refine gm_aload_n dX10_sendDue_29 rfl ?_
  refine gm_getR (own := RX10) (q := (e + 4)) rfl dX10_sendDue_30 lfX10_357 (sC_E_2 (by omega)) rfl ?_
  refine gm_iload_n dX10_sendDue_33 rfl ?_
  refine gm_iald (j := j3) (x := (S (e + 4) j3)) dX10_sendDue_34 (sC_E_4 (by omega)) ij3 rfl ?_
  refine gm_iconst (v := (-1)) dX10_sendDue_35 (by decide) ?_
  refine gm_icmp_ne_f dX10_sendDue_36 ⟨91, by decide⟩ c4 ?_
  refine gm_aload_n dX10_sendDue_39 rfl ?_
  refine gm_iload_n dX10_sendDue_40 rfl ?_
  refine gm_callV (r1 := (some (.int r5))) (own := RX10) rfl dX10_sendDue_41 llX10_360 mvX4_isClose (sC_E_2 (by omega)) rfl [.int x3] [] rfl rfl (Nat.le_of_ble_eq_true rfl) (by decide) rfl h6 rfl ?_
  refine gm_if_eq_f dX10_sendDue_44 ⟨52, by decide⟩ c7 ?_
  refine gm_bipush (v := 7) dX10_sendDue_47 (by decide) ?_
  refine gm_goto (tgt := 53) dX10_sendDue_49 (by decide) ?_
  refine gm_istore (L' := [some (.ref 0), some (.ref e), some (.ref (e + 2)), some (.int x3), some (.int 7)]) dX10_sendDue_53 (by decide) rfl ?_
  refine gm_aload_n dX10_sendDue_55 rfl ?_
  refine gm_aload_n dX10_sendDue_56 rfl ?_
  refine gm_iload dX10_sendDue_57 rfl ?_
  refine gm_aload_n dX10_sendDue_59 rfl ?_
  refine gm_getI (own := RX10) (x := (S (e + 2) 3)) rfl dX10_sendDue_60 lfX10_363 (sC_E_2 (by omega)) rfl rfl ?_
  refine gm_iload_n dX10_sendDue_63 rfl ?_
  refine gm_iadd dX10_sendDue_64 rfl ?_
  refine gm_aload_n dX10_sendDue_65 rfl ?_
  refine gm_getR (own := RX10) (q := (e + 3)) rfl dX10_sendDue_66 lfX10_366 (sC_E_2 (by omega)) rfl ?_
  refine gm_iload_n dX10_sendDue_69 rfl ?_
  refine gm_iald (j := j3) (x := (S (e + 3) j3)) dX10_sendDue_70 (sC_E_3 (by omega)) ij3 rfl ?_
  refine gm_callV (r1 := (some (.int r8))) (own := RX10) rfl dX10_sendDue_71 llX10_369 mvX10_sendProtected sC_0 rfl [.ref e, .int 7, .int ((S (e + 2) 3) + x3), .int (S (e + 3) j3)] [] rfl rfl (Nat.le_of_ble_eq_true rfl) (by decide) rfl h9 rfl ?_
  refine gm_if_ne_t (tgt := 78) dX10_sendDue_74 (by decide) c10 ?_
  refine gm_aload_n dX10_sendDue_78 rfl ?_
  refine gm_getR (own := RX10) (q := (e + 4)) rfl dX10_sendDue_79 lfX10_357 (sC_E_2 (by omega)) rfl ?_
  refine gm_iload_n dX10_sendDue_82 rfl ?_
  refine gm_aload_n dX10_sendDue_83 rfl ?_
  refine gm_getR (own := RX10) (q := 1) rfl dX10_sendDue_84 lfX10_10 sC_0 rfl ?_
  refine gm_getI (own := RX10) (x := (T1 1 8)) rfl dX10_sendDue_87 lfX10_173 sC_1 rfl rfl ?_
  refine gm_iast (j := j3) dX10_sendDue_90 (sC_E_4 (by omega)) ij3 ?_
  refine gm_iinc (L' := [some (.ref 0), some (.ref e), some (.ref (e + 2)), some (.int (x3 + 1)), some (.int 7)]) (v := (x3 + 1)) dX10_sendDue_91 rfl rfl (by decide) rfl ?_
  refine gm_goto (tgt := 16) dX10_sendDue_94 (by decide) ?_
  refine gm_forget (L2 := [some (.ref 0), some (.ref e), some (.ref (e + 2)), some (.int (x3 + 1)), none]) (by simp [gm_sub]) ?_
  exact K
/-- X10_sendDue 16 [21f 26f 36f 44t 74f] -> ret  -/
theorem PX10_sendDue_5 {e : Nat} {x3 : Int32} {S : gm_Mem} {j3 : Nat} {r5 : Int32} {T1 : gm_Mem} {r8 : Int32} (ke : e = 2 ∨ e = 14) (c1 : x3 < (S (e + 2) 2)) (c2 : x3 < 3) (ij3 : gm_ix x3 j3 16) (c4 : (S (e + 4) j3) = (-1)) (h6 : gm_run gC 0 YX4_isClose 0 [some (.ref (e + 2)), some (.int x3)] [] S (some (.int r5)) S) (c7 : r5 = 0) (h9 : gm_run gC 2 YX10_sendProtected 0 [some (.ref 0), some (.ref e), some (.int 4), some (.int ((S (e + 2) 3) + x3)), some (.int (S (e + 3) j3)), none] [] S (some (.int r8)) T1) (c10 : r8 = 0) : gm_run gC 3 YX10_sendDue 16 [some (.ref 0), some (.ref e), some (.ref (e + 2)), some (.int x3), none] [] S none T1 := by
  refine gm_iload_n dX10_sendDue_16 rfl ?_
  refine gm_aload_n dX10_sendDue_17 rfl ?_
  refine gm_getI (own := RX10) (x := (S (e + 2) 2)) rfl dX10_sendDue_18 lfX10_356 (sC_E_2 (by omega)) rfl rfl ?_
  refine gm_icmp_ge_f dX10_sendDue_21 ⟨97, by decide⟩ c1 ?_
  refine gm_iload_n dX10_sendDue_24 rfl ?_
  refine gm_iconst (v := 3) dX10_sendDue_25 (by decide) ?_
  refine gm_icmp_ge_f dX10_sendDue_26 ⟨97, by decide⟩ c2 ?_
  refine gm_aload_n dX10_sendDue_29 rfl ?_
  refine gm_getR (own := RX10) (q := (e + 4)) rfl dX10_sendDue_30 lfX10_357 (sC_E_2 (by omega)) rfl ?_
  refine gm_iload_n dX10_sendDue_33 rfl ?_
  refine gm_iald (j := j3) (x := (S (e + 4) j3)) dX10_sendDue_34 (sC_E_4 (by omega)) ij3 rfl ?_
  refine gm_iconst (v := (-1)) dX10_sendDue_35 (by decide) ?_
  refine gm_icmp_ne_f dX10_sendDue_36 ⟨91, by decide⟩ c4 ?_
  refine gm_aload_n dX10_sendDue_39 rfl ?_
  refine gm_iload_n dX10_sendDue_40 rfl ?_
  refine gm_callV (r1 := (some (.int r5))) (own := RX10) rfl dX10_sendDue_41 llX10_360 mvX4_isClose (sC_E_2 (by omega)) rfl [.int x3] [] rfl rfl (Nat.le_of_ble_eq_true rfl) (by decide) rfl h6 rfl ?_
  refine gm_if_eq_t (tgt := 52) dX10_sendDue_44 (by decide) c7 ?_
  refine gm_iconst (v := 4) dX10_sendDue_52 (by decide) ?_
  refine gm_istore (L' := [some (.ref 0), some (.ref e), some (.ref (e + 2)), some (.int x3), some (.int 4)]) dX10_sendDue_53 (by decide) rfl ?_
  refine gm_aload_n dX10_sendDue_55 rfl ?_
  refine gm_aload_n dX10_sendDue_56 rfl ?_
  refine gm_iload dX10_sendDue_57 rfl ?_
  refine gm_aload_n dX10_sendDue_59 rfl ?_
  refine gm_getI (own := RX10) (x := (S (e + 2) 3)) rfl dX10_sendDue_60 lfX10_363 (sC_E_2 (by omega)) rfl rfl ?_
  refine gm_iload_n dX10_sendDue_63 rfl ?_
  refine gm_iadd dX10_sendDue_64 rfl ?_
  refine gm_aload_n dX10_sendDue_65 rfl ?_
  refine gm_getR (own := RX10) (q := (e + 3)) rfl dX10_sendDue_66 lfX10_366 (sC_E_2 (by omega)) rfl ?_
  refine gm_iload_n dX10_sendDue_69 rfl ?_
  refine gm_iald (j := j3) (x := (S (e + 3) j3)) dX10_sendDue_70 (sC_E_3 (by omega)) ij3 rfl ?_
  refine gm_callV (r1 := (some (.int r8))) (own := RX10) rfl dX10_sendDue_71 llX10_369 mvX10_sendProtected sC_0 rfl [.ref e, .int 4, .int ((S (e + 2) 3) + x3), .int (S (e + 3) j3)] [] rfl rfl (Nat.le_of_ble_eq_true rfl) (by decide) rfl h9 rfl ?_
  refine gm_if_ne_f dX10_sendDue_74 ⟨78, by decide⟩ c10 ?_
  exact gm_vret dX10_sendDue_77 rfl
/-- X10_sendDue 16 [21f 26f 36f 44t 74t] -> cut 16 -/
theorem PX10_sendDue_6 {e : Nat} {x3 : Int32} {S : gm_Mem} {j3 : Nat} {r5 : Int32} {T1 : gm_Mem} {r8 : Int32} {r : Option Value} {S2 : gm_Mem} (ke : e = 2 ∨ e = 14) (c1 : x3 < (S (e + 2) 2)) (c2 : x3 < 3) (ij3 : gm_ix x3 j3 16) (c4 : (S (e + 4) j3) = (-1)) (h6 : gm_run gC 0 YX4_isClose 0 [some (.ref (e + 2)), some (.int x3)] [] S (some (.int r5)) S) (c7 : r5 = 0) (h9 : gm_run gC 2 YX10_sendProtected 0 [some (.ref 0), some (.ref e), some (.int 4), some (.int ((S (e + 2) 3) + x3)), some (.int (S (e + 3) j3)), none] [] S (some (.int r8)) T1) (c10 : ¬ r8 = 0) (K : gm_run gC 3 YX10_sendDue 16 [some (.ref 0), some (.ref e), some (.ref (e + 2)), some (.int (x3 + 1)), none] [] (gm_u T1 (e + 4) j3 (T1 1 8)) r S2) : gm_run gC 3 YX10_sendDue 16 [some (.ref 0), some (.ref e), some (.ref (e + 2)), some (.int x3), none] [] S r S2 := by
  refine gm_iload_n dX10_sendDue_16 rfl ?_
  refine gm_aload_n dX10_sendDue_17 rfl ?_
  refine gm_getI (own := RX10) (x := (S (e + 2) 2)) rfl dX10_sendDue_18 lfX10_356 (sC_E_2 (by omega)) rfl rfl ?_
  refine gm_icmp_ge_f dX10_sendDue_21 ⟨97, by decide⟩ c1 ?_
  refine gm_iload_n dX10_sendDue_24 rfl ?_
  refine gm_iconst (v := 3) dX10_sendDue_25 (by decide) ?_
  refine gm_icmp_ge_f dX10_sendDue_26 ⟨97, by decide⟩ c2 ?_
  refine gm_aload_n dX10_sendDue_29 rfl ?_
  refine gm_getR (own := RX10) (q := (e + 4)) rfl dX10_sendDue_30 lfX10_357 (sC_E_2 (by omega)) rfl ?_
  refine gm_iload_n dX10_sendDue_33 rfl ?_
  refine gm_iald (j := j3) (x := (S (e + 4) j3)) dX10_sendDue_34 (sC_E_4 (by omega)) ij3 rfl ?_
  refine gm_iconst (v := (-1)) dX10_sendDue_35 (by decide) ?_
  refine gm_icmp_ne_f dX10_sendDue_36 ⟨91, by decide⟩ c4 ?_
  refine gm_aload_n dX10_sendDue_39 rfl ?_
  refine gm_iload_n dX10_sendDue_40 rfl ?_
  refine gm_callV (r1 := (some (.int r5))) (own := RX10) rfl dX10_sendDue_41 llX10_360 mvX4_isClose (sC_E_2 (by omega)) rfl [.int x3] [] rfl rfl (Nat.le_of_ble_eq_true rfl) (by decide) rfl h6 rfl ?_
  refine gm_if_eq_t (tgt := 52) dX10_sendDue_44 (by decide) c7 ?_
  refine gm_iconst (v := 4) dX10_sendDue_52 (by decide) ?_
  refine gm_istore (L' := [some (.ref 0), some (.ref e), some (.ref (e + 2)), some (.int x3), some (.int 4)]) dX10_sendDue_53 (by decide) rfl ?_
  refine gm_aload_n dX10_sendDue_55 rfl ?_
  refine gm_aload_n dX10_sendDue_56 rfl ?_
  refine gm_iload dX10_sendDue_57 rfl ?_
  refine gm_aload_n dX10_sendDue_59 rfl ?_
  refine gm_getI (own := RX10) (x := (S (e + 2) 3)) rfl dX10_sendDue_60 lfX10_363 (sC_E_2 (by omega)) rfl rfl ?_
  refine gm_iload_n dX10_sendDue_63 rfl ?_
  refine gm_iadd dX10_sendDue_64 rfl ?_
  refine gm_aload_n dX10_sendDue_65 rfl ?_
  refine gm_getR (own := RX10) (q := (e + 3)) rfl dX10_sendDue_66 lfX10_366 (sC_E_2 (by omega)) rfl ?_
  refine gm_iload_n dX10_sendDue_69 rfl ?_
  refine gm_iald (j := j3) (x := (S (e + 3) j3)) dX10_sendDue_70 (sC_E_3 (by omega)) ij3 rfl ?_
  refine gm_callV (r1 := (some (.int r8))) (own := RX10) rfl dX10_sendDue_71 llX10_369 mvX10_sendProtected sC_0 rfl [.ref e, .int 4, .int ((S (e + 2) 3) + x3), .int (S (e + 3) j3)] [] rfl rfl (Nat.le_of_ble_eq_true rfl) (by decide) rfl h9 rfl ?_
  refine gm_if_ne_t (tgt := 78) dX10_sendDue_74 (by decide) c10 ?_
  refine gm_aload_n dX10_sendDue_78 rfl ?_
  refine gm_getR (own := RX10) (q := (e + 4)) rfl dX10_sendDue_79 lfX10_357 (sC_E_2 (by omega)) rfl ?_
  refine gm_iload_n dX10_sendDue_82 rfl ?_
  refine gm_aload_n dX10_sendDue_83 rfl ?_
  refine gm_getR (own := RX10) (q := 1) rfl dX10_sendDue_84 lfX10_10 sC_0 rfl ?_
  refine gm_getI (own := RX10) (x := (T1 1 8)) rfl dX10_sendDue_87 lfX10_173 sC_1 rfl rfl ?_
  refine gm_iast (j := j3) dX10_sendDue_90 (sC_E_4 (by omega)) ij3 ?_
  refine gm_iinc (L' := [some (.ref 0), some (.ref e), some (.ref (e + 2)), some (.int (x3 + 1)), some (.int 4)]) (v := (x3 + 1)) dX10_sendDue_91 rfl rfl (by decide) rfl ?_
  refine gm_goto (tgt := 16) dX10_sendDue_94 (by decide) ?_
  refine gm_forget (L2 := [some (.ref 0), some (.ref e), some (.ref (e + 2)), some (.int (x3 + 1)), none]) (by simp [gm_sub]) ?_
  exact K
/-- X10_sendDue 16 [21f 26f 36t] -> cut 16 -/
theorem PX10_sendDue_7 {e : Nat} {x3 : Int32} {S : gm_Mem} {j3 : Nat} {r : Option Value} {S2 : gm_Mem} (ke : e = 2 ∨ e = 14) (c1 : x3 < (S (e + 2) 2)) (c2 : x3 < 3) (ij3 : gm_ix x3 j3 16) (c4 : ¬ (S (e + 4) j3) = (-1)) (K : gm_run gC 3 YX10_sendDue 16 [some (.ref 0), some (.ref e), some (.ref (e + 2)), some (.int (x3 + 1)), none] [] S r S2) : gm_run gC 3 YX10_sendDue 16 [some (.ref 0), some (.ref e), some (.ref (e + 2)), some (.int x3), none] [] S r S2 := by
  refine gm_iload_n dX10_sendDue_16 rfl ?_
  refine gm_aload_n dX10_sendDue_17 rfl ?_
  refine gm_getI (own := RX10) (x := (S (e + 2) 2)) rfl dX10_sendDue_18 lfX10_356 (sC_E_2 (by omega)) rfl rfl ?_
  refine gm_icmp_ge_f dX10_sendDue_21 ⟨97, by decide⟩ c1 ?_
  refine gm_iload_n dX10_sendDue_24 rfl ?_
  refine gm_iconst (v := 3) dX10_sendDue_25 (by decide) ?_
  refine gm_icmp_ge_f dX10_sendDue_26 ⟨97, by decide⟩ c2 ?_
  refine gm_aload_n dX10_sendDue_29 rfl ?_
  refine gm_getR (own := RX10) (q := (e + 4)) rfl dX10_sendDue_30 lfX10_357 (sC_E_2 (by omega)) rfl ?_
  refine gm_iload_n dX10_sendDue_33 rfl ?_
  refine gm_iald (j := j3) (x := (S (e + 4) j3)) dX10_sendDue_34 (sC_E_4 (by omega)) ij3 rfl ?_
  refine gm_iconst (v := (-1)) dX10_sendDue_35 (by decide) ?_
  refine gm_icmp_ne_t (tgt := 91) dX10_sendDue_36 (by decide) c4 ?_
  refine gm_iinc (L' := [some (.ref 0), some (.ref e), some (.ref (e + 2)), some (.int (x3 + 1)), none]) (v := (x3 + 1)) dX10_sendDue_91 rfl rfl (by decide) rfl ?_
  refine gm_goto (tgt := 16) dX10_sendDue_94 (by decide) ?_
  exact K
/-- X10_sendDue 16 [21f 26t] -> ret  -/
theorem PX10_sendDue_8 {e : Nat} {x3 : Int32} {S : gm_Mem} (ke : e = 2 ∨ e = 14) (c1 : x3 < (S (e + 2) 2)) (c2 : ¬ x3 < 3) : gm_run gC 3 YX10_sendDue 16 [some (.ref 0), some (.ref e), some (.ref (e + 2)), some (.int x3), none] [] S none S := by
  refine gm_iload_n dX10_sendDue_16 rfl ?_
  refine gm_aload_n dX10_sendDue_17 rfl ?_
  refine gm_getI (own := RX10) (x := (S (e + 2) 2)) rfl dX10_sendDue_18 lfX10_356 (sC_E_2 (by omega)) rfl rfl ?_
  refine gm_icmp_ge_f dX10_sendDue_21 ⟨97, by decide⟩ c1 ?_
  refine gm_iload_n dX10_sendDue_24 rfl ?_
  refine gm_iconst (v := 3) dX10_sendDue_25 (by decide) ?_
  refine gm_icmp_ge_t (tgt := 97) dX10_sendDue_26 (by decide) c2 ?_
  exact gm_vret dX10_sendDue_97 rfl
/-- X10_sendDue 16 [21t] -> ret  -/
theorem PX10_sendDue_9 {e : Nat} {x3 : Int32} {S : gm_Mem} (ke : e = 2 ∨ e = 14) (c1 : ¬ x3 < (S (e + 2) 2)) : gm_run gC 3 YX10_sendDue 16 [some (.ref 0), some (.ref e), some (.ref (e + 2)), some (.int x3), none] [] S none S := by
  refine gm_iload_n dX10_sendDue_16 rfl ?_
  refine gm_aload_n dX10_sendDue_17 rfl ?_
  refine gm_getI (own := RX10) (x := (S (e + 2) 2)) rfl dX10_sendDue_18 lfX10_356 (sC_E_2 (by omega)) rfl rfl ?_
  refine gm_icmp_ge_t (tgt := 97) dX10_sendDue_21 (by decide) c1 ?_
  exact gm_vret dX10_sendDue_97 rfl
/-- X10_addMessage 0 [12f 20f] -> ret  -/
theorem PX10_addMessage_1 {e : Nat} {a2 : Int32} {a3 : Int32} {S : gm_Mem} (ke : e = 2 ∨ e = 14) (c1 : (S (e + 2) 4) = (-1)) (c2 : (S e 8) = 4) : gm_run gC 4 YX10_addMessage 0 [some (.ref 0), some (.ref e), some (.int a2), some (.int a3), none, none] [] S (some (.int (-1000000004))) S := by
  refine gm_aload_n dX10_addMessage_0 rfl ?_
  refine gm_getR (own := RX10) (q := (e + 2)) rfl dX10_addMessage_1 lfX10_221 (sC_E_0 (by omega)) rfl ?_
  refine gm_astore (L' := [some (.ref 0), some (.ref e), some (.int a2), some (.int a3), some (.ref (e + 2)), none]) dX10_addMessage_4 (by decide) rfl ?_
  refine gm_aload dX10_addMessage_6 rfl ?_
  refine gm_getI (own := RX10) (x := (S (e + 2) 4)) rfl dX10_addMessage_8 lfX10_320 (sC_E_2 (by omega)) rfl rfl ?_
  refine gm_iconst (v := (-1)) dX10_addMessage_11 (by decide) ?_
  refine gm_icmp_ne_f dX10_addMessage_12 ⟨23, by decide⟩ c1 ?_
  refine gm_aload_n dX10_addMessage_15 rfl ?_
  refine gm_getI (own := RX10) (x := (S e 8)) rfl dX10_addMessage_16 lfX10_52 (sC_E_0 (by omega)) rfl rfl ?_
  refine gm_iconst (v := 4) dX10_addMessage_19 (by decide) ?_
  refine gm_icmp_ne_f dX10_addMessage_20 ⟨26, by decide⟩ c2 ?_
  refine gm_ldc (own := RX10) rfl lcX10_57 dX10_addMessage_23 ?_
  exact gm_iret dX10_addMessage_25 rfl
/-- X10_addMessage 0 [12f 20t 31f] -> ret  -/
theorem PX10_addMessage_2 {e : Nat} {a2 : Int32} {a3 : Int32} {S : gm_Mem} {r3 : Int32} (ke : e = 2 ∨ e = 14) (c1 : (S (e + 2) 4) = (-1)) (c2 : ¬ (S e 8) = 4) (h4 : gm_run gC 0 YX4_isFull 0 [some (.ref (e + 2))] [] S (some (.int r3)) S) (c5 : ¬ r3 = 0) : gm_run gC 4 YX10_addMessage 0 [some (.ref 0), some (.ref e), some (.int a2), some (.int a3), none, none] [] S (some (.int (-1000000003))) S := by
  refine gm_aload_n dX10_addMessage_0 rfl ?_
  refine gm_getR (own := RX10) (q := (e + 2)) rfl dX10_addMessage_1 lfX10_221 (sC_E_0 (by omega)) rfl ?_
  refine gm_astore (L' := [some (.ref 0), some (.ref e), some (.int a2), some (.int a3), some (.ref (e + 2)), none]) dX10_addMessage_4 (by decide) rfl ?_
  refine gm_aload dX10_addMessage_6 rfl ?_
  refine gm_getI (own := RX10) (x := (S (e + 2) 4)) rfl dX10_addMessage_8 lfX10_320 (sC_E_2 (by omega)) rfl rfl ?_
  refine gm_iconst (v := (-1)) dX10_addMessage_11 (by decide) ?_
  refine gm_icmp_ne_f dX10_addMessage_12 ⟨23, by decide⟩ c1 ?_
  refine gm_aload_n dX10_addMessage_15 rfl ?_
  refine gm_getI (own := RX10) (x := (S e 8)) rfl dX10_addMessage_16 lfX10_52 (sC_E_0 (by omega)) rfl rfl ?_
  refine gm_iconst (v := 4) dX10_addMessage_19 (by decide) ?_
  refine gm_icmp_ne_t (tgt := 26) dX10_addMessage_20 (by decide) c2 ?_
  refine gm_aload dX10_addMessage_26 rfl ?_
  refine gm_callV (r1 := (some (.int r3))) (own := RX10) rfl dX10_addMessage_28 llX10_323 mvX4_isFull (sC_E_2 (by omega)) rfl [] [] rfl rfl (Nat.le_of_ble_eq_true rfl) (by decide) rfl h4 rfl ?_
  refine gm_if_eq_f dX10_addMessage_31 ⟨37, by decide⟩ c5 ?_
  refine gm_ldc (own := RX10) rfl lcX10_68 dX10_addMessage_34 ?_
  exact gm_iret dX10_addMessage_36 rfl
/-- X10_addMessage 0 [12f 20t 31t] -> ret  -/
theorem PX10_addMessage_3 {e : Nat} {a2 : Int32} {a3 : Int32} {S : gm_Mem} {r3 : Int32} {T1 : gm_Mem} {r6 : Int32} {T2 : gm_Mem} (ke : e = 2 ∨ e = 14) (c1 : (S (e + 2) 4) = (-1)) (c2 : ¬ (S e 8) = 4) (h4 : gm_run gC 0 YX4_isFull 0 [some (.ref (e + 2))] [] S (some (.int r3)) S) (c5 : r3 = 0) (h7 : gm_run gC 0 YX4_add 0 [some (.ref (e + 2)), some (.int a2), some (.int a3), none] [] S (some (.int r6)) T1) (h8 : gm_run gC 3 YX10_sendDue 0 [some (.ref 0), some (.ref e), none, none, none] [] T1 none T2) : gm_run gC 4 YX10_addMessage 0 [some (.ref 0), some (.ref e), some (.int a2), some (.int a3), none, none] [] S (some (.int r6)) T2 := by
  refine gm_aload_n dX10_addMessage_0 rfl ?_
  refine gm_getR (own := RX10) (q := (e + 2)) rfl dX10_addMessage_1 lfX10_221 (sC_E_0 (by omega)) rfl ?_
  refine gm_astore (L' := [some (.ref 0), some (.ref e), some (.int a2), some (.int a3), some (.ref (e + 2)), none]) dX10_addMessage_4 (by decide) rfl ?_
  refine gm_aload dX10_addMessage_6 rfl ?_
  refine gm_getI (own := RX10) (x := (S (e + 2) 4)) rfl dX10_addMessage_8 lfX10_320 (sC_E_2 (by omega)) rfl rfl ?_
  refine gm_iconst (v := (-1)) dX10_addMessage_11 (by decide) ?_
  refine gm_icmp_ne_f dX10_addMessage_12 ⟨23, by decide⟩ c1 ?_
  refine gm_aload_n dX10_addMessage_15 rfl ?_
  refine gm_getI (own := RX10) (x := (S e 8)) rfl dX10_addMessage_16 lfX10_52 (sC_E_0 (by omega)) rfl rfl ?_
  refine gm_iconst (v := 4) dX10_addMessage_19 (by decide) ?_
  refine gm_icmp_ne_t (tgt := 26) dX10_addMessage_20 (by decide) c2 ?_
  refine gm_aload dX10_addMessage_26 rfl ?_
  refine gm_callV (r1 := (some (.int r3))) (own := RX10) rfl dX10_addMessage_28 llX10_323 mvX4_isFull (sC_E_2 (by omega)) rfl [] [] rfl rfl (Nat.le_of_ble_eq_true rfl) (by decide) rfl h4 rfl ?_
  refine gm_if_eq_t (tgt := 37) dX10_addMessage_31 (by decide) c5 ?_
  refine gm_aload dX10_addMessage_37 rfl ?_
  refine gm_iload_n dX10_addMessage_39 rfl ?_
  refine gm_iload_n dX10_addMessage_40 rfl ?_
  refine gm_callV (r1 := (some (.int r6))) (own := RX10) rfl dX10_addMessage_41 llX10_324 mvX4_add (sC_E_2 (by omega)) rfl [.int a2, .int a3] [] rfl rfl (Nat.le_of_ble_eq_true rfl) (by decide) rfl h7 rfl ?_
  refine gm_istore (L' := [some (.ref 0), some (.ref e), some (.int a2), some (.int a3), some (.ref (e + 2)), some (.int r6)]) dX10_addMessage_44 (by decide) rfl ?_
  refine gm_aload_n dX10_addMessage_46 rfl ?_
  refine gm_aload_n dX10_addMessage_47 rfl ?_
  refine gm_callV (r1 := none) (own := RX10) rfl dX10_addMessage_48 llX10_327 mvX10_sendDue sC_0 rfl [.ref e] [] rfl rfl (Nat.le_of_ble_eq_true rfl) (by decide) rfl h8 rfl ?_
  refine gm_iload dX10_addMessage_51 rfl ?_
  exact gm_iret dX10_addMessage_53 rfl
/-- X10_addMessage 0 [12t] -> ret  -/
theorem PX10_addMessage_4 {e : Nat} {a2 : Int32} {a3 : Int32} {S : gm_Mem} (ke : e = 2 ∨ e = 14) (c1 : ¬ (S (e + 2) 4) = (-1)) : gm_run gC 4 YX10_addMessage 0 [some (.ref 0), some (.ref e), some (.int a2), some (.int a3), none, none] [] S (some (.int (-1000000004))) S := by
  refine gm_aload_n dX10_addMessage_0 rfl ?_
  refine gm_getR (own := RX10) (q := (e + 2)) rfl dX10_addMessage_1 lfX10_221 (sC_E_0 (by omega)) rfl ?_
  refine gm_astore (L' := [some (.ref 0), some (.ref e), some (.int a2), some (.int a3), some (.ref (e + 2)), none]) dX10_addMessage_4 (by decide) rfl ?_
  refine gm_aload dX10_addMessage_6 rfl ?_
  refine gm_getI (own := RX10) (x := (S (e + 2) 4)) rfl dX10_addMessage_8 lfX10_320 (sC_E_2 (by omega)) rfl rfl ?_
  refine gm_iconst (v := (-1)) dX10_addMessage_11 (by decide) ?_
  refine gm_icmp_ne_t (tgt := 23) dX10_addMessage_12 (by decide) c1 ?_
  refine gm_ldc (own := RX10) rfl lcX10_57 dX10_addMessage_23 ?_
  exact gm_iret dX10_addMessage_25 rfl
/-- X10_endpointOf 0 [1f] -> ret  -/
theorem PX10_endpointOf_1 {a1 : Int32} {S : gm_Mem} (c1 : a1 = 0) : gm_run gC 0 YX10_endpointOf 0 [some (.ref 0), some (.int a1)] [] S (some (.ref 2)) S := by
  refine gm_iload_n dX10_endpointOf_0 rfl ?_
  refine gm_if_ne_f dX10_endpointOf_1 ⟨14, by decide⟩ c1 ?_
  refine gm_aload_n dX10_endpointOf_4 rfl ?_
  refine gm_getR (own := RX10) (q := 1) rfl dX10_endpointOf_5 lfX10_10 sC_0 rfl ?_
  refine gm_getR (own := RX10) (q := 2) rfl dX10_endpointOf_8 lfX10_48 sC_1 rfl ?_
  refine gm_goto (tgt := 21) dX10_endpointOf_11 (by decide) ?_
  exact gm_aret dX10_endpointOf_21 rfl
/-- X10_endpointOf 0 [1t] -> ret  -/
theorem PX10_endpointOf_2 {a1 : Int32} {S : gm_Mem} (c1 : ¬ a1 = 0) : gm_run gC 0 YX10_endpointOf 0 [some (.ref 0), some (.int a1)] [] S (some (.ref 14)) S := by
  refine gm_iload_n dX10_endpointOf_0 rfl ?_
  refine gm_if_ne_t (tgt := 14) dX10_endpointOf_1 (by decide) c1 ?_
  refine gm_aload_n dX10_endpointOf_14 rfl ?_
  refine gm_getR (own := RX10) (q := 1) rfl dX10_endpointOf_15 lfX10_10 sC_0 rfl ?_
  refine gm_getR (own := RX10) (q := 14) rfl dX10_endpointOf_18 lfX10_93 sC_1 rfl ?_
  exact gm_aret dX10_endpointOf_21 rfl
/-- X10_isEndpoint 0 [1f 6f] -> ret  -/
theorem PX10_isEndpoint_1 {a1 : Int32} {S : gm_Mem} (c1 : ¬ a1 = 0) (c2 : a1 = 1) : gm_run gC 0 YX10_isEndpoint 0 [some (.int a1)] [] S (some (.int 1)) S := by
  refine gm_iload_n dX10_isEndpoint_0 rfl ?_
  refine gm_if_eq_f dX10_isEndpoint_1 ⟨9, by decide⟩ c1 ?_
  refine gm_iload_n dX10_isEndpoint_4 rfl ?_
  refine gm_iconst (v := 1) dX10_isEndpoint_5 (by decide) ?_
  refine gm_icmp_ne_f dX10_isEndpoint_6 ⟨13, by decide⟩ c2 ?_
  refine gm_iconst (v := 1) dX10_isEndpoint_9 (by decide) ?_
  refine gm_goto (tgt := 14) dX10_isEndpoint_10 (by decide) ?_
  exact gm_zret dX10_isEndpoint_14 rfl gm_fit_1
/-- X10_isEndpoint 0 [1f 6t] -> ret  -/
theorem PX10_isEndpoint_2 {a1 : Int32} {S : gm_Mem} (c1 : ¬ a1 = 0) (c2 : ¬ a1 = 1) : gm_run gC 0 YX10_isEndpoint 0 [some (.int a1)] [] S (some (.int 0)) S := by
  refine gm_iload_n dX10_isEndpoint_0 rfl ?_
  refine gm_if_eq_f dX10_isEndpoint_1 ⟨9, by decide⟩ c1 ?_
  refine gm_iload_n dX10_isEndpoint_4 rfl ?_
  refine gm_iconst (v := 1) dX10_isEndpoint_5 (by decide) ?_
  refine gm_icmp_ne_t (tgt := 13) dX10_isEndpoint_6 (by decide) c2 ?_
  refine gm_iconst (v := 0) dX10_isEndpoint_13 (by decide) ?_
  exact gm_zret dX10_isEndpoint_14 rfl gm_fit_0
/-- X10_isEndpoint 0 [1t] -> ret  -/
theorem PX10_isEndpoint_3 {a1 : Int32} {S : gm_Mem} (c1 : a1 = 0) : gm_run gC 0 YX10_isEndpoint 0 [some (.int a1)] [] S (some (.int 1)) S := by
  refine gm_iload_n dX10_isEndpoint_0 rfl ?_
  refine gm_if_eq_t (tgt := 9) dX10_isEndpoint_1 (by decide) c1 ?_
  refine gm_iconst (v := 1) dX10_isEndpoint_9 (by decide) ?_
  refine gm_goto (tgt := 14) dX10_isEndpoint_10 (by decide) ?_
  exact gm_zret dX10_isEndpoint_14 rfl gm_fit_1
/-- X10_send 0 [4f 11f 18f] -> ret  -/
theorem PX10_send_1 {a1 : Int32} {a2 : Int32} {S : gm_Mem} {r1 : Int32} (h2 : gm_run gC 0 YX10_isEndpoint 0 [some (.int a1)] [] S (some (.int r1)) S) (c3 : ¬ r1 = 0) (c4 : ¬ a2 < (-999)) (c5 : 999 < a2) : gm_run gC 5 YX10_send 0 [some (.ref 0), some (.int a1), some (.int a2)] [] S (some (.int (-1000000002))) S := by
  refine gm_iload_n dX10_send_0 rfl ?_
  refine gm_callS (r1 := (some (.int r1))) (own := RX10) rfl dX10_send_1 llX10_96 msX10_isEndpoint [.int a1] [] rfl rfl (Nat.le_of_ble_eq_true rfl) (by decide) rfl h2 rfl ?_
  refine gm_if_eq_f dX10_send_4 ⟨21, by decide⟩ c3 ?_
  refine gm_iload_n dX10_send_7 rfl ?_
  refine gm_sipush (v := (-999)) dX10_send_8 (by decide) ?_
  refine gm_icmp_lt_f dX10_send_11 ⟨21, by decide⟩ c4 ?_
  refine gm_iload_n dX10_send_14 rfl ?_
  refine gm_sipush (v := 999) dX10_send_15 (by decide) ?_
  refine gm_icmp_le_f dX10_send_18 ⟨24, by decide⟩ c5 ?_
  refine gm_ldc (own := RX10) rfl lcX10_37 dX10_send_21 ?_
  exact gm_iret dX10_send_23 rfl
/-- X10_send 0 [4f 11f 18t] -> ret  -/
theorem PX10_send_2 {a1 : Int32} {a2 : Int32} {S : gm_Mem} {r1 : Int32} {q6 : Nat} {T1 : gm_Mem} {r8 : Int32} (h2 : gm_run gC 0 YX10_isEndpoint 0 [some (.int a1)] [] S (some (.int r1)) S) (c3 : ¬ r1 = 0) (c4 : ¬ a2 < (-999)) (c5 : ¬ 999 < a2) (kq6 : q6 = 2 ∨ q6 = 14) (h7 : gm_run gC 0 YX10_endpointOf 0 [some (.ref 0), some (.int a1)] [] S (some (.ref q6)) S) (h9 : gm_run gC 4 YX10_addMessage 0 [some (.ref 0), some (.ref q6), some (.int a2), some (.int 0), none, none] [] S (some (.int r8)) T1) : gm_run gC 5 YX10_send 0 [some (.ref 0), some (.int a1), some (.int a2)] [] S (some (.int r8)) T1 := by
  refine gm_iload_n dX10_send_0 rfl ?_
  refine gm_callS (r1 := (some (.int r1))) (own := RX10) rfl dX10_send_1 llX10_96 msX10_isEndpoint [.int a1] [] rfl rfl (Nat.le_of_ble_eq_true rfl) (by decide) rfl h2 rfl ?_
  refine gm_if_eq_f dX10_send_4 ⟨21, by decide⟩ c3 ?_
  refine gm_iload_n dX10_send_7 rfl ?_
  refine gm_sipush (v := (-999)) dX10_send_8 (by decide) ?_
  refine gm_icmp_lt_f dX10_send_11 ⟨21, by decide⟩ c4 ?_
  refine gm_iload_n dX10_send_14 rfl ?_
  refine gm_sipush (v := 999) dX10_send_15 (by decide) ?_
  refine gm_icmp_le_t (tgt := 24) dX10_send_18 (by decide) c5 ?_
  refine gm_aload_n dX10_send_24 rfl ?_
  refine gm_aload_n dX10_send_25 rfl ?_
  refine gm_iload_n dX10_send_26 rfl ?_
  refine gm_callV (r1 := (some (.ref q6))) (own := RX10) rfl dX10_send_27 llX10_100 mvX10_endpointOf sC_0 rfl [.int a1] [.ref 0] rfl rfl (Nat.le_of_ble_eq_true rfl) (by decide) rfl h7 rfl ?_
  refine gm_iload_n dX10_send_30 rfl ?_
  refine gm_iconst (v := 0) dX10_send_31 (by decide) ?_
  refine gm_callV (r1 := (some (.int r8))) (own := RX10) rfl dX10_send_32 llX10_104 mvX10_addMessage sC_0 rfl [.ref q6, .int a2, .int 0] [] rfl rfl (Nat.le_of_ble_eq_true rfl) (by decide) rfl h9 rfl ?_
  exact gm_iret dX10_send_35 rfl
/-- X10_send 0 [4f 11t] -> ret  -/
theorem PX10_send_3 {a1 : Int32} {a2 : Int32} {S : gm_Mem} {r1 : Int32} (h2 : gm_run gC 0 YX10_isEndpoint 0 [some (.int a1)] [] S (some (.int r1)) S) (c3 : ¬ r1 = 0) (c4 : a2 < (-999)) : gm_run gC 5 YX10_send 0 [some (.ref 0), some (.int a1), some (.int a2)] [] S (some (.int (-1000000002))) S := by
  refine gm_iload_n dX10_send_0 rfl ?_
  refine gm_callS (r1 := (some (.int r1))) (own := RX10) rfl dX10_send_1 llX10_96 msX10_isEndpoint [.int a1] [] rfl rfl (Nat.le_of_ble_eq_true rfl) (by decide) rfl h2 rfl ?_
  refine gm_if_eq_f dX10_send_4 ⟨21, by decide⟩ c3 ?_
  refine gm_iload_n dX10_send_7 rfl ?_
  refine gm_sipush (v := (-999)) dX10_send_8 (by decide) ?_
  refine gm_icmp_lt_t (tgt := 21) dX10_send_11 (by decide) c4 ?_
  refine gm_ldc (own := RX10) rfl lcX10_37 dX10_send_21 ?_
  exact gm_iret dX10_send_23 rfl
/-- X10_send 0 [4t] -> ret  -/
theorem PX10_send_4 {a1 : Int32} {a2 : Int32} {S : gm_Mem} {r1 : Int32} (h2 : gm_run gC 0 YX10_isEndpoint 0 [some (.int a1)] [] S (some (.int r1)) S) (c3 : r1 = 0) : gm_run gC 5 YX10_send 0 [some (.ref 0), some (.int a1), some (.int a2)] [] S (some (.int (-1000000002))) S := by
  refine gm_iload_n dX10_send_0 rfl ?_
  refine gm_callS (r1 := (some (.int r1))) (own := RX10) rfl dX10_send_1 llX10_96 msX10_isEndpoint [.int a1] [] rfl rfl (Nat.le_of_ble_eq_true rfl) (by decide) rfl h2 rfl ?_
  refine gm_if_eq_t (tgt := 21) dX10_send_4 (by decide) c3 ?_
  refine gm_ldc (own := RX10) rfl lcX10_37 dX10_send_21 ?_
  exact gm_iret dX10_send_23 rfl
/-- X10_close 0 [4f] -> ret  -/
theorem PX10_close_1 {a1 : Int32} {S : gm_Mem} {r1 : Int32} (h2 : gm_run gC 0 YX10_isEndpoint 0 [some (.int a1)] [] S (some (.int r1)) S) (c3 : r1 = 0) : gm_run gC 5 YX10_close 0 [some (.ref 0), some (.int a1)] [] S (some (.int (-1000000002))) S := by
  refine gm_iload_n dX10_close_0 rfl ?_
  refine gm_callS (r1 := (some (.int r1))) (own := RX10) rfl dX10_close_1 llX10_96 msX10_isEndpoint [.int a1] [] rfl rfl (Nat.le_of_ble_eq_true rfl) (by decide) rfl h2 rfl ?_
  refine gm_if_ne_f dX10_close_4 ⟨10, by decide⟩ c3 ?_
  refine gm_ldc (own := RX10) rfl lcX10_37 dX10_close_7 ?_
  exact gm_iret dX10_close_9 rfl
/-- X10_close 0 [4t] -> ret  -/
theorem PX10_close_2 {a1 : Int32} {S : gm_Mem} {r1 : Int32} {q4 : Nat} {T1 : gm_Mem} {r6 : Int32} (h2 : gm_run gC 0 YX10_isEndpoint 0 [some (.int a1)] [] S (some (.int r1)) S) (c3 : ¬ r1 = 0) (kq4 : q4 = 2 ∨ q4 = 14) (h5 : gm_run gC 0 YX10_endpointOf 0 [some (.ref 0), some (.int a1)] [] S (some (.ref q4)) S) (h7 : gm_run gC 4 YX10_addMessage 0 [some (.ref 0), some (.ref q4), some (.int 0), some (.int 1), none, none] [] S (some (.int r6)) T1) : gm_run gC 5 YX10_close 0 [some (.ref 0), some (.int a1)] [] S (some (.int r6)) T1 := by
  refine gm_iload_n dX10_close_0 rfl ?_
  refine gm_callS (r1 := (some (.int r1))) (own := RX10) rfl dX10_close_1 llX10_96 msX10_isEndpoint [.int a1] [] rfl rfl (Nat.le_of_ble_eq_true rfl) (by decide) rfl h2 rfl ?_
  refine gm_if_ne_t (tgt := 10) dX10_close_4 (by decide) c3 ?_
  refine gm_aload_n dX10_close_10 rfl ?_
  refine gm_aload_n dX10_close_11 rfl ?_
  refine gm_iload_n dX10_close_12 rfl ?_
  refine gm_callV (r1 := (some (.ref q4))) (own := RX10) rfl dX10_close_13 llX10_100 mvX10_endpointOf sC_0 rfl [.int a1] [.ref 0] rfl rfl (Nat.le_of_ble_eq_true rfl) (by decide) rfl h5 rfl ?_
  refine gm_iconst (v := 0) dX10_close_16 (by decide) ?_
  refine gm_iconst (v := 1) dX10_close_17 (by decide) ?_
  refine gm_callV (r1 := (some (.int r6))) (own := RX10) rfl dX10_close_18 llX10_104 mvX10_addMessage sC_0 rfl [.ref q4, .int 0, .int 1] [] rfl rfl (Nat.le_of_ble_eq_true rfl) (by decide) rfl h7 rfl ?_
  exact gm_iret dX10_close_21 rfl
/-- X10_baseOf 0 [] -> ret  -/
theorem PX10_baseOf_1 {a1 : Int32} {a2 : Int32} {a3 : Int32} {S : gm_Mem} {r1 : Int32} {r3 : Int32} (h2 : gm_run gC 0 YX10_mix 0 [some (.int a1), some (.int a2), none] [] S (some (.int r1)) S) (h4 : gm_run gC 0 YX10_mix 0 [some (.int r1), some (.int a3), none] [] S (some (.int r3)) S) : gm_run gC 1 YX10_baseOf 0 [some (.int a1), some (.int a2), some (.int a3)] [] S (some (.int r3)) S := by
  refine gm_iload_n dX10_baseOf_0 rfl ?_
  refine gm_iload_n dX10_baseOf_1 rfl ?_
  refine gm_callS (r1 := (some (.int r1))) (own := RX10) rfl dX10_baseOf_2 llX10_286 msX10_mix [.int a1, .int a2] [] rfl rfl (Nat.le_of_ble_eq_true rfl) (by decide) rfl h2 rfl ?_
  refine gm_iload_n dX10_baseOf_5 rfl ?_
  refine gm_callS (r1 := (some (.int r3))) (own := RX10) rfl dX10_baseOf_6 llX10_286 msX10_mix [.int r1, .int a3] [] rfl rfl (Nat.le_of_ble_eq_true rfl) (by decide) rfl h4 rfl ?_
  exact gm_iret dX10_baseOf_9 rfl
/-- X10_acceptHello 0 [13f] -> ret  -/
theorem PX10_acceptHello_1 {e : Nat} {q : Nat} {S : gm_Mem} {T1 : gm_Mem} {r3 : Int32} {r5 : Int32} {r7 : Int32} {T2 : gm_Mem} {T3 : gm_Mem} {T4 : gm_Mem} {r11 : Int32} (ke : e = 14) (kq : (28 ≤ q ∧ q < 52) ∨ q = 122) (c1 : (S q 6) = (-1)) (h2 : gm_run gC 2 YX0_beginStream 0 [some (.ref e)] [] (gm_u S e 9 (S q 2)) none T1) (h4 : gm_run gC 0 YX10_mix 0 [some (.int (T1 q 2)), some (.int (T1 1 8)), none] [] T1 (some (.int r3)) T1) (h6 : gm_run gC 0 YX10_mix 0 [some (.int (T1 q 5)), some (.int r3), none] [] T1 (some (.int r5)) T1) (h8 : gm_run gC 1 YX10_baseOf 0 [some (.int (T1 q 5)), some (.int r5), some (.int (T1 q 2))] [] T1 (some (.int r7)) T1) (h9 : gm_run gC 1 YX10_changeState 0 [some (.ref 0), some (.ref e), some (.int 2)] [] (gm_u T1 e 10 r7) none T2) (h10 : gm_run gC 1 YX0_beginKeys 0 [some (.ref e)] [] T2 none T3) (h12 : gm_run gC 2 YX10_sendPlain 0 [some (.ref 0), some (.ref e), some (.int 1), some (.int (T3 e 9)), some (.int r5), some (.int 0), none] [] T3 (some (.int r11)) T4) : gm_run gC 3 YX10_acceptHello 0 [some (.ref 0), some (.ref e), some (.ref q), none] [] S none T4 := by
  refine gm_aload_n dX10_acceptHello_0 rfl ?_
  refine gm_aload_n dX10_acceptHello_1 rfl ?_
  refine gm_getI (own := RX10) (x := (S q 2)) rfl dX10_acceptHello_2 lfX10_146 (sC_Pk_0 (by omega)) rfl rfl ?_
  refine gm_put (own := RX10) rfl dX10_acceptHello_5 lfX10_241 (sC_E_0 (by omega)) rfl (gm_fit_int _) ?_
  refine gm_aload_n dX10_acceptHello_8 rfl ?_
  refine gm_getI (own := RX10) (x := (S q 6)) rfl dX10_acceptHello_9 lfX10_170 (sC_Pk_0 (by omega)) rfl (gm_rp (by omega)) ?_
  refine gm_iconst (v := (-1)) dX10_acceptHello_12 (by decide) ?_
  refine gm_icmp_ne_f dX10_acceptHello_13 ⟨23, by decide⟩ c1 ?_
  refine gm_aload_n dX10_acceptHello_16 rfl ?_
  refine gm_callV (r1 := none) (own := RX10) rfl dX10_acceptHello_17 llX10_69 mvX0_beginStream (sC_E_0 (by omega)) rfl [] [] rfl rfl (Nat.le_of_ble_eq_true rfl) (by decide) rfl h2 rfl ?_
  refine gm_goto (tgt := 37) dX10_acceptHello_20 (by decide) ?_
  refine gm_aload_n dX10_acceptHello_37 rfl ?_
  refine gm_getI (own := RX10) (x := (T1 q 5)) rfl dX10_acceptHello_38 lfX10_295 (sC_Pk_0 (by omega)) rfl rfl ?_
  refine gm_aload_n dX10_acceptHello_41 rfl ?_
  refine gm_getI (own := RX10) (x := (T1 q 2)) rfl dX10_acceptHello_42 lfX10_146 (sC_Pk_0 (by omega)) rfl rfl ?_
  refine gm_aload_n dX10_acceptHello_45 rfl ?_
  refine gm_getR (own := RX10) (q := 1) rfl dX10_acceptHello_46 lfX10_10 sC_0 rfl ?_
  refine gm_getI (own := RX10) (x := (T1 1 8)) rfl dX10_acceptHello_49 lfX10_173 sC_1 rfl rfl ?_
  refine gm_callS (r1 := (some (.int r3))) (own := RX10) rfl dX10_acceptHello_52 llX10_286 msX10_mix [.int (T1 q 2), .int (T1 1 8)] [.int (T1 q 5)] rfl rfl (Nat.le_of_ble_eq_true rfl) (by decide) rfl h4 rfl ?_
  refine gm_callS (r1 := (some (.int r5))) (own := RX10) rfl dX10_acceptHello_55 llX10_286 msX10_mix [.int (T1 q 5), .int r3] [] rfl rfl (Nat.le_of_ble_eq_true rfl) (by decide) rfl h6 rfl ?_
  refine gm_istore_n (L' := [some (.ref 0), some (.ref e), some (.ref q), some (.int r5)]) dX10_acceptHello_58 (by decide) rfl ?_
  refine gm_aload_n dX10_acceptHello_59 rfl ?_
  refine gm_aload_n dX10_acceptHello_60 rfl ?_
  refine gm_getI (own := RX10) (x := (T1 q 5)) rfl dX10_acceptHello_61 lfX10_295 (sC_Pk_0 (by omega)) rfl rfl ?_
  refine gm_iload_n dX10_acceptHello_64 rfl ?_
  refine gm_aload_n dX10_acceptHello_65 rfl ?_
  refine gm_getI (own := RX10) (x := (T1 q 2)) rfl dX10_acceptHello_66 lfX10_146 (sC_Pk_0 (by omega)) rfl rfl ?_
  refine gm_callS (r1 := (some (.int r7))) (own := RX10) rfl dX10_acceptHello_69 llX10_420 msX10_baseOf [.int (T1 q 5), .int r5, .int (T1 q 2)] [.ref e] rfl rfl (Nat.le_of_ble_eq_true rfl) (by decide) rfl h8 rfl ?_
  refine gm_put (own := RX10) rfl dX10_acceptHello_72 lfX10_242 (sC_E_0 (by omega)) rfl (gm_fit_int _) ?_
  refine gm_aload_n dX10_acceptHello_75 rfl ?_
  refine gm_aload_n dX10_acceptHello_76 rfl ?_
  refine gm_iconst (v := 2) dX10_acceptHello_77 (by decide) ?_
  refine gm_callV (r1 := none) (own := RX10) rfl dX10_acceptHello_78 llX10_310 mvX10_changeState sC_0 rfl [.ref e, .int 2] [] rfl rfl (Nat.le_of_ble_eq_true rfl) (by decide) rfl h9 rfl ?_
  refine gm_aload_n dX10_acceptHello_81 rfl ?_
  refine gm_callV (r1 := none) (own := RX10) rfl dX10_acceptHello_82 llX10_424 mvX0_beginKeys (sC_E_0 (by omega)) rfl [] [] rfl rfl (Nat.le_of_ble_eq_true rfl) (by decide) rfl h10 rfl ?_
  refine gm_aload_n dX10_acceptHello_85 rfl ?_
  refine gm_aload_n dX10_acceptHello_86 rfl ?_
  refine gm_iconst (v := 1) dX10_acceptHello_87 (by decide) ?_
  refine gm_aload_n dX10_acceptHello_88 rfl ?_
  refine gm_getI (own := RX10) (x := (T3 e 9)) rfl dX10_acceptHello_89 lfX10_241 (sC_E_0 (by omega)) rfl rfl ?_
  refine gm_iload_n dX10_acceptHello_92 rfl ?_
  refine gm_iconst (v := 0) dX10_acceptHello_93 (by decide) ?_
  refine gm_callV (r1 := (some (.int r11))) (own := RX10) rfl dX10_acceptHello_94 llX10_149 mvX10_sendPlain sC_0 rfl [.ref e, .int 1, .int (T3 e 9), .int r5, .int 0] [] rfl rfl (Nat.le_of_ble_eq_true rfl) (by decide) rfl h12 rfl ?_
  refine gm_pop dX10_acceptHello_97 ?_
  exact gm_vret dX10_acceptHello_98 rfl
/-- X10_acceptHello 0 [13t] -> ret  -/
theorem PX10_acceptHello_2 {e : Nat} {q : Nat} {S : gm_Mem} {T1 : gm_Mem} {r3 : Int32} {r5 : Int32} {r7 : Int32} {T2 : gm_Mem} {T3 : gm_Mem} {T4 : gm_Mem} {r11 : Int32} (ke : e = 14) (kq : (28 ≤ q ∧ q < 52) ∨ q = 122) (c1 : ¬ (S q 6) = (-1)) (h2 : gm_run gC 1 YX7_use 0 [some (.ref 52), some (.int (S q 6))] [] (gm_u S e 9 (S q 2)) none T1) (h4 : gm_run gC 0 YX10_mix 0 [some (.int (T1 q 2)), some (.int (T1 1 8)), none] [] T1 (some (.int r3)) T1) (h6 : gm_run gC 0 YX10_mix 0 [some (.int (T1 q 5)), some (.int r3), none] [] T1 (some (.int r5)) T1) (h8 : gm_run gC 1 YX10_baseOf 0 [some (.int (T1 q 5)), some (.int r5), some (.int (T1 q 2))] [] T1 (some (.int r7)) T1) (h9 : gm_run gC 1 YX10_changeState 0 [some (.ref 0), some (.ref e), some (.int 2)] [] (gm_u T1 e 10 r7) none T2) (h10 : gm_run gC 1 YX0_beginKeys 0 [some (.ref e)] [] T2 none T3) (h12 : gm_run gC 2 YX10_sendPlain 0 [some (.ref 0), some (.ref e), some (.int 1), some (.int (T3 e 9)), some (.int r5), some (.int 0), none] [] T3 (some (.int r11)) T4) : gm_run gC 3 YX10_acceptHello 0 [some (.ref 0), some (.ref e), some (.ref q), none] [] S none T4 := by
  refine gm_aload_n dX10_acceptHello_0 rfl ?_
  refine gm_aload_n dX10_acceptHello_1 rfl ?_
  refine gm_getI (own := RX10) (x := (S q 2)) rfl dX10_acceptHello_2 lfX10_146 (sC_Pk_0 (by omega)) rfl rfl ?_
  refine gm_put (own := RX10) rfl dX10_acceptHello_5 lfX10_241 (sC_E_0 (by omega)) rfl (gm_fit_int _) ?_
  refine gm_aload_n dX10_acceptHello_8 rfl ?_
  refine gm_getI (own := RX10) (x := (S q 6)) rfl dX10_acceptHello_9 lfX10_170 (sC_Pk_0 (by omega)) rfl (gm_rp (by omega)) ?_
  refine gm_iconst (v := (-1)) dX10_acceptHello_12 (by decide) ?_
  refine gm_icmp_ne_t (tgt := 23) dX10_acceptHello_13 (by decide) c1 ?_
  refine gm_aload_n dX10_acceptHello_23 rfl ?_
  refine gm_getR (own := RX10) (q := 1) rfl dX10_acceptHello_24 lfX10_10 sC_0 rfl ?_
  refine gm_getR (own := RX10) (q := 52) rfl dX10_acceptHello_27 lfX10_186 sC_1 rfl ?_
  refine gm_aload_n dX10_acceptHello_30 rfl ?_
  refine gm_getI (own := RX10) (x := (S q 6)) rfl dX10_acceptHello_31 lfX10_170 (sC_Pk_0 (by omega)) rfl (gm_rp (by omega)) ?_
  refine gm_callV (r1 := none) (own := RX10) rfl dX10_acceptHello_34 llX10_417 mvX7_use sC_52 rfl [.int (S q 6)] [] rfl rfl (Nat.le_of_ble_eq_true rfl) (by decide) rfl h2 rfl ?_
  refine gm_aload_n dX10_acceptHello_37 rfl ?_
  refine gm_getI (own := RX10) (x := (T1 q 5)) rfl dX10_acceptHello_38 lfX10_295 (sC_Pk_0 (by omega)) rfl rfl ?_
  refine gm_aload_n dX10_acceptHello_41 rfl ?_
  refine gm_getI (own := RX10) (x := (T1 q 2)) rfl dX10_acceptHello_42 lfX10_146 (sC_Pk_0 (by omega)) rfl rfl ?_
  refine gm_aload_n dX10_acceptHello_45 rfl ?_
  refine gm_getR (own := RX10) (q := 1) rfl dX10_acceptHello_46 lfX10_10 sC_0 rfl ?_
  refine gm_getI (own := RX10) (x := (T1 1 8)) rfl dX10_acceptHello_49 lfX10_173 sC_1 rfl rfl ?_
  refine gm_callS (r1 := (some (.int r3))) (own := RX10) rfl dX10_acceptHello_52 llX10_286 msX10_mix [.int (T1 q 2), .int (T1 1 8)] [.int (T1 q 5)] rfl rfl (Nat.le_of_ble_eq_true rfl) (by decide) rfl h4 rfl ?_
  refine gm_callS (r1 := (some (.int r5))) (own := RX10) rfl dX10_acceptHello_55 llX10_286 msX10_mix [.int (T1 q 5), .int r3] [] rfl rfl (Nat.le_of_ble_eq_true rfl) (by decide) rfl h6 rfl ?_
  refine gm_istore_n (L' := [some (.ref 0), some (.ref e), some (.ref q), some (.int r5)]) dX10_acceptHello_58 (by decide) rfl ?_
  refine gm_aload_n dX10_acceptHello_59 rfl ?_
  refine gm_aload_n dX10_acceptHello_60 rfl ?_
  refine gm_getI (own := RX10) (x := (T1 q 5)) rfl dX10_acceptHello_61 lfX10_295 (sC_Pk_0 (by omega)) rfl rfl ?_
  refine gm_iload_n dX10_acceptHello_64 rfl ?_
  refine gm_aload_n dX10_acceptHello_65 rfl ?_
  refine gm_getI (own := RX10) (x := (T1 q 2)) rfl dX10_acceptHello_66 lfX10_146 (sC_Pk_0 (by omega)) rfl rfl ?_
  refine gm_callS (r1 := (some (.int r7))) (own := RX10) rfl dX10_acceptHello_69 llX10_420 msX10_baseOf [.int (T1 q 5), .int r5, .int (T1 q 2)] [.ref e] rfl rfl (Nat.le_of_ble_eq_true rfl) (by decide) rfl h8 rfl ?_
  refine gm_put (own := RX10) rfl dX10_acceptHello_72 lfX10_242 (sC_E_0 (by omega)) rfl (gm_fit_int _) ?_
  refine gm_aload_n dX10_acceptHello_75 rfl ?_
  refine gm_aload_n dX10_acceptHello_76 rfl ?_
  refine gm_iconst (v := 2) dX10_acceptHello_77 (by decide) ?_
  refine gm_callV (r1 := none) (own := RX10) rfl dX10_acceptHello_78 llX10_310 mvX10_changeState sC_0 rfl [.ref e, .int 2] [] rfl rfl (Nat.le_of_ble_eq_true rfl) (by decide) rfl h9 rfl ?_
  refine gm_aload_n dX10_acceptHello_81 rfl ?_
  refine gm_callV (r1 := none) (own := RX10) rfl dX10_acceptHello_82 llX10_424 mvX0_beginKeys (sC_E_0 (by omega)) rfl [] [] rfl rfl (Nat.le_of_ble_eq_true rfl) (by decide) rfl h10 rfl ?_
  refine gm_aload_n dX10_acceptHello_85 rfl ?_
  refine gm_aload_n dX10_acceptHello_86 rfl ?_
  refine gm_iconst (v := 1) dX10_acceptHello_87 (by decide) ?_
  refine gm_aload_n dX10_acceptHello_88 rfl ?_
  refine gm_getI (own := RX10) (x := (T3 e 9)) rfl dX10_acceptHello_89 lfX10_241 (sC_E_0 (by omega)) rfl rfl ?_
  refine gm_iload_n dX10_acceptHello_92 rfl ?_
  refine gm_iconst (v := 0) dX10_acceptHello_93 (by decide) ?_
  refine gm_callV (r1 := (some (.int r11))) (own := RX10) rfl dX10_acceptHello_94 llX10_149 mvX10_sendPlain sC_0 rfl [.ref e, .int 1, .int (T3 e 9), .int r5, .int 0] [] rfl rfl (Nat.le_of_ble_eq_true rfl) (by decide) rfl h12 rfl ?_
  refine gm_pop dX10_acceptHello_97 ?_
  exact gm_vret dX10_acceptHello_98 rfl
/-- X10_acceptReply 0 [] -> ret  -/
theorem PX10_acceptReply_1 {e : Nat} {q : Nat} {S : gm_Mem} {r1 : Int32} {T1 : gm_Mem} {T2 : gm_Mem} {T3 : gm_Mem} {r5 : Int32} {T4 : gm_Mem} (ke : e = 2) (kq : (28 ≤ q ∧ q < 52) ∨ q = 122) (h2 : gm_run gC 1 YX10_baseOf 0 [some (.int (S e 15)), some (.int (S q 5)), some (.int (S e 9))] [] S (some (.int r1)) S) (h3 : gm_run gC 1 YX10_changeState 0 [some (.ref 0), some (.ref e), some (.int 3)] [] (gm_u S e 10 r1) none T1) (h4 : gm_run gC 1 YX0_beginKeys 0 [some (.ref e)] [] T1 none T2) (h6 : gm_run gC 2 YX10_sendProtected 0 [some (.ref 0), some (.ref e), some (.int 3), some (.int 0), some (.int 0), none] [] T2 (some (.int r5)) T3) (h7 : gm_run gC 3 YX10_sendDue 0 [some (.ref 0), some (.ref e), none, none, none] [] T3 none T4) : gm_run gC 4 YX10_acceptReply 0 [some (.ref 0), some (.ref e), some (.ref q)] [] S none T4 := by
  refine gm_aload_n dX10_acceptReply_0 rfl ?_
  refine gm_aload_n dX10_acceptReply_1 rfl ?_
  refine gm_getI (own := RX10) (x := (S e 15)) rfl dX10_acceptReply_2 lfX10_304 (sC_E_0 (by omega)) rfl rfl ?_
  refine gm_aload_n dX10_acceptReply_5 rfl ?_
  refine gm_getI (own := RX10) (x := (S q 5)) rfl dX10_acceptReply_6 lfX10_295 (sC_Pk_0 (by omega)) rfl rfl ?_
  refine gm_aload_n dX10_acceptReply_9 rfl ?_
  refine gm_getI (own := RX10) (x := (S e 9)) rfl dX10_acceptReply_10 lfX10_241 (sC_E_0 (by omega)) rfl rfl ?_
  refine gm_callS (r1 := (some (.int r1))) (own := RX10) rfl dX10_acceptReply_13 llX10_420 msX10_baseOf [.int (S e 15), .int (S q 5), .int (S e 9)] [.ref e] rfl rfl (Nat.le_of_ble_eq_true rfl) (by decide) rfl h2 rfl ?_
  refine gm_put (own := RX10) rfl dX10_acceptReply_16 lfX10_242 (sC_E_0 (by omega)) rfl (gm_fit_int _) ?_
  refine gm_aload_n dX10_acceptReply_19 rfl ?_
  refine gm_aload_n dX10_acceptReply_20 rfl ?_
  refine gm_iconst (v := 3) dX10_acceptReply_21 (by decide) ?_
  refine gm_callV (r1 := none) (own := RX10) rfl dX10_acceptReply_22 llX10_310 mvX10_changeState sC_0 rfl [.ref e, .int 3] [] rfl rfl (Nat.le_of_ble_eq_true rfl) (by decide) rfl h3 rfl ?_
  refine gm_aload_n dX10_acceptReply_25 rfl ?_
  refine gm_callV (r1 := none) (own := RX10) rfl dX10_acceptReply_26 llX10_424 mvX0_beginKeys (sC_E_0 (by omega)) rfl [] [] rfl rfl (Nat.le_of_ble_eq_true rfl) (by decide) rfl h4 rfl ?_
  refine gm_aload_n dX10_acceptReply_29 rfl ?_
  refine gm_aload_n dX10_acceptReply_30 rfl ?_
  refine gm_iconst (v := 3) dX10_acceptReply_31 (by decide) ?_
  refine gm_iconst (v := 0) dX10_acceptReply_32 (by decide) ?_
  refine gm_iconst (v := 0) dX10_acceptReply_33 (by decide) ?_
  refine gm_callV (r1 := (some (.int r5))) (own := RX10) rfl dX10_acceptReply_34 llX10_369 mvX10_sendProtected sC_0 rfl [.ref e, .int 3, .int 0, .int 0] [] rfl rfl (Nat.le_of_ble_eq_true rfl) (by decide) rfl h6 rfl ?_
  refine gm_pop dX10_acceptReply_37 ?_
  refine gm_aload_n dX10_acceptReply_38 rfl ?_
  refine gm_aload_n dX10_acceptReply_39 rfl ?_
  refine gm_callV (r1 := none) (own := RX10) rfl dX10_acceptReply_40 llX10_327 mvX10_sendDue sC_0 rfl [.ref e] [] rfl rfl (Nat.le_of_ble_eq_true rfl) (by decide) rfl h7 rfl ?_
  exact gm_vret dX10_acceptReply_43 rfl
/-- X10_acceptPlain 0 [4f] -> ret  -/
theorem PX10_acceptPlain_1 {e : Nat} {q : Nat} {S : gm_Mem} {T1 : gm_Mem} (ke : e = 2 ∨ e = 14) (kq : (28 ≤ q ∧ q < 52) ∨ q = 122) (c1 : (S q 1) = 0) (h2 : gm_run gC 3 YX10_acceptHello 0 [some (.ref 0), some (.ref e), some (.ref q), none] [] S none T1) : gm_run gC 5 YX10_acceptPlain 0 [some (.ref 0), some (.ref e), some (.ref q)] [] S none T1 := by
  refine gm_aload_n dX10_acceptPlain_0 rfl ?_
  refine gm_getI (own := RX10) (x := (S q 1)) rfl dX10_acceptPlain_1 lfX10_137 (sC_Pk_0 (by omega)) rfl rfl ?_
  refine gm_if_ne_f dX10_acceptPlain_4 ⟨16, by decide⟩ c1 ?_
  refine gm_aload_n dX10_acceptPlain_7 rfl ?_
  refine gm_aload_n dX10_acceptPlain_8 rfl ?_
  refine gm_aload_n dX10_acceptPlain_9 rfl ?_
  refine gm_callV (r1 := none) (own := RX10) rfl dX10_acceptPlain_10 llX10_411 mvX10_acceptHello sC_0 rfl [.ref e, .ref q] [] rfl rfl (Nat.le_of_ble_eq_true rfl) (by decide) rfl h2 rfl ?_
  refine gm_goto (tgt := 39) dX10_acceptPlain_13 (by decide) ?_
  exact gm_vret dX10_acceptPlain_39 rfl
/-- X10_acceptPlain 0 [4t 21f] -> ret  -/
theorem PX10_acceptPlain_2 {e : Nat} {q : Nat} {S : gm_Mem} {T1 : gm_Mem} (ke : e = 2 ∨ e = 14) (kq : (28 ≤ q ∧ q < 52) ∨ q = 122) (c1 : ¬ (S q 1) = 0) (c2 : (S q 1) = 1) (h3 : gm_run gC 4 YX10_acceptReply 0 [some (.ref 0), some (.ref e), some (.ref q)] [] S none T1) : gm_run gC 5 YX10_acceptPlain 0 [some (.ref 0), some (.ref e), some (.ref q)] [] S none T1 := by
  refine gm_aload_n dX10_acceptPlain_0 rfl ?_
  refine gm_getI (own := RX10) (x := (S q 1)) rfl dX10_acceptPlain_1 lfX10_137 (sC_Pk_0 (by omega)) rfl rfl ?_
  refine gm_if_ne_t (tgt := 16) dX10_acceptPlain_4 (by decide) c1 ?_
  refine gm_aload_n dX10_acceptPlain_16 rfl ?_
  refine gm_getI (own := RX10) (x := (S q 1)) rfl dX10_acceptPlain_17 lfX10_137 (sC_Pk_0 (by omega)) rfl rfl ?_
  refine gm_iconst (v := 1) dX10_acceptPlain_20 (by decide) ?_
  refine gm_icmp_ne_f dX10_acceptPlain_21 ⟨33, by decide⟩ c2 ?_
  refine gm_aload_n dX10_acceptPlain_24 rfl ?_
  refine gm_aload_n dX10_acceptPlain_25 rfl ?_
  refine gm_aload_n dX10_acceptPlain_26 rfl ?_
  refine gm_callV (r1 := none) (own := RX10) rfl dX10_acceptPlain_27 llX10_414 mvX10_acceptReply sC_0 rfl [.ref e, .ref q] [] rfl rfl (Nat.le_of_ble_eq_true rfl) (by decide) rfl h3 rfl ?_
  refine gm_goto (tgt := 39) dX10_acceptPlain_30 (by decide) ?_
  exact gm_vret dX10_acceptPlain_39 rfl
/-- X10_acceptPlain 0 [4t 21t] -> ret  -/
theorem PX10_acceptPlain_3 {e : Nat} {q : Nat} {S : gm_Mem} {T1 : gm_Mem} (ke : e = 2 ∨ e = 14) (kq : (28 ≤ q ∧ q < 52) ∨ q = 122) (c1 : ¬ (S q 1) = 0) (c2 : ¬ (S q 1) = 1) (h3 : gm_run gC 1 YX10_changeState 0 [some (.ref 0), some (.ref e), some (.int 0)] [] S none T1) : gm_run gC 5 YX10_acceptPlain 0 [some (.ref 0), some (.ref e), some (.ref q)] [] S none T1 := by
  refine gm_aload_n dX10_acceptPlain_0 rfl ?_
  refine gm_getI (own := RX10) (x := (S q 1)) rfl dX10_acceptPlain_1 lfX10_137 (sC_Pk_0 (by omega)) rfl rfl ?_
  refine gm_if_ne_t (tgt := 16) dX10_acceptPlain_4 (by decide) c1 ?_
  refine gm_aload_n dX10_acceptPlain_16 rfl ?_
  refine gm_getI (own := RX10) (x := (S q 1)) rfl dX10_acceptPlain_17 lfX10_137 (sC_Pk_0 (by omega)) rfl rfl ?_
  refine gm_iconst (v := 1) dX10_acceptPlain_20 (by decide) ?_
  refine gm_icmp_ne_t (tgt := 33) dX10_acceptPlain_21 (by decide) c2 ?_
  refine gm_aload_n dX10_acceptPlain_33 rfl ?_
  refine gm_aload_n dX10_acceptPlain_34 rfl ?_
  refine gm_iconst (v := 0) dX10_acceptPlain_35 (by decide) ?_
  refine gm_callV (r1 := none) (own := RX10) rfl dX10_acceptPlain_36 llX10_310 mvX10_changeState sC_0 rfl [.ref e, .int 0] [] rfl rfl (Nat.le_of_ble_eq_true rfl) (by decide) rfl h3 rfl ?_
  exact gm_vret dX10_acceptPlain_39 rfl
/-- X10_issueTicket 0 [12f] -> ret  -/
theorem PX10_issueTicket_1 {e : Nat} {S : gm_Mem} {T1 : gm_Mem} {r2 : Int32} {T2 : gm_Mem} {r4 : Int32} (ke : e = 14) (c1 : (S 52 2) < 16) (h3 : gm_run gC 0 YX7_issue 0 [some (.ref 52), some (.int (S 1 8)), none] [] S (some (.int r2)) T1) (h5 : gm_run gC 2 YX10_sendProtected 0 [some (.ref 0), some (.ref e), some (.int 6), some (.int r2), some (.int 0), none] [] T1 (some (.int r4)) T2) : gm_run gC 3 YX10_issueTicket 0 [some (.ref 0), some (.ref e), none] [] S none T2 := by
  refine gm_aload_n dX10_issueTicket_0 rfl ?_
  refine gm_getR (own := RX10) (q := 1) rfl dX10_issueTicket_1 lfX10_10 sC_0 rfl ?_
  refine gm_getR (own := RX10) (q := 52) rfl dX10_issueTicket_4 lfX10_186 sC_1 rfl ?_
  refine gm_getI (own := RX10) (x := (S 52 2)) rfl dX10_issueTicket_7 lfX10_190 sC_52 rfl rfl ?_
  refine gm_bipush (v := 16) dX10_issueTicket_10 (by decide) ?_
  refine gm_icmp_ge_f dX10_issueTicket_12 ⟨43, by decide⟩ c1 ?_
  refine gm_aload_n dX10_issueTicket_15 rfl ?_
  refine gm_getR (own := RX10) (q := 1) rfl dX10_issueTicket_16 lfX10_10 sC_0 rfl ?_
  refine gm_getR (own := RX10) (q := 52) rfl dX10_issueTicket_19 lfX10_186 sC_1 rfl ?_
  refine gm_aload_n dX10_issueTicket_22 rfl ?_
  refine gm_getR (own := RX10) (q := 1) rfl dX10_issueTicket_23 lfX10_10 sC_0 rfl ?_
  refine gm_getI (own := RX10) (x := (S 1 8)) rfl dX10_issueTicket_26 lfX10_173 sC_1 rfl rfl ?_
  refine gm_callV (r1 := (some (.int r2))) (own := RX10) rfl dX10_issueTicket_29 llX10_443 mvX7_issue sC_52 rfl [.int (S 1 8)] [] rfl rfl (Nat.le_of_ble_eq_true rfl) (by decide) rfl h3 rfl ?_
  refine gm_istore_n (L' := [some (.ref 0), some (.ref e), some (.int r2)]) dX10_issueTicket_32 (by decide) rfl ?_
  refine gm_aload_n dX10_issueTicket_33 rfl ?_
  refine gm_aload_n dX10_issueTicket_34 rfl ?_
  refine gm_bipush (v := 6) dX10_issueTicket_35 (by decide) ?_
  refine gm_iload_n dX10_issueTicket_37 rfl ?_
  refine gm_iconst (v := 0) dX10_issueTicket_38 (by decide) ?_
  refine gm_callV (r1 := (some (.int r4))) (own := RX10) rfl dX10_issueTicket_39 llX10_369 mvX10_sendProtected sC_0 rfl [.ref e, .int 6, .int r2, .int 0] [] rfl rfl (Nat.le_of_ble_eq_true rfl) (by decide) rfl h5 rfl ?_
  refine gm_pop dX10_issueTicket_42 ?_
  exact gm_vret dX10_issueTicket_43 rfl
/-- X10_issueTicket 0 [12t] -> ret  -/
theorem PX10_issueTicket_2 {e : Nat} {S : gm_Mem} (ke : e = 14) (c1 : ¬ (S 52 2) < 16) : gm_run gC 3 YX10_issueTicket 0 [some (.ref 0), some (.ref e), none] [] S none S := by
  refine gm_aload_n dX10_issueTicket_0 rfl ?_
  refine gm_getR (own := RX10) (q := 1) rfl dX10_issueTicket_1 lfX10_10 sC_0 rfl ?_
  refine gm_getR (own := RX10) (q := 52) rfl dX10_issueTicket_4 lfX10_186 sC_1 rfl ?_
  refine gm_getI (own := RX10) (x := (S 52 2)) rfl dX10_issueTicket_7 lfX10_190 sC_52 rfl rfl ?_
  refine gm_bipush (v := 16) dX10_issueTicket_10 (by decide) ?_
  refine gm_icmp_ge_t (tgt := 43) dX10_issueTicket_12 (by decide) c1 ?_
  exact gm_vret dX10_issueTicket_43 rfl
/-- X10_acceptProtected 0 [17f] -> cut 31 -/
theorem PX10_acceptProtected_1 {e : Nat} {q : Nat} {S : gm_Mem} {T1 : gm_Mem} {T2 : gm_Mem} {T3 : gm_Mem} {r : Option Value} {S2 : gm_Mem} (ke : e = 2 ∨ e = 14) (kq : (28 ≤ q ∧ q < 52) ∨ q = 122) (h1 : gm_run gC 1 YX0_enterInWindow 0 [some (.ref e), some (.int (S q 3)), some (.int (S q 4))] [] S none T1) (c2 : (T1 e 8) = 2) (h3 : gm_run gC 1 YX10_changeState 0 [some (.ref 0), some (.ref e), some (.int 3)] [] T1 none T2) (h4 : gm_run gC 3 YX10_issueTicket 0 [some (.ref 0), some (.ref e), none] [] T2 none T3) (K : gm_run gC 4 YX10_acceptProtected 31 [some (.ref 0), some (.ref e), some (.ref q)] [] T3 r S2) : gm_run gC 4 YX10_acceptProtected 0 [some (.ref 0), some (.ref e), some (.ref q)] [] S r S2 := by
  refine gm_aload_n dX10_acceptProtected_0 rfl ?_
  refine gm_aload_n dX10_acceptProtected_1 rfl ?_
  refine gm_getI (own := RX10) (x := (S q 3)) rfl dX10_acceptProtected_2 lfX10_289 (sC_Pk_0 (by omega)) rfl rfl ?_
  refine gm_aload_n dX10_acceptProtected_5 rfl ?_
  refine gm_getI (own := RX10) (x := (S q 4)) rfl dX10_acceptProtected_6 lfX10_292 (sC_Pk_0 (by omega)) rfl rfl ?_
  refine gm_callV (r1 := none) (own := RX10) rfl dX10_acceptProtected_9 llX10_427 mvX0_enterInWindow (sC_E_0 (by omega)) rfl [.int (S q 3), .int (S q 4)] [] rfl rfl (Nat.le_of_ble_eq_true rfl) (by decide) rfl h1 rfl ?_
  refine gm_aload_n dX10_acceptProtected_12 rfl ?_
  refine gm_getI (own := RX10) (x := (T1 e 8)) rfl dX10_acceptProtected_13 lfX10_52 (sC_E_0 (by omega)) rfl rfl ?_
  refine gm_iconst (v := 2) dX10_acceptProtected_16 (by decide) ?_
  refine gm_icmp_ne_f dX10_acceptProtected_17 ⟨31, by decide⟩ c2 ?_
  refine gm_aload_n dX10_acceptProtected_20 rfl ?_
  refine gm_aload_n dX10_acceptProtected_21 rfl ?_
  refine gm_iconst (v := 3) dX10_acceptProtected_22 (by decide) ?_
  refine gm_callV (r1 := none) (own := RX10) rfl dX10_acceptProtected_23 llX10_310 mvX10_changeState sC_0 rfl [.ref e, .int 3] [] rfl rfl (Nat.le_of_ble_eq_true rfl) (by decide) rfl h3 rfl ?_
  refine gm_aload_n dX10_acceptProtected_26 rfl ?_
  refine gm_aload_n dX10_acceptProtected_27 rfl ?_
  refine gm_callV (r1 := none) (own := RX10) rfl dX10_acceptProtected_28 llX10_430 mvX10_issueTicket sC_0 rfl [.ref e] [] rfl rfl (Nat.le_of_ble_eq_true rfl) (by decide) rfl h4 rfl ?_
  exact K
/-- X10_acceptProtected 0 [17t] -> cut 31 -/
theorem PX10_acceptProtected_2 {e : Nat} {q : Nat} {S : gm_Mem} {T1 : gm_Mem} {r : Option Value} {S2 : gm_Mem} (ke : e = 2 ∨ e = 14) (kq : (28 ≤ q ∧ q < 52) ∨ q = 122) (h1 : gm_run gC 1 YX0_enterInWindow 0 [some (.ref e), some (.int (S q 3)), some (.int (S q 4))] [] S none T1) (c2 : ¬ (T1 e 8) = 2) (K : gm_run gC 4 YX10_acceptProtected 31 [some (.ref 0), some (.ref e), some (.ref q)] [] T1 r S2) : gm_run gC 4 YX10_acceptProtected 0 [some (.ref 0), some (.ref e), some (.ref q)] [] S r S2 := by
  refine gm_aload_n dX10_acceptProtected_0 rfl ?_
  refine gm_aload_n dX10_acceptProtected_1 rfl ?_
  refine gm_getI (own := RX10) (x := (S q 3)) rfl dX10_acceptProtected_2 lfX10_289 (sC_Pk_0 (by omega)) rfl rfl ?_
  refine gm_aload_n dX10_acceptProtected_5 rfl ?_
  refine gm_getI (own := RX10) (x := (S q 4)) rfl dX10_acceptProtected_6 lfX10_292 (sC_Pk_0 (by omega)) rfl rfl ?_
  refine gm_callV (r1 := none) (own := RX10) rfl dX10_acceptProtected_9 llX10_427 mvX0_enterInWindow (sC_E_0 (by omega)) rfl [.int (S q 3), .int (S q 4)] [] rfl rfl (Nat.le_of_ble_eq_true rfl) (by decide) rfl h1 rfl ?_
  refine gm_aload_n dX10_acceptProtected_12 rfl ?_
  refine gm_getI (own := RX10) (x := (T1 e 8)) rfl dX10_acceptProtected_13 lfX10_52 (sC_E_0 (by omega)) rfl rfl ?_
  refine gm_iconst (v := 2) dX10_acceptProtected_16 (by decide) ?_
  refine gm_icmp_ne_t (tgt := 31) dX10_acceptProtected_17 (by decide) c2 ?_
  exact K
/-- X10_acceptProtected 31 [48f] -> cut 107 -/
theorem PX10_acceptProtected_3 {e : Nat} {q : Nat} {S : gm_Mem} {T1 : gm_Mem} {r : Option Value} {S2 : gm_Mem} (ke : e = 2 ∨ e = 14) (kq : (28 ≤ q ∧ q < 52) ∨ q = 122) (h1 : gm_run gC 1 YX4_acknowledge 0 [some (.ref (e + 2)), some (.int (S q 7)), none, none] [] S none T1) (c2 : (T1 q 1) = 6) (K : gm_run gC 4 YX10_acceptProtected 107 [some (.ref 0), some (.ref e), some (.ref q)] [] (gm_u T1 e 14 (T1 q 5)) r S2) : gm_run gC 4 YX10_acceptProtected 31 [some (.ref 0), some (.ref e), some (.ref q)] [] S r S2 := by
  refine gm_aload_n dX10_acceptProtected_31 rfl ?_
  refine gm_getR (own := RX10) (q := (e + 2)) rfl dX10_acceptProtected_32 lfX10_221 (sC_E_0 (by omega)) rfl ?_
  refine gm_aload_n dX10_acceptProtected_35 rfl ?_
  refine gm_getI (own := RX10) (x := (S q 7)) rfl dX10_acceptProtected_36 lfX10_298 (sC_Pk_0 (by omega)) rfl rfl ?_
  refine gm_callV (r1 := none) (own := RX10) rfl dX10_acceptProtected_39 llX10_433 mvX4_acknowledge (sC_E_2 (by omega)) rfl [.int (S q 7)] [] rfl rfl (Nat.le_of_ble_eq_true rfl) (by decide) rfl h1 rfl ?_
  refine gm_aload_n dX10_acceptProtected_42 rfl ?_
  refine gm_getI (own := RX10) (x := (T1 q 1)) rfl dX10_acceptProtected_43 lfX10_137 (sC_Pk_0 (by omega)) rfl rfl ?_
  refine gm_bipush (v := 6) dX10_acceptProtected_46 (by decide) ?_
  refine gm_icmp_ne_f dX10_acceptProtected_48 ⟨62, by decide⟩ c2 ?_
  refine gm_aload_n dX10_acceptProtected_51 rfl ?_
  refine gm_aload_n dX10_acceptProtected_52 rfl ?_
  refine gm_getI (own := RX10) (x := (T1 q 5)) rfl dX10_acceptProtected_53 lfX10_295 (sC_Pk_0 (by omega)) rfl rfl ?_
  refine gm_put (own := RX10) rfl dX10_acceptProtected_56 lfX10_79 (sC_E_0 (by omega)) rfl (gm_fit_int _) ?_
  refine gm_goto (tgt := 107) dX10_acceptProtected_59 (by decide) ?_
  exact K
/-- X10_acceptProtected 31 [48t 66f 87f] -> cut 95 -/
theorem PX10_acceptProtected_4 {e : Nat} {q : Nat} {S : gm_Mem} {T1 : gm_Mem} {r3 : Int32} {r : Option Value} {S2 : gm_Mem} (ke : e = 2 ∨ e = 14) (kq : (28 ≤ q ∧ q < 52) ∨ q = 122) (h1 : gm_run gC 1 YX4_acknowledge 0 [some (.ref (e + 2)), some (.int (S q 7)), none, none] [] S none T1) (c2 : ¬ (T1 q 1) = 6) (h4 : gm_run gC 0 YX5_bringsMessage 0 [some (.ref q)] [] T1 (some (.int r3)) T1) (c5 : ¬ r3 = 0) (c6 : (T1 q 1) = 7) (K : gm_run gC 4 YX10_acceptProtected 95 [some (.ref 0), some (.ref e), some (.ref q)] [.int 1, .int (T1 q 6), .int (T1 q 5), .ref (e + 5)] T1 r S2) : gm_run gC 4 YX10_acceptProtected 31 [some (.ref 0), some (.ref e), some (.ref q)] [] S r S2 := by
  refine gm_aload_n dX10_acceptProtected_31 rfl ?_
  refine gm_getR (own := RX10) (q := (e + 2)) rfl dX10_acceptProtected_32 lfX10_221 (sC_E_0 (by omega)) rfl ?_
  refine gm_aload_n dX10_acceptProtected_35 rfl ?_
  refine gm_getI (own := RX10) (x := (S q 7)) rfl dX10_acceptProtected_36 lfX10_298 (sC_Pk_0 (by omega)) rfl rfl ?_
  refine gm_callV (r1 := none) (own := RX10) rfl dX10_acceptProtected_39 llX10_433 mvX4_acknowledge (sC_E_2 (by omega)) rfl [.int (S q 7)] [] rfl rfl (Nat.le_of_ble_eq_true rfl) (by decide) rfl h1 rfl ?_
  refine gm_aload_n dX10_acceptProtected_42 rfl ?_
  refine gm_getI (own := RX10) (x := (T1 q 1)) rfl dX10_acceptProtected_43 lfX10_137 (sC_Pk_0 (by omega)) rfl rfl ?_
  refine gm_bipush (v := 6) dX10_acceptProtected_46 (by decide) ?_
  refine gm_icmp_ne_t (tgt := 62) dX10_acceptProtected_48 (by decide) c2 ?_
  refine gm_aload_n dX10_acceptProtected_62 rfl ?_
  refine gm_callV (r1 := (some (.int r3))) (own := RX10) rfl dX10_acceptProtected_63 llX10_405 mvX5_bringsMessage (sC_Pk_0 (by omega)) rfl [] [] rfl rfl (Nat.le_of_ble_eq_true rfl) (by decide) rfl h4 rfl ?_
  refine gm_if_eq_f dX10_acceptProtected_66 ⟨107, by decide⟩ c5 ?_
  refine gm_aload_n dX10_acceptProtected_69 rfl ?_
  refine gm_getR (own := RX10) (q := (e + 5)) rfl dX10_acceptProtected_70 lfX10_212 (sC_E_0 (by omega)) rfl ?_
  refine gm_aload_n dX10_acceptProtected_73 rfl ?_
  refine gm_getI (own := RX10) (x := (T1 q 5)) rfl dX10_acceptProtected_74 lfX10_295 (sC_Pk_0 (by omega)) rfl rfl ?_
  refine gm_aload_n dX10_acceptProtected_77 rfl ?_
  refine gm_getI (own := RX10) (x := (T1 q 6)) rfl dX10_acceptProtected_78 lfX10_170 (sC_Pk_0 (by omega)) rfl rfl ?_
  refine gm_aload_n dX10_acceptProtected_81 rfl ?_
  refine gm_getI (own := RX10) (x := (T1 q 1)) rfl dX10_acceptProtected_82 lfX10_137 (sC_Pk_0 (by omega)) rfl rfl ?_
  refine gm_bipush (v := 7) dX10_acceptProtected_85 (by decide) ?_
  refine gm_icmp_ne_f dX10_acceptProtected_87 ⟨94, by decide⟩ c6 ?_
  refine gm_iconst (v := 1) dX10_acceptProtected_90 (by decide) ?_
  refine gm_goto (tgt := 95) dX10_acceptProtected_91 (by decide) ?_
  exact K
/-- X10_acceptProtected 31 [48t 66f 87t] -> cut 95 -/
theorem PX10_acceptProtected_5 {e : Nat} {q : Nat} {S : gm_Mem} {T1 : gm_Mem} {r3 : Int32} {r : Option Value} {S2 : gm_Mem} (ke : e = 2 ∨ e = 14) (kq : (28 ≤ q ∧ q < 52) ∨ q = 122) (h1 : gm_run gC 1 YX4_acknowledge 0 [some (.ref (e + 2)), some (.int (S q 7)), none, none] [] S none T1) (c2 : ¬ (T1 q 1) = 6) (h4 : gm_run gC 0 YX5_bringsMessage 0 [some (.ref q)] [] T1 (some (.int r3)) T1) (c5 : ¬ r3 = 0) (c6 : ¬ (T1 q 1) = 7) (K : gm_run gC 4 YX10_acceptProtected 95 [some (.ref 0), some (.ref e), some (.ref q)] [.int 0, .int (T1 q 6), .int (T1 q 5), .ref (e + 5)] T1 r S2) : gm_run gC 4 YX10_acceptProtected 31 [some (.ref 0), some (.ref e), some (.ref q)] [] S r S2 := by
  refine gm_aload_n dX10_acceptProtected_31 rfl ?_
  refine gm_getR (own := RX10) (q := (e + 2)) rfl dX10_acceptProtected_32 lfX10_221 (sC_E_0 (by omega)) rfl ?_
  refine gm_aload_n dX10_acceptProtected_35 rfl ?_
  refine gm_getI (own := RX10) (x := (S q 7)) rfl dX10_acceptProtected_36 lfX10_298 (sC_Pk_0 (by omega)) rfl rfl ?_
  refine gm_callV (r1 := none) (own := RX10) rfl dX10_acceptProtected_39 llX10_433 mvX4_acknowledge (sC_E_2 (by omega)) rfl [.int (S q 7)] [] rfl rfl (Nat.le_of_ble_eq_true rfl) (by decide) rfl h1 rfl ?_
  refine gm_aload_n dX10_acceptProtected_42 rfl ?_
  refine gm_getI (own := RX10) (x := (T1 q 1)) rfl dX10_acceptProtected_43 lfX10_137 (sC_Pk_0 (by omega)) rfl rfl ?_
  refine gm_bipush (v := 6) dX10_acceptProtected_46 (by decide) ?_
  refine gm_icmp_ne_t (tgt := 62) dX10_acceptProtected_48 (by decide) c2 ?_
  refine gm_aload_n dX10_acceptProtected_62 rfl ?_
  refine gm_callV (r1 := (some (.int r3))) (own := RX10) rfl dX10_acceptProtected_63 llX10_405 mvX5_bringsMessage (sC_Pk_0 (by omega)) rfl [] [] rfl rfl (Nat.le_of_ble_eq_true rfl) (by decide) rfl h4 rfl ?_
  refine gm_if_eq_f dX10_acceptProtected_66 ⟨107, by decide⟩ c5 ?_
  refine gm_aload_n dX10_acceptProtected_69 rfl ?_
  refine gm_getR (own := RX10) (q := (e + 5)) rfl dX10_acceptProtected_70 lfX10_212 (sC_E_0 (by omega)) rfl ?_
  refine gm_aload_n dX10_acceptProtected_73 rfl ?_
  refine gm_getI (own := RX10) (x := (T1 q 5)) rfl dX10_acceptProtected_74 lfX10_295 (sC_Pk_0 (by omega)) rfl rfl ?_
  refine gm_aload_n dX10_acceptProtected_77 rfl ?_
  refine gm_getI (own := RX10) (x := (T1 q 6)) rfl dX10_acceptProtected_78 lfX10_170 (sC_Pk_0 (by omega)) rfl rfl ?_
  refine gm_aload_n dX10_acceptProtected_81 rfl ?_
  refine gm_getI (own := RX10) (x := (T1 q 1)) rfl dX10_acceptProtected_82 lfX10_137 (sC_Pk_0 (by omega)) rfl rfl ?_
  refine gm_bipush (v := 7) dX10_acceptProtected_85 (by decide) ?_
  refine gm_icmp_ne_t (tgt := 94) dX10_acceptProtected_87 (by decide) c6 ?_
  refine gm_iconst (v := 0) dX10_acceptProtected_94 (by decide) ?_
  exact K
/-- X10_acceptProtected 31 [48t 66t] -> cut 107 -/
theorem PX10_acceptProtected_6 {e : Nat} {q : Nat} {S : gm_Mem} {T1 : gm_Mem} {r3 : Int32} {r : Option Value} {S2 : gm_Mem} (ke : e = 2 ∨ e = 14) (kq : (28 ≤ q ∧ q < 52) ∨ q = 122) (h1 : gm_run gC 1 YX4_acknowledge 0 [some (.ref (e + 2)), some (.int (S q 7)), none, none] [] S none T1) (c2 : ¬ (T1 q 1) = 6) (h4 : gm_run gC 0 YX5_bringsMessage 0 [some (.ref q)] [] T1 (some (.int r3)) T1) (c5 : r3 = 0) (K : gm_run gC 4 YX10_acceptProtected 107 [some (.ref 0), some (.ref e), some (.ref q)] [] T1 r S2) : gm_run gC 4 YX10_acceptProtected 31 [some (.ref 0), some (.ref e), some (.ref q)] [] S r S2 := by
  refine gm_aload_n dX10_acceptProtected_31 rfl ?_
  refine gm_getR (own := RX10) (q := (e + 2)) rfl dX10_acceptProtected_32 lfX10_221 (sC_E_0 (by omega)) rfl ?_
  refine gm_aload_n dX10_acceptProtected_35 rfl ?_
  refine gm_getI (own := RX10) (x := (S q 7)) rfl dX10_acceptProtected_36 lfX10_298 (sC_Pk_0 (by omega)) rfl rfl ?_
  refine gm_callV (r1 := none) (own := RX10) rfl dX10_acceptProtected_39 llX10_433 mvX4_acknowledge (sC_E_2 (by omega)) rfl [.int (S q 7)] [] rfl rfl (Nat.le_of_ble_eq_true rfl) (by decide) rfl h1 rfl ?_
  refine gm_aload_n dX10_acceptProtected_42 rfl ?_
  refine gm_getI (own := RX10) (x := (T1 q 1)) rfl dX10_acceptProtected_43 lfX10_137 (sC_Pk_0 (by omega)) rfl rfl ?_
  refine gm_bipush (v := 6) dX10_acceptProtected_46 (by decide) ?_
  refine gm_icmp_ne_t (tgt := 62) dX10_acceptProtected_48 (by decide) c2 ?_
  refine gm_aload_n dX10_acceptProtected_62 rfl ?_
  refine gm_callV (r1 := (some (.int r3))) (own := RX10) rfl dX10_acceptProtected_63 llX10_405 mvX5_bringsMessage (sC_Pk_0 (by omega)) rfl [] [] rfl rfl (Nat.le_of_ble_eq_true rfl) (by decide) rfl h4 rfl ?_
  refine gm_if_eq_t (tgt := 107) dX10_acceptProtected_66 (by decide) c5 ?_
  exact K
/-- X10_acceptProtected 107 [117f 124f] -> ret  -/
theorem PX10_acceptProtected_7 {e : Nat} {q : Nat} {S : gm_Mem} {T1 : gm_Mem} {r3 : Int32} {T2 : gm_Mem} (ke : e = 2 ∨ e = 14) (kq : (28 ≤ q ∧ q < 52) ∨ q = 122) (h1 : gm_run gC 3 YX10_sendDue 0 [some (.ref 0), some (.ref e), none, none, none] [] S none T1) (c2 : (T1 e 8) = 3) (h4 : gm_run gC 1 YX0_hasEnded 0 [some (.ref e)] [] T1 (some (.int r3)) T1) (c5 : ¬ r3 = 0) (h6 : gm_run gC 1 YX10_changeState 0 [some (.ref 0), some (.ref e), some (.int 4)] [] T1 none T2) : gm_run gC 4 YX10_acceptProtected 107 [some (.ref 0), some (.ref e), some (.ref q)] [] S none T2 := by
  refine gm_aload_n dX10_acceptProtected_107 rfl ?_
  refine gm_aload_n dX10_acceptProtected_108 rfl ?_
  refine gm_callV (r1 := none) (own := RX10) rfl dX10_acceptProtected_109 llX10_327 mvX10_sendDue sC_0 rfl [.ref e] [] rfl rfl (Nat.le_of_ble_eq_true rfl) (by decide) rfl h1 rfl ?_
  refine gm_aload_n dX10_acceptProtected_112 rfl ?_
  refine gm_getI (own := RX10) (x := (T1 e 8)) rfl dX10_acceptProtected_113 lfX10_52 (sC_E_0 (by omega)) rfl rfl ?_
  refine gm_iconst (v := 3) dX10_acceptProtected_116 (by decide) ?_
  refine gm_icmp_ne_f dX10_acceptProtected_117 ⟨133, by decide⟩ c2 ?_
  refine gm_aload_n dX10_acceptProtected_120 rfl ?_
  refine gm_callV (r1 := (some (.int r3))) (own := RX10) rfl dX10_acceptProtected_121 llX10_440 mvX0_hasEnded (sC_E_0 (by omega)) rfl [] [] rfl rfl (Nat.le_of_ble_eq_true rfl) (by decide) rfl h4 rfl ?_
  refine gm_if_eq_f dX10_acceptProtected_124 ⟨133, by decide⟩ c5 ?_
  refine gm_aload_n dX10_acceptProtected_127 rfl ?_
  refine gm_aload_n dX10_acceptProtected_128 rfl ?_
  refine gm_iconst (v := 4) dX10_acceptProtected_129 (by decide) ?_
  refine gm_callV (r1 := none) (own := RX10) rfl dX10_acceptProtected_130 llX10_310 mvX10_changeState sC_0 rfl [.ref e, .int 4] [] rfl rfl (Nat.le_of_ble_eq_true rfl) (by decide) rfl h6 rfl ?_
  exact gm_vret dX10_acceptProtected_133 rfl
/-- X10_acceptProtected 107 [117f 124t] -> ret  -/
theorem PX10_acceptProtected_8 {e : Nat} {q : Nat} {S : gm_Mem} {T1 : gm_Mem} {r3 : Int32} (ke : e = 2 ∨ e = 14) (kq : (28 ≤ q ∧ q < 52) ∨ q = 122) (h1 : gm_run gC 3 YX10_sendDue 0 [some (.ref 0), some (.ref e), none, none, none] [] S none T1) (c2 : (T1 e 8) = 3) (h4 : gm_run gC 1 YX0_hasEnded 0 [some (.ref e)] [] T1 (some (.int r3)) T1) (c5 : r3 = 0) : gm_run gC 4 YX10_acceptProtected 107 [some (.ref 0), some (.ref e), some (.ref q)] [] S none T1 := by
  refine gm_aload_n dX10_acceptProtected_107 rfl ?_
  refine gm_aload_n dX10_acceptProtected_108 rfl ?_
  refine gm_callV (r1 := none) (own := RX10) rfl dX10_acceptProtected_109 llX10_327 mvX10_sendDue sC_0 rfl [.ref e] [] rfl rfl (Nat.le_of_ble_eq_true rfl) (by decide) rfl h1 rfl ?_
  refine gm_aload_n dX10_acceptProtected_112 rfl ?_
  refine gm_getI (own := RX10) (x := (T1 e 8)) rfl dX10_acceptProtected_113 lfX10_52 (sC_E_0 (by omega)) rfl rfl ?_
  refine gm_iconst (v := 3) dX10_acceptProtected_116 (by decide) ?_
  refine gm_icmp_ne_f dX10_acceptProtected_117 ⟨133, by decide⟩ c2 ?_
  refine gm_aload_n dX10_acceptProtected_120 rfl ?_
  refine gm_callV (r1 := (some (.int r3))) (own := RX10) rfl dX10_acceptProtected_121 llX10_440 mvX0_hasEnded (sC_E_0 (by omega)) rfl [] [] rfl rfl (Nat.le_of_ble_eq_true rfl) (by decide) rfl h4 rfl ?_
  refine gm_if_eq_t (tgt := 133) dX10_acceptProtected_124 (by decide) c5 ?_
  exact gm_vret dX10_acceptProtected_133 rfl
/-- X10_acceptProtected 107 [117t] -> ret  -/
theorem PX10_acceptProtected_9 {e : Nat} {q : Nat} {S : gm_Mem} {T1 : gm_Mem} (ke : e = 2 ∨ e = 14) (kq : (28 ≤ q ∧ q < 52) ∨ q = 122) (h1 : gm_run gC 3 YX10_sendDue 0 [some (.ref 0), some (.ref e), none, none, none] [] S none T1) (c2 : ¬ (T1 e 8) = 3) : gm_run gC 4 YX10_acceptProtected 107 [some (.ref 0), some (.ref e), some (.ref q)] [] S none T1 := by
  refine gm_aload_n dX10_acceptProtected_107 rfl ?_
  refine gm_aload_n dX10_acceptProtected_108 rfl ?_
  refine gm_callV (r1 := none) (own := RX10) rfl dX10_acceptProtected_109 llX10_327 mvX10_sendDue sC_0 rfl [.ref e] [] rfl rfl (Nat.le_of_ble_eq_true rfl) (by decide) rfl h1 rfl ?_
  refine gm_aload_n dX10_acceptProtected_112 rfl ?_
  refine gm_getI (own := RX10) (x := (T1 e 8)) rfl dX10_acceptProtected_113 lfX10_52 (sC_E_0 (by omega)) rfl rfl ?_
  refine gm_iconst (v := 3) dX10_acceptProtected_116 (by decide) ?_
  refine gm_icmp_ne_t (tgt := 133) dX10_acceptProtected_117 (by decide) c2 ?_
  exact gm_vret dX10_acceptProtected_133 rfl
/-- X10_acceptProtected 95 [] -> cut 107 -/
theorem PX10_acceptProtected_10 {e : Nat} {q : Nat} {s0 : Int32} {s1 : Int32} {s2 : Int32} {S : gm_Mem} {T1 : gm_Mem} {T2 : gm_Mem} {r2 : Int32} {r : Option Value} {S2 : gm_Mem} (ke : e = 2 ∨ e = 14) (kq : (28 ≤ q ∧ q < 52) ∨ q = 122) (h1 : gm_run gC 1 YX1_take 0 [some (.ref (e + 5)), some (.int s2), some (.int s1), some (.int s0), none, none] [] S none T1) (h3 : gm_run gC 2 YX10_sendProtected 0 [some (.ref 0), some (.ref e), some (.int 5), some (.int 0), some (.int 0), none] [] T1 (some (.int r2)) T2) (K : gm_run gC 4 YX10_acceptProtected 107 [some (.ref 0), some (.ref e), some (.ref q)] [] T2 r S2) : gm_run gC 4 YX10_acceptProtected 95 [some (.ref 0), some (.ref e), some (.ref q)] [.int s0, .int s1, .int s2, .ref (e + 5)] S r S2 := by
  refine gm_callV (r1 := none) (own := RX10) rfl dX10_acceptProtected_95 llX10_436 mvX1_take (sC_E_5 (by omega)) rfl [.int s2, .int s1, .int s0] [] rfl rfl (Nat.le_of_ble_eq_true rfl) (by decide) rfl h1 rfl ?_
  refine gm_aload_n dX10_acceptProtected_98 rfl ?_
  refine gm_aload_n dX10_acceptProtected_99 rfl ?_
  refine gm_iconst (v := 5) dX10_acceptProtected_100 (by decide) ?_
  refine gm_iconst (v := 0) dX10_acceptProtected_101 (by decide) ?_
  refine gm_iconst (v := 0) dX10_acceptProtected_102 (by decide) ?_
  refine gm_callV (r1 := (some (.int r2))) (own := RX10) rfl dX10_acceptProtected_103 llX10_369 mvX10_sendProtected sC_0 rfl [.ref e, .int 5, .int 0, .int 0] [] rfl rfl (Nat.le_of_ble_eq_true rfl) (by decide) rfl h3 rfl ?_
  refine gm_pop dX10_acceptProtected_106 ?_
  exact K
/-- X10_isRefused 0 [2f 30f] -> ret  -/
theorem PX10_isRefused_1 {a1 : Int32} {S : gm_Mem} {r2 : Int32} (c1 : ¬ a1 = (-1)) (h3 : gm_run gC 1 YX7_isValid 0 [some (.ref 52), some (.int a1), some (.int (S 1 8)), some (.int (S 1 7))] [] S (some (.int r2)) S) (c4 : r2 = 0) : gm_run gC 2 YX10_isRefused 0 [some (.ref 0), some (.int a1)] [] S (some (.int 1)) S := by
  refine gm_iload_n dX10_isRefused_0 rfl ?_
  refine gm_iconst (v := (-1)) dX10_isRefused_1 (by decide) ?_
  refine gm_icmp_eq_f dX10_isRefused_2 ⟨37, by decide⟩ c1 ?_
  refine gm_aload_n dX10_isRefused_5 rfl ?_
  refine gm_getR (own := RX10) (q := 1) rfl dX10_isRefused_6 lfX10_10 sC_0 rfl ?_
  refine gm_getR (own := RX10) (q := 52) rfl dX10_isRefused_9 lfX10_186 sC_1 rfl ?_
  refine gm_iload_n dX10_isRefused_12 rfl ?_
  refine gm_aload_n dX10_isRefused_13 rfl ?_
  refine gm_getR (own := RX10) (q := 1) rfl dX10_isRefused_14 lfX10_10 sC_0 rfl ?_
  refine gm_getI (own := RX10) (x := (S 1 8)) rfl dX10_isRefused_17 lfX10_173 sC_1 rfl rfl ?_
  refine gm_aload_n dX10_isRefused_20 rfl ?_
  refine gm_getR (own := RX10) (q := 1) rfl dX10_isRefused_21 lfX10_10 sC_0 rfl ?_
  refine gm_getI (own := RX10) (x := (S 1 7)) rfl dX10_isRefused_24 lfX10_45 sC_1 rfl rfl ?_
  refine gm_callV (r1 := (some (.int r2))) (own := RX10) rfl dX10_isRefused_27 llX10_385 mvX7_isValid sC_52 rfl [.int a1, .int (S 1 8), .int (S 1 7)] [] rfl rfl (Nat.le_of_ble_eq_true rfl) (by decide) rfl h3 rfl ?_
  refine gm_if_ne_f dX10_isRefused_30 ⟨37, by decide⟩ c4 ?_
  refine gm_iconst (v := 1) dX10_isRefused_33 (by decide) ?_
  refine gm_goto (tgt := 38) dX10_isRefused_34 (by decide) ?_
  exact gm_zret dX10_isRefused_38 rfl gm_fit_1
/-- X10_isRefused 0 [2f 30t] -> ret  -/
theorem PX10_isRefused_2 {a1 : Int32} {S : gm_Mem} {r2 : Int32} (c1 : ¬ a1 = (-1)) (h3 : gm_run gC 1 YX7_isValid 0 [some (.ref 52), some (.int a1), some (.int (S 1 8)), some (.int (S 1 7))] [] S (some (.int r2)) S) (c4 : ¬ r2 = 0) : gm_run gC 2 YX10_isRefused 0 [some (.ref 0), some (.int a1)] [] S (some (.int 0)) S := by
  refine gm_iload_n dX10_isRefused_0 rfl ?_
  refine gm_iconst (v := (-1)) dX10_isRefused_1 (by decide) ?_
  refine gm_icmp_eq_f dX10_isRefused_2 ⟨37, by decide⟩ c1 ?_
  refine gm_aload_n dX10_isRefused_5 rfl ?_
  refine gm_getR (own := RX10) (q := 1) rfl dX10_isRefused_6 lfX10_10 sC_0 rfl ?_
  refine gm_getR (own := RX10) (q := 52) rfl dX10_isRefused_9 lfX10_186 sC_1 rfl ?_
  refine gm_iload_n dX10_isRefused_12 rfl ?_
  refine gm_aload_n dX10_isRefused_13 rfl ?_
  refine gm_getR (own := RX10) (q := 1) rfl dX10_isRefused_14 lfX10_10 sC_0 rfl ?_
  refine gm_getI (own := RX10) (x := (S 1 8)) rfl dX10_isRefused_17 lfX10_173 sC_1 rfl rfl ?_
  refine gm_aload_n dX10_isRefused_20 rfl ?_
  refine gm_getR (own := RX10) (q := 1) rfl dX10_isRefused_21 lfX10_10 sC_0 rfl ?_
  refine gm_getI (own := RX10) (x := (S 1 7)) rfl dX10_isRefused_24 lfX10_45 sC_1 rfl rfl ?_
  refine gm_callV (r1 := (some (.int r2))) (own := RX10) rfl dX10_isRefused_27 llX10_385 mvX7_isValid sC_52 rfl [.int a1, .int (S 1 8), .int (S 1 7)] [] rfl rfl (Nat.le_of_ble_eq_true rfl) (by decide) rfl h3 rfl ?_
  refine gm_if_ne_t (tgt := 37) dX10_isRefused_30 (by decide) c4 ?_
  refine gm_iconst (v := 0) dX10_isRefused_37 (by decide) ?_
  exact gm_zret dX10_isRefused_38 rfl gm_fit_0
/-- X10_isRefused 0 [2t] -> ret  -/
theorem PX10_isRefused_3 {a1 : Int32} {S : gm_Mem} (c1 : a1 = (-1)) : gm_run gC 2 YX10_isRefused 0 [some (.ref 0), some (.int a1)] [] S (some (.int 0)) S := by
  refine gm_iload_n dX10_isRefused_0 rfl ?_
  refine gm_iconst (v := (-1)) dX10_isRefused_1 (by decide) ?_
  refine gm_icmp_eq_t (tgt := 37) dX10_isRefused_2 (by decide) c1 ?_
  refine gm_iconst (v := 0) dX10_isRefused_37 (by decide) ?_
  exact gm_zret dX10_isRefused_38 rfl gm_fit_0
/-- X10_protectedResultOf 0 [8f] -> ret  -/
theorem PX10_protectedResultOf_1 {q : Nat} {e : Nat} {S : gm_Mem} {r1 : Int32} (kq : (28 ≤ q ∧ q < 52) ∨ q = 122) (ke : e = 2 ∨ e = 14) (h2 : gm_run gC 0 YX0_takesEpoch 0 [some (.ref e), some (.int (S q 3)), none] [] S (some (.int r1)) S) (c3 : r1 = 0) : gm_run gC 2 YX10_protectedResultOf 0 [some (.ref 0), some (.ref q), some (.ref e), none] [] S (some (.int 3)) S := by
  refine gm_aload_n dX10_protectedResultOf_0 rfl ?_
  refine gm_aload_n dX10_protectedResultOf_1 rfl ?_
  refine gm_getI (own := RX10) (x := (S q 3)) rfl dX10_protectedResultOf_2 lfX10_289 (sC_Pk_0 (by omega)) rfl rfl ?_
  refine gm_callV (r1 := (some (.int r1))) (own := RX10) rfl dX10_protectedResultOf_5 llX10_389 mvX0_takesEpoch (sC_E_0 (by omega)) rfl [.int (S q 3)] [] rfl rfl (Nat.le_of_ble_eq_true rfl) (by decide) rfl h2 rfl ?_
  refine gm_if_ne_f dX10_protectedResultOf_8 ⟨13, by decide⟩ c3 ?_
  refine gm_iconst (v := 3) dX10_protectedResultOf_11 (by decide) ?_
  exact gm_iret dX10_protectedResultOf_12 rfl
/-- X10_protectedResultOf 0 [8t 25f] -> ret  -/
theorem PX10_protectedResultOf_2 {q : Nat} {e : Nat} {S : gm_Mem} {r1 : Int32} {r4 : Int32} (kq : (28 ≤ q ∧ q < 52) ∨ q = 122) (ke : e = 2 ∨ e = 14) (h2 : gm_run gC 0 YX0_takesEpoch 0 [some (.ref e), some (.int (S q 3)), none] [] S (some (.int r1)) S) (c3 : ¬ r1 = 0) (h5 : gm_run gC 1 YX10_tagOf 0 [some (.ref q), some (.int (S e 10)), none, none] [] S (some (.int r4)) S) (c6 : ¬ (S q 8) = r4) : gm_run gC 2 YX10_protectedResultOf 0 [some (.ref 0), some (.ref q), some (.ref e), none] [] S (some (.int 4)) S := by
  refine gm_aload_n dX10_protectedResultOf_0 rfl ?_
  refine gm_aload_n dX10_protectedResultOf_1 rfl ?_
  refine gm_getI (own := RX10) (x := (S q 3)) rfl dX10_protectedResultOf_2 lfX10_289 (sC_Pk_0 (by omega)) rfl rfl ?_
  refine gm_callV (r1 := (some (.int r1))) (own := RX10) rfl dX10_protectedResultOf_5 llX10_389 mvX0_takesEpoch (sC_E_0 (by omega)) rfl [.int (S q 3)] [] rfl rfl (Nat.le_of_ble_eq_true rfl) (by decide) rfl h2 rfl ?_
  refine gm_if_ne_t (tgt := 13) dX10_protectedResultOf_8 (by decide) c3 ?_
  refine gm_aload_n dX10_protectedResultOf_13 rfl ?_
  refine gm_getI (own := RX10) (x := (S q 8)) rfl dX10_protectedResultOf_14 lfX10_353 (sC_Pk_0 (by omega)) rfl rfl ?_
  refine gm_aload_n dX10_protectedResultOf_17 rfl ?_
  refine gm_aload_n dX10_protectedResultOf_18 rfl ?_
  refine gm_getI (own := RX10) (x := (S e 10)) rfl dX10_protectedResultOf_19 lfX10_242 (sC_E_0 (by omega)) rfl rfl ?_
  refine gm_callS (r1 := (some (.int r4))) (own := RX10) rfl dX10_protectedResultOf_22 llX10_349 msX10_tagOf [.ref q, .int (S e 10)] [.int (S q 8)] rfl rfl (Nat.le_of_ble_eq_true rfl) (by decide) rfl h5 rfl ?_
  refine gm_icmp_eq_f dX10_protectedResultOf_25 ⟨30, by decide⟩ c6 ?_
  refine gm_iconst (v := 4) dX10_protectedResultOf_28 (by decide) ?_
  exact gm_iret dX10_protectedResultOf_29 rfl
/-- X10_protectedResultOf 0 [8t 25t 38f 58f] -> ret  -/
theorem PX10_protectedResultOf_3 {q : Nat} {e : Nat} {S : gm_Mem} {r1 : Int32} {r4 : Int32} {q8 : Nat} {r10 : Int32} (kq : (28 ≤ q ∧ q < 52) ∨ q = 122) (ke : e = 2 ∨ e = 14) (h2 : gm_run gC 0 YX0_takesEpoch 0 [some (.ref e), some (.int (S q 3)), none] [] S (some (.int r1)) S) (c3 : ¬ r1 = 0) (h5 : gm_run gC 1 YX10_tagOf 0 [some (.ref q), some (.int (S e 10)), none, none] [] S (some (.int r4)) S) (c6 : (S q 8) = r4) (c7 : ¬ (S e 13) < (S q 3)) (kq8 : q8 = 12 ∨ q8 = 13 ∨ q8 = 24 ∨ q8 = 25 ∨ q8 = 70 ∨ q8 = 71 ∨ q8 = 82 ∨ q8 = 83) (h9 : gm_run gC 0 YX0_windowOf 0 [some (.ref e), some (.int (S q 3))] [] S (some (.ref q8)) S) (h11 : gm_run gC 0 YX8_isBehind 0 [some (.ref q8), some (.int (S q 4))] [] S (some (.int r10)) S) (c12 : ¬ r10 = 0) : gm_run gC 2 YX10_protectedResultOf 0 [some (.ref 0), some (.ref q), some (.ref e), none] [] S (some (.int 5)) S := by
  refine gm_aload_n dX10_protectedResultOf_0 rfl ?_
  refine gm_aload_n dX10_protectedResultOf_1 rfl ?_
  refine gm_getI (own := RX10) (x := (S q 3)) rfl dX10_protectedResultOf_2 lfX10_289 (sC_Pk_0 (by omega)) rfl rfl ?_
  refine gm_callV (r1 := (some (.int r1))) (own := RX10) rfl dX10_protectedResultOf_5 llX10_389 mvX0_takesEpoch (sC_E_0 (by omega)) rfl [.int (S q 3)] [] rfl rfl (Nat.le_of_ble_eq_true rfl) (by decide) rfl h2 rfl ?_
  refine gm_if_ne_t (tgt := 13) dX10_protectedResultOf_8 (by decide) c3 ?_
  refine gm_aload_n dX10_protectedResultOf_13 rfl ?_
  refine gm_getI (own := RX10) (x := (S q 8)) rfl dX10_protectedResultOf_14 lfX10_353 (sC_Pk_0 (by omega)) rfl rfl ?_
  refine gm_aload_n dX10_protectedResultOf_17 rfl ?_
  refine gm_aload_n dX10_protectedResultOf_18 rfl ?_
  refine gm_getI (own := RX10) (x := (S e 10)) rfl dX10_protectedResultOf_19 lfX10_242 (sC_E_0 (by omega)) rfl rfl ?_
  refine gm_callS (r1 := (some (.int r4))) (own := RX10) rfl dX10_protectedResultOf_22 llX10_349 msX10_tagOf [.ref q, .int (S e 10)] [.int (S q 8)] rfl rfl (Nat.le_of_ble_eq_true rfl) (by decide) rfl h5 rfl ?_
  refine gm_icmp_eq_t (tgt := 30) dX10_protectedResultOf_25 (by decide) c6 ?_
  refine gm_aload_n dX10_protectedResultOf_30 rfl ?_
  refine gm_getI (own := RX10) (x := (S q 3)) rfl dX10_protectedResultOf_31 lfX10_289 (sC_Pk_0 (by omega)) rfl rfl ?_
  refine gm_aload_n dX10_protectedResultOf_34 rfl ?_
  refine gm_getI (own := RX10) (x := (S e 13)) rfl dX10_protectedResultOf_35 lfX10_392 (sC_E_0 (by omega)) rfl rfl ?_
  refine gm_icmp_gt_f dX10_protectedResultOf_38 ⟨77, by decide⟩ c7 ?_
  refine gm_aload_n dX10_protectedResultOf_41 rfl ?_
  refine gm_aload_n dX10_protectedResultOf_42 rfl ?_
  refine gm_getI (own := RX10) (x := (S q 3)) rfl dX10_protectedResultOf_43 lfX10_289 (sC_Pk_0 (by omega)) rfl rfl ?_
  refine gm_callV (r1 := (some (.ref q8))) (own := RX10) rfl dX10_protectedResultOf_46 llX10_395 mvX0_windowOf (sC_E_0 (by omega)) rfl [.int (S q 3)] [] rfl rfl (Nat.le_of_ble_eq_true rfl) (by decide) rfl h9 rfl ?_
  refine gm_astore_n (L' := [some (.ref 0), some (.ref q), some (.ref e), some (.ref q8)]) dX10_protectedResultOf_49 (by decide) rfl ?_
  refine gm_aload_n dX10_protectedResultOf_50 rfl ?_
  refine gm_aload_n dX10_protectedResultOf_51 rfl ?_
  refine gm_getI (own := RX10) (x := (S q 4)) rfl dX10_protectedResultOf_52 lfX10_292 (sC_Pk_0 (by omega)) rfl rfl ?_
  refine gm_callV (r1 := (some (.int r10))) (own := RX10) rfl dX10_protectedResultOf_55 llX10_399 mvX8_isBehind (sC_Wi_0 (by omega)) rfl [.int (S q 4)] [] rfl rfl (Nat.le_of_ble_eq_true rfl) (by decide) rfl h11 rfl ?_
  refine gm_if_eq_f dX10_protectedResultOf_58 ⟨63, by decide⟩ c12 ?_
  refine gm_iconst (v := 5) dX10_protectedResultOf_61 (by decide) ?_
  exact gm_iret dX10_protectedResultOf_62 rfl
/-- X10_protectedResultOf 0 [8t 25t 38f 58t 71f] -> ret  -/
theorem PX10_protectedResultOf_4 {q : Nat} {e : Nat} {S : gm_Mem} {r1 : Int32} {r4 : Int32} {q8 : Nat} {r10 : Int32} {r13 : Int32} (kq : (28 ≤ q ∧ q < 52) ∨ q = 122) (ke : e = 2 ∨ e = 14) (h2 : gm_run gC 0 YX0_takesEpoch 0 [some (.ref e), some (.int (S q 3)), none] [] S (some (.int r1)) S) (c3 : ¬ r1 = 0) (h5 : gm_run gC 1 YX10_tagOf 0 [some (.ref q), some (.int (S e 10)), none, none] [] S (some (.int r4)) S) (c6 : (S q 8) = r4) (c7 : ¬ (S e 13) < (S q 3)) (kq8 : q8 = 12 ∨ q8 = 13 ∨ q8 = 24 ∨ q8 = 25 ∨ q8 = 70 ∨ q8 = 71 ∨ q8 = 82 ∨ q8 = 83) (h9 : gm_run gC 0 YX0_windowOf 0 [some (.ref e), some (.int (S q 3))] [] S (some (.ref q8)) S) (h11 : gm_run gC 0 YX8_isBehind 0 [some (.ref q8), some (.int (S q 4))] [] S (some (.int r10)) S) (c12 : r10 = 0) (h14 : gm_run gC 0 YX8_holds 0 [some (.ref q8), some (.int (S q 4)), none] [] S (some (.int r13)) S) (c15 : ¬ r13 = 0) : gm_run gC 2 YX10_protectedResultOf 0 [some (.ref 0), some (.ref q), some (.ref e), none] [] S (some (.int 6)) S := by
  refine gm_aload_n dX10_protectedResultOf_0 rfl ?_
  refine gm_aload_n dX10_protectedResultOf_1 rfl ?_
  refine gm_getI (own := RX10) (x := (S q 3)) rfl dX10_protectedResultOf_2 lfX10_289 (sC_Pk_0 (by omega)) rfl rfl ?_
  refine gm_callV (r1 := (some (.int r1))) (own := RX10) rfl dX10_protectedResultOf_5 llX10_389 mvX0_takesEpoch (sC_E_0 (by omega)) rfl [.int (S q 3)] [] rfl rfl (Nat.le_of_ble_eq_true rfl) (by decide) rfl h2 rfl ?_
  refine gm_if_ne_t (tgt := 13) dX10_protectedResultOf_8 (by decide) c3 ?_
  refine gm_aload_n dX10_protectedResultOf_13 rfl ?_
  refine gm_getI (own := RX10) (x := (S q 8)) rfl dX10_protectedResultOf_14 lfX10_353 (sC_Pk_0 (by omega)) rfl rfl ?_
  refine gm_aload_n dX10_protectedResultOf_17 rfl ?_
  refine gm_aload_n dX10_protectedResultOf_18 rfl ?_
  refine gm_getI (own := RX10) (x := (S e 10)) rfl dX10_protectedResultOf_19 lfX10_242 (sC_E_0 (by omega)) rfl rfl ?_
  refine gm_callS (r1 := (some (.int r4))) (own := RX10) rfl dX10_protectedResultOf_22 llX10_349 msX10_tagOf [.ref q, .int (S e 10)] [.int (S q 8)] rfl rfl (Nat.le_of_ble_eq_true rfl) (by decide) rfl h5 rfl ?_
  refine gm_icmp_eq_t (tgt := 30) dX10_protectedResultOf_25 (by decide) c6 ?_
  refine gm_aload_n dX10_protectedResultOf_30 rfl ?_
  refine gm_getI (own := RX10) (x := (S q 3)) rfl dX10_protectedResultOf_31 lfX10_289 (sC_Pk_0 (by omega)) rfl rfl ?_
  refine gm_aload_n dX10_protectedResultOf_34 rfl ?_
  refine gm_getI (own := RX10) (x := (S e 13)) rfl dX10_protectedResultOf_35 lfX10_392 (sC_E_0 (by omega)) rfl rfl ?_
  refine gm_icmp_gt_f dX10_protectedResultOf_38 ⟨77, by decide⟩ c7 ?_
  refine gm_aload_n dX10_protectedResultOf_41 rfl ?_
  refine gm_aload_n dX10_protectedResultOf_42 rfl ?_
  refine gm_getI (own := RX10) (x := (S q 3)) rfl dX10_protectedResultOf_43 lfX10_289 (sC_Pk_0 (by omega)) rfl rfl ?_
  refine gm_callV (r1 := (some (.ref q8))) (own := RX10) rfl dX10_protectedResultOf_46 llX10_395 mvX0_windowOf (sC_E_0 (by omega)) rfl [.int (S q 3)] [] rfl rfl (Nat.le_of_ble_eq_true rfl) (by decide) rfl h9 rfl ?_
  refine gm_astore_n (L' := [some (.ref 0), some (.ref q), some (.ref e), some (.ref q8)]) dX10_protectedResultOf_49 (by decide) rfl ?_
  refine gm_aload_n dX10_protectedResultOf_50 rfl ?_
  refine gm_aload_n dX10_protectedResultOf_51 rfl ?_
  refine gm_getI (own := RX10) (x := (S q 4)) rfl dX10_protectedResultOf_52 lfX10_292 (sC_Pk_0 (by omega)) rfl rfl ?_
  refine gm_callV (r1 := (some (.int r10))) (own := RX10) rfl dX10_protectedResultOf_55 llX10_399 mvX8_isBehind (sC_Wi_0 (by omega)) rfl [.int (S q 4)] [] rfl rfl (Nat.le_of_ble_eq_true rfl) (by decide) rfl h11 rfl ?_
  refine gm_if_eq_t (tgt := 63) dX10_protectedResultOf_58 (by decide) c12 ?_
  refine gm_aload_n dX10_protectedResultOf_63 rfl ?_
  refine gm_aload_n dX10_protectedResultOf_64 rfl ?_
  refine gm_getI (own := RX10) (x := (S q 4)) rfl dX10_protectedResultOf_65 lfX10_292 (sC_Pk_0 (by omega)) rfl rfl ?_
  refine gm_callV (r1 := (some (.int r13))) (own := RX10) rfl dX10_protectedResultOf_68 llX10_402 mvX8_holds (sC_Wi_0 (by omega)) rfl [.int (S q 4)] [] rfl rfl (Nat.le_of_ble_eq_true rfl) (by decide) rfl h14 rfl ?_
  refine gm_if_eq_f dX10_protectedResultOf_71 ⟨77, by decide⟩ c15 ?_
  refine gm_bipush (v := 6) dX10_protectedResultOf_74 (by decide) ?_
  exact gm_iret dX10_protectedResultOf_76 rfl
/-- X10_protectedResultOf 0 [8t 25t 38f 58t 71t 81f 95f] -> ret  -/
theorem PX10_protectedResultOf_5 {q : Nat} {e : Nat} {S : gm_Mem} {r1 : Int32} {r4 : Int32} {q8 : Nat} {r10 : Int32} {r13 : Int32} {r16 : Int32} {r19 : Int32} (kq : (28 ≤ q ∧ q < 52) ∨ q = 122) (ke : e = 2 ∨ e = 14) (h2 : gm_run gC 0 YX0_takesEpoch 0 [some (.ref e), some (.int (S q 3)), none] [] S (some (.int r1)) S) (c3 : ¬ r1 = 0) (h5 : gm_run gC 1 YX10_tagOf 0 [some (.ref q), some (.int (S e 10)), none, none] [] S (some (.int r4)) S) (c6 : (S q 8) = r4) (c7 : ¬ (S e 13) < (S q 3)) (kq8 : q8 = 12 ∨ q8 = 13 ∨ q8 = 24 ∨ q8 = 25 ∨ q8 = 70 ∨ q8 = 71 ∨ q8 = 82 ∨ q8 = 83) (h9 : gm_run gC 0 YX0_windowOf 0 [some (.ref e), some (.int (S q 3))] [] S (some (.ref q8)) S) (h11 : gm_run gC 0 YX8_isBehind 0 [some (.ref q8), some (.int (S q 4))] [] S (some (.int r10)) S) (c12 : r10 = 0) (h14 : gm_run gC 0 YX8_holds 0 [some (.ref q8), some (.int (S q 4)), none] [] S (some (.int r13)) S) (c15 : r13 = 0) (h17 : gm_run gC 0 YX5_bringsMessage 0 [some (.ref q)] [] S (some (.int r16)) S) (c18 : ¬ r16 = 0) (h20 : gm_run gC 0 YX1_isAfterClose 0 [some (.ref (e + 5)), some (.int (S q 5))] [] S (some (.int r19)) S) (c21 : ¬ r19 = 0) : gm_run gC 2 YX10_protectedResultOf 0 [some (.ref 0), some (.ref q), some (.ref e), none] [] S (some (.int 7)) S := by
  refine gm_aload_n dX10_protectedResultOf_0 rfl ?_
  refine gm_aload_n dX10_protectedResultOf_1 rfl ?_
  refine gm_getI (own := RX10) (x := (S q 3)) rfl dX10_protectedResultOf_2 lfX10_289 (sC_Pk_0 (by omega)) rfl rfl ?_
  refine gm_callV (r1 := (some (.int r1))) (own := RX10) rfl dX10_protectedResultOf_5 llX10_389 mvX0_takesEpoch (sC_E_0 (by omega)) rfl [.int (S q 3)] [] rfl rfl (Nat.le_of_ble_eq_true rfl) (by decide) rfl h2 rfl ?_
  refine gm_if_ne_t (tgt := 13) dX10_protectedResultOf_8 (by decide) c3 ?_
  refine gm_aload_n dX10_protectedResultOf_13 rfl ?_
  refine gm_getI (own := RX10) (x := (S q 8)) rfl dX10_protectedResultOf_14 lfX10_353 (sC_Pk_0 (by omega)) rfl rfl ?_
  refine gm_aload_n dX10_protectedResultOf_17 rfl ?_
  refine gm_aload_n dX10_protectedResultOf_18 rfl ?_
  refine gm_getI (own := RX10) (x := (S e 10)) rfl dX10_protectedResultOf_19 lfX10_242 (sC_E_0 (by omega)) rfl rfl ?_
  refine gm_callS (r1 := (some (.int r4))) (own := RX10) rfl dX10_protectedResultOf_22 llX10_349 msX10_tagOf [.ref q, .int (S e 10)] [.int (S q 8)] rfl rfl (Nat.le_of_ble_eq_true rfl) (by decide) rfl h5 rfl ?_
  refine gm_icmp_eq_t (tgt := 30) dX10_protectedResultOf_25 (by decide) c6 ?_
  refine gm_aload_n dX10_protectedResultOf_30 rfl ?_
  refine gm_getI (own := RX10) (x := (S q 3)) rfl dX10_protectedResultOf_31 lfX10_289 (sC_Pk_0 (by omega)) rfl rfl ?_
  refine gm_aload_n dX10_protectedResultOf_34 rfl ?_
  refine gm_getI (own := RX10) (x := (S e 13)) rfl dX10_protectedResultOf_35 lfX10_392 (sC_E_0 (by omega)) rfl rfl ?_
  refine gm_icmp_gt_f dX10_protectedResultOf_38 ⟨77, by decide⟩ c7 ?_
  refine gm_aload_n dX10_protectedResultOf_41 rfl ?_
  refine gm_aload_n dX10_protectedResultOf_42 rfl ?_
  refine gm_getI (own := RX10) (x := (S q 3)) rfl dX10_protectedResultOf_43 lfX10_289 (sC_Pk_0 (by omega)) rfl rfl ?_
  refine gm_callV (r1 := (some (.ref q8))) (own := RX10) rfl dX10_protectedResultOf_46 llX10_395 mvX0_windowOf (sC_E_0 (by omega)) rfl [.int (S q 3)] [] rfl rfl (Nat.le_of_ble_eq_true rfl) (by decide) rfl h9 rfl ?_
  refine gm_astore_n (L' := [some (.ref 0), some (.ref q), some (.ref e), some (.ref q8)]) dX10_protectedResultOf_49 (by decide) rfl ?_
  refine gm_aload_n dX10_protectedResultOf_50 rfl ?_
  refine gm_aload_n dX10_protectedResultOf_51 rfl ?_
  refine gm_getI (own := RX10) (x := (S q 4)) rfl dX10_protectedResultOf_52 lfX10_292 (sC_Pk_0 (by omega)) rfl rfl ?_
  refine gm_callV (r1 := (some (.int r10))) (own := RX10) rfl dX10_protectedResultOf_55 llX10_399 mvX8_isBehind (sC_Wi_0 (by omega)) rfl [.int (S q 4)] [] rfl rfl (Nat.le_of_ble_eq_true rfl) (by decide) rfl h11 rfl ?_
  refine gm_if_eq_t (tgt := 63) dX10_protectedResultOf_58 (by decide) c12 ?_
  refine gm_aload_n dX10_protectedResultOf_63 rfl ?_
  refine gm_aload_n dX10_protectedResultOf_64 rfl ?_
  refine gm_getI (own := RX10) (x := (S q 4)) rfl dX10_protectedResultOf_65 lfX10_292 (sC_Pk_0 (by omega)) rfl rfl ?_
  refine gm_callV (r1 := (some (.int r13))) (own := RX10) rfl dX10_protectedResultOf_68 llX10_402 mvX8_holds (sC_Wi_0 (by omega)) rfl [.int (S q 4)] [] rfl rfl (Nat.le_of_ble_eq_true rfl) (by decide) rfl h14 rfl ?_
  refine gm_if_eq_t (tgt := 77) dX10_protectedResultOf_71 (by decide) c15 ?_
  refine gm_aload_n dX10_protectedResultOf_77 rfl ?_
  refine gm_callV (r1 := (some (.int r16))) (own := RX10) rfl dX10_protectedResultOf_78 llX10_405 mvX5_bringsMessage (sC_Pk_0 (by omega)) rfl [] [] rfl rfl (Nat.le_of_ble_eq_true rfl) (by decide) rfl h17 rfl ?_
  refine gm_if_eq_f dX10_protectedResultOf_81 ⟨103, by decide⟩ c18 ?_
  refine gm_aload_n dX10_protectedResultOf_84 rfl ?_
  refine gm_getR (own := RX10) (q := (e + 5)) rfl dX10_protectedResultOf_85 lfX10_212 (sC_E_0 (by omega)) rfl ?_
  refine gm_aload_n dX10_protectedResultOf_88 rfl ?_
  refine gm_getI (own := RX10) (x := (S q 5)) rfl dX10_protectedResultOf_89 lfX10_295 (sC_Pk_0 (by omega)) rfl rfl ?_
  refine gm_callV (r1 := (some (.int r19))) (own := RX10) rfl dX10_protectedResultOf_92 llX10_408 mvX1_isAfterClose (sC_E_5 (by omega)) rfl [.int (S q 5)] [] rfl rfl (Nat.le_of_ble_eq_true rfl) (by decide) rfl h20 rfl ?_
  refine gm_if_eq_f dX10_protectedResultOf_95 ⟨103, by decide⟩ c21 ?_
  refine gm_bipush (v := 7) dX10_protectedResultOf_98 (by decide) ?_
  refine gm_goto (tgt := 104) dX10_protectedResultOf_100 (by decide) ?_
  exact gm_iret dX10_protectedResultOf_104 rfl
/-- X10_protectedResultOf 0 [8t 25t 38f 58t 71t 81f 95t] -> ret  -/
theorem PX10_protectedResultOf_6 {q : Nat} {e : Nat} {S : gm_Mem} {r1 : Int32} {r4 : Int32} {q8 : Nat} {r10 : Int32} {r13 : Int32} {r16 : Int32} {r19 : Int32} (kq : (28 ≤ q ∧ q < 52) ∨ q = 122) (ke : e = 2 ∨ e = 14) (h2 : gm_run gC 0 YX0_takesEpoch 0 [some (.ref e), some (.int (S q 3)), none] [] S (some (.int r1)) S) (c3 : ¬ r1 = 0) (h5 : gm_run gC 1 YX10_tagOf 0 [some (.ref q), some (.int (S e 10)), none, none] [] S (some (.int r4)) S) (c6 : (S q 8) = r4) (c7 : ¬ (S e 13) < (S q 3)) (kq8 : q8 = 12 ∨ q8 = 13 ∨ q8 = 24 ∨ q8 = 25 ∨ q8 = 70 ∨ q8 = 71 ∨ q8 = 82 ∨ q8 = 83) (h9 : gm_run gC 0 YX0_windowOf 0 [some (.ref e), some (.int (S q 3))] [] S (some (.ref q8)) S) (h11 : gm_run gC 0 YX8_isBehind 0 [some (.ref q8), some (.int (S q 4))] [] S (some (.int r10)) S) (c12 : r10 = 0) (h14 : gm_run gC 0 YX8_holds 0 [some (.ref q8), some (.int (S q 4)), none] [] S (some (.int r13)) S) (c15 : r13 = 0) (h17 : gm_run gC 0 YX5_bringsMessage 0 [some (.ref q)] [] S (some (.int r16)) S) (c18 : ¬ r16 = 0) (h20 : gm_run gC 0 YX1_isAfterClose 0 [some (.ref (e + 5)), some (.int (S q 5))] [] S (some (.int r19)) S) (c21 : r19 = 0) : gm_run gC 2 YX10_protectedResultOf 0 [some (.ref 0), some (.ref q), some (.ref e), none] [] S (some (.int 0)) S := by
  refine gm_aload_n dX10_protectedResultOf_0 rfl ?_
  refine gm_aload_n dX10_protectedResultOf_1 rfl ?_
  refine gm_getI (own := RX10) (x := (S q 3)) rfl dX10_protectedResultOf_2 lfX10_289 (sC_Pk_0 (by omega)) rfl rfl ?_
  refine gm_callV (r1 := (some (.int r1))) (own := RX10) rfl dX10_protectedResultOf_5 llX10_389 mvX0_takesEpoch (sC_E_0 (by omega)) rfl [.int (S q 3)] [] rfl rfl (Nat.le_of_ble_eq_true rfl) (by decide) rfl h2 rfl ?_
  refine gm_if_ne_t (tgt := 13) dX10_protectedResultOf_8 (by decide) c3 ?_
  refine gm_aload_n dX10_protectedResultOf_13 rfl ?_
  refine gm_getI (own := RX10) (x := (S q 8)) rfl dX10_protectedResultOf_14 lfX10_353 (sC_Pk_0 (by omega)) rfl rfl ?_
  refine gm_aload_n dX10_protectedResultOf_17 rfl ?_
  refine gm_aload_n dX10_protectedResultOf_18 rfl ?_
  refine gm_getI (own := RX10) (x := (S e 10)) rfl dX10_protectedResultOf_19 lfX10_242 (sC_E_0 (by omega)) rfl rfl ?_
  refine gm_callS (r1 := (some (.int r4))) (own := RX10) rfl dX10_protectedResultOf_22 llX10_349 msX10_tagOf [.ref q, .int (S e 10)] [.int (S q 8)] rfl rfl (Nat.le_of_ble_eq_true rfl) (by decide) rfl h5 rfl ?_
  refine gm_icmp_eq_t (tgt := 30) dX10_protectedResultOf_25 (by decide) c6 ?_
  refine gm_aload_n dX10_protectedResultOf_30 rfl ?_
  refine gm_getI (own := RX10) (x := (S q 3)) rfl dX10_protectedResultOf_31 lfX10_289 (sC_Pk_0 (by omega)) rfl rfl ?_
  refine gm_aload_n dX10_protectedResultOf_34 rfl ?_
  refine gm_getI (own := RX10) (x := (S e 13)) rfl dX10_protectedResultOf_35 lfX10_392 (sC_E_0 (by omega)) rfl rfl ?_
  refine gm_icmp_gt_f dX10_protectedResultOf_38 ⟨77, by decide⟩ c7 ?_
  refine gm_aload_n dX10_protectedResultOf_41 rfl ?_
  refine gm_aload_n dX10_protectedResultOf_42 rfl ?_
  refine gm_getI (own := RX10) (x := (S q 3)) rfl dX10_protectedResultOf_43 lfX10_289 (sC_Pk_0 (by omega)) rfl rfl ?_
  refine gm_callV (r1 := (some (.ref q8))) (own := RX10) rfl dX10_protectedResultOf_46 llX10_395 mvX0_windowOf (sC_E_0 (by omega)) rfl [.int (S q 3)] [] rfl rfl (Nat.le_of_ble_eq_true rfl) (by decide) rfl h9 rfl ?_
  refine gm_astore_n (L' := [some (.ref 0), some (.ref q), some (.ref e), some (.ref q8)]) dX10_protectedResultOf_49 (by decide) rfl ?_
  refine gm_aload_n dX10_protectedResultOf_50 rfl ?_
  refine gm_aload_n dX10_protectedResultOf_51 rfl ?_
  refine gm_getI (own := RX10) (x := (S q 4)) rfl dX10_protectedResultOf_52 lfX10_292 (sC_Pk_0 (by omega)) rfl rfl ?_
  refine gm_callV (r1 := (some (.int r10))) (own := RX10) rfl dX10_protectedResultOf_55 llX10_399 mvX8_isBehind (sC_Wi_0 (by omega)) rfl [.int (S q 4)] [] rfl rfl (Nat.le_of_ble_eq_true rfl) (by decide) rfl h11 rfl ?_
  refine gm_if_eq_t (tgt := 63) dX10_protectedResultOf_58 (by decide) c12 ?_
  refine gm_aload_n dX10_protectedResultOf_63 rfl ?_
  refine gm_aload_n dX10_protectedResultOf_64 rfl ?_
  refine gm_getI (own := RX10) (x := (S q 4)) rfl dX10_protectedResultOf_65 lfX10_292 (sC_Pk_0 (by omega)) rfl rfl ?_
  refine gm_callV (r1 := (some (.int r13))) (own := RX10) rfl dX10_protectedResultOf_68 llX10_402 mvX8_holds (sC_Wi_0 (by omega)) rfl [.int (S q 4)] [] rfl rfl (Nat.le_of_ble_eq_true rfl) (by decide) rfl h14 rfl ?_
  refine gm_if_eq_t (tgt := 77) dX10_protectedResultOf_71 (by decide) c15 ?_
  refine gm_aload_n dX10_protectedResultOf_77 rfl ?_
  refine gm_callV (r1 := (some (.int r16))) (own := RX10) rfl dX10_protectedResultOf_78 llX10_405 mvX5_bringsMessage (sC_Pk_0 (by omega)) rfl [] [] rfl rfl (Nat.le_of_ble_eq_true rfl) (by decide) rfl h17 rfl ?_
  refine gm_if_eq_f dX10_protectedResultOf_81 ⟨103, by decide⟩ c18 ?_
  refine gm_aload_n dX10_protectedResultOf_84 rfl ?_
  refine gm_getR (own := RX10) (q := (e + 5)) rfl dX10_protectedResultOf_85 lfX10_212 (sC_E_0 (by omega)) rfl ?_
  refine gm_aload_n dX10_protectedResultOf_88 rfl ?_
  refine gm_getI (own := RX10) (x := (S q 5)) rfl dX10_protectedResultOf_89 lfX10_295 (sC_Pk_0 (by omega)) rfl rfl ?_
  refine gm_callV (r1 := (some (.int r19))) (own := RX10) rfl dX10_protectedResultOf_92 llX10_408 mvX1_isAfterClose (sC_E_5 (by omega)) rfl [.int (S q 5)] [] rfl rfl (Nat.le_of_ble_eq_true rfl) (by decide) rfl h20 rfl ?_
  refine gm_if_eq_t (tgt := 103) dX10_protectedResultOf_95 (by decide) c21 ?_
  refine gm_iconst (v := 0) dX10_protectedResultOf_103 (by decide) ?_
  exact gm_iret dX10_protectedResultOf_104 rfl
/-- X10_protectedResultOf 0 [8t 25t 38f 58t 71t 81t] -> ret  -/
theorem PX10_protectedResultOf_7 {q : Nat} {e : Nat} {S : gm_Mem} {r1 : Int32} {r4 : Int32} {q8 : Nat} {r10 : Int32} {r13 : Int32} {r16 : Int32} (kq : (28 ≤ q ∧ q < 52) ∨ q = 122) (ke : e = 2 ∨ e = 14) (h2 : gm_run gC 0 YX0_takesEpoch 0 [some (.ref e), some (.int (S q 3)), none] [] S (some (.int r1)) S) (c3 : ¬ r1 = 0) (h5 : gm_run gC 1 YX10_tagOf 0 [some (.ref q), some (.int (S e 10)), none, none] [] S (some (.int r4)) S) (c6 : (S q 8) = r4) (c7 : ¬ (S e 13) < (S q 3)) (kq8 : q8 = 12 ∨ q8 = 13 ∨ q8 = 24 ∨ q8 = 25 ∨ q8 = 70 ∨ q8 = 71 ∨ q8 = 82 ∨ q8 = 83) (h9 : gm_run gC 0 YX0_windowOf 0 [some (.ref e), some (.int (S q 3))] [] S (some (.ref q8)) S) (h11 : gm_run gC 0 YX8_isBehind 0 [some (.ref q8), some (.int (S q 4))] [] S (some (.int r10)) S) (c12 : r10 = 0) (h14 : gm_run gC 0 YX8_holds 0 [some (.ref q8), some (.int (S q 4)), none] [] S (some (.int r13)) S) (c15 : r13 = 0) (h17 : gm_run gC 0 YX5_bringsMessage 0 [some (.ref q)] [] S (some (.int r16)) S) (c18 : r16 = 0) : gm_run gC 2 YX10_protectedResultOf 0 [some (.ref 0), some (.ref q), some (.ref e), none] [] S (some (.int 0)) S := by
  refine gm_aload_n dX10_protectedResultOf_0 rfl ?_
  refine gm_aload_n dX10_protectedResultOf_1 rfl ?_
  refine gm_getI (own := RX10) (x := (S q 3)) rfl dX10_protectedResultOf_2 lfX10_289 (sC_Pk_0 (by omega)) rfl rfl ?_
  refine gm_callV (r1 := (some (.int r1))) (own := RX10) rfl dX10_protectedResultOf_5 llX10_389 mvX0_takesEpoch (sC_E_0 (by omega)) rfl [.int (S q 3)] [] rfl rfl (Nat.le_of_ble_eq_true rfl) (by decide) rfl h2 rfl ?_
  refine gm_if_ne_t (tgt := 13) dX10_protectedResultOf_8 (by decide) c3 ?_
  refine gm_aload_n dX10_protectedResultOf_13 rfl ?_
  refine gm_getI (own := RX10) (x := (S q 8)) rfl dX10_protectedResultOf_14 lfX10_353 (sC_Pk_0 (by omega)) rfl rfl ?_
  refine gm_aload_n dX10_protectedResultOf_17 rfl ?_
  refine gm_aload_n dX10_protectedResultOf_18 rfl ?_
  refine gm_getI (own := RX10) (x := (S e 10)) rfl dX10_protectedResultOf_19 lfX10_242 (sC_E_0 (by omega)) rfl rfl ?_
  refine gm_callS (r1 := (some (.int r4))) (own := RX10) rfl dX10_protectedResultOf_22 llX10_349 msX10_tagOf [.ref q, .int (S e 10)] [.int (S q 8)] rfl rfl (Nat.le_of_ble_eq_true rfl) (by decide) rfl h5 rfl ?_
  refine gm_icmp_eq_t (tgt := 30) dX10_protectedResultOf_25 (by decide) c6 ?_
  refine gm_aload_n dX10_protectedResultOf_30 rfl ?_
  refine gm_getI (own := RX10) (x := (S q 3)) rfl dX10_protectedResultOf_31 lfX10_289 (sC_Pk_0 (by omega)) rfl rfl ?_
  refine gm_aload_n dX10_protectedResultOf_34 rfl ?_
  refine gm_getI (own := RX10) (x := (S e 13)) rfl dX10_protectedResultOf_35 lfX10_392 (sC_E_0 (by omega)) rfl rfl ?_
  refine gm_icmp_gt_f dX10_protectedResultOf_38 ⟨77, by decide⟩ c7 ?_
  refine gm_aload_n dX10_protectedResultOf_41 rfl ?_
  refine gm_aload_n dX10_protectedResultOf_42 rfl ?_
  refine gm_getI (own := RX10) (x := (S q 3)) rfl dX10_protectedResultOf_43 lfX10_289 (sC_Pk_0 (by omega)) rfl rfl ?_
  refine gm_callV (r1 := (some (.ref q8))) (own := RX10) rfl dX10_protectedResultOf_46 llX10_395 mvX0_windowOf (sC_E_0 (by omega)) rfl [.int (S q 3)] [] rfl rfl (Nat.le_of_ble_eq_true rfl) (by decide) rfl h9 rfl ?_
  refine gm_astore_n (L' := [some (.ref 0), some (.ref q), some (.ref e), some (.ref q8)]) dX10_protectedResultOf_49 (by decide) rfl ?_
  refine gm_aload_n dX10_protectedResultOf_50 rfl ?_
  refine gm_aload_n dX10_protectedResultOf_51 rfl ?_
  refine gm_getI (own := RX10) (x := (S q 4)) rfl dX10_protectedResultOf_52 lfX10_292 (sC_Pk_0 (by omega)) rfl rfl ?_
  refine gm_callV (r1 := (some (.int r10))) (own := RX10) rfl dX10_protectedResultOf_55 llX10_399 mvX8_isBehind (sC_Wi_0 (by omega)) rfl [.int (S q 4)] [] rfl rfl (Nat.le_of_ble_eq_true rfl) (by decide) rfl h11 rfl ?_
  refine gm_if_eq_t (tgt := 63) dX10_protectedResultOf_58 (by decide) c12 ?_
  refine gm_aload_n dX10_protectedResultOf_63 rfl ?_
  refine gm_aload_n dX10_protectedResultOf_64 rfl ?_
  refine gm_getI (own := RX10) (x := (S q 4)) rfl dX10_protectedResultOf_65 lfX10_292 (sC_Pk_0 (by omega)) rfl rfl ?_
  refine gm_callV (r1 := (some (.int r13))) (own := RX10) rfl dX10_protectedResultOf_68 llX10_402 mvX8_holds (sC_Wi_0 (by omega)) rfl [.int (S q 4)] [] rfl rfl (Nat.le_of_ble_eq_true rfl) (by decide) rfl h14 rfl ?_
  refine gm_if_eq_t (tgt := 77) dX10_protectedResultOf_71 (by decide) c15 ?_
  refine gm_aload_n dX10_protectedResultOf_77 rfl ?_
  refine gm_callV (r1 := (some (.int r16))) (own := RX10) rfl dX10_protectedResultOf_78 llX10_405 mvX5_bringsMessage (sC_Pk_0 (by omega)) rfl [] [] rfl rfl (Nat.le_of_ble_eq_true rfl) (by decide) rfl h17 rfl ?_
  refine gm_if_eq_t (tgt := 103) dX10_protectedResultOf_81 (by decide) c18 ?_
  refine gm_iconst (v := 0) dX10_protectedResultOf_103 (by decide) ?_
  exact gm_iret dX10_protectedResultOf_104 rfl
/-- X10_protectedResultOf 0 [8t 25t 38t 81f 95f] -> ret  -/
theorem PX10_protectedResultOf_8 {q : Nat} {e : Nat} {S : gm_Mem} {r1 : Int32} {r4 : Int32} {r8 : Int32} {r11 : Int32} (kq : (28 ≤ q ∧ q < 52) ∨ q = 122) (ke : e = 2 ∨ e = 14) (h2 : gm_run gC 0 YX0_takesEpoch 0 [some (.ref e), some (.int (S q 3)), none] [] S (some (.int r1)) S) (c3 : ¬ r1 = 0) (h5 : gm_run gC 1 YX10_tagOf 0 [some (.ref q), some (.int (S e 10)), none, none] [] S (some (.int r4)) S) (c6 : (S q 8) = r4) (c7 : (S e 13) < (S q 3)) (h9 : gm_run gC 0 YX5_bringsMessage 0 [some (.ref q)] [] S (some (.int r8)) S) (c10 : ¬ r8 = 0) (h12 : gm_run gC 0 YX1_isAfterClose 0 [some (.ref (e + 5)), some (.int (S q 5))] [] S (some (.int r11)) S) (c13 : ¬ r11 = 0) : gm_run gC 2 YX10_protectedResultOf 0 [some (.ref 0), some (.ref q), some (.ref e), none] [] S (some (.int 7)) S := by
  refine gm_aload_n dX10_protectedResultOf_0 rfl ?_
  refine gm_aload_n dX10_protectedResultOf_1 rfl ?_
  refine gm_getI (own := RX10) (x := (S q 3)) rfl dX10_protectedResultOf_2 lfX10_289 (sC_Pk_0 (by omega)) rfl rfl ?_
  refine gm_callV (r1 := (some (.int r1))) (own := RX10) rfl dX10_protectedResultOf_5 llX10_389 mvX0_takesEpoch (sC_E_0 (by omega)) rfl [.int (S q 3)] [] rfl rfl (Nat.le_of_ble_eq_true rfl) (by decide) rfl h2 rfl ?_
  refine gm_if_ne_t (tgt := 13) dX10_protectedResultOf_8 (by decide) c3 ?_
  refine gm_aload_n dX10_protectedResultOf_13 rfl ?_
  refine gm_getI (own := RX10) (x := (S q 8)) rfl dX10_protectedResultOf_14 lfX10_353 (sC_Pk_0 (by omega)) rfl rfl ?_
  refine gm_aload_n dX10_protectedResultOf_17 rfl ?_
  refine gm_aload_n dX10_protectedResultOf_18 rfl ?_
  refine gm_getI (own := RX10) (x := (S e 10)) rfl dX10_protectedResultOf_19 lfX10_242 (sC_E_0 (by omega)) rfl rfl ?_
  refine gm_callS (r1 := (some (.int r4))) (own := RX10) rfl dX10_protectedResultOf_22 llX10_349 msX10_tagOf [.ref q, .int (S e 10)] [.int (S q 8)] rfl rfl (Nat.le_of_ble_eq_true rfl) (by decide) rfl h5 rfl ?_
  refine gm_icmp_eq_t (tgt := 30) dX10_protectedResultOf_25 (by decide) c6 ?_
  refine gm_aload_n dX10_protectedResultOf_30 rfl ?_
  refine gm_getI (own := RX10) (x := (S q 3)) rfl dX10_protectedResultOf_31 lfX10_289 (sC_Pk_0 (by omega)) rfl rfl ?_
  refine gm_aload_n dX10_protectedResultOf_34 rfl ?_
  refine gm_getI (own := RX10) (x := (S e 13)) rfl dX10_protectedResultOf_35 lfX10_392 (sC_E_0 (by omega)) rfl rfl ?_
  refine gm_icmp_gt_t (tgt := 77) dX10_protectedResultOf_38 (by decide) c7 ?_
  refine gm_aload_n dX10_protectedResultOf_77 rfl ?_
  refine gm_callV (r1 := (some (.int r8))) (own := RX10) rfl dX10_protectedResultOf_78 llX10_405 mvX5_bringsMessage (sC_Pk_0 (by omega)) rfl [] [] rfl rfl (Nat.le_of_ble_eq_true rfl) (by decide) rfl h9 rfl ?_
  refine gm_if_eq_f dX10_protectedResultOf_81 ⟨103, by decide⟩ c10 ?_
  refine gm_aload_n dX10_protectedResultOf_84 rfl ?_
  refine gm_getR (own := RX10) (q := (e + 5)) rfl dX10_protectedResultOf_85 lfX10_212 (sC_E_0 (by omega)) rfl ?_
  refine gm_aload_n dX10_protectedResultOf_88 rfl ?_
  refine gm_getI (own := RX10) (x := (S q 5)) rfl dX10_protectedResultOf_89 lfX10_295 (sC_Pk_0 (by omega)) rfl rfl ?_
  refine gm_callV (r1 := (some (.int r11))) (own := RX10) rfl dX10_protectedResultOf_92 llX10_408 mvX1_isAfterClose (sC_E_5 (by omega)) rfl [.int (S q 5)] [] rfl rfl (Nat.le_of_ble_eq_true rfl) (by decide) rfl h12 rfl ?_
  refine gm_if_eq_f dX10_protectedResultOf_95 ⟨103, by decide⟩ c13 ?_
  refine gm_bipush (v := 7) dX10_protectedResultOf_98 (by decide) ?_
  refine gm_goto (tgt := 104) dX10_protectedResultOf_100 (by decide) ?_
  exact gm_iret dX10_protectedResultOf_104 rfl
/-- X10_protectedResultOf 0 [8t 25t 38t 81f 95t] -> ret  -/
theorem PX10_protectedResultOf_9 {q : Nat} {e : Nat} {S : gm_Mem} {r1 : Int32} {r4 : Int32} {r8 : Int32} {r11 : Int32} (kq : (28 ≤ q ∧ q < 52) ∨ q = 122) (ke : e = 2 ∨ e = 14) (h2 : gm_run gC 0 YX0_takesEpoch 0 [some (.ref e), some (.int (S q 3)), none] [] S (some (.int r1)) S) (c3 : ¬ r1 = 0) (h5 : gm_run gC 1 YX10_tagOf 0 [some (.ref q), some (.int (S e 10)), none, none] [] S (some (.int r4)) S) (c6 : (S q 8) = r4) (c7 : (S e 13) < (S q 3)) (h9 : gm_run gC 0 YX5_bringsMessage 0 [some (.ref q)] [] S (some (.int r8)) S) (c10 : ¬ r8 = 0) (h12 : gm_run gC 0 YX1_isAfterClose 0 [some (.ref (e + 5)), some (.int (S q 5))] [] S (some (.int r11)) S) (c13 : r11 = 0) : gm_run gC 2 YX10_protectedResultOf 0 [some (.ref 0), some (.ref q), some (.ref e), none] [] S (some (.int 0)) S := by
  refine gm_aload_n dX10_protectedResultOf_0 rfl ?_
  refine gm_aload_n dX10_protectedResultOf_1 rfl ?_
  refine gm_getI (own := RX10) (x := (S q 3)) rfl dX10_protectedResultOf_2 lfX10_289 (sC_Pk_0 (by omega)) rfl rfl ?_
  refine gm_callV (r1 := (some (.int r1))) (own := RX10) rfl dX10_protectedResultOf_5 llX10_389 mvX0_takesEpoch (sC_E_0 (by omega)) rfl [.int (S q 3)] [] rfl rfl (Nat.le_of_ble_eq_true rfl) (by decide) rfl h2 rfl ?_
  refine gm_if_ne_t (tgt := 13) dX10_protectedResultOf_8 (by decide) c3 ?_
  refine gm_aload_n dX10_protectedResultOf_13 rfl ?_
  refine gm_getI (own := RX10) (x := (S q 8)) rfl dX10_protectedResultOf_14 lfX10_353 (sC_Pk_0 (by omega)) rfl rfl ?_
  refine gm_aload_n dX10_protectedResultOf_17 rfl ?_
  refine gm_aload_n dX10_protectedResultOf_18 rfl ?_
  refine gm_getI (own := RX10) (x := (S e 10)) rfl dX10_protectedResultOf_19 lfX10_242 (sC_E_0 (by omega)) rfl rfl ?_
  refine gm_callS (r1 := (some (.int r4))) (own := RX10) rfl dX10_protectedResultOf_22 llX10_349 msX10_tagOf [.ref q, .int (S e 10)] [.int (S q 8)] rfl rfl (Nat.le_of_ble_eq_true rfl) (by decide) rfl h5 rfl ?_
  refine gm_icmp_eq_t (tgt := 30) dX10_protectedResultOf_25 (by decide) c6 ?_
  refine gm_aload_n dX10_protectedResultOf_30 rfl ?_
  refine gm_getI (own := RX10) (x := (S q 3)) rfl dX10_protectedResultOf_31 lfX10_289 (sC_Pk_0 (by omega)) rfl rfl ?_
  refine gm_aload_n dX10_protectedResultOf_34 rfl ?_
  refine gm_getI (own := RX10) (x := (S e 13)) rfl dX10_protectedResultOf_35 lfX10_392 (sC_E_0 (by omega)) rfl rfl ?_
  refine gm_icmp_gt_t (tgt := 77) dX10_protectedResultOf_38 (by decide) c7 ?_
  refine gm_aload_n dX10_protectedResultOf_77 rfl ?_
  refine gm_callV (r1 := (some (.int r8))) (own := RX10) rfl dX10_protectedResultOf_78 llX10_405 mvX5_bringsMessage (sC_Pk_0 (by omega)) rfl [] [] rfl rfl (Nat.le_of_ble_eq_true rfl) (by decide) rfl h9 rfl ?_
  refine gm_if_eq_f dX10_protectedResultOf_81 ⟨103, by decide⟩ c10 ?_
  refine gm_aload_n dX10_protectedResultOf_84 rfl ?_
  refine gm_getR (own := RX10) (q := (e + 5)) rfl dX10_protectedResultOf_85 lfX10_212 (sC_E_0 (by omega)) rfl ?_
  refine gm_aload_n dX10_protectedResultOf_88 rfl ?_
  refine gm_getI (own := RX10) (x := (S q 5)) rfl dX10_protectedResultOf_89 lfX10_295 (sC_Pk_0 (by omega)) rfl rfl ?_
  refine gm_callV (r1 := (some (.int r11))) (own := RX10) rfl dX10_protectedResultOf_92 llX10_408 mvX1_isAfterClose (sC_E_5 (by omega)) rfl [.int (S q 5)] [] rfl rfl (Nat.le_of_ble_eq_true rfl) (by decide) rfl h12 rfl ?_
  refine gm_if_eq_t (tgt := 103) dX10_protectedResultOf_95 (by decide) c13 ?_
  refine gm_iconst (v := 0) dX10_protectedResultOf_103 (by decide) ?_
  exact gm_iret dX10_protectedResultOf_104 rfl
/-- X10_protectedResultOf 0 [8t 25t 38t 81t] -> ret  -/
theorem PX10_protectedResultOf_10 {q : Nat} {e : Nat} {S : gm_Mem} {r1 : Int32} {r4 : Int32} {r8 : Int32} (kq : (28 ≤ q ∧ q < 52) ∨ q = 122) (ke : e = 2 ∨ e = 14) (h2 : gm_run gC 0 YX0_takesEpoch 0 [some (.ref e), some (.int (S q 3)), none] [] S (some (.int r1)) S) (c3 : ¬ r1 = 0) (h5 : gm_run gC 1 YX10_tagOf 0 [some (.ref q), some (.int (S e 10)), none, none] [] S (some (.int r4)) S) (c6 : (S q 8) = r4) (c7 : (S e 13) < (S q 3)) (h9 : gm_run gC 0 YX5_bringsMessage 0 [some (.ref q)] [] S (some (.int r8)) S) (c10 : r8 = 0) : gm_run gC 2 YX10_protectedResultOf 0 [some (.ref 0), some (.ref q), some (.ref e), none] [] S (some (.int 0)) S := by
  refine gm_aload_n dX10_protectedResultOf_0 rfl ?_
  refine gm_aload_n dX10_protectedResultOf_1 rfl ?_
  refine gm_getI (own := RX10) (x := (S q 3)) rfl dX10_protectedResultOf_2 lfX10_289 (sC_Pk_0 (by omega)) rfl rfl ?_
  refine gm_callV (r1 := (some (.int r1))) (own := RX10) rfl dX10_protectedResultOf_5 llX10_389 mvX0_takesEpoch (sC_E_0 (by omega)) rfl [.int (S q 3)] [] rfl rfl (Nat.le_of_ble_eq_true rfl) (by decide) rfl h2 rfl ?_
  refine gm_if_ne_t (tgt := 13) dX10_protectedResultOf_8 (by decide) c3 ?_
  refine gm_aload_n dX10_protectedResultOf_13 rfl ?_
  refine gm_getI (own := RX10) (x := (S q 8)) rfl dX10_protectedResultOf_14 lfX10_353 (sC_Pk_0 (by omega)) rfl rfl ?_
  refine gm_aload_n dX10_protectedResultOf_17 rfl ?_
  refine gm_aload_n dX10_protectedResultOf_18 rfl ?_
  refine gm_getI (own := RX10) (x := (S e 10)) rfl dX10_protectedResultOf_19 lfX10_242 (sC_E_0 (by omega)) rfl rfl ?_
  refine gm_callS (r1 := (some (.int r4))) (own := RX10) rfl dX10_protectedResultOf_22 llX10_349 msX10_tagOf [.ref q, .int (S e 10)] [.int (S q 8)] rfl rfl (Nat.le_of_ble_eq_true rfl) (by decide) rfl h5 rfl ?_
  refine gm_icmp_eq_t (tgt := 30) dX10_protectedResultOf_25 (by decide) c6 ?_
  refine gm_aload_n dX10_protectedResultOf_30 rfl ?_
  refine gm_getI (own := RX10) (x := (S q 3)) rfl dX10_protectedResultOf_31 lfX10_289 (sC_Pk_0 (by omega)) rfl rfl ?_
  refine gm_aload_n dX10_protectedResultOf_34 rfl ?_
  refine gm_getI (own := RX10) (x := (S e 13)) rfl dX10_protectedResultOf_35 lfX10_392 (sC_E_0 (by omega)) rfl rfl ?_
  refine gm_icmp_gt_t (tgt := 77) dX10_protectedResultOf_38 (by decide) c7 ?_
  refine gm_aload_n dX10_protectedResultOf_77 rfl ?_
  refine gm_callV (r1 := (some (.int r8))) (own := RX10) rfl dX10_protectedResultOf_78 llX10_405 mvX5_bringsMessage (sC_Pk_0 (by omega)) rfl [] [] rfl rfl (Nat.le_of_ble_eq_true rfl) (by decide) rfl h9 rfl ?_
  refine gm_if_eq_t (tgt := 103) dX10_protectedResultOf_81 (by decide) c10 ?_
  refine gm_iconst (v := 0) dX10_protectedResultOf_103 (by decide) ?_
  exact gm_iret dX10_protectedResultOf_104 rfl
/-- X10_resultOf 0 [8f] -> ret  -/
theorem PX10_resultOf_1 {q : Nat} {e : Nat} {S : gm_Mem} {r1 : Int32} (kq : (28 ≤ q ∧ q < 52) ∨ q = 122) (ke : e = 2 ∨ e = 14) (h2 : gm_run gC 0 YX0_takesKind 0 [some (.ref e), some (.int (S q 1))] [] S (some (.int r1)) S) (c3 : r1 = 0) : gm_run gC 3 YX10_resultOf 0 [some (.ref 0), some (.ref q), some (.ref e)] [] S (some (.int 1)) S := by
  refine gm_aload_n dX10_resultOf_0 rfl ?_
  refine gm_aload_n dX10_resultOf_1 rfl ?_
  refine gm_getI (own := RX10) (x := (S q 1)) rfl dX10_resultOf_2 lfX10_137 (sC_Pk_0 (by omega)) rfl rfl ?_
  refine gm_callV (r1 := (some (.int r1))) (own := RX10) rfl dX10_resultOf_5 llX10_376 mvX0_takesKind (sC_E_0 (by omega)) rfl [.int (S q 1)] [] rfl rfl (Nat.le_of_ble_eq_true rfl) (by decide) rfl h2 rfl ?_
  refine gm_if_ne_f dX10_resultOf_8 ⟨13, by decide⟩ c3 ?_
  refine gm_iconst (v := 1) dX10_resultOf_11 (by decide) ?_
  exact gm_iret dX10_resultOf_12 rfl
/-- X10_resultOf 0 [8t 17f 28f] -> ret  -/
theorem PX10_resultOf_2 {q : Nat} {e : Nat} {S : gm_Mem} {r1 : Int32} {r5 : Int32} (kq : (28 ≤ q ∧ q < 52) ∨ q = 122) (ke : e = 2 ∨ e = 14) (h2 : gm_run gC 0 YX0_takesKind 0 [some (.ref e), some (.int (S q 1))] [] S (some (.int r1)) S) (c3 : ¬ r1 = 0) (c4 : (S q 1) = 0) (h6 : gm_run gC 2 YX10_isRefused 0 [some (.ref 0), some (.int (S q 6))] [] S (some (.int r5)) S) (c7 : ¬ r5 = 0) : gm_run gC 3 YX10_resultOf 0 [some (.ref 0), some (.ref q), some (.ref e)] [] S (some (.int 8)) S := by
  refine gm_aload_n dX10_resultOf_0 rfl ?_
  refine gm_aload_n dX10_resultOf_1 rfl ?_
  refine gm_getI (own := RX10) (x := (S q 1)) rfl dX10_resultOf_2 lfX10_137 (sC_Pk_0 (by omega)) rfl rfl ?_
  refine gm_callV (r1 := (some (.int r1))) (own := RX10) rfl dX10_resultOf_5 llX10_376 mvX0_takesKind (sC_E_0 (by omega)) rfl [.int (S q 1)] [] rfl rfl (Nat.le_of_ble_eq_true rfl) (by decide) rfl h2 rfl ?_
  refine gm_if_ne_t (tgt := 13) dX10_resultOf_8 (by decide) c3 ?_
  refine gm_aload_n dX10_resultOf_13 rfl ?_
  refine gm_getI (own := RX10) (x := (S q 1)) rfl dX10_resultOf_14 lfX10_137 (sC_Pk_0 (by omega)) rfl rfl ?_
  refine gm_if_ne_f dX10_resultOf_17 ⟨38, by decide⟩ c4 ?_
  refine gm_aload_n dX10_resultOf_20 rfl ?_
  refine gm_aload_n dX10_resultOf_21 rfl ?_
  refine gm_getI (own := RX10) (x := (S q 6)) rfl dX10_resultOf_22 lfX10_170 (sC_Pk_0 (by omega)) rfl rfl ?_
  refine gm_callV (r1 := (some (.int r5))) (own := RX10) rfl dX10_resultOf_25 llX10_379 mvX10_isRefused sC_0 rfl [.int (S q 6)] [] rfl rfl (Nat.le_of_ble_eq_true rfl) (by decide) rfl h6 rfl ?_
  refine gm_if_eq_f dX10_resultOf_28 ⟨36, by decide⟩ c7 ?_
  refine gm_bipush (v := 8) dX10_resultOf_31 (by decide) ?_
  refine gm_goto (tgt := 37) dX10_resultOf_33 (by decide) ?_
  exact gm_iret dX10_resultOf_37 rfl
/-- X10_resultOf 0 [8t 17f 28t] -> ret  -/
theorem PX10_resultOf_3 {q : Nat} {e : Nat} {S : gm_Mem} {r1 : Int32} {r5 : Int32} (kq : (28 ≤ q ∧ q < 52) ∨ q = 122) (ke : e = 2 ∨ e = 14) (h2 : gm_run gC 0 YX0_takesKind 0 [some (.ref e), some (.int (S q 1))] [] S (some (.int r1)) S) (c3 : ¬ r1 = 0) (c4 : (S q 1) = 0) (h6 : gm_run gC 2 YX10_isRefused 0 [some (.ref 0), some (.int (S q 6))] [] S (some (.int r5)) S) (c7 : r5 = 0) : gm_run gC 3 YX10_resultOf 0 [some (.ref 0), some (.ref q), some (.ref e)] [] S (some (.int 0)) S := by
  refine gm_aload_n dX10_resultOf_0 rfl ?_
  refine gm_aload_n dX10_resultOf_1 rfl ?_
  refine gm_getI (own := RX10) (x := (S q 1)) rfl dX10_resultOf_2 lfX10_137 (sC_Pk_0 (by omega)) rfl rfl ?_
  refine gm_callV (r1 := (some (.int r1))) (own := RX10) rfl dX10_resultOf_5 llX10_376 mvX0_takesKind (sC_E_0 (by omega)) rfl [.int (S q 1)] [] rfl rfl (Nat.le_of_ble_eq_true rfl) (by decide) rfl h2 rfl ?_
  refine gm_if_ne_t (tgt := 13) dX10_resultOf_8 (by decide) c3 ?_
  refine gm_aload_n dX10_resultOf_13 rfl ?_
  refine gm_getI (own := RX10) (x := (S q 1)) rfl dX10_resultOf_14 lfX10_137 (sC_Pk_0 (by omega)) rfl rfl ?_
  refine gm_if_ne_f dX10_resultOf_17 ⟨38, by decide⟩ c4 ?_
  refine gm_aload_n dX10_resultOf_20 rfl ?_
  refine gm_aload_n dX10_resultOf_21 rfl ?_
  refine gm_getI (own := RX10) (x := (S q 6)) rfl dX10_resultOf_22 lfX10_170 (sC_Pk_0 (by omega)) rfl rfl ?_
  refine gm_callV (r1 := (some (.int r5))) (own := RX10) rfl dX10_resultOf_25 llX10_379 mvX10_isRefused sC_0 rfl [.int (S q 6)] [] rfl rfl (Nat.le_of_ble_eq_true rfl) (by decide) rfl h6 rfl ?_
  refine gm_if_eq_t (tgt := 36) dX10_resultOf_28 (by decide) c7 ?_
  refine gm_iconst (v := 0) dX10_resultOf_36 (by decide) ?_
  exact gm_iret dX10_resultOf_37 rfl
/-- X10_resultOf 0 [8t 17t 46f] -> ret  -/
theorem PX10_resultOf_4 {q : Nat} {e : Nat} {S : gm_Mem} {r1 : Int32} (kq : (28 ≤ q ∧ q < 52) ∨ q = 122) (ke : e = 2 ∨ e = 14) (h2 : gm_run gC 0 YX0_takesKind 0 [some (.ref e), some (.int (S q 1))] [] S (some (.int r1)) S) (c3 : ¬ r1 = 0) (c4 : ¬ (S q 1) = 0) (c5 : ¬ (S q 2) = (S e 9)) : gm_run gC 3 YX10_resultOf 0 [some (.ref 0), some (.ref q), some (.ref e)] [] S (some (.int 2)) S := by
  refine gm_aload_n dX10_resultOf_0 rfl ?_
  refine gm_aload_n dX10_resultOf_1 rfl ?_
  refine gm_getI (own := RX10) (x := (S q 1)) rfl dX10_resultOf_2 lfX10_137 (sC_Pk_0 (by omega)) rfl rfl ?_
  refine gm_callV (r1 := (some (.int r1))) (own := RX10) rfl dX10_resultOf_5 llX10_376 mvX0_takesKind (sC_E_0 (by omega)) rfl [.int (S q 1)] [] rfl rfl (Nat.le_of_ble_eq_true rfl) (by decide) rfl h2 rfl ?_
  refine gm_if_ne_t (tgt := 13) dX10_resultOf_8 (by decide) c3 ?_
  refine gm_aload_n dX10_resultOf_13 rfl ?_
  refine gm_getI (own := RX10) (x := (S q 1)) rfl dX10_resultOf_14 lfX10_137 (sC_Pk_0 (by omega)) rfl rfl ?_
  refine gm_if_ne_t (tgt := 38) dX10_resultOf_17 (by decide) c4 ?_
  refine gm_aload_n dX10_resultOf_38 rfl ?_
  refine gm_getI (own := RX10) (x := (S q 2)) rfl dX10_resultOf_39 lfX10_146 (sC_Pk_0 (by omega)) rfl rfl ?_
  refine gm_aload_n dX10_resultOf_42 rfl ?_
  refine gm_getI (own := RX10) (x := (S e 9)) rfl dX10_resultOf_43 lfX10_241 (sC_E_0 (by omega)) rfl rfl ?_
  refine gm_icmp_eq_f dX10_resultOf_46 ⟨51, by decide⟩ c5 ?_
  refine gm_iconst (v := 2) dX10_resultOf_49 (by decide) ?_
  exact gm_iret dX10_resultOf_50 rfl
/-- X10_resultOf 0 [8t 17t 46t 55f] -> ret  -/
theorem PX10_resultOf_5 {q : Nat} {e : Nat} {S : gm_Mem} {r1 : Int32} {r6 : Int32} {r9 : Int32} (kq : (28 ≤ q ∧ q < 52) ∨ q = 122) (ke : e = 2 ∨ e = 14) (h2 : gm_run gC 0 YX0_takesKind 0 [some (.ref e), some (.int (S q 1))] [] S (some (.int r1)) S) (c3 : ¬ r1 = 0) (c4 : ¬ (S q 1) = 0) (c5 : (S q 2) = (S e 9)) (h7 : gm_run gC 0 YX5_isProtected 0 [some (.ref q)] [] S (some (.int r6)) S) (c8 : ¬ r6 = 0) (h10 : gm_run gC 2 YX10_protectedResultOf 0 [some (.ref 0), some (.ref q), some (.ref e), none] [] S (some (.int r9)) S) : gm_run gC 3 YX10_resultOf 0 [some (.ref 0), some (.ref q), some (.ref e)] [] S (some (.int r9)) S := by
  refine gm_aload_n dX10_resultOf_0 rfl ?_
  refine gm_aload_n dX10_resultOf_1 rfl ?_
  refine gm_getI (own := RX10) (x := (S q 1)) rfl dX10_resultOf_2 lfX10_137 (sC_Pk_0 (by omega)) rfl rfl ?_
  refine gm_callV (r1 := (some (.int r1))) (own := RX10) rfl dX10_resultOf_5 llX10_376 mvX0_takesKind (sC_E_0 (by omega)) rfl [.int (S q 1)] [] rfl rfl (Nat.le_of_ble_eq_true rfl) (by decide) rfl h2 rfl ?_
  refine gm_if_ne_t (tgt := 13) dX10_resultOf_8 (by decide) c3 ?_
  refine gm_aload_n dX10_resultOf_13 rfl ?_
  refine gm_getI (own := RX10) (x := (S q 1)) rfl dX10_resultOf_14 lfX10_137 (sC_Pk_0 (by omega)) rfl rfl ?_
  refine gm_if_ne_t (tgt := 38) dX10_resultOf_17 (by decide) c4 ?_
  refine gm_aload_n dX10_resultOf_38 rfl ?_
  refine gm_getI (own := RX10) (x := (S q 2)) rfl dX10_resultOf_39 lfX10_146 (sC_Pk_0 (by omega)) rfl rfl ?_
  refine gm_aload_n dX10_resultOf_42 rfl ?_
  refine gm_getI (own := RX10) (x := (S e 9)) rfl dX10_resultOf_43 lfX10_241 (sC_E_0 (by omega)) rfl rfl ?_
  refine gm_icmp_eq_t (tgt := 51) dX10_resultOf_46 (by decide) c5 ?_
  refine gm_aload_n dX10_resultOf_51 rfl ?_
  refine gm_callV (r1 := (some (.int r6))) (own := RX10) rfl dX10_resultOf_52 llX10_153 mvX5_isProtected (sC_Pk_0 (by omega)) rfl [] [] rfl rfl (Nat.le_of_ble_eq_true rfl) (by decide) rfl h7 rfl ?_
  refine gm_if_eq_f dX10_resultOf_55 ⟨67, by decide⟩ c8 ?_
  refine gm_aload_n dX10_resultOf_58 rfl ?_
  refine gm_aload_n dX10_resultOf_59 rfl ?_
  refine gm_aload_n dX10_resultOf_60 rfl ?_
  refine gm_callV (r1 := (some (.int r9))) (own := RX10) rfl dX10_resultOf_61 llX10_382 mvX10_protectedResultOf sC_0 rfl [.ref q, .ref e] [] rfl rfl (Nat.le_of_ble_eq_true rfl) (by decide) rfl h10 rfl ?_
  refine gm_goto (tgt := 68) dX10_resultOf_64 (by decide) ?_
  exact gm_iret dX10_resultOf_68 rfl
/-- X10_resultOf 0 [8t 17t 46t 55t] -> ret  -/
theorem PX10_resultOf_6 {q : Nat} {e : Nat} {S : gm_Mem} {r1 : Int32} {r6 : Int32} (kq : (28 ≤ q ∧ q < 52) ∨ q = 122) (ke : e = 2 ∨ e = 14) (h2 : gm_run gC 0 YX0_takesKind 0 [some (.ref e), some (.int (S q 1))] [] S (some (.int r1)) S) (c3 : ¬ r1 = 0) (c4 : ¬ (S q 1) = 0) (c5 : (S q 2) = (S e 9)) (h7 : gm_run gC 0 YX5_isProtected 0 [some (.ref q)] [] S (some (.int r6)) S) (c8 : r6 = 0) : gm_run gC 3 YX10_resultOf 0 [some (.ref 0), some (.ref q), some (.ref e)] [] S (some (.int 0)) S := by
  refine gm_aload_n dX10_resultOf_0 rfl ?_
  refine gm_aload_n dX10_resultOf_1 rfl ?_
  refine gm_getI (own := RX10) (x := (S q 1)) rfl dX10_resultOf_2 lfX10_137 (sC_Pk_0 (by omega)) rfl rfl ?_
  refine gm_callV (r1 := (some (.int r1))) (own := RX10) rfl dX10_resultOf_5 llX10_376 mvX0_takesKind (sC_E_0 (by omega)) rfl [.int (S q 1)] [] rfl rfl (Nat.le_of_ble_eq_true rfl) (by decide) rfl h2 rfl ?_
  refine gm_if_ne_t (tgt := 13) dX10_resultOf_8 (by decide) c3 ?_
  refine gm_aload_n dX10_resultOf_13 rfl ?_
  refine gm_getI (own := RX10) (x := (S q 1)) rfl dX10_resultOf_14 lfX10_137 (sC_Pk_0 (by omega)) rfl rfl ?_
  refine gm_if_ne_t (tgt := 38) dX10_resultOf_17 (by decide) c4 ?_
  refine gm_aload_n dX10_resultOf_38 rfl ?_
  refine gm_getI (own := RX10) (x := (S q 2)) rfl dX10_resultOf_39 lfX10_146 (sC_Pk_0 (by omega)) rfl rfl ?_
  refine gm_aload_n dX10_resultOf_42 rfl ?_
  refine gm_getI (own := RX10) (x := (S e 9)) rfl dX10_resultOf_43 lfX10_241 (sC_E_0 (by omega)) rfl rfl ?_
  refine gm_icmp_eq_t (tgt := 51) dX10_resultOf_46 (by decide) c5 ?_
  refine gm_aload_n dX10_resultOf_51 rfl ?_
  refine gm_callV (r1 := (some (.int r6))) (own := RX10) rfl dX10_resultOf_52 llX10_153 mvX5_isProtected (sC_Pk_0 (by omega)) rfl [] [] rfl rfl (Nat.le_of_ble_eq_true rfl) (by decide) rfl h7 rfl ?_
  refine gm_if_eq_t (tgt := 67) dX10_resultOf_55 (by decide) c8 ?_
  refine gm_iconst (v := 0) dX10_resultOf_67 (by decide) ?_
  exact gm_iret dX10_resultOf_68 rfl
/-- X10_deliver 0 [8R 106f] -> ret  -/
theorem PX10_deliver_1 {a1 : Int32} {S : gm_Mem} {q1 : Nat} {T1 : gm_Mem} {T2 : gm_Mem} {q5 : Nat} {r7 : Int32} {T3 : gm_Mem} {T4 : gm_Mem} {T5 : gm_Mem} {r12 : Int32} (kq1 : 28 ≤ q1 ∧ q1 < 52) (h2 : gm_run gC 0 YX3_at 0 [some (.ref 26), some (.int a1)] [] S (some (.ref q1)) S) (h3 : gm_run gC 0 YX5_copyFrom 0 [some (.ref 122), some (.ref q1)] [] S none T1) (h4 : gm_run gC 0 YX3_remove 0 [some (.ref 26), some (.int a1), none, none] [] T1 none T2) (kq5 : q5 = 2 ∨ q5 = 14) (h6 : gm_run gC 0 YX10_endpointOf 0 [some (.ref 0), some (.int (1 - (T2 122 0)))] [] T2 (some (.ref q5)) T2) (h8 : gm_run gC 3 YX10_resultOf 0 [some (.ref 0), some (.ref 122), some (.ref q5)] [] T2 (some (.int r7)) T2) (h9 : gm_run gC 0 YX0_countResult 0 [some (.ref q5), some (.int r7)] [] T2 none T3) (h10 : gm_run gC 0 YX2_add 0 [some (.ref 55), some (.int 1), some (.int (T3 122 1)), some (.int r7)] [] (gm_u T3 1 11 ((T3 1 11) + 1)) none T4) (c11 : r7 = 8) (h13 : gm_run gC 2 YX10_sendPlain 0 [some (.ref 0), some (.ref q5), some (.int 2), some (.int (T4 122 2)), some (.int 0), some (.int 0), none] [] T4 (some (.int r12)) T5) : gm_run gC 6 YX10_deliver 0 [some (.ref 0), some (.int a1), none, none, none] [] S (some (.int r7)) T5 := by
  refine gm_aload_n dX10_deliver_0 rfl ?_
  refine gm_getR (own := RX10) (q := 1) rfl dX10_deliver_1 lfX10_10 sC_0 rfl ?_
  refine gm_getR (own := RX10) (q := 26) rfl dX10_deliver_4 lfX10_58 sC_1 rfl ?_
  refine gm_iload_n dX10_deliver_7 rfl ?_
  refine gm_callV (r1 := (some (.ref q1))) (own := RX10) rfl dX10_deliver_8 llX10_108 mvX3_at sC_26 rfl [.int a1] [] rfl rfl (Nat.le_of_ble_eq_true rfl) (by decide) rfl h2 rfl ?_
  refine gm_astore_n (L' := [some (.ref 0), some (.int a1), some (.ref q1), none, none]) dX10_deliver_11 (by decide) rfl ?_
  refine gm_aload_n dX10_deliver_12 rfl ?_
  refine gm_nonnull_t (tgt := 19) dX10_deliver_13 (by decide) ?_
  refine gm_aload_n dX10_deliver_19 rfl ?_
  refine gm_getR (own := RX10) (q := 122) rfl dX10_deliver_20 lfX10_29 sC_0 rfl ?_
  refine gm_aload_n dX10_deliver_23 rfl ?_
  refine gm_callV (r1 := none) (own := RX10) rfl dX10_deliver_24 llX10_112 mvX5_copyFrom sC_122 rfl [.ref q1] [] rfl rfl (Nat.le_of_ble_eq_true rfl) (by decide) rfl h3 rfl ?_
  refine gm_aload_n dX10_deliver_27 rfl ?_
  refine gm_getR (own := RX10) (q := 1) rfl dX10_deliver_28 lfX10_10 sC_0 rfl ?_
  refine gm_getR (own := RX10) (q := 26) rfl dX10_deliver_31 lfX10_58 sC_1 rfl ?_
  refine gm_iload_n dX10_deliver_34 rfl ?_
  refine gm_callV (r1 := none) (own := RX10) rfl dX10_deliver_35 llX10_116 mvX3_remove sC_26 rfl [.int a1] [] rfl rfl (Nat.le_of_ble_eq_true rfl) (by decide) rfl h4 rfl ?_
  refine gm_aload_n dX10_deliver_38 rfl ?_
  refine gm_iconst (v := 1) dX10_deliver_39 (by decide) ?_
  refine gm_aload_n dX10_deliver_40 rfl ?_
  refine gm_getR (own := RX10) (q := 122) rfl dX10_deliver_41 lfX10_29 sC_0 rfl ?_
  refine gm_getI (own := RX10) (x := (T2 122 0)) rfl dX10_deliver_44 lfX10_120 sC_122 rfl rfl ?_
  refine gm_isub dX10_deliver_47 rfl ?_
  refine gm_callV (r1 := (some (.ref q5))) (own := RX10) rfl dX10_deliver_48 llX10_100 mvX10_endpointOf sC_0 rfl [.int (1 - (T2 122 0))] [] rfl rfl (Nat.le_of_ble_eq_true rfl) (by decide) rfl h6 rfl ?_
  refine gm_astore_n (L' := [some (.ref 0), some (.int a1), some (.ref q1), some (.ref q5), none]) dX10_deliver_51 (by decide) rfl ?_
  refine gm_aload_n dX10_deliver_52 rfl ?_
  refine gm_aload_n dX10_deliver_53 rfl ?_
  refine gm_getR (own := RX10) (q := 122) rfl dX10_deliver_54 lfX10_29 sC_0 rfl ?_
  refine gm_aload_n dX10_deliver_57 rfl ?_
  refine gm_callV (r1 := (some (.int r7))) (own := RX10) rfl dX10_deliver_58 llX10_123 mvX10_resultOf sC_0 rfl [.ref 122, .ref q5] [] rfl rfl (Nat.le_of_ble_eq_true rfl) (by decide) rfl h8 rfl ?_
  refine gm_istore (L' := [some (.ref 0), some (.int a1), some (.ref q1), some (.ref q5), some (.int r7)]) dX10_deliver_61 (by decide) rfl ?_
  refine gm_aload_n dX10_deliver_63 rfl ?_
  refine gm_iload dX10_deliver_64 rfl ?_
  refine gm_callV (r1 := none) (own := RX10) rfl dX10_deliver_66 llX10_127 mvX0_countResult (sC_E_0 (by omega)) rfl [.int r7] [] rfl rfl (Nat.le_of_ble_eq_true rfl) (by decide) rfl h9 rfl ?_
  refine gm_aload_n dX10_deliver_69 rfl ?_
  refine gm_getR (own := RX10) (q := 1) rfl dX10_deliver_70 lfX10_10 sC_0 rfl ?_
  refine gm_dup dX10_deliver_73 ?_
  refine gm_getI (own := RX10) (x := (T3 1 11)) rfl dX10_deliver_74 lfX10_130 sC_1 rfl rfl ?_
  refine gm_iconst (v := 1) dX10_deliver_77 (by decide) ?_
  refine gm_iadd dX10_deliver_78 rfl ?_
  refine gm_put (own := RX10) rfl dX10_deliver_79 lfX10_130 sC_1 rfl (gm_fit_int _) ?_
  refine gm_aload_n dX10_deliver_82 rfl ?_
  refine gm_getR (own := RX10) (q := 1) rfl dX10_deliver_83 lfX10_10 sC_0 rfl ?_
  refine gm_getR (own := RX10) (q := 55) rfl dX10_deliver_86 lfX10_133 sC_1 rfl ?_
  refine gm_iconst (v := 1) dX10_deliver_89 (by decide) ?_
  refine gm_aload_n dX10_deliver_90 rfl ?_
  refine gm_getR (own := RX10) (q := 122) rfl dX10_deliver_91 lfX10_29 sC_0 rfl ?_
  refine gm_getI (own := RX10) (x := (T3 122 1)) rfl dX10_deliver_94 lfX10_137 sC_122 rfl (gm_rp (by omega)) ?_
  refine gm_iload dX10_deliver_97 rfl ?_
  refine gm_callV (r1 := none) (own := RX10) rfl dX10_deliver_99 llX10_140 mvX2_add sC_55 rfl [.int 1, .int (T3 122 1), .int r7] [] rfl rfl (Nat.le_of_ble_eq_true rfl) (by decide) rfl h10 rfl ?_
  refine gm_iload dX10_deliver_102 rfl ?_
  refine gm_bipush (v := 8) dX10_deliver_104 (by decide) ?_
  refine gm_icmp_ne_f dX10_deliver_106 ⟨128, by decide⟩ c11 ?_
  refine gm_aload_n dX10_deliver_109 rfl ?_
  refine gm_aload_n dX10_deliver_110 rfl ?_
  refine gm_iconst (v := 2) dX10_deliver_111 (by decide) ?_
  refine gm_aload_n dX10_deliver_112 rfl ?_
  refine gm_getR (own := RX10) (q := 122) rfl dX10_deliver_113 lfX10_29 sC_0 rfl ?_
  refine gm_getI (own := RX10) (x := (T4 122 2)) rfl dX10_deliver_116 lfX10_146 sC_122 rfl rfl ?_
  refine gm_iconst (v := 0) dX10_deliver_119 (by decide) ?_
  refine gm_iconst (v := 0) dX10_deliver_120 (by decide) ?_
  refine gm_callV (r1 := (some (.int r12))) (own := RX10) rfl dX10_deliver_121 llX10_149 mvX10_sendPlain sC_0 rfl [.ref q5, .int 2, .int (T4 122 2), .int 0, .int 0] [] rfl rfl (Nat.le_of_ble_eq_true rfl) (by decide) rfl h13 rfl ?_
  refine gm_pop dX10_deliver_124 ?_
  refine gm_goto (tgt := 169) dX10_deliver_125 (by decide) ?_
  refine gm_iload dX10_deliver_169 rfl ?_
  exact gm_iret dX10_deliver_171 rfl
/-- X10_deliver 0 [8R 106t 130f 140f] -> ret  -/
theorem PX10_deliver_2 {a1 : Int32} {S : gm_Mem} {q1 : Nat} {T1 : gm_Mem} {T2 : gm_Mem} {q5 : Nat} {r7 : Int32} {T3 : gm_Mem} {T4 : gm_Mem} {r13 : Int32} {T5 : gm_Mem} (kq1 : 28 ≤ q1 ∧ q1 < 52) (h2 : gm_run gC 0 YX3_at 0 [some (.ref 26), some (.int a1)] [] S (some (.ref q1)) S) (h3 : gm_run gC 0 YX5_copyFrom 0 [some (.ref 122), some (.ref q1)] [] S none T1) (h4 : gm_run gC 0 YX3_remove 0 [some (.ref 26), some (.int a1), none, none] [] T1 none T2) (kq5 : q5 = 2 ∨ q5 = 14) (h6 : gm_run gC 0 YX10_endpointOf 0 [some (.ref 0), some (.int (1 - (T2 122 0)))] [] T2 (some (.ref q5)) T2) (h8 : gm_run gC 3 YX10_resultOf 0 [some (.ref 0), some (.ref 122), some (.ref q5)] [] T2 (some (.int r7)) T2) (h9 : gm_run gC 0 YX0_countResult 0 [some (.ref q5), some (.int r7)] [] T2 none T3) (h10 : gm_run gC 0 YX2_add 0 [some (.ref 55), some (.int 1), some (.int (T3 122 1)), some (.int r7)] [] (gm_u T3 1 11 ((T3 1 11) + 1)) none T4) (c11 : ¬ r7 = 8) (c12 : r7 = 0) (h14 : gm_run gC 0 YX5_isProtected 0 [some (.ref 122)] [] T4 (some (.int r13)) T4) (c15 : ¬ r13 = 0) (h16 : gm_run gC 4 YX10_acceptProtected 0 [some (.ref 0), some (.ref q5), some (.ref 122)] [] T4 none T5) : gm_run gC 6 YX10_deliver 0 [some (.ref 0), some (.int a1), none, none, none] [] S (some (.int r7)) T5 := by
  refine gm_aload_n dX10_deliver_0 rfl ?_
  refine gm_getR (own := RX10) (q := 1) rfl dX10_deliver_1 lfX10_10 sC_0 rfl ?_
  refine gm_getR (own := RX10) (q := 26) rfl dX10_deliver_4 lfX10_58 sC_1 rfl ?_
  refine gm_iload_n dX10_deliver_7 rfl ?_
  refine gm_callV (r1 := (some (.ref q1))) (own := RX10) rfl dX10_deliver_8 llX10_108 mvX3_at sC_26 rfl [.int a1] [] rfl rfl (Nat.le_of_ble_eq_true rfl) (by decide) rfl h2 rfl ?_
  refine gm_astore_n (L' := [some (.ref 0), some (.int a1), some (.ref q1), none, none]) dX10_deliver_11 (by decide) rfl ?_
  refine gm_aload_n dX10_deliver_12 rfl ?_
  refine gm_nonnull_t (tgt := 19) dX10_deliver_13 (by decide) ?_
  refine gm_aload_n dX10_deliver_19 rfl ?_
  refine gm_getR (own := RX10) (q := 122) rfl dX10_deliver_20 lfX10_29 sC_0 rfl ?_
  refine gm_aload_n dX10_deliver_23 rfl ?_
  refine gm_callV (r1 := none) (own := RX10) rfl dX10_deliver_24 llX10_112 mvX5_copyFrom sC_122 rfl [.ref q1] [] rfl rfl (Nat.le_of_ble_eq_true rfl) (by decide) rfl h3 rfl ?_
  refine gm_aload_n dX10_deliver_27 rfl ?_
  refine gm_getR (own := RX10) (q := 1) rfl dX10_deliver_28 lfX10_10 sC_0 rfl ?_
  refine gm_getR (own := RX10) (q := 26) rfl dX10_deliver_31 lfX10_58 sC_1 rfl ?_
  refine gm_iload_n dX10_deliver_34 rfl ?_
  refine gm_callV (r1 := none) (own := RX10) rfl dX10_deliver_35 llX10_116 mvX3_remove sC_26 rfl [.int a1] [] rfl rfl (Nat.le_of_ble_eq_true rfl) (by decide) rfl h4 rfl ?_
  refine gm_aload_n dX10_deliver_38 rfl ?_
  refine gm_iconst (v := 1) dX10_deliver_39 (by decide) ?_
  refine gm_aload_n dX10_deliver_40 rfl ?_
  refine gm_getR (own := RX10) (q := 122) rfl dX10_deliver_41 lfX10_29 sC_0 rfl ?_
  refine gm_getI (own := RX10) (x := (T2 122 0)) rfl dX10_deliver_44 lfX10_120 sC_122 rfl rfl ?_
  refine gm_isub dX10_deliver_47 rfl ?_
  refine gm_callV (r1 := (some (.ref q5))) (own := RX10) rfl dX10_deliver_48 llX10_100 mvX10_endpointOf sC_0 rfl [.int (1 - (T2 122 0))] [] rfl rfl (Nat.le_of_ble_eq_true rfl) (by decide) rfl h6 rfl ?_
  refine gm_astore_n (L' := [some (.ref 0), some (.int a1), some (.ref q1), some (.ref q5), none]) dX10_deliver_51 (by decide) rfl ?_
  refine gm_aload_n dX10_deliver_52 rfl ?_
  refine gm_aload_n dX10_deliver_53 rfl ?_
  refine gm_getR (own := RX10) (q := 122) rfl dX10_deliver_54 lfX10_29 sC_0 rfl ?_
  refine gm_aload_n dX10_deliver_57 rfl ?_
  refine gm_callV (r1 := (some (.int r7))) (own := RX10) rfl dX10_deliver_58 llX10_123 mvX10_resultOf sC_0 rfl [.ref 122, .ref q5] [] rfl rfl (Nat.le_of_ble_eq_true rfl) (by decide) rfl h8 rfl ?_
  refine gm_istore (L' := [some (.ref 0), some (.int a1), some (.ref q1), some (.ref q5), some (.int r7)]) dX10_deliver_61 (by decide) rfl ?_
  refine gm_aload_n dX10_deliver_63 rfl ?_
  refine gm_iload dX10_deliver_64 rfl ?_
  refine gm_callV (r1 := none) (own := RX10) rfl dX10_deliver_66 llX10_127 mvX0_countResult (sC_E_0 (by omega)) rfl [.int r7] [] rfl rfl (Nat.le_of_ble_eq_true rfl) (by decide) rfl h9 rfl ?_
  refine gm_aload_n dX10_deliver_69 rfl ?_
  refine gm_getR (own := RX10) (q := 1) rfl dX10_deliver_70 lfX10_10 sC_0 rfl ?_
  refine gm_dup dX10_deliver_73 ?_
  refine gm_getI (own := RX10) (x := (T3 1 11)) rfl dX10_deliver_74 lfX10_130 sC_1 rfl rfl ?_
  refine gm_iconst (v := 1) dX10_deliver_77 (by decide) ?_
  refine gm_iadd dX10_deliver_78 rfl ?_
  refine gm_put (own := RX10) rfl dX10_deliver_79 lfX10_130 sC_1 rfl (gm_fit_int _) ?_
  refine gm_aload_n dX10_deliver_82 rfl ?_
  refine gm_getR (own := RX10) (q := 1) rfl dX10_deliver_83 lfX10_10 sC_0 rfl ?_
  refine gm_getR (own := RX10) (q := 55) rfl dX10_deliver_86 lfX10_133 sC_1 rfl ?_
  refine gm_iconst (v := 1) dX10_deliver_89 (by decide) ?_
  refine gm_aload_n dX10_deliver_90 rfl ?_
  refine gm_getR (own := RX10) (q := 122) rfl dX10_deliver_91 lfX10_29 sC_0 rfl ?_
  refine gm_getI (own := RX10) (x := (T3 122 1)) rfl dX10_deliver_94 lfX10_137 sC_122 rfl (gm_rp (by omega)) ?_
  refine gm_iload dX10_deliver_97 rfl ?_
  refine gm_callV (r1 := none) (own := RX10) rfl dX10_deliver_99 llX10_140 mvX2_add sC_55 rfl [.int 1, .int (T3 122 1), .int r7] [] rfl rfl (Nat.le_of_ble_eq_true rfl) (by decide) rfl h10 rfl ?_
  refine gm_iload dX10_deliver_102 rfl ?_
  refine gm_bipush (v := 8) dX10_deliver_104 (by decide) ?_
  refine gm_icmp_ne_t (tgt := 128) dX10_deliver_106 (by decide) c11 ?_
  refine gm_iload dX10_deliver_128 rfl ?_
  refine gm_if_ne_f dX10_deliver_130 ⟨155, by decide⟩ c12 ?_
  refine gm_aload_n dX10_deliver_133 rfl ?_
  refine gm_getR (own := RX10) (q := 122) rfl dX10_deliver_134 lfX10_29 sC_0 rfl ?_
  refine gm_callV (r1 := (some (.int r13))) (own := RX10) rfl dX10_deliver_137 llX10_153 mvX5_isProtected sC_122 rfl [] [] rfl rfl (Nat.le_of_ble_eq_true rfl) (by decide) rfl h14 rfl ?_
  refine gm_if_eq_f dX10_deliver_140 ⟨155, by decide⟩ c15 ?_
  refine gm_aload_n dX10_deliver_143 rfl ?_
  refine gm_aload_n dX10_deliver_144 rfl ?_
  refine gm_aload_n dX10_deliver_145 rfl ?_
  refine gm_getR (own := RX10) (q := 122) rfl dX10_deliver_146 lfX10_29 sC_0 rfl ?_
  refine gm_callV (r1 := none) (own := RX10) rfl dX10_deliver_149 llX10_156 mvX10_acceptProtected sC_0 rfl [.ref q5, .ref 122] [] rfl rfl (Nat.le_of_ble_eq_true rfl) (by decide) rfl h16 rfl ?_
  refine gm_goto (tgt := 169) dX10_deliver_152 (by decide) ?_
  refine gm_iload dX10_deliver_169 rfl ?_
  exact gm_iret dX10_deliver_171 rfl
/-- X10_deliver 0 [8R 106t 130f 140t] -> ret  -/
theorem PX10_deliver_3 {a1 : Int32} {S : gm_Mem} {q1 : Nat} {T1 : gm_Mem} {T2 : gm_Mem} {q5 : Nat} {r7 : Int32} {T3 : gm_Mem} {T4 : gm_Mem} {r13 : Int32} {T5 : gm_Mem} (kq1 : 28 ≤ q1 ∧ q1 < 52) (h2 : gm_run gC 0 YX3_at 0 [some (.ref 26), some (.int a1)] [] S (some (.ref q1)) S) (h3 : gm_run gC 0 YX5_copyFrom 0 [some (.ref 122), some (.ref q1)] [] S none T1) (h4 : gm_run gC 0 YX3_remove 0 [some (.ref 26), some (.int a1), none, none] [] T1 none T2) (kq5 : q5 = 2 ∨ q5 = 14) (h6 : gm_run gC 0 YX10_endpointOf 0 [some (.ref 0), some (.int (1 - (T2 122 0)))] [] T2 (some (.ref q5)) T2) (h8 : gm_run gC 3 YX10_resultOf 0 [some (.ref 0), some (.ref 122), some (.ref q5)] [] T2 (some (.int r7)) T2) (h9 : gm_run gC 0 YX0_countResult 0 [some (.ref q5), some (.int r7)] [] T2 none T3) (h10 : gm_run gC 0 YX2_add 0 [some (.ref 55), some (.int 1), some (.int (T3 122 1)), some (.int r7)] [] (gm_u T3 1 11 ((T3 1 11) + 1)) none T4) (c11 : ¬ r7 = 8) (c12 : r7 = 0) (h14 : gm_run gC 0 YX5_isProtected 0 [some (.ref 122)] [] T4 (some (.int r13)) T4) (c15 : r13 = 0) (h16 : gm_run gC 5 YX10_acceptPlain 0 [some (.ref 0), some (.ref q5), some (.ref 122)] [] T4 none T5) : gm_run gC 6 YX10_deliver 0 [some (.ref 0), some (.int a1), none, none, none] [] S (some (.int r7)) T5 := by
  refine gm_aload_n dX10_deliver_0 rfl ?_
  refine gm_getR (own := RX10) (q := 1) rfl dX10_deliver_1 lfX10_10 sC_0 rfl ?_
  refine gm_getR (own := RX10) (q := 26) rfl dX10_deliver_4 lfX10_58 sC_1 rfl ?_
  refine gm_iload_n dX10_deliver_7 rfl ?_
  refine gm_callV (r1 := (some (.ref q1))) (own := RX10) rfl dX10_deliver_8 llX10_108 mvX3_at sC_26 rfl [.int a1] [] rfl rfl (Nat.le_of_ble_eq_true rfl) (by decide) rfl h2 rfl ?_
  refine gm_astore_n (L' := [some (.ref 0), some (.int a1), some (.ref q1), none, none]) dX10_deliver_11 (by decide) rfl ?_
  refine gm_aload_n dX10_deliver_12 rfl ?_
  refine gm_nonnull_t (tgt := 19) dX10_deliver_13 (by decide) ?_
  refine gm_aload_n dX10_deliver_19 rfl ?_
  refine gm_getR (own := RX10) (q := 122) rfl dX10_deliver_20 lfX10_29 sC_0 rfl ?_
  refine gm_aload_n dX10_deliver_23 rfl ?_
  refine gm_callV (r1 := none) (own := RX10) rfl dX10_deliver_24 llX10_112 mvX5_copyFrom sC_122 rfl [.ref q1] [] rfl rfl (Nat.le_of_ble_eq_true rfl) (by decide) rfl h3 rfl ?_
  refine gm_aload_n dX10_deliver_27 rfl ?_
  refine gm_getR (own := RX10) (q := 1) rfl dX10_deliver_28 lfX10_10 sC_0 rfl ?_
  refine gm_getR (own := RX10) (q := 26) rfl dX10_deliver_31 lfX10_58 sC_1 rfl ?_
  refine gm_iload_n dX10_deliver_34 rfl ?_
  refine gm_callV (r1 := none) (own := RX10) rfl dX10_deliver_35 llX10_116 mvX3_remove sC_26 rfl [.int a1] [] rfl rfl (Nat.le_of_ble_eq_true rfl) (by decide) rfl h4 rfl ?_
  refine gm_aload_n dX10_deliver_38 rfl ?_
  refine gm_iconst (v := 1) dX10_deliver_39 (by decide) ?_
  refine gm_aload_n dX10_deliver_40 rfl ?_
  refine gm_getR (own := RX10) (q := 122) rfl dX10_deliver_41 lfX10_29 sC_0 rfl ?_
  refine gm_getI (own := RX10) (x := (T2 122 0)) rfl dX10_deliver_44 lfX10_120 sC_122 rfl rfl ?_
  refine gm_isub dX10_deliver_47 rfl ?_
  refine gm_callV (r1 := (some (.ref q5))) (own := RX10) rfl dX10_deliver_48 llX10_100 mvX10_endpointOf sC_0 rfl [.int (1 - (T2 122 0))] [] rfl rfl (Nat.le_of_ble_eq_true rfl) (by decide) rfl h6 rfl ?_
  refine gm_astore_n (L' := [some (.ref 0), some (.int a1), some (.ref q1), some (.ref q5), none]) dX10_deliver_51 (by decide) rfl ?_
  refine gm_aload_n dX10_deliver_52 rfl ?_
  refine gm_aload_n dX10_deliver_53 rfl ?_
  refine gm_getR (own := RX10) (q := 122) rfl dX10_deliver_54 lfX10_29 sC_0 rfl ?_
  refine gm_aload_n dX10_deliver_57 rfl ?_
  refine gm_callV (r1 := (some (.int r7))) (own := RX10) rfl dX10_deliver_58 llX10_123 mvX10_resultOf sC_0 rfl [.ref 122, .ref q5] [] rfl rfl (Nat.le_of_ble_eq_true rfl) (by decide) rfl h8 rfl ?_
  refine gm_istore (L' := [some (.ref 0), some (.int a1), some (.ref q1), some (.ref q5), some (.int r7)]) dX10_deliver_61 (by decide) rfl ?_
  refine gm_aload_n dX10_deliver_63 rfl ?_
  refine gm_iload dX10_deliver_64 rfl ?_
  refine gm_callV (r1 := none) (own := RX10) rfl dX10_deliver_66 llX10_127 mvX0_countResult (sC_E_0 (by omega)) rfl [.int r7] [] rfl rfl (Nat.le_of_ble_eq_true rfl) (by decide) rfl h9 rfl ?_
  refine gm_aload_n dX10_deliver_69 rfl ?_
  refine gm_getR (own := RX10) (q := 1) rfl dX10_deliver_70 lfX10_10 sC_0 rfl ?_
  refine gm_dup dX10_deliver_73 ?_
  refine gm_getI (own := RX10) (x := (T3 1 11)) rfl dX10_deliver_74 lfX10_130 sC_1 rfl rfl ?_
  refine gm_iconst (v := 1) dX10_deliver_77 (by decide) ?_
  refine gm_iadd dX10_deliver_78 rfl ?_
  refine gm_put (own := RX10) rfl dX10_deliver_79 lfX10_130 sC_1 rfl (gm_fit_int _) ?_
  refine gm_aload_n dX10_deliver_82 rfl ?_
  refine gm_getR (own := RX10) (q := 1) rfl dX10_deliver_83 lfX10_10 sC_0 rfl ?_
  refine gm_getR (own := RX10) (q := 55) rfl dX10_deliver_86 lfX10_133 sC_1 rfl ?_
  refine gm_iconst (v := 1) dX10_deliver_89 (by decide) ?_
  refine gm_aload_n dX10_deliver_90 rfl ?_
  refine gm_getR (own := RX10) (q := 122) rfl dX10_deliver_91 lfX10_29 sC_0 rfl ?_
  refine gm_getI (own := RX10) (x := (T3 122 1)) rfl dX10_deliver_94 lfX10_137 sC_122 rfl (gm_rp (by omega)) ?_
  refine gm_iload dX10_deliver_97 rfl ?_
  refine gm_callV (r1 := none) (own := RX10) rfl dX10_deliver_99 llX10_140 mvX2_add sC_55 rfl [.int 1, .int (T3 122 1), .int r7] [] rfl rfl (Nat.le_of_ble_eq_true rfl) (by decide) rfl h10 rfl ?_
  refine gm_iload dX10_deliver_102 rfl ?_
  refine gm_bipush (v := 8) dX10_deliver_104 (by decide) ?_
  refine gm_icmp_ne_t (tgt := 128) dX10_deliver_106 (by decide) c11 ?_
  refine gm_iload dX10_deliver_128 rfl ?_
  refine gm_if_ne_f dX10_deliver_130 ⟨155, by decide⟩ c12 ?_
  refine gm_aload_n dX10_deliver_133 rfl ?_
  refine gm_getR (own := RX10) (q := 122) rfl dX10_deliver_134 lfX10_29 sC_0 rfl ?_
  refine gm_callV (r1 := (some (.int r13))) (own := RX10) rfl dX10_deliver_137 llX10_153 mvX5_isProtected sC_122 rfl [] [] rfl rfl (Nat.le_of_ble_eq_true rfl) (by decide) rfl h14 rfl ?_
  refine gm_if_eq_t (tgt := 155) dX10_deliver_140 (by decide) c15 ?_
  refine gm_iload dX10_deliver_155 rfl ?_
  refine gm_if_ne_f dX10_deliver_157 ⟨169, by decide⟩ c12 ?_
  refine gm_aload_n dX10_deliver_160 rfl ?_
  refine gm_aload_n dX10_deliver_161 rfl ?_
  refine gm_aload_n dX10_deliver_162 rfl ?_
  refine gm_getR (own := RX10) (q := 122) rfl dX10_deliver_163 lfX10_29 sC_0 rfl ?_
  refine gm_callV (r1 := none) (own := RX10) rfl dX10_deliver_166 llX10_160 mvX10_acceptPlain sC_0 rfl [.ref q5, .ref 122] [] rfl rfl (Nat.le_of_ble_eq_true rfl) (by decide) rfl h16 rfl ?_
  refine gm_iload dX10_deliver_169 rfl ?_
  exact gm_iret dX10_deliver_171 rfl
/-- X10_deliver 0 [8R 106t 130t] -> ret  -/
theorem PX10_deliver_4 {a1 : Int32} {S : gm_Mem} {q1 : Nat} {T1 : gm_Mem} {T2 : gm_Mem} {q5 : Nat} {r7 : Int32} {T3 : gm_Mem} {T4 : gm_Mem} (kq1 : 28 ≤ q1 ∧ q1 < 52) (h2 : gm_run gC 0 YX3_at 0 [some (.ref 26), some (.int a1)] [] S (some (.ref q1)) S) (h3 : gm_run gC 0 YX5_copyFrom 0 [some (.ref 122), some (.ref q1)] [] S none T1) (h4 : gm_run gC 0 YX3_remove 0 [some (.ref 26), some (.int a1), none, none] [] T1 none T2) (kq5 : q5 = 2 ∨ q5 = 14) (h6 : gm_run gC 0 YX10_endpointOf 0 [some (.ref 0), some (.int (1 - (T2 122 0)))] [] T2 (some (.ref q5)) T2) (h8 : gm_run gC 3 YX10_resultOf 0 [some (.ref 0), some (.ref 122), some (.ref q5)] [] T2 (some (.int r7)) T2) (h9 : gm_run gC 0 YX0_countResult 0 [some (.ref q5), some (.int r7)] [] T2 none T3) (h10 : gm_run gC 0 YX2_add 0 [some (.ref 55), some (.int 1), some (.int (T3 122 1)), some (.int r7)] [] (gm_u T3 1 11 ((T3 1 11) + 1)) none T4) (c11 : ¬ r7 = 8) (c12 : ¬ r7 = 0) : gm_run gC 6 YX10_deliver 0 [some (.ref 0), some (.int a1), none, none, none] [] S (some (.int r7)) T4 := by
  refine gm_aload_n dX10_deliver_0 rfl ?_
  refine gm_getR (own := RX10) (q := 1) rfl dX10_deliver_1 lfX10_10 sC_0 rfl ?_
  refine gm_getR (own := RX10) (q := 26) rfl dX10_deliver_4 lfX10_58 sC_1 rfl ?_
  refine gm_iload_n dX10_deliver_7 rfl ?_
  refine gm_callV (r1 := (some (.ref q1))) (own := RX10) rfl dX10_deliver_8 llX10_108 mvX3_at sC_26 rfl [.int a1] [] rfl rfl (Nat.le_of_ble_eq_true rfl) (by decide) rfl h2 rfl ?_
  refine gm_astore_n (L' := [some (.ref 0), some (.int a1), some (.ref q1), none, none]) dX10_deliver_11 (by decide) rfl ?_
  refine gm_aload_n dX10_deliver_12 rfl ?_
  refine gm_nonnull_t (tgt := 19) dX10_deliver_13 (by decide) ?_
  refine gm_aload_n dX10_deliver_19 rfl ?_
  refine gm_getR (own := RX10) (q := 122) rfl dX10_deliver_20 lfX10_29 sC_0 rfl ?_
  refine gm_aload_n dX10_deliver_23 rfl ?_
  refine gm_callV (r1 := none) (own := RX10) rfl dX10_deliver_24 llX10_112 mvX5_copyFrom sC_122 rfl [.ref q1] [] rfl rfl (Nat.le_of_ble_eq_true rfl) (by decide) rfl h3 rfl ?_
  refine gm_aload_n dX10_deliver_27 rfl ?_
  refine gm_getR (own := RX10) (q := 1) rfl dX10_deliver_28 lfX10_10 sC_0 rfl ?_
  refine gm_getR (own := RX10) (q := 26) rfl dX10_deliver_31 lfX10_58 sC_1 rfl ?_
  refine gm_iload_n dX10_deliver_34 rfl ?_
  refine gm_callV (r1 := none) (own := RX10) rfl dX10_deliver_35 llX10_116 mvX3_remove sC_26 rfl [.int a1] [] rfl rfl (Nat.le_of_ble_eq_true rfl) (by decide) rfl h4 rfl ?_
  refine gm_aload_n dX10_deliver_38 rfl ?_
  refine gm_iconst (v := 1) dX10_deliver_39 (by decide) ?_
  refine gm_aload_n dX10_deliver_40 rfl ?_
  refine gm_getR (own := RX10) (q := 122) rfl dX10_deliver_41 lfX10_29 sC_0 rfl ?_
  refine gm_getI (own := RX10) (x := (T2 122 0)) rfl dX10_deliver_44 lfX10_120 sC_122 rfl rfl ?_
  refine gm_isub dX10_deliver_47 rfl ?_
  refine gm_callV (r1 := (some (.ref q5))) (own := RX10) rfl dX10_deliver_48 llX10_100 mvX10_endpointOf sC_0 rfl [.int (1 - (T2 122 0))] [] rfl rfl (Nat.le_of_ble_eq_true rfl) (by decide) rfl h6 rfl ?_
  refine gm_astore_n (L' := [some (.ref 0), some (.int a1), some (.ref q1), some (.ref q5), none]) dX10_deliver_51 (by decide) rfl ?_
  refine gm_aload_n dX10_deliver_52 rfl ?_
  refine gm_aload_n dX10_deliver_53 rfl ?_
  refine gm_getR (own := RX10) (q := 122) rfl dX10_deliver_54 lfX10_29 sC_0 rfl ?_
  refine gm_aload_n dX10_deliver_57 rfl ?_
  refine gm_callV (r1 := (some (.int r7))) (own := RX10) rfl dX10_deliver_58 llX10_123 mvX10_resultOf sC_0 rfl [.ref 122, .ref q5] [] rfl rfl (Nat.le_of_ble_eq_true rfl) (by decide) rfl h8 rfl ?_
  refine gm_istore (L' := [some (.ref 0), some (.int a1), some (.ref q1), some (.ref q5), some (.int r7)]) dX10_deliver_61 (by decide) rfl ?_
  refine gm_aload_n dX10_deliver_63 rfl ?_
  refine gm_iload dX10_deliver_64 rfl ?_
  refine gm_callV (r1 := none) (own := RX10) rfl dX10_deliver_66 llX10_127 mvX0_countResult (sC_E_0 (by omega)) rfl [.int r7] [] rfl rfl (Nat.le_of_ble_eq_true rfl) (by decide) rfl h9 rfl ?_
  refine gm_aload_n dX10_deliver_69 rfl ?_
  refine gm_getR (own := RX10) (q := 1) rfl dX10_deliver_70 lfX10_10 sC_0 rfl ?_
  refine gm_dup dX10_deliver_73 ?_
  refine gm_getI (own := RX10) (x := (T3 1 11)) rfl dX10_deliver_74 lfX10_130 sC_1 rfl rfl ?_
  refine gm_iconst (v := 1) dX10_deliver_77 (by decide) ?_
  refine gm_iadd dX10_deliver_78 rfl ?_
  refine gm_put (own := RX10) rfl dX10_deliver_79 lfX10_130 sC_1 rfl (gm_fit_int _) ?_
  refine gm_aload_n dX10_deliver_82 rfl ?_
  refine gm_getR (own := RX10) (q := 1) rfl dX10_deliver_83 lfX10_10 sC_0 rfl ?_
  refine gm_getR (own := RX10) (q := 55) rfl dX10_deliver_86 lfX10_133 sC_1 rfl ?_
  refine gm_iconst (v := 1) dX10_deliver_89 (by decide) ?_
  refine gm_aload_n dX10_deliver_90 rfl ?_
  refine gm_getR (own := RX10) (q := 122) rfl dX10_deliver_91 lfX10_29 sC_0 rfl ?_
  refine gm_getI (own := RX10) (x := (T3 122 1)) rfl dX10_deliver_94 lfX10_137 sC_122 rfl (gm_rp (by omega)) ?_
  refine gm_iload dX10_deliver_97 rfl ?_
  refine gm_callV (r1 := none) (own := RX10) rfl dX10_deliver_99 llX10_140 mvX2_add sC_55 rfl [.int 1, .int (T3 122 1), .int r7] [] rfl rfl (Nat.le_of_ble_eq_true rfl) (by decide) rfl h10 rfl ?_
  refine gm_iload dX10_deliver_102 rfl ?_
  refine gm_bipush (v := 8) dX10_deliver_104 (by decide) ?_
  refine gm_icmp_ne_t (tgt := 128) dX10_deliver_106 (by decide) c11 ?_
  refine gm_iload dX10_deliver_128 rfl ?_
  refine gm_if_ne_t (tgt := 155) dX10_deliver_130 (by decide) c12 ?_
  refine gm_iload dX10_deliver_155 rfl ?_
  refine gm_if_ne_t (tgt := 169) dX10_deliver_157 (by decide) c12 ?_
  refine gm_iload dX10_deliver_169 rfl ?_
  exact gm_iret dX10_deliver_171 rfl
/-- X10_deliver 0 [8N] -> ret  -/
theorem PX10_deliver_5 {a1 : Int32} {S : gm_Mem} (h1 : gm_run gC 0 YX3_at 0 [some (.ref 26), some (.int a1)] [] S (some .null) S) : gm_run gC 6 YX10_deliver 0 [some (.ref 0), some (.int a1), none, none, none] [] S (some (.int (-1000000001))) S := by
  refine gm_aload_n dX10_deliver_0 rfl ?_
  refine gm_getR (own := RX10) (q := 1) rfl dX10_deliver_1 lfX10_10 sC_0 rfl ?_
  refine gm_getR (own := RX10) (q := 26) rfl dX10_deliver_4 lfX10_58 sC_1 rfl ?_
  refine gm_iload_n dX10_deliver_7 rfl ?_
  refine gm_callV (r1 := (some .null)) (own := RX10) rfl dX10_deliver_8 llX10_108 mvX3_at sC_26 rfl [.int a1] [] rfl rfl (Nat.le_of_ble_eq_true rfl) (by decide) rfl h1 rfl ?_
  refine gm_astore_nN (L' := [some (.ref 0), some (.int a1), some (.null), none, none]) dX10_deliver_11 (by decide) rfl ?_
  refine gm_aload_nN dX10_deliver_12 rfl ?_
  refine gm_nonnull_f dX10_deliver_13 ?_
  refine gm_ldc (own := RX10) rfl lcX10_82 dX10_deliver_16 ?_
  exact gm_iret dX10_deliver_18 rfl
/-- X10_foresee 0 [8R] -> ret  -/
theorem PX10_foresee_1 {a1 : Int32} {S : gm_Mem} {q1 : Nat} {q3 : Nat} {r5 : Int32} (kq1 : 28 ≤ q1 ∧ q1 < 52) (h2 : gm_run gC 0 YX3_at 0 [some (.ref 26), some (.int a1)] [] S (some (.ref q1)) S) (kq3 : q3 = 2 ∨ q3 = 14) (h4 : gm_run gC 0 YX10_endpointOf 0 [some (.ref 0), some (.int (1 - (S q1 0)))] [] S (some (.ref q3)) S) (h6 : gm_run gC 3 YX10_resultOf 0 [some (.ref 0), some (.ref q1), some (.ref q3)] [] S (some (.int r5)) S) : gm_run gC 4 YX10_foresee 0 [some (.ref 0), some (.int a1), none] [] S (some (.int r5)) S := by
  refine gm_aload_n dX10_foresee_0 rfl ?_
  refine gm_getR (own := RX10) (q := 1) rfl dX10_foresee_1 lfX10_10 sC_0 rfl ?_
  refine gm_getR (own := RX10) (q := 26) rfl dX10_foresee_4 lfX10_58 sC_1 rfl ?_
  refine gm_iload_n dX10_foresee_7 rfl ?_
  refine gm_callV (r1 := (some (.ref q1))) (own := RX10) rfl dX10_foresee_8 llX10_108 mvX3_at sC_26 rfl [.int a1] [] rfl rfl (Nat.le_of_ble_eq_true rfl) (by decide) rfl h2 rfl ?_
  refine gm_astore_n (L' := [some (.ref 0), some (.int a1), some (.ref q1)]) dX10_foresee_11 (by decide) rfl ?_
  refine gm_aload_n dX10_foresee_12 rfl ?_
  refine gm_nonnull_t (tgt := 19) dX10_foresee_13 (by decide) ?_
  refine gm_aload_n dX10_foresee_19 rfl ?_
  refine gm_aload_n dX10_foresee_20 rfl ?_
  refine gm_aload_n dX10_foresee_21 rfl ?_
  refine gm_iconst (v := 1) dX10_foresee_22 (by decide) ?_
  refine gm_aload_n dX10_foresee_23 rfl ?_
  refine gm_getI (own := RX10) (x := (S q1 0)) rfl dX10_foresee_24 lfX10_120 (sC_Pk_0 (by omega)) rfl rfl ?_
  refine gm_isub dX10_foresee_27 rfl ?_
  refine gm_callV (r1 := (some (.ref q3))) (own := RX10) rfl dX10_foresee_28 llX10_100 mvX10_endpointOf sC_0 rfl [.int (1 - (S q1 0))] [.ref q1, .ref 0] rfl rfl (Nat.le_of_ble_eq_true rfl) (by decide) rfl h4 rfl ?_
  refine gm_callV (r1 := (some (.int r5))) (own := RX10) rfl dX10_foresee_31 llX10_123 mvX10_resultOf sC_0 rfl [.ref q1, .ref q3] [] rfl rfl (Nat.le_of_ble_eq_true rfl) (by decide) rfl h6 rfl ?_
  exact gm_iret dX10_foresee_34 rfl
/-- X10_foresee 0 [8N] -> ret  -/
theorem PX10_foresee_2 {a1 : Int32} {S : gm_Mem} (h1 : gm_run gC 0 YX3_at 0 [some (.ref 26), some (.int a1)] [] S (some .null) S) : gm_run gC 4 YX10_foresee 0 [some (.ref 0), some (.int a1), none] [] S (some (.int (-1000000001))) S := by
  refine gm_aload_n dX10_foresee_0 rfl ?_
  refine gm_getR (own := RX10) (q := 1) rfl dX10_foresee_1 lfX10_10 sC_0 rfl ?_
  refine gm_getR (own := RX10) (q := 26) rfl dX10_foresee_4 lfX10_58 sC_1 rfl ?_
  refine gm_iload_n dX10_foresee_7 rfl ?_
  refine gm_callV (r1 := (some .null)) (own := RX10) rfl dX10_foresee_8 llX10_108 mvX3_at sC_26 rfl [.int a1] [] rfl rfl (Nat.le_of_ble_eq_true rfl) (by decide) rfl h1 rfl ?_
  refine gm_astore_nN (L' := [some (.ref 0), some (.int a1), some (.null)]) dX10_foresee_11 (by decide) rfl ?_
  refine gm_aload_nN dX10_foresee_12 rfl ?_
  refine gm_nonnull_f dX10_foresee_13 ?_
  refine gm_ldc (own := RX10) rfl lcX10_82 dX10_foresee_16 ?_
  exact gm_iret dX10_foresee_18 rfl
/-- X10_drop 0 [8R] -> ret  -/
theorem PX10_drop_1 {a1 : Int32} {S : gm_Mem} {q1 : Nat} {T1 : gm_Mem} {T2 : gm_Mem} (kq1 : 28 ≤ q1 ∧ q1 < 52) (h2 : gm_run gC 0 YX3_at 0 [some (.ref 26), some (.int a1)] [] S (some (.ref q1)) S) (h3 : gm_run gC 0 YX2_add 0 [some (.ref 55), some (.int 2), some (.int (S q1 0)), some (.int (S q1 1))] [] (gm_u S 1 12 ((S 1 12) + 1)) none T1) (h4 : gm_run gC 0 YX3_remove 0 [some (.ref 26), some (.int a1), none, none] [] T1 none T2) : gm_run gC 1 YX10_drop 0 [some (.ref 0), some (.int a1), none] [] S (some (.int (T2 26 1))) T2 := by
  refine gm_aload_n dX10_drop_0 rfl ?_
  refine gm_getR (own := RX10) (q := 1) rfl dX10_drop_1 lfX10_10 sC_0 rfl ?_
  refine gm_getR (own := RX10) (q := 26) rfl dX10_drop_4 lfX10_58 sC_1 rfl ?_
  refine gm_iload_n dX10_drop_7 rfl ?_
  refine gm_callV (r1 := (some (.ref q1))) (own := RX10) rfl dX10_drop_8 llX10_108 mvX3_at sC_26 rfl [.int a1] [] rfl rfl (Nat.le_of_ble_eq_true rfl) (by decide) rfl h2 rfl ?_
  refine gm_astore_n (L' := [some (.ref 0), some (.int a1), some (.ref q1)]) dX10_drop_11 (by decide) rfl ?_
  refine gm_aload_n dX10_drop_12 rfl ?_
  refine gm_nonnull_t (tgt := 19) dX10_drop_13 (by decide) ?_
  refine gm_aload_n dX10_drop_19 rfl ?_
  refine gm_getR (own := RX10) (q := 1) rfl dX10_drop_20 lfX10_10 sC_0 rfl ?_
  refine gm_dup dX10_drop_23 ?_
  refine gm_getI (own := RX10) (x := (S 1 12)) rfl dX10_drop_24 lfX10_86 sC_1 rfl rfl ?_
  refine gm_iconst (v := 1) dX10_drop_27 (by decide) ?_
  refine gm_iadd dX10_drop_28 rfl ?_
  refine gm_put (own := RX10) rfl dX10_drop_29 lfX10_86 sC_1 rfl (gm_fit_int _) ?_
  refine gm_aload_n dX10_drop_32 rfl ?_
  refine gm_getR (own := RX10) (q := 1) rfl dX10_drop_33 lfX10_10 sC_0 rfl ?_
  refine gm_getR (own := RX10) (q := 55) rfl dX10_drop_36 lfX10_133 sC_1 rfl ?_
  refine gm_iconst (v := 2) dX10_drop_39 (by decide) ?_
  refine gm_aload_n dX10_drop_40 rfl ?_
  refine gm_getI (own := RX10) (x := (S q1 0)) rfl dX10_drop_41 lfX10_120 (sC_Pk_0 (by omega)) rfl (gm_rp (by omega)) ?_
  refine gm_aload_n dX10_drop_44 rfl ?_
  refine gm_getI (own := RX10) (x := (S q1 1)) rfl dX10_drop_45 lfX10_137 (sC_Pk_0 (by omega)) rfl (gm_rp (by omega)) ?_
  refine gm_callV (r1 := none) (own := RX10) rfl dX10_drop_48 llX10_140 mvX2_add sC_55 rfl [.int 2, .int (S q1 0), .int (S q1 1)] [] rfl rfl (Nat.le_of_ble_eq_true rfl) (by decide) rfl h3 rfl ?_
  refine gm_aload_n dX10_drop_51 rfl ?_
  refine gm_getR (own := RX10) (q := 1) rfl dX10_drop_52 lfX10_10 sC_0 rfl ?_
  refine gm_getR (own := RX10) (q := 26) rfl dX10_drop_55 lfX10_58 sC_1 rfl ?_
  refine gm_iload_n dX10_drop_58 rfl ?_
  refine gm_callV (r1 := none) (own := RX10) rfl dX10_drop_59 llX10_116 mvX3_remove sC_26 rfl [.int a1] [] rfl rfl (Nat.le_of_ble_eq_true rfl) (by decide) rfl h4 rfl ?_
  refine gm_aload_n dX10_drop_62 rfl ?_
  refine gm_getR (own := RX10) (q := 1) rfl dX10_drop_63 lfX10_10 sC_0 rfl ?_
  refine gm_getR (own := RX10) (q := 26) rfl dX10_drop_66 lfX10_58 sC_1 rfl ?_
  refine gm_getI (own := RX10) (x := (T2 26 1)) rfl dX10_drop_69 lfX10_83 sC_26 rfl rfl ?_
  exact gm_iret dX10_drop_72 rfl
/-- X10_drop 0 [8N] -> ret  -/
theorem PX10_drop_2 {a1 : Int32} {S : gm_Mem} (h1 : gm_run gC 0 YX3_at 0 [some (.ref 26), some (.int a1)] [] S (some .null) S) : gm_run gC 1 YX10_drop 0 [some (.ref 0), some (.int a1), none] [] S (some (.int (-1000000001))) S := by
  refine gm_aload_n dX10_drop_0 rfl ?_
  refine gm_getR (own := RX10) (q := 1) rfl dX10_drop_1 lfX10_10 sC_0 rfl ?_
  refine gm_getR (own := RX10) (q := 26) rfl dX10_drop_4 lfX10_58 sC_1 rfl ?_
  refine gm_iload_n dX10_drop_7 rfl ?_
  refine gm_callV (r1 := (some .null)) (own := RX10) rfl dX10_drop_8 llX10_108 mvX3_at sC_26 rfl [.int a1] [] rfl rfl (Nat.le_of_ble_eq_true rfl) (by decide) rfl h1 rfl ?_
  refine gm_astore_nN (L' := [some (.ref 0), some (.int a1), some (.null)]) dX10_drop_11 (by decide) rfl ?_
  refine gm_aload_nN dX10_drop_12 rfl ?_
  refine gm_nonnull_f dX10_drop_13 ?_
  refine gm_ldc (own := RX10) rfl lcX10_82 dX10_drop_16 ?_
  exact gm_iret dX10_drop_18 rfl
/-- X10_repeat 0 [8R 26R] -> ret  -/
theorem PX10_repeat_1 {a1 : Int32} {S : gm_Mem} {q1 : Nat} {T1 : gm_Mem} {q3 : Nat} {T2 : gm_Mem} (kq1 : 28 ≤ q1 ∧ q1 < 52) (h2 : gm_run gC 0 YX3_at 0 [some (.ref 26), some (.int a1)] [] S (some (.ref q1)) S) (kq3 : 28 ≤ q3 ∧ q3 < 52) (h4 : gm_run gC 0 YX3_extend 0 [some (.ref 26)] [] S (some (.ref q3)) T1) (h5 : gm_run gC 0 YX5_copyFrom 0 [some (.ref q3), some (.ref q1)] [] T1 none T2) : gm_run gC 1 YX10_repeat 0 [some (.ref 0), some (.int a1), none, none] [] S (some (.int (T2 26 1))) (gm_u T2 1 13 ((T2 1 13) + 1)) := by
  refine gm_aload_n dX10_repeat_0 rfl ?_
  refine gm_getR (own := RX10) (q := 1) rfl dX10_repeat_1 lfX10_10 sC_0 rfl ?_
  refine gm_getR (own := RX10) (q := 26) rfl dX10_repeat_4 lfX10_58 sC_1 rfl ?_
  refine gm_iload_n dX10_repeat_7 rfl ?_
  refine gm_callV (r1 := (some (.ref q1))) (own := RX10) rfl dX10_repeat_8 llX10_108 mvX3_at sC_26 rfl [.int a1] [] rfl rfl (Nat.le_of_ble_eq_true rfl) (by decide) rfl h2 rfl ?_
  refine gm_astore_n (L' := [some (.ref 0), some (.int a1), some (.ref q1), none]) dX10_repeat_11 (by decide) rfl ?_
  refine gm_aload_n dX10_repeat_12 rfl ?_
  refine gm_nonnull_t (tgt := 19) dX10_repeat_13 (by decide) ?_
  refine gm_aload_n dX10_repeat_19 rfl ?_
  refine gm_getR (own := RX10) (q := 1) rfl dX10_repeat_20 lfX10_10 sC_0 rfl ?_
  refine gm_getR (own := RX10) (q := 26) rfl dX10_repeat_23 lfX10_58 sC_1 rfl ?_
  refine gm_callV (r1 := (some (.ref q3))) (own := RX10) rfl dX10_repeat_26 llX10_163 mvX3_extend sC_26 rfl [] [] rfl rfl (Nat.le_of_ble_eq_true rfl) (by decide) rfl h4 rfl ?_
  refine gm_astore_n (L' := [some (.ref 0), some (.int a1), some (.ref q1), some (.ref q3)]) dX10_repeat_29 (by decide) rfl ?_
  refine gm_aload_n dX10_repeat_30 rfl ?_
  refine gm_nonnull_t (tgt := 37) dX10_repeat_31 (by decide) ?_
  refine gm_aload_n dX10_repeat_37 rfl ?_
  refine gm_aload_n dX10_repeat_38 rfl ?_
  refine gm_callV (r1 := none) (own := RX10) rfl dX10_repeat_39 llX10_112 mvX5_copyFrom (sC_Pk_0 (by omega)) rfl [.ref q1] [] rfl rfl (Nat.le_of_ble_eq_true rfl) (by decide) rfl h5 rfl ?_
  refine gm_aload_n dX10_repeat_42 rfl ?_
  refine gm_getR (own := RX10) (q := 1) rfl dX10_repeat_43 lfX10_10 sC_0 rfl ?_
  refine gm_dup dX10_repeat_46 ?_
  refine gm_getI (own := RX10) (x := (T2 1 13)) rfl dX10_repeat_47 lfX10_167 sC_1 rfl rfl ?_
  refine gm_iconst (v := 1) dX10_repeat_50 (by decide) ?_
  refine gm_iadd dX10_repeat_51 rfl ?_
  refine gm_put (own := RX10) rfl dX10_repeat_52 lfX10_167 sC_1 rfl (gm_fit_int _) ?_
  refine gm_aload_n dX10_repeat_55 rfl ?_
  refine gm_getR (own := RX10) (q := 1) rfl dX10_repeat_56 lfX10_10 sC_0 rfl ?_
  refine gm_getR (own := RX10) (q := 26) rfl dX10_repeat_59 lfX10_58 sC_1 rfl ?_
  refine gm_getI (own := RX10) (x := (T2 26 1)) rfl dX10_repeat_62 lfX10_83 sC_26 rfl (gm_rp (by omega)) ?_
  exact gm_iret dX10_repeat_65 rfl
/-- X10_repeat 0 [8R 26N] -> ret  -/
theorem PX10_repeat_2 {a1 : Int32} {S : gm_Mem} {q1 : Nat} {T1 : gm_Mem} (kq1 : 28 ≤ q1 ∧ q1 < 52) (h2 : gm_run gC 0 YX3_at 0 [some (.ref 26), some (.int a1)] [] S (some (.ref q1)) S) (h3 : gm_run gC 0 YX3_extend 0 [some (.ref 26)] [] S (some .null) T1) : gm_run gC 1 YX10_repeat 0 [some (.ref 0), some (.int a1), none, none] [] S (some (.int (-1000000003))) T1 := by
  refine gm_aload_n dX10_repeat_0 rfl ?_
  refine gm_getR (own := RX10) (q := 1) rfl dX10_repeat_1 lfX10_10 sC_0 rfl ?_
  refine gm_getR (own := RX10) (q := 26) rfl dX10_repeat_4 lfX10_58 sC_1 rfl ?_
  refine gm_iload_n dX10_repeat_7 rfl ?_
  refine gm_callV (r1 := (some (.ref q1))) (own := RX10) rfl dX10_repeat_8 llX10_108 mvX3_at sC_26 rfl [.int a1] [] rfl rfl (Nat.le_of_ble_eq_true rfl) (by decide) rfl h2 rfl ?_
  refine gm_astore_n (L' := [some (.ref 0), some (.int a1), some (.ref q1), none]) dX10_repeat_11 (by decide) rfl ?_
  refine gm_aload_n dX10_repeat_12 rfl ?_
  refine gm_nonnull_t (tgt := 19) dX10_repeat_13 (by decide) ?_
  refine gm_aload_n dX10_repeat_19 rfl ?_
  refine gm_getR (own := RX10) (q := 1) rfl dX10_repeat_20 lfX10_10 sC_0 rfl ?_
  refine gm_getR (own := RX10) (q := 26) rfl dX10_repeat_23 lfX10_58 sC_1 rfl ?_
  refine gm_callV (r1 := (some .null)) (own := RX10) rfl dX10_repeat_26 llX10_163 mvX3_extend sC_26 rfl [] [] rfl rfl (Nat.le_of_ble_eq_true rfl) (by decide) rfl h3 rfl ?_
  refine gm_astore_nN (L' := [some (.ref 0), some (.int a1), some (.ref q1), some (.null)]) dX10_repeat_29 (by decide) rfl ?_
  refine gm_aload_nN dX10_repeat_30 rfl ?_
  refine gm_nonnull_f dX10_repeat_31 ?_
  refine gm_ldc (own := RX10) rfl lcX10_68 dX10_repeat_34 ?_
  exact gm_iret dX10_repeat_36 rfl
/-- X10_repeat 0 [8N] -> ret  -/
theorem PX10_repeat_3 {a1 : Int32} {S : gm_Mem} (h1 : gm_run gC 0 YX3_at 0 [some (.ref 26), some (.int a1)] [] S (some .null) S) : gm_run gC 1 YX10_repeat 0 [some (.ref 0), some (.int a1), none, none] [] S (some (.int (-1000000001))) S := by
  refine gm_aload_n dX10_repeat_0 rfl ?_
  refine gm_getR (own := RX10) (q := 1) rfl dX10_repeat_1 lfX10_10 sC_0 rfl ?_
  refine gm_getR (own := RX10) (q := 26) rfl dX10_repeat_4 lfX10_58 sC_1 rfl ?_
  refine gm_iload_n dX10_repeat_7 rfl ?_
  refine gm_callV (r1 := (some .null)) (own := RX10) rfl dX10_repeat_8 llX10_108 mvX3_at sC_26 rfl [.int a1] [] rfl rfl (Nat.le_of_ble_eq_true rfl) (by decide) rfl h1 rfl ?_
  refine gm_astore_nN (L' := [some (.ref 0), some (.int a1), some (.null), none]) dX10_repeat_11 (by decide) rfl ?_
  refine gm_aload_nN dX10_repeat_12 rfl ?_
  refine gm_nonnull_f dX10_repeat_13 ?_
  refine gm_ldc (own := RX10) rfl lcX10_82 dX10_repeat_16 ?_
  exact gm_iret dX10_repeat_18 rfl
/-- X10_alter 0 [8R 22f 28f] -> ret  -/
theorem PX10_alter_1 {a1 : Int32} {a2 : Int32} {S : gm_Mem} {q1 : Nat} (kq1 : 28 ≤ q1 ∧ q1 < 52) (h2 : gm_run gC 0 YX3_at 0 [some (.ref 26), some (.int a1)] [] S (some (.ref q1)) S) (c3 : ¬ a2 < (-99)) (c4 : 99 < a2) : gm_run gC 1 YX10_alter 0 [some (.ref 0), some (.int a1), some (.int a2), none] [] S (some (.int (-1000000002))) S := by
  refine gm_aload_n dX10_alter_0 rfl ?_
  refine gm_getR (own := RX10) (q := 1) rfl dX10_alter_1 lfX10_10 sC_0 rfl ?_
  refine gm_getR (own := RX10) (q := 26) rfl dX10_alter_4 lfX10_58 sC_1 rfl ?_
  refine gm_iload_n dX10_alter_7 rfl ?_
  refine gm_callV (r1 := (some (.ref q1))) (own := RX10) rfl dX10_alter_8 llX10_108 mvX3_at sC_26 rfl [.int a1] [] rfl rfl (Nat.le_of_ble_eq_true rfl) (by decide) rfl h2 rfl ?_
  refine gm_astore_n (L' := [some (.ref 0), some (.int a1), some (.int a2), some (.ref q1)]) dX10_alter_11 (by decide) rfl ?_
  refine gm_aload_n dX10_alter_12 rfl ?_
  refine gm_nonnull_t (tgt := 19) dX10_alter_13 (by decide) ?_
  refine gm_iload_n dX10_alter_19 rfl ?_
  refine gm_bipush (v := (-99)) dX10_alter_20 (by decide) ?_
  refine gm_icmp_lt_f dX10_alter_22 ⟨31, by decide⟩ c3 ?_
  refine gm_iload_n dX10_alter_25 rfl ?_
  refine gm_bipush (v := 99) dX10_alter_26 (by decide) ?_
  refine gm_icmp_le_f dX10_alter_28 ⟨34, by decide⟩ c4 ?_
  refine gm_ldc (own := RX10) rfl lcX10_37 dX10_alter_31 ?_
  exact gm_iret dX10_alter_33 rfl
/-- X10_alter 0 [8R 22f 28t] -> ret  -/
theorem PX10_alter_2 {a1 : Int32} {a2 : Int32} {S : gm_Mem} {q1 : Nat} (kq1 : 28 ≤ q1 ∧ q1 < 52) (h2 : gm_run gC 0 YX3_at 0 [some (.ref 26), some (.int a1)] [] S (some (.ref q1)) S) (c3 : ¬ a2 < (-99)) (c4 : ¬ 99 < a2) : gm_run gC 1 YX10_alter 0 [some (.ref 0), some (.int a1), some (.int a2), none] [] S (some (.int ((S q1 6) + a2))) (gm_u S q1 6 ((S q1 6) + a2)) := by
  refine gm_aload_n dX10_alter_0 rfl ?_
  refine gm_getR (own := RX10) (q := 1) rfl dX10_alter_1 lfX10_10 sC_0 rfl ?_
  refine gm_getR (own := RX10) (q := 26) rfl dX10_alter_4 lfX10_58 sC_1 rfl ?_
  refine gm_iload_n dX10_alter_7 rfl ?_
  refine gm_callV (r1 := (some (.ref q1))) (own := RX10) rfl dX10_alter_8 llX10_108 mvX3_at sC_26 rfl [.int a1] [] rfl rfl (Nat.le_of_ble_eq_true rfl) (by decide) rfl h2 rfl ?_
  refine gm_astore_n (L' := [some (.ref 0), some (.int a1), some (.int a2), some (.ref q1)]) dX10_alter_11 (by decide) rfl ?_
  refine gm_aload_n dX10_alter_12 rfl ?_
  refine gm_nonnull_t (tgt := 19) dX10_alter_13 (by decide) ?_
  refine gm_iload_n dX10_alter_19 rfl ?_
  refine gm_bipush (v := (-99)) dX10_alter_20 (by decide) ?_
  refine gm_icmp_lt_f dX10_alter_22 ⟨31, by decide⟩ c3 ?_
  refine gm_iload_n dX10_alter_25 rfl ?_
  refine gm_bipush (v := 99) dX10_alter_26 (by decide) ?_
  refine gm_icmp_le_t (tgt := 34) dX10_alter_28 (by decide) c4 ?_
  refine gm_aload_n dX10_alter_34 rfl ?_
  refine gm_dup dX10_alter_35 ?_
  refine gm_getI (own := RX10) (x := (S q1 6)) rfl dX10_alter_36 lfX10_170 (sC_Pk_0 (by omega)) rfl rfl ?_
  refine gm_iload_n dX10_alter_39 rfl ?_
  refine gm_iadd dX10_alter_40 rfl ?_
  refine gm_put (own := RX10) rfl dX10_alter_41 lfX10_170 (sC_Pk_0 (by omega)) rfl (gm_fit_int _) ?_
  refine gm_aload_n dX10_alter_44 rfl ?_
  refine gm_getI (own := RX10) (x := ((S q1 6) + a2)) rfl dX10_alter_45 lfX10_170 (sC_Pk_0 (by omega)) rfl (gm_rS _ _ _ _) ?_
  exact gm_iret dX10_alter_48 rfl
/-- X10_alter 0 [8R 22t] -> ret  -/
theorem PX10_alter_3 {a1 : Int32} {a2 : Int32} {S : gm_Mem} {q1 : Nat} (kq1 : 28 ≤ q1 ∧ q1 < 52) (h2 : gm_run gC 0 YX3_at 0 [some (.ref 26), some (.int a1)] [] S (some (.ref q1)) S) (c3 : a2 < (-99)) : gm_run gC 1 YX10_alter 0 [some (.ref 0), some (.int a1), some (.int a2), none] [] S (some (.int (-1000000002))) S := by
  refine gm_aload_n dX10_alter_0 rfl ?_
  refine gm_getR (own := RX10) (q := 1) rfl dX10_alter_1 lfX10_10 sC_0 rfl ?_
  refine gm_getR (own := RX10) (q := 26) rfl dX10_alter_4 lfX10_58 sC_1 rfl ?_
  refine gm_iload_n dX10_alter_7 rfl ?_
  refine gm_callV (r1 := (some (.ref q1))) (own := RX10) rfl dX10_alter_8 llX10_108 mvX3_at sC_26 rfl [.int a1] [] rfl rfl (Nat.le_of_ble_eq_true rfl) (by decide) rfl h2 rfl ?_
  refine gm_astore_n (L' := [some (.ref 0), some (.int a1), some (.int a2), some (.ref q1)]) dX10_alter_11 (by decide) rfl ?_
  refine gm_aload_n dX10_alter_12 rfl ?_
  refine gm_nonnull_t (tgt := 19) dX10_alter_13 (by decide) ?_
  refine gm_iload_n dX10_alter_19 rfl ?_
  refine gm_bipush (v := (-99)) dX10_alter_20 (by decide) ?_
  refine gm_icmp_lt_t (tgt := 31) dX10_alter_22 (by decide) c3 ?_
  refine gm_ldc (own := RX10) rfl lcX10_37 dX10_alter_31 ?_
  exact gm_iret dX10_alter_33 rfl
/-- X10_alter 0 [8N] -> ret  -/
theorem PX10_alter_4 {a1 : Int32} {a2 : Int32} {S : gm_Mem} (h1 : gm_run gC 0 YX3_at 0 [some (.ref 26), some (.int a1)] [] S (some .null) S) : gm_run gC 1 YX10_alter 0 [some (.ref 0), some (.int a1), some (.int a2), none] [] S (some (.int (-1000000001))) S := by
  refine gm_aload_n dX10_alter_0 rfl ?_
  refine gm_getR (own := RX10) (q := 1) rfl dX10_alter_1 lfX10_10 sC_0 rfl ?_
  refine gm_getR (own := RX10) (q := 26) rfl dX10_alter_4 lfX10_58 sC_1 rfl ?_
  refine gm_iload_n dX10_alter_7 rfl ?_
  refine gm_callV (r1 := (some .null)) (own := RX10) rfl dX10_alter_8 llX10_108 mvX3_at sC_26 rfl [.int a1] [] rfl rfl (Nat.le_of_ble_eq_true rfl) (by decide) rfl h1 rfl ?_
  refine gm_astore_nN (L' := [some (.ref 0), some (.int a1), some (.int a2), some (.null)]) dX10_alter_11 (by decide) rfl ?_
  refine gm_aload_nN dX10_alter_12 rfl ?_
  refine gm_nonnull_f dX10_alter_13 ?_
  refine gm_ldc (own := RX10) rfl lcX10_82 dX10_alter_16 ?_
  exact gm_iret dX10_alter_18 rfl
/-- X10_repeatHello 0 [13f 35f] -> ret  -/
theorem PX10_repeatHello_1 {S : gm_Mem} {T1 : gm_Mem} (c1 : (S 2 8) = 1) (c2 : ¬ ((S 1 8) - (S 2 17)) < (S 1 6)) (h3 : gm_run gC 3 YX10_sendHello 0 [some (.ref 0), none] [] S none T1) : gm_run gC 4 YX10_repeatHello 0 [some (.ref 0), none] [] S none T1 := by
  refine gm_aload_n dX10_repeatHello_0 rfl ?_
  refine gm_getR (own := RX10) (q := 1) rfl dX10_repeatHello_1 lfX10_10 sC_0 rfl ?_
  refine gm_getR (own := RX10) (q := 2) rfl dX10_repeatHello_4 lfX10_48 sC_1 rfl ?_
  refine gm_astore_n (L' := [some (.ref 0), some (.ref 2)]) dX10_repeatHello_7 (by decide) rfl ?_
  refine gm_aload_n dX10_repeatHello_8 rfl ?_
  refine gm_getI (own := RX10) (x := (S 2 8)) rfl dX10_repeatHello_9 lfX10_52 sC_2 rfl rfl ?_
  refine gm_iconst (v := 1) dX10_repeatHello_12 (by decide) ?_
  refine gm_icmp_ne_f dX10_repeatHello_13 ⟨42, by decide⟩ c1 ?_
  refine gm_aload_n dX10_repeatHello_16 rfl ?_
  refine gm_getR (own := RX10) (q := 1) rfl dX10_repeatHello_17 lfX10_10 sC_0 rfl ?_
  refine gm_getI (own := RX10) (x := (S 1 8)) rfl dX10_repeatHello_20 lfX10_173 sC_1 rfl rfl ?_
  refine gm_aload_n dX10_repeatHello_23 rfl ?_
  refine gm_getI (own := RX10) (x := (S 2 17)) rfl dX10_repeatHello_24 lfX10_330 sC_2 rfl rfl ?_
  refine gm_isub dX10_repeatHello_27 rfl ?_
  refine gm_aload_n dX10_repeatHello_28 rfl ?_
  refine gm_getR (own := RX10) (q := 1) rfl dX10_repeatHello_29 lfX10_10 sC_0 rfl ?_
  refine gm_getI (own := RX10) (x := (S 1 6)) rfl dX10_repeatHello_32 lfX10_42 sC_1 rfl rfl ?_
  refine gm_icmp_lt_f dX10_repeatHello_35 ⟨42, by decide⟩ c2 ?_
  refine gm_aload_n dX10_repeatHello_38 rfl ?_
  refine gm_callV (r1 := none) (own := RX10) rfl dX10_repeatHello_39 llX10_314 mvX10_sendHello sC_0 rfl [] [] rfl rfl (Nat.le_of_ble_eq_true rfl) (by decide) rfl h3 rfl ?_
  exact gm_vret dX10_repeatHello_42 rfl
/-- X10_repeatHello 0 [13f 35t] -> ret  -/
theorem PX10_repeatHello_2 {S : gm_Mem} (c1 : (S 2 8) = 1) (c2 : ((S 1 8) - (S 2 17)) < (S 1 6)) : gm_run gC 4 YX10_repeatHello 0 [some (.ref 0), none] [] S none S := by
  refine gm_aload_n dX10_repeatHello_0 rfl ?_
  refine gm_getR (own := RX10) (q := 1) rfl dX10_repeatHello_1 lfX10_10 sC_0 rfl ?_
  refine gm_getR (own := RX10) (q := 2) rfl dX10_repeatHello_4 lfX10_48 sC_1 rfl ?_
  refine gm_astore_n (L' := [some (.ref 0), some (.ref 2)]) dX10_repeatHello_7 (by decide) rfl ?_
  refine gm_aload_n dX10_repeatHello_8 rfl ?_
  refine gm_getI (own := RX10) (x := (S 2 8)) rfl dX10_repeatHello_9 lfX10_52 sC_2 rfl rfl ?_
  refine gm_iconst (v := 1) dX10_repeatHello_12 (by decide) ?_
  refine gm_icmp_ne_f dX10_repeatHello_13 ⟨42, by decide⟩ c1 ?_
  refine gm_aload_n dX10_repeatHello_16 rfl ?_
  refine gm_getR (own := RX10) (q := 1) rfl dX10_repeatHello_17 lfX10_10 sC_0 rfl ?_
  refine gm_getI (own := RX10) (x := (S 1 8)) rfl dX10_repeatHello_20 lfX10_173 sC_1 rfl rfl ?_
  refine gm_aload_n dX10_repeatHello_23 rfl ?_
  refine gm_getI (own := RX10) (x := (S 2 17)) rfl dX10_repeatHello_24 lfX10_330 sC_2 rfl rfl ?_
  refine gm_isub dX10_repeatHello_27 rfl ?_
  refine gm_aload_n dX10_repeatHello_28 rfl ?_
  refine gm_getR (own := RX10) (q := 1) rfl dX10_repeatHello_29 lfX10_10 sC_0 rfl ?_
  refine gm_getI (own := RX10) (x := (S 1 6)) rfl dX10_repeatHello_32 lfX10_42 sC_1 rfl rfl ?_
  refine gm_icmp_lt_t (tgt := 42) dX10_repeatHello_35 (by decide) c2 ?_
  exact gm_vret dX10_repeatHello_42 rfl
/-- X10_repeatHello 0 [13t] -> ret  -/
theorem PX10_repeatHello_3 {S : gm_Mem} (c1 : ¬ (S 2 8) = 1) : gm_run gC 4 YX10_repeatHello 0 [some (.ref 0), none] [] S none S := by
  refine gm_aload_n dX10_repeatHello_0 rfl ?_
  refine gm_getR (own := RX10) (q := 1) rfl dX10_repeatHello_1 lfX10_10 sC_0 rfl ?_
  refine gm_getR (own := RX10) (q := 2) rfl dX10_repeatHello_4 lfX10_48 sC_1 rfl ?_
  refine gm_astore_n (L' := [some (.ref 0), some (.ref 2)]) dX10_repeatHello_7 (by decide) rfl ?_
  refine gm_aload_n dX10_repeatHello_8 rfl ?_
  refine gm_getI (own := RX10) (x := (S 2 8)) rfl dX10_repeatHello_9 lfX10_52 sC_2 rfl rfl ?_
  refine gm_iconst (v := 1) dX10_repeatHello_12 (by decide) ?_
  refine gm_icmp_ne_t (tgt := 42) dX10_repeatHello_13 (by decide) c1 ?_
  exact gm_vret dX10_repeatHello_42 rfl
/-- X10_resendLateMessages 0 [5f] -> ret  -/
theorem PX10_resendLateMessages_1 {e : Nat} {S : gm_Mem} {T1 : gm_Mem} {T2 : gm_Mem} (ke : e = 2 ∨ e = 14) (c1 : (S e 8) = 3) (h2 : gm_run gC 0 YX4_forgetSentUntil 0 [some (.ref (e + 2)), some (.int ((S 1 8) - (S 1 6))), none] [] S none T1) (h3 : gm_run gC 3 YX10_sendDue 0 [some (.ref 0), some (.ref e), none, none, none] [] T1 none T2) : gm_run gC 4 YX10_resendLateMessages 0 [some (.ref 0), some (.ref e)] [] S none T2 := by
  refine gm_aload_n dX10_resendLateMessages_0 rfl ?_
  refine gm_getI (own := RX10) (x := (S e 8)) rfl dX10_resendLateMessages_1 lfX10_52 (sC_E_0 (by omega)) rfl rfl ?_
  refine gm_iconst (v := 3) dX10_resendLateMessages_4 (by decide) ?_
  refine gm_icmp_ne_f dX10_resendLateMessages_5 ⟨35, by decide⟩ c1 ?_
  refine gm_aload_n dX10_resendLateMessages_8 rfl ?_
  refine gm_getR (own := RX10) (q := (e + 2)) rfl dX10_resendLateMessages_9 lfX10_221 (sC_E_0 (by omega)) rfl ?_
  refine gm_aload_n dX10_resendLateMessages_12 rfl ?_
  refine gm_getR (own := RX10) (q := 1) rfl dX10_resendLateMessages_13 lfX10_10 sC_0 rfl ?_
  refine gm_getI (own := RX10) (x := (S 1 8)) rfl dX10_resendLateMessages_16 lfX10_173 sC_1 rfl rfl ?_
  refine gm_aload_n dX10_resendLateMessages_19 rfl ?_
  refine gm_getR (own := RX10) (q := 1) rfl dX10_resendLateMessages_20 lfX10_10 sC_0 rfl ?_
  refine gm_getI (own := RX10) (x := (S 1 6)) rfl dX10_resendLateMessages_23 lfX10_42 sC_1 rfl rfl ?_
  refine gm_isub dX10_resendLateMessages_26 rfl ?_
  refine gm_callV (r1 := none) (own := RX10) rfl dX10_resendLateMessages_27 llX10_373 mvX4_forgetSentUntil (sC_E_2 (by omega)) rfl [.int ((S 1 8) - (S 1 6))] [] rfl rfl (Nat.le_of_ble_eq_true rfl) (by decide) rfl h2 rfl ?_
  refine gm_aload_n dX10_resendLateMessages_30 rfl ?_
  refine gm_aload_n dX10_resendLateMessages_31 rfl ?_
  refine gm_callV (r1 := none) (own := RX10) rfl dX10_resendLateMessages_32 llX10_327 mvX10_sendDue sC_0 rfl [.ref e] [] rfl rfl (Nat.le_of_ble_eq_true rfl) (by decide) rfl h3 rfl ?_
  exact gm_vret dX10_resendLateMessages_35 rfl
/-- X10_resendLateMessages 0 [5t] -> ret  -/
theorem PX10_resendLateMessages_2 {e : Nat} {S : gm_Mem} (ke : e = 2 ∨ e = 14) (c1 : ¬ (S e 8) = 3) : gm_run gC 4 YX10_resendLateMessages 0 [some (.ref 0), some (.ref e)] [] S none S := by
  refine gm_aload_n dX10_resendLateMessages_0 rfl ?_
  refine gm_getI (own := RX10) (x := (S e 8)) rfl dX10_resendLateMessages_1 lfX10_52 (sC_E_0 (by omega)) rfl rfl ?_
  refine gm_iconst (v := 3) dX10_resendLateMessages_4 (by decide) ?_
  refine gm_icmp_ne_t (tgt := 35) dX10_resendLateMessages_5 (by decide) c1 ?_
  exact gm_vret dX10_resendLateMessages_35 rfl
/-- X10_tick 0 [2f 8f] -> ret  -/
theorem PX10_tick_1 {a1 : Int32} {S : gm_Mem} (c1 : ¬ a1 < 1) (c2 : 50 < a1) : gm_run gC 5 YX10_tick 0 [some (.ref 0), some (.int a1), none] [] S (some (.int (-1000000002))) S := by
  refine gm_iload_n dX10_tick_0 rfl ?_
  refine gm_iconst (v := 1) dX10_tick_1 (by decide) ?_
  refine gm_icmp_lt_f dX10_tick_2 ⟨11, by decide⟩ c1 ?_
  refine gm_iload_n dX10_tick_5 rfl ?_
  refine gm_bipush (v := 50) dX10_tick_6 (by decide) ?_
  refine gm_icmp_le_f dX10_tick_8 ⟨14, by decide⟩ c2 ?_
  refine gm_ldc (own := RX10) rfl lcX10_37 dX10_tick_11 ?_
  exact gm_iret dX10_tick_13 rfl
/-- X10_tick 0 [2f 8t] -> cut 16 -/
theorem PX10_tick_2 {a1 : Int32} {S : gm_Mem} {r : Option Value} {S2 : gm_Mem} (c1 : ¬ a1 < 1) (c2 : ¬ 50 < a1) (K : gm_run gC 5 YX10_tick 16 [some (.ref 0), some (.int a1), some (.int 0)] [] S r S2) : gm_run gC 5 YX10_tick 0 [some (.ref 0), some (.int a1), none] [] S r S2 := by
  refine gm_iload_n dX10_tick_0 rfl ?_
  refine gm_iconst (v := 1) dX10_tick_1 (by decide) ?_
  refine gm_icmp_lt_f dX10_tick_2 ⟨11, by decide⟩ c1 ?_
  refine gm_iload_n dX10_tick_5 rfl ?_
  refine gm_bipush (v := 50) dX10_tick_6 (by decide) ?_
  refine gm_icmp_le_t (tgt := 14) dX10_tick_8 (by decide) c2 ?_
  refine gm_iconst (v := 0) dX10_tick_14 (by decide) ?_
  refine gm_istore_n (L' := [some (.ref 0), some (.int a1), some (.int 0)]) dX10_tick_15 (by decide) rfl ?_
  exact K
/-- X10_tick 0 [2t] -> ret  -/
theorem PX10_tick_3 {a1 : Int32} {S : gm_Mem} (c1 : a1 < 1) : gm_run gC 5 YX10_tick 0 [some (.ref 0), some (.int a1), none] [] S (some (.int (-1000000002))) S := by
  refine gm_iload_n dX10_tick_0 rfl ?_
  refine gm_iconst (v := 1) dX10_tick_1 (by decide) ?_
  refine gm_icmp_lt_t (tgt := 11) dX10_tick_2 (by decide) c1 ?_
  refine gm_ldc (own := RX10) rfl lcX10_37 dX10_tick_11 ?_
  exact gm_iret dX10_tick_13 rfl
/-- X10_tick 16 [18f] -> cut 16 -/
theorem PX10_tick_4 {x1 : Int32} {x2 : Int32} {S : gm_Mem} {T1 : gm_Mem} {T2 : gm_Mem} {T3 : gm_Mem} {r : Option Value} {S2 : gm_Mem} (c1 : x2 < x1) (h2 : gm_run gC 4 YX10_repeatHello 0 [some (.ref 0), none] [] (gm_u S 1 8 ((S 1 8) + 1)) none T1) (h3 : gm_run gC 4 YX10_resendLateMessages 0 [some (.ref 0), some (.ref 2)] [] T1 none T2) (h4 : gm_run gC 4 YX10_resendLateMessages 0 [some (.ref 0), some (.ref 14)] [] T2 none T3) (K : gm_run gC 5 YX10_tick 16 [some (.ref 0), some (.int x1), some (.int (x2 + 1))] [] T3 r S2) : gm_run gC 5 YX10_tick 16 [some (.ref 0), some (.int x1), some (.int x2)] [] S r S2 := by
  refine gm_iload_n dX10_tick_16 rfl ?_
  refine gm_iload_n dX10_tick_17 rfl ?_
  refine gm_icmp_ge_f dX10_tick_18 ⟨66, by decide⟩ c1 ?_
  refine gm_aload_n dX10_tick_21 rfl ?_
  refine gm_getR (own := RX10) (q := 1) rfl dX10_tick_22 lfX10_10 sC_0 rfl ?_
  refine gm_dup dX10_tick_25 ?_
  refine gm_getI (own := RX10) (x := (S 1 8)) rfl dX10_tick_26 lfX10_173 sC_1 rfl rfl ?_
  refine gm_iconst (v := 1) dX10_tick_29 (by decide) ?_
  refine gm_iadd dX10_tick_30 rfl ?_
  refine gm_put (own := RX10) rfl dX10_tick_31 lfX10_173 sC_1 rfl (gm_fit_int _) ?_
  refine gm_aload_n dX10_tick_34 rfl ?_
  refine gm_callV (r1 := none) (own := RX10) rfl dX10_tick_35 llX10_176 mvX10_repeatHello sC_0 rfl [] [] rfl rfl (Nat.le_of_ble_eq_true rfl) (by decide) rfl h2 rfl ?_
  refine gm_aload_n dX10_tick_38 rfl ?_
  refine gm_aload_n dX10_tick_39 rfl ?_
  refine gm_getR (own := RX10) (q := 1) rfl dX10_tick_40 lfX10_10 sC_0 rfl ?_
  refine gm_getR (own := RX10) (q := 2) rfl dX10_tick_43 lfX10_48 sC_1 rfl ?_
  refine gm_callV (r1 := none) (own := RX10) rfl dX10_tick_46 llX10_179 mvX10_resendLateMessages sC_0 rfl [.ref 2] [] rfl rfl (Nat.le_of_ble_eq_true rfl) (by decide) rfl h3 rfl ?_
  refine gm_aload_n dX10_tick_49 rfl ?_
  refine gm_aload_n dX10_tick_50 rfl ?_
  refine gm_getR (own := RX10) (q := 1) rfl dX10_tick_51 lfX10_10 sC_0 rfl ?_
  refine gm_getR (own := RX10) (q := 14) rfl dX10_tick_54 lfX10_93 sC_1 rfl ?_
  refine gm_callV (r1 := none) (own := RX10) rfl dX10_tick_57 llX10_179 mvX10_resendLateMessages sC_0 rfl [.ref 14] [] rfl rfl (Nat.le_of_ble_eq_true rfl) (by decide) rfl h4 rfl ?_
  refine gm_iinc (L' := [some (.ref 0), some (.int x1), some (.int (x2 + 1))]) (v := (x2 + 1)) dX10_tick_60 rfl rfl (by decide) rfl ?_
  refine gm_goto (tgt := 16) dX10_tick_63 (by decide) ?_
  exact K
/-- X10_tick 16 [18t] -> ret  -/
theorem PX10_tick_5 {x1 : Int32} {x2 : Int32} {S : gm_Mem} (c1 : ¬ x2 < x1) : gm_run gC 5 YX10_tick 16 [some (.ref 0), some (.int x1), some (.int x2)] [] S (some (.int (S 1 8))) S := by
  refine gm_iload_n dX10_tick_16 rfl ?_
  refine gm_iload_n dX10_tick_17 rfl ?_
  refine gm_icmp_ge_t (tgt := 66) dX10_tick_18 (by decide) c1 ?_
  refine gm_aload_n dX10_tick_66 rfl ?_
  refine gm_getR (own := RX10) (q := 1) rfl dX10_tick_67 lfX10_10 sC_0 rfl ?_
  refine gm_getI (own := RX10) (x := (S 1 8)) rfl dX10_tick_70 lfX10_173 sC_1 rfl rfl ?_
  exact gm_iret dX10_tick_73 rfl
/-- X10_packet 0 [8R] -> ret  -/
theorem PX10_packet_1 {a1 : Int32} {a2 : Int32} {S : gm_Mem} {q1 : Nat} {r3 : Int32} (kq1 : 28 ≤ q1 ∧ q1 < 52) (h2 : gm_run gC 0 YX3_at 0 [some (.ref 26), some (.int a1)] [] S (some (.ref q1)) S) (h4 : gm_run gC 0 YX5_part 0 [some (.ref q1), some (.int a2)] [] S (some (.int r3)) S) : gm_run gC 1 YX10_packet 0 [some (.ref 0), some (.int a1), some (.int a2), none] [] S (some (.int r3)) S := by
  refine gm_aload_n dX10_packet_0 rfl ?_
  refine gm_getR (own := RX10) (q := 1) rfl dX10_packet_1 lfX10_10 sC_0 rfl ?_
  refine gm_getR (own := RX10) (q := 26) rfl dX10_packet_4 lfX10_58 sC_1 rfl ?_
  refine gm_iload_n dX10_packet_7 rfl ?_
  refine gm_callV (r1 := (some (.ref q1))) (own := RX10) rfl dX10_packet_8 llX10_108 mvX3_at sC_26 rfl [.int a1] [] rfl rfl (Nat.le_of_ble_eq_true rfl) (by decide) rfl h2 rfl ?_
  refine gm_astore_n (L' := [some (.ref 0), some (.int a1), some (.int a2), some (.ref q1)]) dX10_packet_11 (by decide) rfl ?_
  refine gm_aload_n dX10_packet_12 rfl ?_
  refine gm_nonnull_t (tgt := 19) dX10_packet_13 (by decide) ?_
  refine gm_aload_n dX10_packet_19 rfl ?_
  refine gm_iload_n dX10_packet_20 rfl ?_
  refine gm_callV (r1 := (some (.int r3))) (own := RX10) rfl dX10_packet_21 llX10_182 mvX5_part (sC_Pk_0 (by omega)) rfl [.int a2] [] rfl rfl (Nat.le_of_ble_eq_true rfl) (by decide) rfl h4 rfl ?_
  exact gm_iret dX10_packet_24 rfl
/-- X10_packet 0 [8N] -> ret  -/
theorem PX10_packet_2 {a1 : Int32} {a2 : Int32} {S : gm_Mem} (h1 : gm_run gC 0 YX3_at 0 [some (.ref 26), some (.int a1)] [] S (some .null) S) : gm_run gC 1 YX10_packet 0 [some (.ref 0), some (.int a1), some (.int a2), none] [] S (some (.int (-1000000001))) S := by
  refine gm_aload_n dX10_packet_0 rfl ?_
  refine gm_getR (own := RX10) (q := 1) rfl dX10_packet_1 lfX10_10 sC_0 rfl ?_
  refine gm_getR (own := RX10) (q := 26) rfl dX10_packet_4 lfX10_58 sC_1 rfl ?_
  refine gm_iload_n dX10_packet_7 rfl ?_
  refine gm_callV (r1 := (some .null)) (own := RX10) rfl dX10_packet_8 llX10_108 mvX3_at sC_26 rfl [.int a1] [] rfl rfl (Nat.le_of_ble_eq_true rfl) (by decide) rfl h1 rfl ?_
  refine gm_astore_nN (L' := [some (.ref 0), some (.int a1), some (.int a2), some (.null)]) dX10_packet_11 (by decide) rfl ?_
  refine gm_aload_nN dX10_packet_12 rfl ?_
  refine gm_nonnull_f dX10_packet_13 ?_
  refine gm_ldc (own := RX10) rfl lcX10_82 dX10_packet_16 ?_
  exact gm_iret dX10_packet_18 rfl
/-- X10_endpoint 0 [4f] -> ret  -/
theorem PX10_endpoint_1 {a1 : Int32} {a2 : Int32} {S : gm_Mem} {r1 : Int32} (h2 : gm_run gC 0 YX10_isEndpoint 0 [some (.int a1)] [] S (some (.int r1)) S) (c3 : r1 = 0) : gm_run gC 2 YX10_endpoint 0 [some (.ref 0), some (.int a1), some (.int a2)] [] S (some (.int (-1000000002))) S := by
  refine gm_iload_n dX10_endpoint_0 rfl ?_
  refine gm_callS (r1 := (some (.int r1))) (own := RX10) rfl dX10_endpoint_1 llX10_96 msX10_isEndpoint [.int a1] [] rfl rfl (Nat.le_of_ble_eq_true rfl) (by decide) rfl h2 rfl ?_
  refine gm_if_ne_f dX10_endpoint_4 ⟨10, by decide⟩ c3 ?_
  refine gm_ldc (own := RX10) rfl lcX10_37 dX10_endpoint_7 ?_
  exact gm_iret dX10_endpoint_9 rfl
/-- X10_endpoint 0 [4t 12f 18f] -> ret  -/
theorem PX10_endpoint_2 {a1 : Int32} {a2 : Int32} {S : gm_Mem} {r1 : Int32} (h2 : gm_run gC 0 YX10_isEndpoint 0 [some (.int a1)] [] S (some (.int r1)) S) (c3 : ¬ r1 = 0) (c4 : a1 = 1) (c5 : a2 = 11) : gm_run gC 2 YX10_endpoint 0 [some (.ref 0), some (.int a1), some (.int a2)] [] S (some (.int (S 52 2))) S := by
  refine gm_iload_n dX10_endpoint_0 rfl ?_
  refine gm_callS (r1 := (some (.int r1))) (own := RX10) rfl dX10_endpoint_1 llX10_96 msX10_isEndpoint [.int a1] [] rfl rfl (Nat.le_of_ble_eq_true rfl) (by decide) rfl h2 rfl ?_
  refine gm_if_ne_t (tgt := 10) dX10_endpoint_4 (by decide) c3 ?_
  refine gm_iload_n dX10_endpoint_10 rfl ?_
  refine gm_iconst (v := 1) dX10_endpoint_11 (by decide) ?_
  refine gm_icmp_ne_f dX10_endpoint_12 ⟨32, by decide⟩ c4 ?_
  refine gm_iload_n dX10_endpoint_15 rfl ?_
  refine gm_bipush (v := 11) dX10_endpoint_16 (by decide) ?_
  refine gm_icmp_ne_f dX10_endpoint_18 ⟨32, by decide⟩ c5 ?_
  refine gm_aload_n dX10_endpoint_21 rfl ?_
  refine gm_getR (own := RX10) (q := 1) rfl dX10_endpoint_22 lfX10_10 sC_0 rfl ?_
  refine gm_getR (own := RX10) (q := 52) rfl dX10_endpoint_25 lfX10_186 sC_1 rfl ?_
  refine gm_getI (own := RX10) (x := (S 52 2)) rfl dX10_endpoint_28 lfX10_190 sC_52 rfl rfl ?_
  exact gm_iret dX10_endpoint_31 rfl
/-- X10_endpoint 0 [4t 12f 18t] -> ret  -/
theorem PX10_endpoint_3 {a1 : Int32} {a2 : Int32} {S : gm_Mem} {r1 : Int32} {q6 : Nat} {r8 : Int32} (h2 : gm_run gC 0 YX10_isEndpoint 0 [some (.int a1)] [] S (some (.int r1)) S) (c3 : ¬ r1 = 0) (c4 : a1 = 1) (c5 : ¬ a2 = 11) (kq6 : q6 = 2 ∨ q6 = 14) (h7 : gm_run gC 0 YX10_endpointOf 0 [some (.ref 0), some (.int a1)] [] S (some (.ref q6)) S) (h9 : gm_run gC 1 YX0_part 0 [some (.ref q6), some (.int a2)] [] S (some (.int r8)) S) : gm_run gC 2 YX10_endpoint 0 [some (.ref 0), some (.int a1), some (.int a2)] [] S (some (.int r8)) S := by
  refine gm_iload_n dX10_endpoint_0 rfl ?_
  refine gm_callS (r1 := (some (.int r1))) (own := RX10) rfl dX10_endpoint_1 llX10_96 msX10_isEndpoint [.int a1] [] rfl rfl (Nat.le_of_ble_eq_true rfl) (by decide) rfl h2 rfl ?_
  refine gm_if_ne_t (tgt := 10) dX10_endpoint_4 (by decide) c3 ?_
  refine gm_iload_n dX10_endpoint_10 rfl ?_
  refine gm_iconst (v := 1) dX10_endpoint_11 (by decide) ?_
  refine gm_icmp_ne_f dX10_endpoint_12 ⟨32, by decide⟩ c4 ?_
  refine gm_iload_n dX10_endpoint_15 rfl ?_
  refine gm_bipush (v := 11) dX10_endpoint_16 (by decide) ?_
  refine gm_icmp_ne_t (tgt := 32) dX10_endpoint_18 (by decide) c5 ?_
  refine gm_aload_n dX10_endpoint_32 rfl ?_
  refine gm_iload_n dX10_endpoint_33 rfl ?_
  refine gm_callV (r1 := (some (.ref q6))) (own := RX10) rfl dX10_endpoint_34 llX10_100 mvX10_endpointOf sC_0 rfl [.int a1] [] rfl rfl (Nat.le_of_ble_eq_true rfl) (by decide) rfl h7 rfl ?_
  refine gm_iload_n dX10_endpoint_37 rfl ?_
  refine gm_callV (r1 := (some (.int r8))) (own := RX10) rfl dX10_endpoint_38 llX10_195 mvX0_part (sC_E_0 (by omega)) rfl [.int a2] [] rfl rfl (Nat.le_of_ble_eq_true rfl) (by decide) rfl h9 rfl ?_
  exact gm_iret dX10_endpoint_41 rfl
/-- X10_endpoint 0 [4t 12t] -> ret  -/
theorem PX10_endpoint_4 {a1 : Int32} {a2 : Int32} {S : gm_Mem} {r1 : Int32} {q5 : Nat} {r7 : Int32} (h2 : gm_run gC 0 YX10_isEndpoint 0 [some (.int a1)] [] S (some (.int r1)) S) (c3 : ¬ r1 = 0) (c4 : ¬ a1 = 1) (kq5 : q5 = 2 ∨ q5 = 14) (h6 : gm_run gC 0 YX10_endpointOf 0 [some (.ref 0), some (.int a1)] [] S (some (.ref q5)) S) (h8 : gm_run gC 1 YX0_part 0 [some (.ref q5), some (.int a2)] [] S (some (.int r7)) S) : gm_run gC 2 YX10_endpoint 0 [some (.ref 0), some (.int a1), some (.int a2)] [] S (some (.int r7)) S := by
  refine gm_iload_n dX10_endpoint_0 rfl ?_
  refine gm_callS (r1 := (some (.int r1))) (own := RX10) rfl dX10_endpoint_1 llX10_96 msX10_isEndpoint [.int a1] [] rfl rfl (Nat.le_of_ble_eq_true rfl) (by decide) rfl h2 rfl ?_
  refine gm_if_ne_t (tgt := 10) dX10_endpoint_4 (by decide) c3 ?_
  refine gm_iload_n dX10_endpoint_10 rfl ?_
  refine gm_iconst (v := 1) dX10_endpoint_11 (by decide) ?_
  refine gm_icmp_ne_t (tgt := 32) dX10_endpoint_12 (by decide) c4 ?_
  refine gm_aload_n dX10_endpoint_32 rfl ?_
  refine gm_iload_n dX10_endpoint_33 rfl ?_
  refine gm_callV (r1 := (some (.ref q5))) (own := RX10) rfl dX10_endpoint_34 llX10_100 mvX10_endpointOf sC_0 rfl [.int a1] [] rfl rfl (Nat.le_of_ble_eq_true rfl) (by decide) rfl h6 rfl ?_
  refine gm_iload_n dX10_endpoint_37 rfl ?_
  refine gm_callV (r1 := (some (.int r7))) (own := RX10) rfl dX10_endpoint_38 llX10_195 mvX0_part (sC_E_0 (by omega)) rfl [.int a2] [] rfl rfl (Nat.le_of_ble_eq_true rfl) (by decide) rfl h8 rfl ?_
  exact gm_iret dX10_endpoint_41 rfl
/-- X10_window 0 [4f 8f 13f] -> ret  -/
theorem PX10_window_1 {a1 : Int32} {a2 : Int32} {S : gm_Mem} {r1 : Int32} (h2 : gm_run gC 0 YX10_isEndpoint 0 [some (.int a1)] [] S (some (.int r1)) S) (c3 : ¬ r1 = 0) (c4 : ¬ a2 < 0) (c5 : 1 < a2) : gm_run gC 1 YX10_window 0 [some (.ref 0), some (.int a1), some (.int a2), none] [] S (some (.int (-1000000002))) S := by
  refine gm_iload_n dX10_window_0 rfl ?_
  refine gm_callS (r1 := (some (.int r1))) (own := RX10) rfl dX10_window_1 llX10_96 msX10_isEndpoint [.int a1] [] rfl rfl (Nat.le_of_ble_eq_true rfl) (by decide) rfl h2 rfl ?_
  refine gm_if_eq_f dX10_window_4 ⟨16, by decide⟩ c3 ?_
  refine gm_iload_n dX10_window_7 rfl ?_
  refine gm_if_lt_f dX10_window_8 ⟨16, by decide⟩ c4 ?_
  refine gm_iload_n dX10_window_11 rfl ?_
  refine gm_iconst (v := 1) dX10_window_12 (by decide) ?_
  refine gm_icmp_le_f dX10_window_13 ⟨19, by decide⟩ c5 ?_
  refine gm_ldc (own := RX10) rfl lcX10_37 dX10_window_16 ?_
  exact gm_iret dX10_window_18 rfl
/-- X10_window 0 [4f 8f 13t 26f] -> ret  -/
theorem PX10_window_2 {a1 : Int32} {a2 : Int32} {S : gm_Mem} {r1 : Int32} {q6 : Nat} {r9 : Int32} (h2 : gm_run gC 0 YX10_isEndpoint 0 [some (.int a1)] [] S (some (.int r1)) S) (c3 : ¬ r1 = 0) (c4 : ¬ a2 < 0) (c5 : ¬ 1 < a2) (kq6 : q6 = 2 ∨ q6 = 14) (h7 : gm_run gC 0 YX10_endpointOf 0 [some (.ref 0), some (.int a1)] [] S (some (.ref q6)) S) (c8 : a2 = 0) (h10 : gm_run gC 0 YX8_asNumber 0 [some (.ref (q6 + 10))] [] S (some (.int r9)) S) : gm_run gC 1 YX10_window 0 [some (.ref 0), some (.int a1), some (.int a2), none] [] S (some (.int r9)) S := by
  refine gm_iload_n dX10_window_0 rfl ?_
  refine gm_callS (r1 := (some (.int r1))) (own := RX10) rfl dX10_window_1 llX10_96 msX10_isEndpoint [.int a1] [] rfl rfl (Nat.le_of_ble_eq_true rfl) (by decide) rfl h2 rfl ?_
  refine gm_if_eq_f dX10_window_4 ⟨16, by decide⟩ c3 ?_
  refine gm_iload_n dX10_window_7 rfl ?_
  refine gm_if_lt_f dX10_window_8 ⟨16, by decide⟩ c4 ?_
  refine gm_iload_n dX10_window_11 rfl ?_
  refine gm_iconst (v := 1) dX10_window_12 (by decide) ?_
  refine gm_icmp_le_t (tgt := 19) dX10_window_13 (by decide) c5 ?_
  refine gm_aload_n dX10_window_19 rfl ?_
  refine gm_iload_n dX10_window_20 rfl ?_
  refine gm_callV (r1 := (some (.ref q6))) (own := RX10) rfl dX10_window_21 llX10_100 mvX10_endpointOf sC_0 rfl [.int a1] [] rfl rfl (Nat.le_of_ble_eq_true rfl) (by decide) rfl h7 rfl ?_
  refine gm_astore_n (L' := [some (.ref 0), some (.int a1), some (.int a2), some (.ref q6)]) dX10_window_24 (by decide) rfl ?_
  refine gm_iload_n dX10_window_25 rfl ?_
  refine gm_if_ne_f dX10_window_26 ⟨37, by decide⟩ c8 ?_
  refine gm_aload_n dX10_window_29 rfl ?_
  refine gm_getR (own := RX10) (q := (q6 + 10)) rfl dX10_window_30 lfX10_196 (sC_E_0 (by omega)) rfl ?_
  refine gm_callV (r1 := (some (.int r9))) (own := RX10) rfl dX10_window_33 llX10_200 mvX8_asNumber (sC_E_10 (by omega)) rfl [] [] rfl rfl (Nat.le_of_ble_eq_true rfl) (by decide) rfl h10 rfl ?_
  exact gm_iret dX10_window_36 rfl
/-- X10_window 0 [4f 8f 13t 26t 41f] -> ret  -/
theorem PX10_window_3 {a1 : Int32} {a2 : Int32} {S : gm_Mem} {r1 : Int32} {q6 : Nat} {r10 : Int32} (h2 : gm_run gC 0 YX10_isEndpoint 0 [some (.int a1)] [] S (some (.int r1)) S) (c3 : ¬ r1 = 0) (c4 : ¬ a2 < 0) (c5 : ¬ 1 < a2) (kq6 : q6 = 2 ∨ q6 = 14) (h7 : gm_run gC 0 YX10_endpointOf 0 [some (.ref 0), some (.int a1)] [] S (some (.ref q6)) S) (c8 : ¬ a2 = 0) (c9 : ¬ (S q6 6) = 0) (h11 : gm_run gC 0 YX8_asNumber 0 [some (.ref (q6 + 11))] [] S (some (.int r10)) S) : gm_run gC 1 YX10_window 0 [some (.ref 0), some (.int a1), some (.int a2), none] [] S (some (.int r10)) S := by
  refine gm_iload_n dX10_window_0 rfl ?_
  refine gm_callS (r1 := (some (.int r1))) (own := RX10) rfl dX10_window_1 llX10_96 msX10_isEndpoint [.int a1] [] rfl rfl (Nat.le_of_ble_eq_true rfl) (by decide) rfl h2 rfl ?_
  refine gm_if_eq_f dX10_window_4 ⟨16, by decide⟩ c3 ?_
  refine gm_iload_n dX10_window_7 rfl ?_
  refine gm_if_lt_f dX10_window_8 ⟨16, by decide⟩ c4 ?_
  refine gm_iload_n dX10_window_11 rfl ?_
  refine gm_iconst (v := 1) dX10_window_12 (by decide) ?_
  refine gm_icmp_le_t (tgt := 19) dX10_window_13 (by decide) c5 ?_
  refine gm_aload_n dX10_window_19 rfl ?_
  refine gm_iload_n dX10_window_20 rfl ?_
  refine gm_callV (r1 := (some (.ref q6))) (own := RX10) rfl dX10_window_21 llX10_100 mvX10_endpointOf sC_0 rfl [.int a1] [] rfl rfl (Nat.le_of_ble_eq_true rfl) (by decide) rfl h7 rfl ?_
  refine gm_astore_n (L' := [some (.ref 0), some (.int a1), some (.int a2), some (.ref q6)]) dX10_window_24 (by decide) rfl ?_
  refine gm_iload_n dX10_window_25 rfl ?_
  refine gm_if_ne_t (tgt := 37) dX10_window_26 (by decide) c8 ?_
  refine gm_aload_n dX10_window_37 rfl ?_
  refine gm_getI (own := RX10) (x := (S q6 6)) rfl dX10_window_38 lfX10_206 (sC_E_0 (by omega)) rfl rfl ?_
  refine gm_if_eq_f dX10_window_41 ⟨54, by decide⟩ c9 ?_
  refine gm_aload_n dX10_window_44 rfl ?_
  refine gm_getR (own := RX10) (q := (q6 + 11)) rfl dX10_window_45 lfX10_209 (sC_E_0 (by omega)) rfl ?_
  refine gm_callV (r1 := (some (.int r10))) (own := RX10) rfl dX10_window_48 llX10_200 mvX8_asNumber (sC_E_11 (by omega)) rfl [] [] rfl rfl (Nat.le_of_ble_eq_true rfl) (by decide) rfl h11 rfl ?_
  refine gm_goto (tgt := 56) dX10_window_51 (by decide) ?_
  exact gm_iret dX10_window_56 rfl
/-- X10_window 0 [4f 8f 13t 26t 41t] -> ret  -/
theorem PX10_window_4 {a1 : Int32} {a2 : Int32} {S : gm_Mem} {r1 : Int32} {q6 : Nat} (h2 : gm_run gC 0 YX10_isEndpoint 0 [some (.int a1)] [] S (some (.int r1)) S) (c3 : ¬ r1 = 0) (c4 : ¬ a2 < 0) (c5 : ¬ 1 < a2) (kq6 : q6 = 2 ∨ q6 = 14) (h7 : gm_run gC 0 YX10_endpointOf 0 [some (.ref 0), some (.int a1)] [] S (some (.ref q6)) S) (c8 : ¬ a2 = 0) (c9 : (S q6 6) = 0) : gm_run gC 1 YX10_window 0 [some (.ref 0), some (.int a1), some (.int a2), none] [] S (some (.int (-1000000001))) S := by
  refine gm_iload_n dX10_window_0 rfl ?_
  refine gm_callS (r1 := (some (.int r1))) (own := RX10) rfl dX10_window_1 llX10_96 msX10_isEndpoint [.int a1] [] rfl rfl (Nat.le_of_ble_eq_true rfl) (by decide) rfl h2 rfl ?_
  refine gm_if_eq_f dX10_window_4 ⟨16, by decide⟩ c3 ?_
  refine gm_iload_n dX10_window_7 rfl ?_
  refine gm_if_lt_f dX10_window_8 ⟨16, by decide⟩ c4 ?_
  refine gm_iload_n dX10_window_11 rfl ?_
  refine gm_iconst (v := 1) dX10_window_12 (by decide) ?_
  refine gm_icmp_le_t (tgt := 19) dX10_window_13 (by decide) c5 ?_
  refine gm_aload_n dX10_window_19 rfl ?_
  refine gm_iload_n dX10_window_20 rfl ?_
  refine gm_callV (r1 := (some (.ref q6))) (own := RX10) rfl dX10_window_21 llX10_100 mvX10_endpointOf sC_0 rfl [.int a1] [] rfl rfl (Nat.le_of_ble_eq_true rfl) (by decide) rfl h7 rfl ?_
  refine gm_astore_n (L' := [some (.ref 0), some (.int a1), some (.int a2), some (.ref q6)]) dX10_window_24 (by decide) rfl ?_
  refine gm_iload_n dX10_window_25 rfl ?_
  refine gm_if_ne_t (tgt := 37) dX10_window_26 (by decide) c8 ?_
  refine gm_aload_n dX10_window_37 rfl ?_
  refine gm_getI (own := RX10) (x := (S q6 6)) rfl dX10_window_38 lfX10_206 (sC_E_0 (by omega)) rfl rfl ?_
  refine gm_if_eq_t (tgt := 54) dX10_window_41 (by decide) c9 ?_
  refine gm_ldc (own := RX10) rfl lcX10_82 dX10_window_54 ?_
  exact gm_iret dX10_window_56 rfl
/-- X10_window 0 [4f 8t] -> ret  -/
theorem PX10_window_5 {a1 : Int32} {a2 : Int32} {S : gm_Mem} {r1 : Int32} (h2 : gm_run gC 0 YX10_isEndpoint 0 [some (.int a1)] [] S (some (.int r1)) S) (c3 : ¬ r1 = 0) (c4 : a2 < 0) : gm_run gC 1 YX10_window 0 [some (.ref 0), some (.int a1), some (.int a2), none] [] S (some (.int (-1000000002))) S := by
  refine gm_iload_n dX10_window_0 rfl ?_
  refine gm_callS (r1 := (some (.int r1))) (own := RX10) rfl dX10_window_1 llX10_96 msX10_isEndpoint [.int a1] [] rfl rfl (Nat.le_of_ble_eq_true rfl) (by decide) rfl h2 rfl ?_
  refine gm_if_eq_f dX10_window_4 ⟨16, by decide⟩ c3 ?_
  refine gm_iload_n dX10_window_7 rfl ?_
  refine gm_if_lt_t (tgt := 16) dX10_window_8 (by decide) c4 ?_
  refine gm_ldc (own := RX10) rfl lcX10_37 dX10_window_16 ?_
  exact gm_iret dX10_window_18 rfl
/-- X10_window 0 [4t] -> ret  -/
theorem PX10_window_6 {a1 : Int32} {a2 : Int32} {S : gm_Mem} {r1 : Int32} (h2 : gm_run gC 0 YX10_isEndpoint 0 [some (.int a1)] [] S (some (.int r1)) S) (c3 : r1 = 0) : gm_run gC 1 YX10_window 0 [some (.ref 0), some (.int a1), some (.int a2), none] [] S (some (.int (-1000000002))) S := by
  refine gm_iload_n dX10_window_0 rfl ?_
  refine gm_callS (r1 := (some (.int r1))) (own := RX10) rfl dX10_window_1 llX10_96 msX10_isEndpoint [.int a1] [] rfl rfl (Nat.le_of_ble_eq_true rfl) (by decide) rfl h2 rfl ?_
  refine gm_if_eq_t (tgt := 16) dX10_window_4 (by decide) c3 ?_
  refine gm_ldc (own := RX10) rfl lcX10_37 dX10_window_16 ?_
  exact gm_iret dX10_window_18 rfl
/-- X10_taken 0 [4f] -> ret  -/
theorem PX10_taken_1 {a1 : Int32} {a2 : Int32} {S : gm_Mem} {r1 : Int32} (h2 : gm_run gC 0 YX10_isEndpoint 0 [some (.int a1)] [] S (some (.int r1)) S) (c3 : r1 = 0) : gm_run gC 1 YX10_taken 0 [some (.ref 0), some (.int a1), some (.int a2)] [] S (some (.int (-1000000001))) S := by
  refine gm_iload_n dX10_taken_0 rfl ?_
  refine gm_callS (r1 := (some (.int r1))) (own := RX10) rfl dX10_taken_1 llX10_96 msX10_isEndpoint [.int a1] [] rfl rfl (Nat.le_of_ble_eq_true rfl) (by decide) rfl h2 rfl ?_
  refine gm_if_ne_f dX10_taken_4 ⟨10, by decide⟩ c3 ?_
  refine gm_ldc (own := RX10) rfl lcX10_82 dX10_taken_7 ?_
  exact gm_iret dX10_taken_9 rfl
/-- X10_taken 0 [4t] -> ret  -/
theorem PX10_taken_2 {a1 : Int32} {a2 : Int32} {S : gm_Mem} {r1 : Int32} {q4 : Nat} {r6 : Int32} (h2 : gm_run gC 0 YX10_isEndpoint 0 [some (.int a1)] [] S (some (.int r1)) S) (c3 : ¬ r1 = 0) (kq4 : q4 = 2 ∨ q4 = 14) (h5 : gm_run gC 0 YX10_endpointOf 0 [some (.ref 0), some (.int a1)] [] S (some (.ref q4)) S) (h7 : gm_run gC 0 YX1_valueAt 0 [some (.ref (q4 + 5)), some (.int a2)] [] S (some (.int r6)) S) : gm_run gC 1 YX10_taken 0 [some (.ref 0), some (.int a1), some (.int a2)] [] S (some (.int r6)) S := by
  refine gm_iload_n dX10_taken_0 rfl ?_
  refine gm_callS (r1 := (some (.int r1))) (own := RX10) rfl dX10_taken_1 llX10_96 msX10_isEndpoint [.int a1] [] rfl rfl (Nat.le_of_ble_eq_true rfl) (by decide) rfl h2 rfl ?_
  refine gm_if_ne_t (tgt := 10) dX10_taken_4 (by decide) c3 ?_
  refine gm_aload_n dX10_taken_10 rfl ?_
  refine gm_iload_n dX10_taken_11 rfl ?_
  refine gm_callV (r1 := (some (.ref q4))) (own := RX10) rfl dX10_taken_12 llX10_100 mvX10_endpointOf sC_0 rfl [.int a1] [] rfl rfl (Nat.le_of_ble_eq_true rfl) (by decide) rfl h5 rfl ?_
  refine gm_getR (own := RX10) (q := (q4 + 5)) rfl dX10_taken_15 lfX10_212 (sC_E_0 (by omega)) rfl ?_
  refine gm_iload_n dX10_taken_18 rfl ?_
  refine gm_callV (r1 := (some (.int r6))) (own := RX10) rfl dX10_taken_19 llX10_216 mvX1_valueAt (sC_E_5 (by omega)) rfl [.int a2] [] rfl rfl (Nat.le_of_ble_eq_true rfl) (by decide) rfl h7 rfl ?_
  exact gm_iret dX10_taken_22 rfl
/-- X10_kept 0 [4f] -> ret  -/
theorem PX10_kept_1 {a1 : Int32} {a2 : Int32} {a3 : Int32} {S : gm_Mem} {r1 : Int32} (h2 : gm_run gC 0 YX10_isEndpoint 0 [some (.int a1)] [] S (some (.int r1)) S) (c3 : r1 = 0) : gm_run gC 2 YX10_kept 0 [some (.ref 0), some (.int a1), some (.int a2), some (.int a3)] [] S (some (.int (-1000000001))) S := by
  refine gm_iload_n dX10_kept_0 rfl ?_
  refine gm_callS (r1 := (some (.int r1))) (own := RX10) rfl dX10_kept_1 llX10_96 msX10_isEndpoint [.int a1] [] rfl rfl (Nat.le_of_ble_eq_true rfl) (by decide) rfl h2 rfl ?_
  refine gm_if_ne_f dX10_kept_4 ⟨10, by decide⟩ c3 ?_
  refine gm_ldc (own := RX10) rfl lcX10_82 dX10_kept_7 ?_
  exact gm_iret dX10_kept_9 rfl
/-- X10_kept 0 [4t] -> ret  -/
theorem PX10_kept_2 {a1 : Int32} {a2 : Int32} {a3 : Int32} {S : gm_Mem} {r1 : Int32} {q4 : Nat} {r6 : Int32} (h2 : gm_run gC 0 YX10_isEndpoint 0 [some (.int a1)] [] S (some (.int r1)) S) (c3 : ¬ r1 = 0) (kq4 : q4 = 2 ∨ q4 = 14) (h5 : gm_run gC 0 YX10_endpointOf 0 [some (.ref 0), some (.int a1)] [] S (some (.ref q4)) S) (h7 : gm_run gC 1 YX4_part 0 [some (.ref (q4 + 2)), some (.int a2), some (.int a3)] [] S (some (.int r6)) S) : gm_run gC 2 YX10_kept 0 [some (.ref 0), some (.int a1), some (.int a2), some (.int a3)] [] S (some (.int r6)) S := by
  refine gm_iload_n dX10_kept_0 rfl ?_
  refine gm_callS (r1 := (some (.int r1))) (own := RX10) rfl dX10_kept_1 llX10_96 msX10_isEndpoint [.int a1] [] rfl rfl (Nat.le_of_ble_eq_true rfl) (by decide) rfl h2 rfl ?_
  refine gm_if_ne_t (tgt := 10) dX10_kept_4 (by decide) c3 ?_
  refine gm_aload_n dX10_kept_10 rfl ?_
  refine gm_iload_n dX10_kept_11 rfl ?_
  refine gm_callV (r1 := (some (.ref q4))) (own := RX10) rfl dX10_kept_12 llX10_100 mvX10_endpointOf sC_0 rfl [.int a1] [] rfl rfl (Nat.le_of_ble_eq_true rfl) (by decide) rfl h5 rfl ?_
  refine gm_getR (own := RX10) (q := (q4 + 2)) rfl dX10_kept_15 lfX10_221 (sC_E_0 (by omega)) rfl ?_
  refine gm_iload_n dX10_kept_18 rfl ?_
  refine gm_iload_n dX10_kept_19 rfl ?_
  refine gm_callV (r1 := (some (.int r6))) (own := RX10) rfl dX10_kept_20 llX10_225 mvX4_part (sC_E_2 (by omega)) rfl [.int a2, .int a3] [] rfl rfl (Nat.le_of_ble_eq_true rfl) (by decide) rfl h7 rfl ?_
  exact gm_iret dX10_kept_23 rfl
/-- X10_results 0 [4f 8f 14f] -> ret  -/
theorem PX10_results_1 {a1 : Int32} {a2 : Int32} {S : gm_Mem} {r1 : Int32} (h2 : gm_run gC 0 YX10_isEndpoint 0 [some (.int a1)] [] S (some (.int r1)) S) (c3 : ¬ r1 = 0) (c4 : ¬ a2 < 0) (c5 : ¬ a2 < 9) : gm_run gC 1 YX10_results 0 [some (.ref 0), some (.int a1), some (.int a2)] [] S (some (.int (-1000000002))) S := by
  refine gm_iload_n dX10_results_0 rfl ?_
  refine gm_callS (r1 := (some (.int r1))) (own := RX10) rfl dX10_results_1 llX10_96 msX10_isEndpoint [.int a1] [] rfl rfl (Nat.le_of_ble_eq_true rfl) (by decide) rfl h2 rfl ?_
  refine gm_if_eq_f dX10_results_4 ⟨17, by decide⟩ c3 ?_
  refine gm_iload_n dX10_results_7 rfl ?_
  refine gm_if_lt_f dX10_results_8 ⟨17, by decide⟩ c4 ?_
  refine gm_iload_n dX10_results_11 rfl ?_
  refine gm_bipush (v := 9) dX10_results_12 (by decide) ?_
  refine gm_icmp_lt_f dX10_results_14 ⟨20, by decide⟩ c5 ?_
  refine gm_ldc (own := RX10) rfl lcX10_37 dX10_results_17 ?_
  exact gm_iret dX10_results_19 rfl
/-- X10_results 0 [4f 8f 14t] -> ret  -/
theorem PX10_results_2 {a1 : Int32} {a2 : Int32} {S : gm_Mem} {r1 : Int32} {q6 : Nat} {j8 : Nat} (h2 : gm_run gC 0 YX10_isEndpoint 0 [some (.int a1)] [] S (some (.int r1)) S) (c3 : ¬ r1 = 0) (c4 : ¬ a2 < 0) (c5 : a2 < 9) (kq6 : q6 = 2 ∨ q6 = 14) (h7 : gm_run gC 0 YX10_endpointOf 0 [some (.ref 0), some (.int a1)] [] S (some (.ref q6)) S) (ij8 : gm_ix a2 j8 9) : gm_run gC 1 YX10_results 0 [some (.ref 0), some (.int a1), some (.int a2)] [] S (some (.int (S (q6 + 1) j8))) S := by
  refine gm_iload_n dX10_results_0 rfl ?_
  refine gm_callS (r1 := (some (.int r1))) (own := RX10) rfl dX10_results_1 llX10_96 msX10_isEndpoint [.int a1] [] rfl rfl (Nat.le_of_ble_eq_true rfl) (by decide) rfl h2 rfl ?_
  refine gm_if_eq_f dX10_results_4 ⟨17, by decide⟩ c3 ?_
  refine gm_iload_n dX10_results_7 rfl ?_
  refine gm_if_lt_f dX10_results_8 ⟨17, by decide⟩ c4 ?_
  refine gm_iload_n dX10_results_11 rfl ?_
  refine gm_bipush (v := 9) dX10_results_12 (by decide) ?_
  refine gm_icmp_lt_t (tgt := 20) dX10_results_14 (by decide) c5 ?_
  refine gm_aload_n dX10_results_20 rfl ?_
  refine gm_iload_n dX10_results_21 rfl ?_
  refine gm_callV (r1 := (some (.ref q6))) (own := RX10) rfl dX10_results_22 llX10_100 mvX10_endpointOf sC_0 rfl [.int a1] [] rfl rfl (Nat.le_of_ble_eq_true rfl) (by decide) rfl h7 rfl ?_
  refine gm_getR (own := RX10) (q := (q6 + 1)) rfl dX10_results_25 lfX10_230 (sC_E_0 (by omega)) rfl ?_
  refine gm_iload_n dX10_results_28 rfl ?_
  refine gm_iald (j := j8) (x := (S (q6 + 1) j8)) dX10_results_29 (sC_E_1 (by omega)) ij8 rfl ?_
  exact gm_iret dX10_results_30 rfl
/-- X10_results 0 [4f 8t] -> ret  -/
theorem PX10_results_3 {a1 : Int32} {a2 : Int32} {S : gm_Mem} {r1 : Int32} (h2 : gm_run gC 0 YX10_isEndpoint 0 [some (.int a1)] [] S (some (.int r1)) S) (c3 : ¬ r1 = 0) (c4 : a2 < 0) : gm_run gC 1 YX10_results 0 [some (.ref 0), some (.int a1), some (.int a2)] [] S (some (.int (-1000000002))) S := by
  refine gm_iload_n dX10_results_0 rfl ?_
  refine gm_callS (r1 := (some (.int r1))) (own := RX10) rfl dX10_results_1 llX10_96 msX10_isEndpoint [.int a1] [] rfl rfl (Nat.le_of_ble_eq_true rfl) (by decide) rfl h2 rfl ?_
  refine gm_if_eq_f dX10_results_4 ⟨17, by decide⟩ c3 ?_
  refine gm_iload_n dX10_results_7 rfl ?_
  refine gm_if_lt_t (tgt := 17) dX10_results_8 (by decide) c4 ?_
  refine gm_ldc (own := RX10) rfl lcX10_37 dX10_results_17 ?_
  exact gm_iret dX10_results_19 rfl
/-- X10_results 0 [4t] -> ret  -/
theorem PX10_results_4 {a1 : Int32} {a2 : Int32} {S : gm_Mem} {r1 : Int32} (h2 : gm_run gC 0 YX10_isEndpoint 0 [some (.int a1)] [] S (some (.int r1)) S) (c3 : r1 = 0) : gm_run gC 1 YX10_results 0 [some (.ref 0), some (.int a1), some (.int a2)] [] S (some (.int (-1000000002))) S := by
  refine gm_iload_n dX10_results_0 rfl ?_
  refine gm_callS (r1 := (some (.int r1))) (own := RX10) rfl dX10_results_1 llX10_96 msX10_isEndpoint [.int a1] [] rfl rfl (Nat.le_of_ble_eq_true rfl) (by decide) rfl h2 rfl ?_
  refine gm_if_eq_t (tgt := 17) dX10_results_4 (by decide) c3 ?_
  refine gm_ldc (own := RX10) rfl lcX10_37 dX10_results_17 ?_
  exact gm_iret dX10_results_19 rfl
/-- X10_count 0 [1=0] -> ret  -/
theorem PX10_count_1 {a1 : Int32} {S : gm_Mem} (c1 : a1 = 0) : gm_run gC 0 YX10_count 0 [some (.ref 0), some (.int a1)] [] S (some (.int (S 26 1))) S := by
  refine gm_iload_n dX10_count_0 rfl ?_
  refine gm_tabEq (v := 0) (tgt := 48) dX10_count_1 c1 (by decide) (by decide) rfl (by decide) ?_
  refine gm_aload_n dX10_count_48 rfl ?_
  refine gm_getR (own := RX10) (q := 1) rfl dX10_count_49 lfX10_10 sC_0 rfl ?_
  refine gm_getR (own := RX10) (q := 26) rfl dX10_count_52 lfX10_58 sC_1 rfl ?_
  refine gm_getI (own := RX10) (x := (S 26 1)) rfl dX10_count_55 lfX10_83 sC_26 rfl rfl ?_
  exact gm_iret dX10_count_58 rfl
/-- X10_count 0 [1=1] -> ret  -/
theorem PX10_count_2 {a1 : Int32} {S : gm_Mem} (c1 : a1 = 1) : gm_run gC 0 YX10_count 0 [some (.ref 0), some (.int a1)] [] S (some (.int (S 1 10))) S := by
  refine gm_iload_n dX10_count_0 rfl ?_
  refine gm_tabEq (v := 1) (tgt := 59) dX10_count_1 c1 (by decide) (by decide) rfl (by decide) ?_
  refine gm_aload_n dX10_count_59 rfl ?_
  refine gm_getR (own := RX10) (q := 1) rfl dX10_count_60 lfX10_10 sC_0 rfl ?_
  refine gm_getI (own := RX10) (x := (S 1 10)) rfl dX10_count_63 lfX10_234 sC_1 rfl rfl ?_
  exact gm_iret dX10_count_66 rfl
/-- X10_count 0 [1=2] -> ret  -/
theorem PX10_count_3 {a1 : Int32} {S : gm_Mem} (c1 : a1 = 2) : gm_run gC 0 YX10_count 0 [some (.ref 0), some (.int a1)] [] S (some (.int (S 1 11))) S := by
  refine gm_iload_n dX10_count_0 rfl ?_
  refine gm_tabEq (v := 2) (tgt := 67) dX10_count_1 c1 (by decide) (by decide) rfl (by decide) ?_
  refine gm_aload_n dX10_count_67 rfl ?_
  refine gm_getR (own := RX10) (q := 1) rfl dX10_count_68 lfX10_10 sC_0 rfl ?_
  refine gm_getI (own := RX10) (x := (S 1 11)) rfl dX10_count_71 lfX10_130 sC_1 rfl rfl ?_
  exact gm_iret dX10_count_74 rfl
/-- X10_count 0 [1=3] -> ret  -/
theorem PX10_count_4 {a1 : Int32} {S : gm_Mem} (c1 : a1 = 3) : gm_run gC 0 YX10_count 0 [some (.ref 0), some (.int a1)] [] S (some (.int (S 1 12))) S := by
  refine gm_iload_n dX10_count_0 rfl ?_
  refine gm_tabEq (v := 3) (tgt := 75) dX10_count_1 c1 (by decide) (by decide) rfl (by decide) ?_
  refine gm_aload_n dX10_count_75 rfl ?_
  refine gm_getR (own := RX10) (q := 1) rfl dX10_count_76 lfX10_10 sC_0 rfl ?_
  refine gm_getI (own := RX10) (x := (S 1 12)) rfl dX10_count_79 lfX10_86 sC_1 rfl rfl ?_
  exact gm_iret dX10_count_82 rfl
/-- X10_count 0 [1=4] -> ret  -/
theorem PX10_count_5 {a1 : Int32} {S : gm_Mem} (c1 : a1 = 4) : gm_run gC 0 YX10_count 0 [some (.ref 0), some (.int a1)] [] S (some (.int (S 1 13))) S := by
  refine gm_iload_n dX10_count_0 rfl ?_
  refine gm_tabEq (v := 4) (tgt := 83) dX10_count_1 c1 (by decide) (by decide) rfl (by decide) ?_
  refine gm_aload_n dX10_count_83 rfl ?_
  refine gm_getR (own := RX10) (q := 1) rfl dX10_count_84 lfX10_10 sC_0 rfl ?_
  refine gm_getI (own := RX10) (x := (S 1 13)) rfl dX10_count_87 lfX10_167 sC_1 rfl rfl ?_
  exact gm_iret dX10_count_90 rfl
/-- X10_count 0 [1=5] -> ret  -/
theorem PX10_count_6 {a1 : Int32} {S : gm_Mem} (c1 : a1 = 5) : gm_run gC 0 YX10_count 0 [some (.ref 0), some (.int a1)] [] S (some (.int (S 1 8))) S := by
  refine gm_iload_n dX10_count_0 rfl ?_
  refine gm_tabEq (v := 5) (tgt := 91) dX10_count_1 c1 (by decide) (by decide) rfl (by decide) ?_
  refine gm_aload_n dX10_count_91 rfl ?_
  refine gm_getR (own := RX10) (q := 1) rfl dX10_count_92 lfX10_10 sC_0 rfl ?_
  refine gm_getI (own := RX10) (x := (S 1 8)) rfl dX10_count_95 lfX10_173 sC_1 rfl rfl ?_
  exact gm_iret dX10_count_98 rfl
/-- X10_count 0 [1=6] -> ret  -/
theorem PX10_count_7 {a1 : Int32} {S : gm_Mem} (c1 : a1 = 6) : gm_run gC 0 YX10_count 0 [some (.ref 0), some (.int a1)] [] S (some (.int (S 117 4))) S := by
  refine gm_iload_n dX10_count_0 rfl ?_
  refine gm_tabEq (v := 6) (tgt := 99) dX10_count_1 c1 (by decide) (by decide) rfl (by decide) ?_
  refine gm_aload_n dX10_count_99 rfl ?_
  refine gm_getR (own := RX10) (q := 117) rfl dX10_count_100 lfX10_22 sC_0 rfl ?_
  refine gm_getI (own := RX10) (x := (S 117 4)) rfl dX10_count_103 lfX10_237 sC_117 rfl rfl ?_
  exact gm_iret dX10_count_106 rfl
/-- X10_count 0 [1=7] -> ret  -/
theorem PX10_count_8 {a1 : Int32} {S : gm_Mem} (c1 : a1 = 7) : gm_run gC 0 YX10_count 0 [some (.ref 0), some (.int a1)] [] S (some (.int (S 1 9))) S := by
  refine gm_iload_n dX10_count_0 rfl ?_
  refine gm_tabEq (v := 7) (tgt := 107) dX10_count_1 c1 (by decide) (by decide) rfl (by decide) ?_
  refine gm_aload_n dX10_count_107 rfl ?_
  refine gm_getR (own := RX10) (q := 1) rfl dX10_count_108 lfX10_10 sC_0 rfl ?_
  refine gm_getI (own := RX10) (x := (S 1 9)) rfl dX10_count_111 lfX10_76 sC_1 rfl rfl ?_
  exact gm_iret dX10_count_114 rfl
/-- X10_count 0 [1out] -> ret  -/
theorem PX10_count_9 {a1 : Int32} {S : gm_Mem} (c1 : a1.toInt < 0 ∨ 7 < a1.toInt) : gm_run gC 0 YX10_count 0 [some (.ref 0), some (.int a1)] [] S (some (.int (-1000000002))) S := by
  refine gm_iload_n dX10_count_0 rfl ?_
  refine gm_tabOut (tgt := 115) dX10_count_1 c1 (by decide) ?_
  refine gm_ldc (own := RX10) rfl lcX10_37 dX10_count_115 ?_
  exact gm_iret dX10_count_117 rfl
/-- X10_event 0 [] -> ret  -/
theorem PX10_event_1 {a1 : Int32} {a2 : Int32} {S : gm_Mem} {r1 : Int32} (h2 : gm_run gC 1 YX2_part 0 [some (.ref 55), some (.int a1), some (.int a2), none] [] S (some (.int r1)) S) : gm_run gC 2 YX10_event 0 [some (.ref 0), some (.int a1), some (.int a2)] [] S (some (.int r1)) S := by
  refine gm_aload_n dX10_event_0 rfl ?_
  refine gm_getR (own := RX10) (q := 1) rfl dX10_event_1 lfX10_10 sC_0 rfl ?_
  refine gm_getR (own := RX10) (q := 55) rfl dX10_event_4 lfX10_133 sC_1 rfl ?_
  refine gm_iload_n dX10_event_7 rfl ?_
  refine gm_iload_n dX10_event_8 rfl ?_
  refine gm_callV (r1 := (some (.int r1))) (own := RX10) rfl dX10_event_9 llX10_240 mvX2_part sC_55 rfl [.int a1, .int a2] [] rfl rfl (Nat.le_of_ble_eq_true rfl) (by decide) rfl h2 rfl ?_
  exact gm_iret dX10_event_12 rfl
/-- X10_agree 0 [21f 29f 50f 61f] -> ret  -/
theorem PX10_agree_1 {S : gm_Mem} (c1 : (S 2 8) = 3) (c2 : (S 14 8) = 3) (c3 : (S 2 9) = (S 14 9)) (c4 : (S 2 10) = (S 14 10)) : gm_run gC 0 YX10_agree 0 [some (.ref 0), none, none, none] [] S (some (.int 1)) S := by
  refine gm_aload_n dX10_agree_0 rfl ?_
  refine gm_getR (own := RX10) (q := 1) rfl dX10_agree_1 lfX10_10 sC_0 rfl ?_
  refine gm_getR (own := RX10) (q := 2) rfl dX10_agree_4 lfX10_48 sC_1 rfl ?_
  refine gm_astore_n (L' := [some (.ref 0), some (.ref 2), none, none]) dX10_agree_7 (by decide) rfl ?_
  refine gm_aload_n dX10_agree_8 rfl ?_
  refine gm_getR (own := RX10) (q := 1) rfl dX10_agree_9 lfX10_10 sC_0 rfl ?_
  refine gm_getR (own := RX10) (q := 14) rfl dX10_agree_12 lfX10_93 sC_1 rfl ?_
  refine gm_astore_n (L' := [some (.ref 0), some (.ref 2), some (.ref 14), none]) dX10_agree_15 (by decide) rfl ?_
  refine gm_aload_n dX10_agree_16 rfl ?_
  refine gm_getI (own := RX10) (x := (S 2 8)) rfl dX10_agree_17 lfX10_52 sC_2 rfl rfl ?_
  refine gm_iconst (v := 3) dX10_agree_20 (by decide) ?_
  refine gm_icmp_ne_f dX10_agree_21 ⟨36, by decide⟩ c1 ?_
  refine gm_aload_n dX10_agree_24 rfl ?_
  refine gm_getI (own := RX10) (x := (S 14 8)) rfl dX10_agree_25 lfX10_52 sC_14 rfl rfl ?_
  refine gm_iconst (v := 3) dX10_agree_28 (by decide) ?_
  refine gm_icmp_ne_f dX10_agree_29 ⟨36, by decide⟩ c2 ?_
  refine gm_iconst (v := 1) dX10_agree_32 (by decide) ?_
  refine gm_goto (tgt := 37) dX10_agree_33 (by decide) ?_
  refine gm_istore_n (L' := [some (.ref 0), some (.ref 2), some (.ref 14), some (.int 1)]) dX10_agree_37 (by decide) rfl ?_
  refine gm_iload_n dX10_agree_38 rfl ?_
  refine gm_if_eq_f dX10_agree_39 ⟨68, by decide⟩ (by decide) ?_
  refine gm_aload_n dX10_agree_42 rfl ?_
  refine gm_getI (own := RX10) (x := (S 2 9)) rfl dX10_agree_43 lfX10_241 sC_2 rfl rfl ?_
  refine gm_aload_n dX10_agree_46 rfl ?_
  refine gm_getI (own := RX10) (x := (S 14 9)) rfl dX10_agree_47 lfX10_241 sC_14 rfl rfl ?_
  refine gm_icmp_ne_f dX10_agree_50 ⟨68, by decide⟩ c3 ?_
  refine gm_aload_n dX10_agree_53 rfl ?_
  refine gm_getI (own := RX10) (x := (S 2 10)) rfl dX10_agree_54 lfX10_242 sC_2 rfl rfl ?_
  refine gm_aload_n dX10_agree_57 rfl ?_
  refine gm_getI (own := RX10) (x := (S 14 10)) rfl dX10_agree_58 lfX10_242 sC_14 rfl rfl ?_
  refine gm_icmp_ne_f dX10_agree_61 ⟨68, by decide⟩ c4 ?_
  refine gm_iconst (v := 1) dX10_agree_64 (by decide) ?_
  refine gm_goto (tgt := 69) dX10_agree_65 (by decide) ?_
  exact gm_iret dX10_agree_69 rfl
/-- X10_agree 0 [21f 29f 50f 61t] -> ret  -/
theorem PX10_agree_2 {S : gm_Mem} (c1 : (S 2 8) = 3) (c2 : (S 14 8) = 3) (c3 : (S 2 9) = (S 14 9)) (c4 : ¬ (S 2 10) = (S 14 10)) : gm_run gC 0 YX10_agree 0 [some (.ref 0), none, none, none] [] S (some (.int 0)) S := by
  refine gm_aload_n dX10_agree_0 rfl ?_
  refine gm_getR (own := RX10) (q := 1) rfl dX10_agree_1 lfX10_10 sC_0 rfl ?_
  refine gm_getR (own := RX10) (q := 2) rfl dX10_agree_4 lfX10_48 sC_1 rfl ?_
  refine gm_astore_n (L' := [some (.ref 0), some (.ref 2), none, none]) dX10_agree_7 (by decide) rfl ?_
  refine gm_aload_n dX10_agree_8 rfl ?_
  refine gm_getR (own := RX10) (q := 1) rfl dX10_agree_9 lfX10_10 sC_0 rfl ?_
  refine gm_getR (own := RX10) (q := 14) rfl dX10_agree_12 lfX10_93 sC_1 rfl ?_
  refine gm_astore_n (L' := [some (.ref 0), some (.ref 2), some (.ref 14), none]) dX10_agree_15 (by decide) rfl ?_
  refine gm_aload_n dX10_agree_16 rfl ?_
  refine gm_getI (own := RX10) (x := (S 2 8)) rfl dX10_agree_17 lfX10_52 sC_2 rfl rfl ?_
  refine gm_iconst (v := 3) dX10_agree_20 (by decide) ?_
  refine gm_icmp_ne_f dX10_agree_21 ⟨36, by decide⟩ c1 ?_
  refine gm_aload_n dX10_agree_24 rfl ?_
  refine gm_getI (own := RX10) (x := (S 14 8)) rfl dX10_agree_25 lfX10_52 sC_14 rfl rfl ?_
  refine gm_iconst (v := 3) dX10_agree_28 (by decide) ?_
  refine gm_icmp_ne_f dX10_agree_29 ⟨36, by decide⟩ c2 ?_
  refine gm_iconst (v := 1) dX10_agree_32 (by decide) ?_
  refine gm_goto (tgt := 37) dX10_agree_33 (by decide) ?_
  refine gm_istore_n (L' := [some (.ref 0), some (.ref 2), some (.ref 14), some (.int 1)]) dX10_agree_37 (by decide) rfl ?_
  refine gm_iload_n dX10_agree_38 rfl ?_
  refine gm_if_eq_f dX10_agree_39 ⟨68, by decide⟩ (by decide) ?_
  refine gm_aload_n dX10_agree_42 rfl ?_
  refine gm_getI (own := RX10) (x := (S 2 9)) rfl dX10_agree_43 lfX10_241 sC_2 rfl rfl ?_
  refine gm_aload_n dX10_agree_46 rfl ?_
  refine gm_getI (own := RX10) (x := (S 14 9)) rfl dX10_agree_47 lfX10_241 sC_14 rfl rfl ?_
  refine gm_icmp_ne_f dX10_agree_50 ⟨68, by decide⟩ c3 ?_
  refine gm_aload_n dX10_agree_53 rfl ?_
  refine gm_getI (own := RX10) (x := (S 2 10)) rfl dX10_agree_54 lfX10_242 sC_2 rfl rfl ?_
  refine gm_aload_n dX10_agree_57 rfl ?_
  refine gm_getI (own := RX10) (x := (S 14 10)) rfl dX10_agree_58 lfX10_242 sC_14 rfl rfl ?_
  refine gm_icmp_ne_t (tgt := 68) dX10_agree_61 (by decide) c4 ?_
  refine gm_iconst (v := 0) dX10_agree_68 (by decide) ?_
  exact gm_iret dX10_agree_69 rfl
/-- X10_agree 0 [21f 29f 50t] -> ret  -/
theorem PX10_agree_3 {S : gm_Mem} (c1 : (S 2 8) = 3) (c2 : (S 14 8) = 3) (c3 : ¬ (S 2 9) = (S 14 9)) : gm_run gC 0 YX10_agree 0 [some (.ref 0), none, none, none] [] S (some (.int 0)) S := by
  refine gm_aload_n dX10_agree_0 rfl ?_
  refine gm_getR (own := RX10) (q := 1) rfl dX10_agree_1 lfX10_10 sC_0 rfl ?_
  refine gm_getR (own := RX10) (q := 2) rfl dX10_agree_4 lfX10_48 sC_1 rfl ?_
  refine gm_astore_n (L' := [some (.ref 0), some (.ref 2), none, none]) dX10_agree_7 (by decide) rfl ?_
  refine gm_aload_n dX10_agree_8 rfl ?_
  refine gm_getR (own := RX10) (q := 1) rfl dX10_agree_9 lfX10_10 sC_0 rfl ?_
  refine gm_getR (own := RX10) (q := 14) rfl dX10_agree_12 lfX10_93 sC_1 rfl ?_
  refine gm_astore_n (L' := [some (.ref 0), some (.ref 2), some (.ref 14), none]) dX10_agree_15 (by decide) rfl ?_
  refine gm_aload_n dX10_agree_16 rfl ?_
  refine gm_getI (own := RX10) (x := (S 2 8)) rfl dX10_agree_17 lfX10_52 sC_2 rfl rfl ?_
  refine gm_iconst (v := 3) dX10_agree_20 (by decide) ?_
  refine gm_icmp_ne_f dX10_agree_21 ⟨36, by decide⟩ c1 ?_
  refine gm_aload_n dX10_agree_24 rfl ?_
  refine gm_getI (own := RX10) (x := (S 14 8)) rfl dX10_agree_25 lfX10_52 sC_14 rfl rfl ?_
  refine gm_iconst (v := 3) dX10_agree_28 (by decide) ?_
  refine gm_icmp_ne_f dX10_agree_29 ⟨36, by decide⟩ c2 ?_
  refine gm_iconst (v := 1) dX10_agree_32 (by decide) ?_
  refine gm_goto (tgt := 37) dX10_agree_33 (by decide) ?_
  refine gm_istore_n (L' := [some (.ref 0), some (.ref 2), some (.ref 14), some (.int 1)]) dX10_agree_37 (by decide) rfl ?_
  refine gm_iload_n dX10_agree_38 rfl ?_
  refine gm_if_eq_f dX10_agree_39 ⟨68, by decide⟩ (by decide) ?_
  refine gm_aload_n dX10_agree_42 rfl ?_
  refine gm_getI (own := RX10) (x := (S 2 9)) rfl dX10_agree_43 lfX10_241 sC_2 rfl rfl ?_
  refine gm_aload_n dX10_agree_46 rfl ?_
  refine gm_getI (own := RX10) (x := (S 14 9)) rfl dX10_agree_47 lfX10_241 sC_14 rfl rfl ?_
  refine gm_icmp_ne_t (tgt := 68) dX10_agree_50 (by decide) c3 ?_
  refine gm_iconst (v := 0) dX10_agree_68 (by decide) ?_
  exact gm_iret dX10_agree_69 rfl
/-- X10_agree 0 [21f 29t] -> ret  -/
theorem PX10_agree_4 {S : gm_Mem} (c1 : (S 2 8) = 3) (c2 : ¬ (S 14 8) = 3) : gm_run gC 0 YX10_agree 0 [some (.ref 0), none, none, none] [] S (some (.int 0)) S := by
  refine gm_aload_n dX10_agree_0 rfl ?_
  refine gm_getR (own := RX10) (q := 1) rfl dX10_agree_1 lfX10_10 sC_0 rfl ?_
  refine gm_getR (own := RX10) (q := 2) rfl dX10_agree_4 lfX10_48 sC_1 rfl ?_
  refine gm_astore_n (L' := [some (.ref 0), some (.ref 2), none, none]) dX10_agree_7 (by decide) rfl ?_
  refine gm_aload_n dX10_agree_8 rfl ?_
  refine gm_getR (own := RX10) (q := 1) rfl dX10_agree_9 lfX10_10 sC_0 rfl ?_
  refine gm_getR (own := RX10) (q := 14) rfl dX10_agree_12 lfX10_93 sC_1 rfl ?_
  refine gm_astore_n (L' := [some (.ref 0), some (.ref 2), some (.ref 14), none]) dX10_agree_15 (by decide) rfl ?_
  refine gm_aload_n dX10_agree_16 rfl ?_
  refine gm_getI (own := RX10) (x := (S 2 8)) rfl dX10_agree_17 lfX10_52 sC_2 rfl rfl ?_
  refine gm_iconst (v := 3) dX10_agree_20 (by decide) ?_
  refine gm_icmp_ne_f dX10_agree_21 ⟨36, by decide⟩ c1 ?_
  refine gm_aload_n dX10_agree_24 rfl ?_
  refine gm_getI (own := RX10) (x := (S 14 8)) rfl dX10_agree_25 lfX10_52 sC_14 rfl rfl ?_
  refine gm_iconst (v := 3) dX10_agree_28 (by decide) ?_
  refine gm_icmp_ne_t (tgt := 36) dX10_agree_29 (by decide) c2 ?_
  refine gm_iconst (v := 0) dX10_agree_36 (by decide) ?_
  refine gm_istore_n (L' := [some (.ref 0), some (.ref 2), some (.ref 14), some (.int 0)]) dX10_agree_37 (by decide) rfl ?_
  refine gm_iload_n dX10_agree_38 rfl ?_
  refine gm_if_eq_t (tgt := 68) dX10_agree_39 (by decide) (by decide) ?_
  refine gm_iconst (v := 0) dX10_agree_68 (by decide) ?_
  exact gm_iret dX10_agree_69 rfl
/-- X10_agree 0 [21t] -> ret  -/
theorem PX10_agree_5 {S : gm_Mem} (c1 : ¬ (S 2 8) = 3) : gm_run gC 0 YX10_agree 0 [some (.ref 0), none, none, none] [] S (some (.int 0)) S := by
  refine gm_aload_n dX10_agree_0 rfl ?_
  refine gm_getR (own := RX10) (q := 1) rfl dX10_agree_1 lfX10_10 sC_0 rfl ?_
  refine gm_getR (own := RX10) (q := 2) rfl dX10_agree_4 lfX10_48 sC_1 rfl ?_
  refine gm_astore_n (L' := [some (.ref 0), some (.ref 2), none, none]) dX10_agree_7 (by decide) rfl ?_
  refine gm_aload_n dX10_agree_8 rfl ?_
  refine gm_getR (own := RX10) (q := 1) rfl dX10_agree_9 lfX10_10 sC_0 rfl ?_
  refine gm_getR (own := RX10) (q := 14) rfl dX10_agree_12 lfX10_93 sC_1 rfl ?_
  refine gm_astore_n (L' := [some (.ref 0), some (.ref 2), some (.ref 14), none]) dX10_agree_15 (by decide) rfl ?_
  refine gm_aload_n dX10_agree_16 rfl ?_
  refine gm_getI (own := RX10) (x := (S 2 8)) rfl dX10_agree_17 lfX10_52 sC_2 rfl rfl ?_
  refine gm_iconst (v := 3) dX10_agree_20 (by decide) ?_
  refine gm_icmp_ne_t (tgt := 36) dX10_agree_21 (by decide) c1 ?_
  refine gm_iconst (v := 0) dX10_agree_36 (by decide) ?_
  refine gm_istore_n (L' := [some (.ref 0), some (.ref 2), some (.ref 14), some (.int 0)]) dX10_agree_37 (by decide) rfl ?_
  refine gm_iload_n dX10_agree_38 rfl ?_
  refine gm_if_eq_t (tgt := 68) dX10_agree_39 (by decide) (by decide) ?_
  refine gm_iconst (v := 0) dX10_agree_68 (by decide) ?_
  exact gm_iret dX10_agree_69 rfl
/-- X10_append 0 [1f 7f 12f 18f] -> ret  -/
theorem PX10_append_1 {a1 : Int32} {a2 : Int32} {S : gm_Mem} (c1 : ¬ a1 < 0) (c2 : ¬ 127 < a1) (c3 : ¬ a2 < 1) (c4 : 40 < a2) : gm_run gC 1 YX10_append 0 [some (.ref 0), some (.int a1), some (.int a2)] [] S (some (.int (-1000000002))) S := by
  refine gm_iload_n dX10_append_0 rfl ?_
  refine gm_if_lt_f dX10_append_1 ⟨21, by decide⟩ c1 ?_
  refine gm_iload_n dX10_append_4 rfl ?_
  refine gm_bipush (v := 127) dX10_append_5 (by decide) ?_
  refine gm_icmp_gt_f dX10_append_7 ⟨21, by decide⟩ c2 ?_
  refine gm_iload_n dX10_append_10 rfl ?_
  refine gm_iconst (v := 1) dX10_append_11 (by decide) ?_
  refine gm_icmp_lt_f dX10_append_12 ⟨21, by decide⟩ c3 ?_
  refine gm_iload_n dX10_append_15 rfl ?_
  refine gm_bipush (v := 40) dX10_append_16 (by decide) ?_
  refine gm_icmp_le_f dX10_append_18 ⟨24, by decide⟩ c4 ?_
  refine gm_ldc (own := RX10) rfl lcX10_37 dX10_append_21 ?_
  exact gm_iret dX10_append_23 rfl
/-- X10_append 0 [1f 7f 12f 18t 35f] -> ret  -/
theorem PX10_append_2 {a1 : Int32} {a2 : Int32} {S : gm_Mem} (c1 : ¬ a1 < 0) (c2 : ¬ 127 < a1) (c3 : ¬ a2 < 1) (c4 : ¬ 40 < a2) (c5 : 40 < ((S 117 4) + a2)) : gm_run gC 1 YX10_append 0 [some (.ref 0), some (.int a1), some (.int a2)] [] S (some (.int (-1000000003))) S := by
  refine gm_iload_n dX10_append_0 rfl ?_
  refine gm_if_lt_f dX10_append_1 ⟨21, by decide⟩ c1 ?_
  refine gm_iload_n dX10_append_4 rfl ?_
  refine gm_bipush (v := 127) dX10_append_5 (by decide) ?_
  refine gm_icmp_gt_f dX10_append_7 ⟨21, by decide⟩ c2 ?_
  refine gm_iload_n dX10_append_10 rfl ?_
  refine gm_iconst (v := 1) dX10_append_11 (by decide) ?_
  refine gm_icmp_lt_f dX10_append_12 ⟨21, by decide⟩ c3 ?_
  refine gm_iload_n dX10_append_15 rfl ?_
  refine gm_bipush (v := 40) dX10_append_16 (by decide) ?_
  refine gm_icmp_le_t (tgt := 24) dX10_append_18 (by decide) c4 ?_
  refine gm_aload_n dX10_append_24 rfl ?_
  refine gm_getR (own := RX10) (q := 117) rfl dX10_append_25 lfX10_22 sC_0 rfl ?_
  refine gm_getI (own := RX10) (x := (S 117 4)) rfl dX10_append_28 lfX10_237 sC_117 rfl rfl ?_
  refine gm_iload_n dX10_append_31 rfl ?_
  refine gm_iadd dX10_append_32 rfl ?_
  refine gm_bipush (v := 40) dX10_append_33 (by decide) ?_
  refine gm_icmp_le_f dX10_append_35 ⟨41, by decide⟩ c5 ?_
  refine gm_ldc (own := RX10) rfl lcX10_68 dX10_append_38 ?_
  exact gm_iret dX10_append_40 rfl
/-- X10_append 0 [1f 7f 12f 18t 35t] -> ret  -/
theorem PX10_append_3 {a1 : Int32} {a2 : Int32} {S : gm_Mem} {T1 : gm_Mem} (c1 : ¬ a1 < 0) (c2 : ¬ 127 < a1) (c3 : ¬ a2 < 1) (c4 : ¬ 40 < a2) (c5 : ¬ 40 < ((S 117 4) + a2)) (h6 : gm_run gC 0 YX6_extend 0 [some (.ref 117), some (.int a1), some (.int a2), none] [] S none T1) : gm_run gC 1 YX10_append 0 [some (.ref 0), some (.int a1), some (.int a2)] [] S (some (.int (T1 117 4))) T1 := by
  refine gm_iload_n dX10_append_0 rfl ?_
  refine gm_if_lt_f dX10_append_1 ⟨21, by decide⟩ c1 ?_
  refine gm_iload_n dX10_append_4 rfl ?_
  refine gm_bipush (v := 127) dX10_append_5 (by decide) ?_
  refine gm_icmp_gt_f dX10_append_7 ⟨21, by decide⟩ c2 ?_
  refine gm_iload_n dX10_append_10 rfl ?_
  refine gm_iconst (v := 1) dX10_append_11 (by decide) ?_
  refine gm_icmp_lt_f dX10_append_12 ⟨21, by decide⟩ c3 ?_
  refine gm_iload_n dX10_append_15 rfl ?_
  refine gm_bipush (v := 40) dX10_append_16 (by decide) ?_
  refine gm_icmp_le_t (tgt := 24) dX10_append_18 (by decide) c4 ?_
  refine gm_aload_n dX10_append_24 rfl ?_
  refine gm_getR (own := RX10) (q := 117) rfl dX10_append_25 lfX10_22 sC_0 rfl ?_
  refine gm_getI (own := RX10) (x := (S 117 4)) rfl dX10_append_28 lfX10_237 sC_117 rfl rfl ?_
  refine gm_iload_n dX10_append_31 rfl ?_
  refine gm_iadd dX10_append_32 rfl ?_
  refine gm_bipush (v := 40) dX10_append_33 (by decide) ?_
  refine gm_icmp_le_t (tgt := 41) dX10_append_35 (by decide) c5 ?_
  refine gm_aload_n dX10_append_41 rfl ?_
  refine gm_getR (own := RX10) (q := 117) rfl dX10_append_42 lfX10_22 sC_0 rfl ?_
  refine gm_iload_n dX10_append_45 rfl ?_
  refine gm_iload_n dX10_append_46 rfl ?_
  refine gm_callV (r1 := none) (own := RX10) rfl dX10_append_47 llX10_245 mvX6_extend sC_117 rfl [.int a1, .int a2] [] rfl rfl (Nat.le_of_ble_eq_true rfl) (by decide) rfl h6 rfl ?_
  refine gm_aload_n dX10_append_50 rfl ?_
  refine gm_getR (own := RX10) (q := 117) rfl dX10_append_51 lfX10_22 sC_0 rfl ?_
  refine gm_getI (own := RX10) (x := (T1 117 4)) rfl dX10_append_54 lfX10_237 sC_117 rfl rfl ?_
  exact gm_iret dX10_append_57 rfl
/-- X10_append 0 [1f 7f 12t] -> ret  -/
theorem PX10_append_4 {a1 : Int32} {a2 : Int32} {S : gm_Mem} (c1 : ¬ a1 < 0) (c2 : ¬ 127 < a1) (c3 : a2 < 1) : gm_run gC 1 YX10_append 0 [some (.ref 0), some (.int a1), some (.int a2)] [] S (some (.int (-1000000002))) S := by
  refine gm_iload_n dX10_append_0 rfl ?_
  refine gm_if_lt_f dX10_append_1 ⟨21, by decide⟩ c1 ?_
  refine gm_iload_n dX10_append_4 rfl ?_
  refine gm_bipush (v := 127) dX10_append_5 (by decide) ?_
  refine gm_icmp_gt_f dX10_append_7 ⟨21, by decide⟩ c2 ?_
  refine gm_iload_n dX10_append_10 rfl ?_
  refine gm_iconst (v := 1) dX10_append_11 (by decide) ?_
  refine gm_icmp_lt_t (tgt := 21) dX10_append_12 (by decide) c3 ?_
  refine gm_ldc (own := RX10) rfl lcX10_37 dX10_append_21 ?_
  exact gm_iret dX10_append_23 rfl
/-- X10_append 0 [1f 7t] -> ret  -/
theorem PX10_append_5 {a1 : Int32} {a2 : Int32} {S : gm_Mem} (c1 : ¬ a1 < 0) (c2 : 127 < a1) : gm_run gC 1 YX10_append 0 [some (.ref 0), some (.int a1), some (.int a2)] [] S (some (.int (-1000000002))) S := by
  refine gm_iload_n dX10_append_0 rfl ?_
  refine gm_if_lt_f dX10_append_1 ⟨21, by decide⟩ c1 ?_
  refine gm_iload_n dX10_append_4 rfl ?_
  refine gm_bipush (v := 127) dX10_append_5 (by decide) ?_
  refine gm_icmp_gt_t (tgt := 21) dX10_append_7 (by decide) c2 ?_
  refine gm_ldc (own := RX10) rfl lcX10_37 dX10_append_21 ?_
  exact gm_iret dX10_append_23 rfl
/-- X10_append 0 [1t] -> ret  -/
theorem PX10_append_6 {a1 : Int32} {a2 : Int32} {S : gm_Mem} (c1 : a1 < 0) : gm_run gC 1 YX10_append 0 [some (.ref 0), some (.int a1), some (.int a2)] [] S (some (.int (-1000000002))) S := by
  refine gm_iload_n dX10_append_0 rfl ?_
  refine gm_if_lt_t (tgt := 21) dX10_append_1 (by decide) c1 ?_
  refine gm_ldc (own := RX10) rfl lcX10_37 dX10_append_21 ?_
  exact gm_iret dX10_append_23 rfl
/-- X10_isError 0 [3f 9f 15f] -> ret  -/
theorem PX10_isError_1 {a1 : Int32} {S : gm_Mem} (c1 : ¬ a1 = (-1000000002)) (c2 : ¬ a1 = (-1000000003)) (c3 : a1 = (-1000000004)) : gm_run gC 0 YX10_isError 0 [some (.int a1)] [] S (some (.int 1)) S := by
  refine gm_iload_n dX10_isError_0 rfl ?_
  refine gm_ldc (own := RX10) rfl lcX10_37 dX10_isError_1 ?_
  refine gm_icmp_eq_f dX10_isError_3 ⟨18, by decide⟩ c1 ?_
  refine gm_iload_n dX10_isError_6 rfl ?_
  refine gm_ldc (own := RX10) rfl lcX10_68 dX10_isError_7 ?_
  refine gm_icmp_eq_f dX10_isError_9 ⟨18, by decide⟩ c2 ?_
  refine gm_iload_n dX10_isError_12 rfl ?_
  refine gm_ldc (own := RX10) rfl lcX10_57 dX10_isError_13 ?_
  refine gm_icmp_ne_f dX10_isError_15 ⟨22, by decide⟩ c3 ?_
  refine gm_iconst (v := 1) dX10_isError_18 (by decide) ?_
  refine gm_goto (tgt := 23) dX10_isError_19 (by decide) ?_
  exact gm_zret dX10_isError_23 rfl gm_fit_1
/-- X10_isError 0 [3f 9f 15t] -> ret  -/
theorem PX10_isError_2 {a1 : Int32} {S : gm_Mem} (c1 : ¬ a1 = (-1000000002)) (c2 : ¬ a1 = (-1000000003)) (c3 : ¬ a1 = (-1000000004)) : gm_run gC 0 YX10_isError 0 [some (.int a1)] [] S (some (.int 0)) S := by
  refine gm_iload_n dX10_isError_0 rfl ?_
  refine gm_ldc (own := RX10) rfl lcX10_37 dX10_isError_1 ?_
  refine gm_icmp_eq_f dX10_isError_3 ⟨18, by decide⟩ c1 ?_
  refine gm_iload_n dX10_isError_6 rfl ?_
  refine gm_ldc (own := RX10) rfl lcX10_68 dX10_isError_7 ?_
  refine gm_icmp_eq_f dX10_isError_9 ⟨18, by decide⟩ c2 ?_
  refine gm_iload_n dX10_isError_12 rfl ?_
  refine gm_ldc (own := RX10) rfl lcX10_57 dX10_isError_13 ?_
  refine gm_icmp_ne_t (tgt := 22) dX10_isError_15 (by decide) c3 ?_
  refine gm_iconst (v := 0) dX10_isError_22 (by decide) ?_
  exact gm_zret dX10_isError_23 rfl gm_fit_0
/-- X10_isError 0 [3f 9t] -> ret  -/
theorem PX10_isError_3 {a1 : Int32} {S : gm_Mem} (c1 : ¬ a1 = (-1000000002)) (c2 : a1 = (-1000000003)) : gm_run gC 0 YX10_isError 0 [some (.int a1)] [] S (some (.int 1)) S := by
  refine gm_iload_n dX10_isError_0 rfl ?_
  refine gm_ldc (own := RX10) rfl lcX10_37 dX10_isError_1 ?_
  refine gm_icmp_eq_f dX10_isError_3 ⟨18, by decide⟩ c1 ?_
  refine gm_iload_n dX10_isError_6 rfl ?_
  refine gm_ldc (own := RX10) rfl lcX10_68 dX10_isError_7 ?_
  refine gm_icmp_eq_t (tgt := 18) dX10_isError_9 (by decide) c2 ?_
  refine gm_iconst (v := 1) dX10_isError_18 (by decide) ?_
  refine gm_goto (tgt := 23) dX10_isError_19 (by decide) ?_
  exact gm_zret dX10_isError_23 rfl gm_fit_1
/-- X10_isError 0 [3t] -> ret  -/
theorem PX10_isError_4 {a1 : Int32} {S : gm_Mem} (c1 : a1 = (-1000000002)) : gm_run gC 0 YX10_isError 0 [some (.int a1)] [] S (some (.int 1)) S := by
  refine gm_iload_n dX10_isError_0 rfl ?_
  refine gm_ldc (own := RX10) rfl lcX10_37 dX10_isError_1 ?_
  refine gm_icmp_eq_t (tgt := 18) dX10_isError_3 (by decide) c1 ?_
  refine gm_iconst (v := 1) dX10_isError_18 (by decide) ?_
  refine gm_goto (tgt := 23) dX10_isError_19 (by decide) ?_
  exact gm_zret dX10_isError_23 rfl gm_fit_1
/-- X10_runScript 0 [17f] -> ret  -/
theorem PX10_runScript_1 {S : gm_Mem} {T1 : gm_Mem} {r1 : Int32} (h2 : gm_run gC 4 YX6_parse 0 [some (.ref 117), none] [] S (some (.int r1)) T1) (c3 : r1 = 0) : gm_run gC 7 YX10_runScript 0 [some (.ref 0), none, none, none, none] [] S (some (.int ((-2000) - (T1 117 6)))) (gm_u T1 117 4 0) := by
  refine gm_aload_n dX10_runScript_0 rfl ?_
  refine gm_getR (own := RX10) (q := 117) rfl dX10_runScript_1 lfX10_22 sC_0 rfl ?_
  refine gm_callV (r1 := (some (.int r1))) (own := RX10) rfl dX10_runScript_4 llX10_247 mvX6_parse sC_117 rfl [] [] rfl rfl (Nat.le_of_ble_eq_true rfl) (by decide) rfl h2 rfl ?_
  refine gm_istore_n (L' := [some (.ref 0), some (.int r1), none, none, none]) dX10_runScript_7 (by decide) rfl ?_
  refine gm_aload_n dX10_runScript_8 rfl ?_
  refine gm_getR (own := RX10) (q := 117) rfl dX10_runScript_9 lfX10_22 sC_0 rfl ?_
  refine gm_iconst (v := 0) dX10_runScript_12 (by decide) ?_
  refine gm_put (own := RX10) rfl dX10_runScript_13 lfX10_237 sC_117 rfl (gm_fit_int _) ?_
  refine gm_iload_n dX10_runScript_16 rfl ?_
  refine gm_if_ne_f dX10_runScript_17 ⟨32, by decide⟩ c3 ?_
  refine gm_sipush (v := (-2000)) dX10_runScript_20 (by decide) ?_
  refine gm_aload_n dX10_runScript_23 rfl ?_
  refine gm_getR (own := RX10) (q := 117) rfl dX10_runScript_24 lfX10_22 sC_0 rfl ?_
  refine gm_getI (own := RX10) (x := (T1 117 6)) rfl dX10_runScript_27 lfX10_250 sC_117 rfl (gm_rk (by decide)) ?_
  refine gm_isub dX10_runScript_30 rfl ?_
  exact gm_iret dX10_runScript_31 rfl
/-- X10_runScript 0 [17t] -> cut 34 -/
theorem PX10_runScript_2 {S : gm_Mem} {T1 : gm_Mem} {r1 : Int32} {r : Option Value} {S2 : gm_Mem} (h2 : gm_run gC 4 YX6_parse 0 [some (.ref 117), none] [] S (some (.int r1)) T1) (c3 : ¬ r1 = 0) (K : gm_run gC 7 YX10_runScript 34 [some (.ref 0), some (.int r1), some (.int 0), none, none] [] (gm_u T1 117 4 0) r S2) : gm_run gC 7 YX10_runScript 0 [some (.ref 0), none, none, none, none] [] S r S2 := by
  refine gm_aload_n dX10_runScript_0 rfl ?_
  refine gm_getR (own := RX10) (q := 117) rfl dX10_runScript_1 lfX10_22 sC_0 rfl ?_
  refine gm_callV (r1 := (some (.int r1))) (own := RX10) rfl dX10_runScript_4 llX10_247 mvX6_parse sC_117 rfl [] [] rfl rfl (Nat.le_of_ble_eq_true rfl) (by decide) rfl h2 rfl ?_
  refine gm_istore_n (L' := [some (.ref 0), some (.int r1), none, none, none]) dX10_runScript_7 (by decide) rfl ?_
  refine gm_aload_n dX10_runScript_8 rfl ?_
  refine gm_getR (own := RX10) (q := 117) rfl dX10_runScript_9 lfX10_22 sC_0 rfl ?_
  refine gm_iconst (v := 0) dX10_runScript_12 (by decide) ?_
  refine gm_put (own := RX10) rfl dX10_runScript_13 lfX10_237 sC_117 rfl (gm_fit_int _) ?_
  refine gm_iload_n dX10_runScript_16 rfl ?_
  refine gm_if_ne_t (tgt := 32) dX10_runScript_17 (by decide) c3 ?_
  refine gm_iconst (v := 0) dX10_runScript_32 (by decide) ?_
  refine gm_istore_n (L' := [some (.ref 0), some (.int r1), some (.int 0), none, none]) dX10_runScript_33 (by decide) rfl ?_
  exact K
/-- X10_runScript 34 [42f 48f 70=100 187f] -> ret  -/
theorem PX10_runScript_3 {x1 : Int32} {x2 : Int32} {S : gm_Mem} {j3 : Nat} {T1 : gm_Mem} {r5 : Int32} {r7 : Int32} (c1 : x2 < (S 117 5)) (c2 : x2 < 40) (ij3 : gm_ix x2 j3 40) (c4 : (S 119 j3) = 100) (h6 : gm_run gC 6 YX10_deliver 0 [some (.ref 0), some (.int (S 121 j3)), none, none, none] [] S (some (.int r5)) T1) (h8 : gm_run gC 0 YX10_isError 0 [some (.int r5)] [] T1 (some (.int r7)) T1) (c9 : ¬ r7 = 0) : gm_run gC 7 YX10_runScript 34 [some (.ref 0), some (.int x1), some (.int x2), none, none] [] S (some (.int x2)) T1 := by
  refine gm_iload_n dX10_runScript_34 rfl ?_
  refine gm_aload_n dX10_runScript_35 rfl ?_
  refine gm_getR (own := RX10) (q := 117) rfl dX10_runScript_36 lfX10_22 sC_0 rfl ?_
  refine gm_getI (own := RX10) (x := (S 117 5)) rfl dX10_runScript_39 lfX10_253 sC_117 rfl rfl ?_
  refine gm_icmp_ge_f dX10_runScript_42 ⟨198, by decide⟩ c1 ?_
  refine gm_iload_n dX10_runScript_45 rfl ?_
  refine gm_bipush (v := 40) dX10_runScript_46 (by decide) ?_
  refine gm_icmp_ge_f dX10_runScript_48 ⟨198, by decide⟩ c2 ?_
  refine gm_aload_n dX10_runScript_51 rfl ?_
  refine gm_getR (own := RX10) (q := 117) rfl dX10_runScript_52 lfX10_22 sC_0 rfl ?_
  refine gm_getR (own := RX10) (q := 121) rfl dX10_runScript_55 lfX10_256 sC_117 rfl ?_
  refine gm_iload_n dX10_runScript_58 rfl ?_
  refine gm_iald (j := j3) (x := (S 121 j3)) dX10_runScript_59 sC_121 ij3 rfl ?_
  refine gm_istore_n (L' := [some (.ref 0), some (.int x1), some (.int x2), some (.int (S 121 j3)), none]) dX10_runScript_60 (by decide) rfl ?_
  refine gm_aload_n dX10_runScript_61 rfl ?_
  refine gm_getR (own := RX10) (q := 117) rfl dX10_runScript_62 lfX10_22 sC_0 rfl ?_
  refine gm_getR (own := RX10) (q := 119) rfl dX10_runScript_65 lfX10_259 sC_117 rfl ?_
  refine gm_iload_n dX10_runScript_68 rfl ?_
  refine gm_iald (j := j3) (x := (S 119 j3)) dX10_runScript_69 sC_119 ij3 rfl ?_
  refine gm_lookEq (v := 100) (off := 42) (tgt := 112) dX10_runScript_70 (by decide) c4 (by decide) (by decide) ?_
  refine gm_aload_n dX10_runScript_112 rfl ?_
  refine gm_iload_n dX10_runScript_113 rfl ?_
  refine gm_callV (r1 := (some (.int r5))) (own := RX10) rfl dX10_runScript_114 llX10_262 mvX10_deliver sC_0 rfl [.int (S 121 j3)] [] rfl rfl (Nat.le_of_ble_eq_true rfl) (by decide) rfl h6 rfl ?_
  refine gm_istore (L' := [some (.ref 0), some (.int x1), some (.int x2), some (.int (S 121 j3)), some (.int r5)]) dX10_runScript_117 (by decide) rfl ?_
  refine gm_goto (tgt := 182) dX10_runScript_119 (by decide) ?_
  refine gm_iload dX10_runScript_182 rfl ?_
  refine gm_callS (r1 := (some (.int r7))) (own := RX10) rfl dX10_runScript_184 llX10_280 msX10_isError [.int r5] [] rfl rfl (Nat.le_of_ble_eq_true rfl) (by decide) rfl h8 rfl ?_
  refine gm_if_eq_f dX10_runScript_187 ⟨192, by decide⟩ c9 ?_
  refine gm_iload_n dX10_runScript_190 rfl ?_
  exact gm_iret dX10_runScript_191 rfl
/-- X10_runScript 34 [42f 48f 70=100 187t] -> cut 34 -/
theorem PX10_runScript_4 {x1 : Int32} {x2 : Int32} {S : gm_Mem} {j3 : Nat} {T1 : gm_Mem} {r5 : Int32} {r7 : Int32} {r : Option Value} {S2 : gm_Mem} (c1 : x2 < (S 117 5)) (c2 : x2 < 40) (ij3 : gm_ix x2 j3 40) (c4 : (S 119 j3) = 100) (h6 : gm_run gC 6 YX10_deliver 0 [some (.ref 0), some (.int (S 121 j3)), none, none, none] [] S (some (.int r5)) T1) (h8 : gm_run gC 0 YX10_isError 0 [some (.int r5)] [] T1 (some (.int r7)) T1) (c9 : r7 = 0) (K : gm_run gC 7 YX10_runScript 34 [some (.ref 0), some (.int x1), some (.int (x2 + 1)), none, none] [] T1 r S2) : gm_run gC 7 YX10_runScript 34 [some (.ref 0), some (.int x1), some (.int x2), none, none] [] S r S2 := by
  refine gm_iload_n dX10_runScript_34 rfl ?_
  refine gm_aload_n dX10_runScript_35 rfl ?_
  refine gm_getR (own := RX10) (q := 117) rfl dX10_runScript_36 lfX10_22 sC_0 rfl ?_
  refine gm_getI (own := RX10) (x := (S 117 5)) rfl dX10_runScript_39 lfX10_253 sC_117 rfl rfl ?_
  refine gm_icmp_ge_f dX10_runScript_42 ⟨198, by decide⟩ c1 ?_
  refine gm_iload_n dX10_runScript_45 rfl ?_
  refine gm_bipush (v := 40) dX10_runScript_46 (by decide) ?_
  refine gm_icmp_ge_f dX10_runScript_48 ⟨198, by decide⟩ c2 ?_
  refine gm_aload_n dX10_runScript_51 rfl ?_
  refine gm_getR (own := RX10) (q := 117) rfl dX10_runScript_52 lfX10_22 sC_0 rfl ?_
  refine gm_getR (own := RX10) (q := 121) rfl dX10_runScript_55 lfX10_256 sC_117 rfl ?_
  refine gm_iload_n dX10_runScript_58 rfl ?_
  refine gm_iald (j := j3) (x := (S 121 j3)) dX10_runScript_59 sC_121 ij3 rfl ?_
  refine gm_istore_n (L' := [some (.ref 0), some (.int x1), some (.int x2), some (.int (S 121 j3)), none]) dX10_runScript_60 (by decide) rfl ?_
  refine gm_aload_n dX10_runScript_61 rfl ?_
  refine gm_getR (own := RX10) (q := 117) rfl dX10_runScript_62 lfX10_22 sC_0 rfl ?_
  refine gm_getR (own := RX10) (q := 119) rfl dX10_runScript_65 lfX10_259 sC_117 rfl ?_
  refine gm_iload_n dX10_runScript_68 rfl ?_
  refine gm_iald (j := j3) (x := (S 119 j3)) dX10_runScript_69 sC_119 ij3 rfl ?_
  refine gm_lookEq (v := 100) (off := 42) (tgt := 112) dX10_runScript_70 (by decide) c4 (by decide) (by decide) ?_
  refine gm_aload_n dX10_runScript_112 rfl ?_
  refine gm_iload_n dX10_runScript_113 rfl ?_
  refine gm_callV (r1 := (some (.int r5))) (own := RX10) rfl dX10_runScript_114 llX10_262 mvX10_deliver sC_0 rfl [.int (S 121 j3)] [] rfl rfl (Nat.le_of_ble_eq_true rfl) (by decide) rfl h6 rfl ?_
  refine gm_istore (L' := [some (.ref 0), some (.int x1), some (.int x2), some (.int (S 121 j3)), some (.int r5)]) dX10_runScript_117 (by decide) rfl ?_
  refine gm_goto (tgt := 182) dX10_runScript_119 (by decide) ?_
  refine gm_iload dX10_runScript_182 rfl ?_
  refine gm_callS (r1 := (some (.int r7))) (own := RX10) rfl dX10_runScript_184 llX10_280 msX10_isError [.int r5] [] rfl rfl (Nat.le_of_ble_eq_true rfl) (by decide) rfl h8 rfl ?_
  refine gm_if_eq_t (tgt := 192) dX10_runScript_187 (by decide) c9 ?_
  refine gm_iinc (L' := [some (.ref 0), some (.int x1), some (.int (x2 + 1)), some (.int (S 121 j3)), some (.int r5)]) (v := (x2 + 1)) dX10_runScript_192 rfl rfl (by decide) rfl ?_
  refine gm_goto (tgt := 34) dX10_runScript_195 (by decide) ?_
  refine gm_forget (L2 := [some (.ref 0), some (.int x1), some (.int (x2 + 1)), none, none]) (by simp [gm_sub]) ?_
  exact K
/-- X10_runScript 34 [42f 48f 70=115 187f] -> ret  -/
theorem PX10_runScript_5 {x1 : Int32} {x2 : Int32} {S : gm_Mem} {j3 : Nat} {T1 : gm_Mem} {r5 : Int32} {r7 : Int32} (c1 : x2 < (S 117 5)) (c2 : x2 < 40) (ij3 : gm_ix x2 j3 40) (c4 : (S 119 j3) = 115) (h6 : gm_run gC 5 YX10_send 0 [some (.ref 0), some (.int (S 120 j3)), some (.int (S 121 j3))] [] S (some (.int r5)) T1) (h8 : gm_run gC 0 YX10_isError 0 [some (.int r5)] [] T1 (some (.int r7)) T1) (c9 : ¬ r7 = 0) : gm_run gC 7 YX10_runScript 34 [some (.ref 0), some (.int x1), some (.int x2), none, none] [] S (some (.int x2)) T1 := by
  refine gm_iload_n dX10_runScript_34 rfl ?_
  refine gm_aload_n dX10_runScript_35 rfl ?_
  refine gm_getR (own := RX10) (q := 117) rfl dX10_runScript_36 lfX10_22 sC_0 rfl ?_
  refine gm_getI (own := RX10) (x := (S 117 5)) rfl dX10_runScript_39 lfX10_253 sC_117 rfl rfl ?_
  refine gm_icmp_ge_f dX10_runScript_42 ⟨198, by decide⟩ c1 ?_
  refine gm_iload_n dX10_runScript_45 rfl ?_
  refine gm_bipush (v := 40) dX10_runScript_46 (by decide) ?_
  refine gm_icmp_ge_f dX10_runScript_48 ⟨198, by decide⟩ c2 ?_
  refine gm_aload_n dX10_runScript_51 rfl ?_
  refine gm_getR (own := RX10) (q := 117) rfl dX10_runScript_52 lfX10_22 sC_0 rfl ?_
  refine gm_getR (own := RX10) (q := 121) rfl dX10_runScript_55 lfX10_256 sC_117 rfl ?_
  refine gm_iload_n dX10_runScript_58 rfl ?_
  refine gm_iald (j := j3) (x := (S 121 j3)) dX10_runScript_59 sC_121 ij3 rfl ?_
  refine gm_istore_n (L' := [some (.ref 0), some (.int x1), some (.int x2), some (.int (S 121 j3)), none]) dX10_runScript_60 (by decide) rfl ?_
  refine gm_aload_n dX10_runScript_61 rfl ?_
  refine gm_getR (own := RX10) (q := 117) rfl dX10_runScript_62 lfX10_22 sC_0 rfl ?_
  refine gm_getR (own := RX10) (q := 119) rfl dX10_runScript_65 lfX10_259 sC_117 rfl ?_
  refine gm_iload_n dX10_runScript_68 rfl ?_
  refine gm_iald (j := j3) (x := (S 119 j3)) dX10_runScript_69 sC_119 ij3 rfl ?_
  refine gm_lookEq (v := 115) (off := 72) (tgt := 142) dX10_runScript_70 (by decide) c4 (by decide) (by decide) ?_
  refine gm_aload_n dX10_runScript_142 rfl ?_
  refine gm_aload_n dX10_runScript_143 rfl ?_
  refine gm_getR (own := RX10) (q := 117) rfl dX10_runScript_144 lfX10_22 sC_0 rfl ?_
  refine gm_getR (own := RX10) (q := 120) rfl dX10_runScript_147 lfX10_271 sC_117 rfl ?_
  refine gm_iload_n dX10_runScript_150 rfl ?_
  refine gm_iald (j := j3) (x := (S 120 j3)) dX10_runScript_151 sC_120 ij3 rfl ?_
  refine gm_iload_n dX10_runScript_152 rfl ?_
  refine gm_callV (r1 := (some (.int r5))) (own := RX10) rfl dX10_runScript_153 llX10_274 mvX10_send sC_0 rfl [.int (S 120 j3), .int (S 121 j3)] [] rfl rfl (Nat.le_of_ble_eq_true rfl) (by decide) rfl h6 rfl ?_
  refine gm_istore (L' := [some (.ref 0), some (.int x1), some (.int x2), some (.int (S 121 j3)), some (.int r5)]) dX10_runScript_156 (by decide) rfl ?_
  refine gm_goto (tgt := 182) dX10_runScript_158 (by decide) ?_
  refine gm_iload dX10_runScript_182 rfl ?_
  refine gm_callS (r1 := (some (.int r7))) (own := RX10) rfl dX10_runScript_184 llX10_280 msX10_isError [.int r5] [] rfl rfl (Nat.le_of_ble_eq_true rfl) (by decide) rfl h8 rfl ?_
  refine gm_if_eq_f dX10_runScript_187 ⟨192, by decide⟩ c9 ?_
  refine gm_iload_n dX10_runScript_190 rfl ?_
  exact gm_iret dX10_runScript_191 rfl
/-- X10_runScript 34 [42f 48f 70=115 187t] -> cut 34 -/
theorem PX10_runScript_6 {x1 : Int32} {x2 : Int32} {S : gm_Mem} {j3 : Nat} {T1 : gm_Mem} {r5 : Int32} {r7 : Int32} {r : Option Value} {S2 : gm_Mem} (c1 : x2 < (S 117 5)) (c2 : x2 < 40) (ij3 : gm_ix x2 j3 40) (c4 : (S 119 j3) = 115) (h6 : gm_run gC 5 YX10_send 0 [some (.ref 0), some (.int (S 120 j3)), some (.int (S 121 j3))] [] S (some (.int r5)) T1) (h8 : gm_run gC 0 YX10_isError 0 [some (.int r5)] [] T1 (some (.int r7)) T1) (c9 : r7 = 0) (K : gm_run gC 7 YX10_runScript 34 [some (.ref 0), some (.int x1), some (.int (x2 + 1)), none, none] [] T1 r S2) : gm_run gC 7 YX10_runScript 34 [some (.ref 0), some (.int x1), some (.int x2), none, none] [] S r S2 := by
  refine gm_iload_n dX10_runScript_34 rfl ?_
  refine gm_aload_n dX10_runScript_35 rfl ?_
  refine gm_getR (own := RX10) (q := 117) rfl dX10_runScript_36 lfX10_22 sC_0 rfl ?_
  refine gm_getI (own := RX10) (x := (S 117 5)) rfl dX10_runScript_39 lfX10_253 sC_117 rfl rfl ?_
  refine gm_icmp_ge_f dX10_runScript_42 ⟨198, by decide⟩ c1 ?_
  refine gm_iload_n dX10_runScript_45 rfl ?_
  refine gm_bipush (v := 40) dX10_runScript_46 (by decide) ?_
  refine gm_icmp_ge_f dX10_runScript_48 ⟨198, by decide⟩ c2 ?_
  refine gm_aload_n dX10_runScript_51 rfl ?_
  refine gm_getR (own := RX10) (q := 117) rfl dX10_runScript_52 lfX10_22 sC_0 rfl ?_
  refine gm_getR (own := RX10) (q := 121) rfl dX10_runScript_55 lfX10_256 sC_117 rfl ?_
  refine gm_iload_n dX10_runScript_58 rfl ?_
  refine gm_iald (j := j3) (x := (S 121 j3)) dX10_runScript_59 sC_121 ij3 rfl ?_
  refine gm_istore_n (L' := [some (.ref 0), some (.int x1), some (.int x2), some (.int (S 121 j3)), none]) dX10_runScript_60 (by decide) rfl ?_
  refine gm_aload_n dX10_runScript_61 rfl ?_
  refine gm_getR (own := RX10) (q := 117) rfl dX10_runScript_62 lfX10_22 sC_0 rfl ?_
  refine gm_getR (own := RX10) (q := 119) rfl dX10_runScript_65 lfX10_259 sC_117 rfl ?_
  refine gm_iload_n dX10_runScript_68 rfl ?_
  refine gm_iald (j := j3) (x := (S 119 j3)) dX10_runScript_69 sC_119 ij3 rfl ?_
  refine gm_lookEq (v := 115) (off := 72) (tgt := 142) dX10_runScript_70 (by decide) c4 (by decide) (by decide) ?_
  refine gm_aload_n dX10_runScript_142 rfl ?_
  refine gm_aload_n dX10_runScript_143 rfl ?_
  refine gm_getR (own := RX10) (q := 117) rfl dX10_runScript_144 lfX10_22 sC_0 rfl ?_
  refine gm_getR (own := RX10) (q := 120) rfl dX10_runScript_147 lfX10_271 sC_117 rfl ?_
  refine gm_iload_n dX10_runScript_150 rfl ?_
  refine gm_iald (j := j3) (x := (S 120 j3)) dX10_runScript_151 sC_120 ij3 rfl ?_
  refine gm_iload_n dX10_runScript_152 rfl ?_
  refine gm_callV (r1 := (some (.int r5))) (own := RX10) rfl dX10_runScript_153 llX10_274 mvX10_send sC_0 rfl [.int (S 120 j3), .int (S 121 j3)] [] rfl rfl (Nat.le_of_ble_eq_true rfl) (by decide) rfl h6 rfl ?_
  refine gm_istore (L' := [some (.ref 0), some (.int x1), some (.int x2), some (.int (S 121 j3)), some (.int r5)]) dX10_runScript_156 (by decide) rfl ?_
  refine gm_goto (tgt := 182) dX10_runScript_158 (by decide) ?_
  refine gm_iload dX10_runScript_182 rfl ?_
  refine gm_callS (r1 := (some (.int r7))) (own := RX10) rfl dX10_runScript_184 llX10_280 msX10_isError [.int r5] [] rfl rfl (Nat.le_of_ble_eq_true rfl) (by decide) rfl h8 rfl ?_
  refine gm_if_eq_t (tgt := 192) dX10_runScript_187 (by decide) c9 ?_
  refine gm_iinc (L' := [some (.ref 0), some (.int x1), some (.int (x2 + 1)), some (.int (S 121 j3)), some (.int r5)]) (v := (x2 + 1)) dX10_runScript_192 rfl rfl (by decide) rfl ?_
  refine gm_goto (tgt := 34) dX10_runScript_195 (by decide) ?_
  refine gm_forget (L2 := [some (.ref 0), some (.int x1), some (.int (x2 + 1)), none, none]) (by simp [gm_sub]) ?_
  exact K
/-- X10_runScript 34 [42f 48f 70=117 187f] -> ret  -/
theorem PX10_runScript_7 {x1 : Int32} {x2 : Int32} {S : gm_Mem} {j3 : Nat} {T1 : gm_Mem} {r5 : Int32} {r7 : Int32} (c1 : x2 < (S 117 5)) (c2 : x2 < 40) (ij3 : gm_ix x2 j3 40) (c4 : (S 119 j3) = 117) (h6 : gm_run gC 1 YX10_repeat 0 [some (.ref 0), some (.int (S 121 j3)), none, none] [] S (some (.int r5)) T1) (h8 : gm_run gC 0 YX10_isError 0 [some (.int r5)] [] T1 (some (.int r7)) T1) (c9 : ¬ r7 = 0) : gm_run gC 7 YX10_runScript 34 [some (.ref 0), some (.int x1), some (.int x2), none, none] [] S (some (.int x2)) T1 := by
  refine gm_iload_n dX10_runScript_34 rfl ?_
  refine gm_aload_n dX10_runScript_35 rfl ?_
  refine gm_getR (own := RX10) (q := 117) rfl dX10_runScript_36 lfX10_22 sC_0 rfl ?_
  refine gm_getI (own := RX10) (x := (S 117 5)) rfl dX10_runScript_39 lfX10_253 sC_117 rfl rfl ?_
  refine gm_icmp_ge_f dX10_runScript_42 ⟨198, by decide⟩ c1 ?_
  refine gm_iload_n dX10_runScript_45 rfl ?_
  refine gm_bipush (v := 40) dX10_runScript_46 (by decide) ?_
  refine gm_icmp_ge_f dX10_runScript_48 ⟨198, by decide⟩ c2 ?_
  refine gm_aload_n dX10_runScript_51 rfl ?_
  refine gm_getR (own := RX10) (q := 117) rfl dX10_runScript_52 lfX10_22 sC_0 rfl ?_
  refine gm_getR (own := RX10) (q := 121) rfl dX10_runScript_55 lfX10_256 sC_117 rfl ?_
  refine gm_iload_n dX10_runScript_58 rfl ?_
  refine gm_iald (j := j3) (x := (S 121 j3)) dX10_runScript_59 sC_121 ij3 rfl ?_
  refine gm_istore_n (L' := [some (.ref 0), some (.int x1), some (.int x2), some (.int (S 121 j3)), none]) dX10_runScript_60 (by decide) rfl ?_
  refine gm_aload_n dX10_runScript_61 rfl ?_
  refine gm_getR (own := RX10) (q := 117) rfl dX10_runScript_62 lfX10_22 sC_0 rfl ?_
  refine gm_getR (own := RX10) (q := 119) rfl dX10_runScript_65 lfX10_259 sC_117 rfl ?_
  refine gm_iload_n dX10_runScript_68 rfl ?_
  refine gm_iald (j := j3) (x := (S 119 j3)) dX10_runScript_69 sC_119 ij3 rfl ?_
  refine gm_lookEq (v := 117) (off := 62) (tgt := 132) dX10_runScript_70 (by decide) c4 (by decide) (by decide) ?_
  refine gm_aload_n dX10_runScript_132 rfl ?_
  refine gm_iload_n dX10_runScript_133 rfl ?_
  refine gm_callV (r1 := (some (.int r5))) (own := RX10) rfl dX10_runScript_134 llX10_268 mvX10_repeat sC_0 rfl [.int (S 121 j3)] [] rfl rfl (Nat.le_of_ble_eq_true rfl) (by decide) rfl h6 rfl ?_
  refine gm_istore (L' := [some (.ref 0), some (.int x1), some (.int x2), some (.int (S 121 j3)), some (.int r5)]) dX10_runScript_137 (by decide) rfl ?_
  refine gm_goto (tgt := 182) dX10_runScript_139 (by decide) ?_
  refine gm_iload dX10_runScript_182 rfl ?_
  refine gm_callS (r1 := (some (.int r7))) (own := RX10) rfl dX10_runScript_184 llX10_280 msX10_isError [.int r5] [] rfl rfl (Nat.le_of_ble_eq_true rfl) (by decide) rfl h8 rfl ?_
  refine gm_if_eq_f dX10_runScript_187 ⟨192, by decide⟩ c9 ?_
  refine gm_iload_n dX10_runScript_190 rfl ?_
  exact gm_iret dX10_runScript_191 rfl
/-- X10_runScript 34 [42f 48f 70=117 187t] -> cut 34 -/
theorem PX10_runScript_8 {x1 : Int32} {x2 : Int32} {S : gm_Mem} {j3 : Nat} {T1 : gm_Mem} {r5 : Int32} {r7 : Int32} {r : Option Value} {S2 : gm_Mem} (c1 : x2 < (S 117 5)) (c2 : x2 < 40) (ij3 : gm_ix x2 j3 40) (c4 : (S 119 j3) = 117) (h6 : gm_run gC 1 YX10_repeat 0 [some (.ref 0), some (.int (S 121 j3)), none, none] [] S (some (.int r5)) T1) (h8 : gm_run gC 0 YX10_isError 0 [some (.int r5)] [] T1 (some (.int r7)) T1) (c9 : r7 = 0) (K : gm_run gC 7 YX10_runScript 34 [some (.ref 0), some (.int x1), some (.int (x2 + 1)), none, none] [] T1 r S2) : gm_run gC 7 YX10_runScript 34 [some (.ref 0), some (.int x1), some (.int x2), none, none] [] S r S2 := by
  refine gm_iload_n dX10_runScript_34 rfl ?_
  refine gm_aload_n dX10_runScript_35 rfl ?_
  refine gm_getR (own := RX10) (q := 117) rfl dX10_runScript_36 lfX10_22 sC_0 rfl ?_
  refine gm_getI (own := RX10) (x := (S 117 5)) rfl dX10_runScript_39 lfX10_253 sC_117 rfl rfl ?_
  refine gm_icmp_ge_f dX10_runScript_42 ⟨198, by decide⟩ c1 ?_
  refine gm_iload_n dX10_runScript_45 rfl ?_
  refine gm_bipush (v := 40) dX10_runScript_46 (by decide) ?_
  refine gm_icmp_ge_f dX10_runScript_48 ⟨198, by decide⟩ c2 ?_
  refine gm_aload_n dX10_runScript_51 rfl ?_
  refine gm_getR (own := RX10) (q := 117) rfl dX10_runScript_52 lfX10_22 sC_0 rfl ?_
  refine gm_getR (own := RX10) (q := 121) rfl dX10_runScript_55 lfX10_256 sC_117 rfl ?_
  refine gm_iload_n dX10_runScript_58 rfl ?_
  refine gm_iald (j := j3) (x := (S 121 j3)) dX10_runScript_59 sC_121 ij3 rfl ?_
  refine gm_istore_n (L' := [some (.ref 0), some (.int x1), some (.int x2), some (.int (S 121 j3)), none]) dX10_runScript_60 (by decide) rfl ?_
  refine gm_aload_n dX10_runScript_61 rfl ?_
  refine gm_getR (own := RX10) (q := 117) rfl dX10_runScript_62 lfX10_22 sC_0 rfl ?_
  refine gm_getR (own := RX10) (q := 119) rfl dX10_runScript_65 lfX10_259 sC_117 rfl ?_
  refine gm_iload_n dX10_runScript_68 rfl ?_
  refine gm_iald (j := j3) (x := (S 119 j3)) dX10_runScript_69 sC_119 ij3 rfl ?_
  refine gm_lookEq (v := 117) (off := 62) (tgt := 132) dX10_runScript_70 (by decide) c4 (by decide) (by decide) ?_
  refine gm_aload_n dX10_runScript_132 rfl ?_
  refine gm_iload_n dX10_runScript_133 rfl ?_
  refine gm_callV (r1 := (some (.int r5))) (own := RX10) rfl dX10_runScript_134 llX10_268 mvX10_repeat sC_0 rfl [.int (S 121 j3)] [] rfl rfl (Nat.le_of_ble_eq_true rfl) (by decide) rfl h6 rfl ?_
  refine gm_istore (L' := [some (.ref 0), some (.int x1), some (.int x2), some (.int (S 121 j3)), some (.int r5)]) dX10_runScript_137 (by decide) rfl ?_
  refine gm_goto (tgt := 182) dX10_runScript_139 (by decide) ?_
  refine gm_iload dX10_runScript_182 rfl ?_
  refine gm_callS (r1 := (some (.int r7))) (own := RX10) rfl dX10_runScript_184 llX10_280 msX10_isError [.int r5] [] rfl rfl (Nat.le_of_ble_eq_true rfl) (by decide) rfl h8 rfl ?_
  refine gm_if_eq_t (tgt := 192) dX10_runScript_187 (by decide) c9 ?_
  refine gm_iinc (L' := [some (.ref 0), some (.int x1), some (.int (x2 + 1)), some (.int (S 121 j3)), some (.int r5)]) (v := (x2 + 1)) dX10_runScript_192 rfl rfl (by decide) rfl ?_
  refine gm_goto (tgt := 34) dX10_runScript_195 (by decide) ?_
  refine gm_forget (L2 := [some (.ref 0), some (.int x1), some (.int (x2 + 1)), none, none]) (by simp [gm_sub]) ?_
  exact K
/-- X10_runScript 34 [42f 48f 70=120 187f] -> ret  -/
theorem PX10_runScript_9 {x1 : Int32} {x2 : Int32} {S : gm_Mem} {j3 : Nat} {T1 : gm_Mem} {r5 : Int32} {r7 : Int32} (c1 : x2 < (S 117 5)) (c2 : x2 < 40) (ij3 : gm_ix x2 j3 40) (c4 : (S 119 j3) = 120) (h6 : gm_run gC 1 YX10_drop 0 [some (.ref 0), some (.int (S 121 j3)), none] [] S (some (.int r5)) T1) (h8 : gm_run gC 0 YX10_isError 0 [some (.int r5)] [] T1 (some (.int r7)) T1) (c9 : ¬ r7 = 0) : gm_run gC 7 YX10_runScript 34 [some (.ref 0), some (.int x1), some (.int x2), none, none] [] S (some (.int x2)) T1 := by
  refine gm_iload_n dX10_runScript_34 rfl ?_
  refine gm_aload_n dX10_runScript_35 rfl ?_
  refine gm_getR (own := RX10) (q := 117) rfl dX10_runScript_36 lfX10_22 sC_0 rfl ?_
  refine gm_getI (own := RX10) (x := (S 117 5)) rfl dX10_runScript_39 lfX10_253 sC_117 rfl rfl ?_
  refine gm_icmp_ge_f dX10_runScript_42 ⟨198, by decide⟩ c1 ?_
  refine gm_iload_n dX10_runScript_45 rfl ?_
  refine gm_bipush (v := 40) dX10_runScript_46 (by decide) ?_
  refine gm_icmp_ge_f dX10_runScript_48 ⟨198, by decide⟩ c2 ?_
  refine gm_aload_n dX10_runScript_51 rfl ?_
  refine gm_getR (own := RX10) (q := 117) rfl dX10_runScript_52 lfX10_22 sC_0 rfl ?_
  refine gm_getR (own := RX10) (q := 121) rfl dX10_runScript_55 lfX10_256 sC_117 rfl ?_
  refine gm_iload_n dX10_runScript_58 rfl ?_
  refine gm_iald (j := j3) (x := (S 121 j3)) dX10_runScript_59 sC_121 ij3 rfl ?_
  refine gm_istore_n (L' := [some (.ref 0), some (.int x1), some (.int x2), some (.int (S 121 j3)), none]) dX10_runScript_60 (by decide) rfl ?_
  refine gm_aload_n dX10_runScript_61 rfl ?_
  refine gm_getR (own := RX10) (q := 117) rfl dX10_runScript_62 lfX10_22 sC_0 rfl ?_
  refine gm_getR (own := RX10) (q := 119) rfl dX10_runScript_65 lfX10_259 sC_117 rfl ?_
  refine gm_iload_n dX10_runScript_68 rfl ?_
  refine gm_iald (j := j3) (x := (S 119 j3)) dX10_runScript_69 sC_119 ij3 rfl ?_
  refine gm_lookEq (v := 120) (off := 52) (tgt := 122) dX10_runScript_70 (by decide) c4 (by decide) (by decide) ?_
  refine gm_aload_n dX10_runScript_122 rfl ?_
  refine gm_iload_n dX10_runScript_123 rfl ?_
  refine gm_callV (r1 := (some (.int r5))) (own := RX10) rfl dX10_runScript_124 llX10_265 mvX10_drop sC_0 rfl [.int (S 121 j3)] [] rfl rfl (Nat.le_of_ble_eq_true rfl) (by decide) rfl h6 rfl ?_
  refine gm_istore (L' := [some (.ref 0), some (.int x1), some (.int x2), some (.int (S 121 j3)), some (.int r5)]) dX10_runScript_127 (by decide) rfl ?_
  refine gm_goto (tgt := 182) dX10_runScript_129 (by decide) ?_
  refine gm_iload dX10_runScript_182 rfl ?_
  refine gm_callS (r1 := (some (.int r7))) (own := RX10) rfl dX10_runScript_184 llX10_280 msX10_isError [.int r5] [] rfl rfl (Nat.le_of_ble_eq_true rfl) (by decide) rfl h8 rfl ?_
  refine gm_if_eq_f dX10_runScript_187 ⟨192, by decide⟩ c9 ?_
  refine gm_iload_n dX10_runScript_190 rfl ?_
  exact gm_iret dX10_runScript_191 rfl
/-- X10_runScript 34 [42f 48f 70=120 187t] -> cut 34 -/
theorem PX10_runScript_10 {x1 : Int32} {x2 : Int32} {S : gm_Mem} {j3 : Nat} {T1 : gm_Mem} {r5 : Int32} {r7 : Int32} {r : Option Value} {S2 : gm_Mem} (c1 : x2 < (S 117 5)) (c2 : x2 < 40) (ij3 : gm_ix x2 j3 40) (c4 : (S 119 j3) = 120) (h6 : gm_run gC 1 YX10_drop 0 [some (.ref 0), some (.int (S 121 j3)), none] [] S (some (.int r5)) T1) (h8 : gm_run gC 0 YX10_isError 0 [some (.int r5)] [] T1 (some (.int r7)) T1) (c9 : r7 = 0) (K : gm_run gC 7 YX10_runScript 34 [some (.ref 0), some (.int x1), some (.int (x2 + 1)), none, none] [] T1 r S2) : gm_run gC 7 YX10_runScript 34 [some (.ref 0), some (.int x1), some (.int x2), none, none] [] S r S2 := by
  refine gm_iload_n dX10_runScript_34 rfl ?_
  refine gm_aload_n dX10_runScript_35 rfl ?_
  refine gm_getR (own := RX10) (q := 117) rfl dX10_runScript_36 lfX10_22 sC_0 rfl ?_
  refine gm_getI (own := RX10) (x := (S 117 5)) rfl dX10_runScript_39 lfX10_253 sC_117 rfl rfl ?_
  refine gm_icmp_ge_f dX10_runScript_42 ⟨198, by decide⟩ c1 ?_
  refine gm_iload_n dX10_runScript_45 rfl ?_
  refine gm_bipush (v := 40) dX10_runScript_46 (by decide) ?_
  refine gm_icmp_ge_f dX10_runScript_48 ⟨198, by decide⟩ c2 ?_
  refine gm_aload_n dX10_runScript_51 rfl ?_
  refine gm_getR (own := RX10) (q := 117) rfl dX10_runScript_52 lfX10_22 sC_0 rfl ?_
  refine gm_getR (own := RX10) (q := 121) rfl dX10_runScript_55 lfX10_256 sC_117 rfl ?_
  refine gm_iload_n dX10_runScript_58 rfl ?_
  refine gm_iald (j := j3) (x := (S 121 j3)) dX10_runScript_59 sC_121 ij3 rfl ?_
  refine gm_istore_n (L' := [some (.ref 0), some (.int x1), some (.int x2), some (.int (S 121 j3)), none]) dX10_runScript_60 (by decide) rfl ?_
  refine gm_aload_n dX10_runScript_61 rfl ?_
  refine gm_getR (own := RX10) (q := 117) rfl dX10_runScript_62 lfX10_22 sC_0 rfl ?_
  refine gm_getR (own := RX10) (q := 119) rfl dX10_runScript_65 lfX10_259 sC_117 rfl ?_
  refine gm_iload_n dX10_runScript_68 rfl ?_
  refine gm_iald (j := j3) (x := (S 119 j3)) dX10_runScript_69 sC_119 ij3 rfl ?_
  refine gm_lookEq (v := 120) (off := 52) (tgt := 122) dX10_runScript_70 (by decide) c4 (by decide) (by decide) ?_
  refine gm_aload_n dX10_runScript_122 rfl ?_
  refine gm_iload_n dX10_runScript_123 rfl ?_
  refine gm_callV (r1 := (some (.int r5))) (own := RX10) rfl dX10_runScript_124 llX10_265 mvX10_drop sC_0 rfl [.int (S 121 j3)] [] rfl rfl (Nat.le_of_ble_eq_true rfl) (by decide) rfl h6 rfl ?_
  refine gm_istore (L' := [some (.ref 0), some (.int x1), some (.int x2), some (.int (S 121 j3)), some (.int r5)]) dX10_runScript_127 (by decide) rfl ?_
  refine gm_goto (tgt := 182) dX10_runScript_129 (by decide) ?_
  refine gm_iload dX10_runScript_182 rfl ?_
  refine gm_callS (r1 := (some (.int r7))) (own := RX10) rfl dX10_runScript_184 llX10_280 msX10_isError [.int r5] [] rfl rfl (Nat.le_of_ble_eq_true rfl) (by decide) rfl h8 rfl ?_
  refine gm_if_eq_t (tgt := 192) dX10_runScript_187 (by decide) c9 ?_
  refine gm_iinc (L' := [some (.ref 0), some (.int x1), some (.int (x2 + 1)), some (.int (S 121 j3)), some (.int r5)]) (v := (x2 + 1)) dX10_runScript_192 rfl rfl (by decide) rfl ?_
  refine gm_goto (tgt := 34) dX10_runScript_195 (by decide) ?_
  refine gm_forget (L2 := [some (.ref 0), some (.int x1), some (.int (x2 + 1)), none, none]) (by simp [gm_sub]) ?_
  exact K
/-- X10_runScript 34 [42f 48f 70out 162f 187f] -> ret  -/
theorem PX10_runScript_11 {x1 : Int32} {x2 : Int32} {S : gm_Mem} {j3 : Nat} {r6 : Int32} (c1 : x2 < (S 117 5)) (c2 : x2 < 40) (ij3 : gm_ix x2 j3 40) (c4 : Op.lookupswitch.offset [(100, 42), (115, 72), (117, 62), (120, 52)] 91 (S 119 j3).toInt = 91) (c5 : (S 121 j3) = 0) (h7 : gm_run gC 0 YX10_isError 0 [some (.int (S 1 8))] [] S (some (.int r6)) S) (c8 : ¬ r6 = 0) : gm_run gC 7 YX10_runScript 34 [some (.ref 0), some (.int x1), some (.int x2), none, none] [] S (some (.int x2)) S := by
  refine gm_iload_n dX10_runScript_34 rfl ?_
  refine gm_aload_n dX10_runScript_35 rfl ?_
  refine gm_getR (own := RX10) (q := 117) rfl dX10_runScript_36 lfX10_22 sC_0 rfl ?_
  refine gm_getI (own := RX10) (x := (S 117 5)) rfl dX10_runScript_39 lfX10_253 sC_117 rfl rfl ?_
  refine gm_icmp_ge_f dX10_runScript_42 ⟨198, by decide⟩ c1 ?_
  refine gm_iload_n dX10_runScript_45 rfl ?_
  refine gm_bipush (v := 40) dX10_runScript_46 (by decide) ?_
  refine gm_icmp_ge_f dX10_runScript_48 ⟨198, by decide⟩ c2 ?_
  refine gm_aload_n dX10_runScript_51 rfl ?_
  refine gm_getR (own := RX10) (q := 117) rfl dX10_runScript_52 lfX10_22 sC_0 rfl ?_
  refine gm_getR (own := RX10) (q := 121) rfl dX10_runScript_55 lfX10_256 sC_117 rfl ?_
  refine gm_iload_n dX10_runScript_58 rfl ?_
  refine gm_iald (j := j3) (x := (S 121 j3)) dX10_runScript_59 sC_121 ij3 rfl ?_
  refine gm_istore_n (L' := [some (.ref 0), some (.int x1), some (.int x2), some (.int (S 121 j3)), none]) dX10_runScript_60 (by decide) rfl ?_
  refine gm_aload_n dX10_runScript_61 rfl ?_
  refine gm_getR (own := RX10) (q := 117) rfl dX10_runScript_62 lfX10_22 sC_0 rfl ?_
  refine gm_getR (own := RX10) (q := 119) rfl dX10_runScript_65 lfX10_259 sC_117 rfl ?_
  refine gm_iload_n dX10_runScript_68 rfl ?_
  refine gm_iald (j := j3) (x := (S 119 j3)) dX10_runScript_69 sC_119 ij3 rfl ?_
  refine gm_look (off := 91) (tgt := 161) dX10_runScript_70 (by decide) c4 (by decide) ?_
  refine gm_iload_n dX10_runScript_161 rfl ?_
  refine gm_if_ne_f dX10_runScript_162 ⟨175, by decide⟩ c5 ?_
  refine gm_aload_n dX10_runScript_165 rfl ?_
  refine gm_getR (own := RX10) (q := 1) rfl dX10_runScript_166 lfX10_10 sC_0 rfl ?_
  refine gm_getI (own := RX10) (x := (S 1 8)) rfl dX10_runScript_169 lfX10_173 sC_1 rfl rfl ?_
  refine gm_goto (tgt := 180) dX10_runScript_172 (by decide) ?_
  refine gm_istore (L' := [some (.ref 0), some (.int x1), some (.int x2), some (.int (S 121 j3)), some (.int (S 1 8))]) dX10_runScript_180 (by decide) rfl ?_
  refine gm_iload dX10_runScript_182 rfl ?_
  refine gm_callS (r1 := (some (.int r6))) (own := RX10) rfl dX10_runScript_184 llX10_280 msX10_isError [.int (S 1 8)] [] rfl rfl (Nat.le_of_ble_eq_true rfl) (by decide) rfl h7 rfl ?_
  refine gm_if_eq_f dX10_runScript_187 ⟨192, by decide⟩ c8 ?_
  refine gm_iload_n dX10_runScript_190 rfl ?_
  exact gm_iret dX10_runScript_191 rfl
/-- X10_runScript 34 [42f 48f 70out 162f 187t] -> cut 34 -/
theorem PX10_runScript_12 {x1 : Int32} {x2 : Int32} {S : gm_Mem} {j3 : Nat} {r6 : Int32} {r : Option Value} {S2 : gm_Mem} (c1 : x2 < (S 117 5)) (c2 : x2 < 40) (ij3 : gm_ix x2 j3 40) (c4 : Op.lookupswitch.offset [(100, 42), (115, 72), (117, 62), (120, 52)] 91 (S 119 j3).toInt = 91) (c5 : (S 121 j3) = 0) (h7 : gm_run gC 0 YX10_isError 0 [some (.int (S 1 8))] [] S (some (.int r6)) S) (c8 : r6 = 0) (K : gm_run gC 7 YX10_runScript 34 [some (.ref 0), some (.int x1), some (.int (x2 + 1)), none, none] [] S r S2) : gm_run gC 7 YX10_runScript 34 [some (.ref 0), some (.int x1), some (.int x2), none, none] [] S r S2 := by
  refine gm_iload_n dX10_runScript_34 rfl ?_
  refine gm_aload_n dX10_runScript_35 rfl ?_
  refine gm_getR (own := RX10) (q := 117) rfl dX10_runScript_36 lfX10_22 sC_0 rfl ?_
  refine gm_getI (own := RX10) (x := (S 117 5)) rfl dX10_runScript_39 lfX10_253 sC_117 rfl rfl ?_
  refine gm_icmp_ge_f dX10_runScript_42 ⟨198, by decide⟩ c1 ?_
  refine gm_iload_n dX10_runScript_45 rfl ?_
  refine gm_bipush (v := 40) dX10_runScript_46 (by decide) ?_
  refine gm_icmp_ge_f dX10_runScript_48 ⟨198, by decide⟩ c2 ?_
  refine gm_aload_n dX10_runScript_51 rfl ?_
  refine gm_getR (own := RX10) (q := 117) rfl dX10_runScript_52 lfX10_22 sC_0 rfl ?_
  refine gm_getR (own := RX10) (q := 121) rfl dX10_runScript_55 lfX10_256 sC_117 rfl ?_
  refine gm_iload_n dX10_runScript_58 rfl ?_
  refine gm_iald (j := j3) (x := (S 121 j3)) dX10_runScript_59 sC_121 ij3 rfl ?_
  refine gm_istore_n (L' := [some (.ref 0), some (.int x1), some (.int x2), some (.int (S 121 j3)), none]) dX10_runScript_60 (by decide) rfl ?_
  refine gm_aload_n dX10_runScript_61 rfl ?_
  refine gm_getR (own := RX10) (q := 117) rfl dX10_runScript_62 lfX10_22 sC_0 rfl ?_
  refine gm_getR (own := RX10) (q := 119) rfl dX10_runScript_65 lfX10_259 sC_117 rfl ?_
  refine gm_iload_n dX10_runScript_68 rfl ?_
  refine gm_iald (j := j3) (x := (S 119 j3)) dX10_runScript_69 sC_119 ij3 rfl ?_
  refine gm_look (off := 91) (tgt := 161) dX10_runScript_70 (by decide) c4 (by decide) ?_
  refine gm_iload_n dX10_runScript_161 rfl ?_
  refine gm_if_ne_f dX10_runScript_162 ⟨175, by decide⟩ c5 ?_
  refine gm_aload_n dX10_runScript_165 rfl ?_
  refine gm_getR (own := RX10) (q := 1) rfl dX10_runScript_166 lfX10_10 sC_0 rfl ?_
  refine gm_getI (own := RX10) (x := (S 1 8)) rfl dX10_runScript_169 lfX10_173 sC_1 rfl rfl ?_
  refine gm_goto (tgt := 180) dX10_runScript_172 (by decide) ?_
  refine gm_istore (L' := [some (.ref 0), some (.int x1), some (.int x2), some (.int (S 121 j3)), some (.int (S 1 8))]) dX10_runScript_180 (by decide) rfl ?_
  refine gm_iload dX10_runScript_182 rfl ?_
  refine gm_callS (r1 := (some (.int r6))) (own := RX10) rfl dX10_runScript_184 llX10_280 msX10_isError [.int (S 1 8)] [] rfl rfl (Nat.le_of_ble_eq_true rfl) (by decide) rfl h7 rfl ?_
  refine gm_if_eq_t (tgt := 192) dX10_runScript_187 (by decide) c8 ?_
  refine gm_iinc (L' := [some (.ref 0), some (.int x1), some (.int (x2 + 1)), some (.int (S 121 j3)), some (.int (S 1 8))]) (v := (x2 + 1)) dX10_runScript_192 rfl rfl (by decide) rfl ?_
  refine gm_goto (tgt := 34) dX10_runScript_195 (by decide) ?_
  refine gm_forget (L2 := [some (.ref 0), some (.int x1), some (.int (x2 + 1)), none, none]) (by simp [gm_sub]) ?_
  exact K
/-- X10_runScript 34 [42f 48f 70out 162t 187f] -> ret  -/
theorem PX10_runScript_13 {x1 : Int32} {x2 : Int32} {S : gm_Mem} {j3 : Nat} {T1 : gm_Mem} {r6 : Int32} {r8 : Int32} (c1 : x2 < (S 117 5)) (c2 : x2 < 40) (ij3 : gm_ix x2 j3 40) (c4 : Op.lookupswitch.offset [(100, 42), (115, 72), (117, 62), (120, 52)] 91 (S 119 j3).toInt = 91) (c5 : ¬ (S 121 j3) = 0) (h7 : gm_run gC 5 YX10_tick 0 [some (.ref 0), some (.int (S 121 j3)), none] [] S (some (.int r6)) T1) (h9 : gm_run gC 0 YX10_isError 0 [some (.int r6)] [] T1 (some (.int r8)) T1) (c10 : ¬ r8 = 0) : gm_run gC 7 YX10_runScript 34 [some (.ref 0), some (.int x1), some (.int x2), none, none] [] S (some (.int x2)) T1 := by
  refine gm_iload_n dX10_runScript_34 rfl ?_
  refine gm_aload_n dX10_runScript_35 rfl ?_
  refine gm_getR (own := RX10) (q := 117) rfl dX10_runScript_36 lfX10_22 sC_0 rfl ?_
  refine gm_getI (own := RX10) (x := (S 117 5)) rfl dX10_runScript_39 lfX10_253 sC_117 rfl rfl ?_
  refine gm_icmp_ge_f dX10_runScript_42 ⟨198, by decide⟩ c1 ?_
  refine gm_iload_n dX10_runScript_45 rfl ?_
  refine gm_bipush (v := 40) dX10_runScript_46 (by decide) ?_
  refine gm_icmp_ge_f dX10_runScript_48 ⟨198, by decide⟩ c2 ?_
  refine gm_aload_n dX10_runScript_51 rfl ?_
  refine gm_getR (own := RX10) (q := 117) rfl dX10_runScript_52 lfX10_22 sC_0 rfl ?_
  refine gm_getR (own := RX10) (q := 121) rfl dX10_runScript_55 lfX10_256 sC_117 rfl ?_
  refine gm_iload_n dX10_runScript_58 rfl ?_
  refine gm_iald (j := j3) (x := (S 121 j3)) dX10_runScript_59 sC_121 ij3 rfl ?_
  refine gm_istore_n (L' := [some (.ref 0), some (.int x1), some (.int x2), some (.int (S 121 j3)), none]) dX10_runScript_60 (by decide) rfl ?_
  refine gm_aload_n dX10_runScript_61 rfl ?_
  refine gm_getR (own := RX10) (q := 117) rfl dX10_runScript_62 lfX10_22 sC_0 rfl ?_
  refine gm_getR (own := RX10) (q := 119) rfl dX10_runScript_65 lfX10_259 sC_117 rfl ?_
  refine gm_iload_n dX10_runScript_68 rfl ?_
  refine gm_iald (j := j3) (x := (S 119 j3)) dX10_runScript_69 sC_119 ij3 rfl ?_
  refine gm_look (off := 91) (tgt := 161) dX10_runScript_70 (by decide) c4 (by decide) ?_
  refine gm_iload_n dX10_runScript_161 rfl ?_
  refine gm_if_ne_t (tgt := 175) dX10_runScript_162 (by decide) c5 ?_
  refine gm_aload_n dX10_runScript_175 rfl ?_
  refine gm_iload_n dX10_runScript_176 rfl ?_
  refine gm_callV (r1 := (some (.int r6))) (own := RX10) rfl dX10_runScript_177 llX10_277 mvX10_tick sC_0 rfl [.int (S 121 j3)] [] rfl rfl (Nat.le_of_ble_eq_true rfl) (by decide) rfl h7 rfl ?_
  refine gm_istore (L' := [some (.ref 0), some (.int x1), some (.int x2), some (.int (S 121 j3)), some (.int r6)]) dX10_runScript_180 (by decide) rfl ?_
  refine gm_iload dX10_runScript_182 rfl ?_
  refine gm_callS (r1 := (some (.int r8))) (own := RX10) rfl dX10_runScript_184 llX10_280 msX10_isError [.int r6] [] rfl rfl (Nat.le_of_ble_eq_true rfl) (by decide) rfl h9 rfl ?_
  refine gm_if_eq_f dX10_runScript_187 ⟨192, by decide⟩ c10 ?_
  refine gm_iload_n dX10_runScript_190 rfl ?_
  exact gm_iret dX10_runScript_191 rfl
/-- X10_runScript 34 [42f 48f 70out 162t 187t] -> cut 34 -/
theorem PX10_runScript_14 {x1 : Int32} {x2 : Int32} {S : gm_Mem} {j3 : Nat} {T1 : gm_Mem} {r6 : Int32} {r8 : Int32} {r : Option Value} {S2 : gm_Mem} (c1 : x2 < (S 117 5)) (c2 : x2 < 40) (ij3 : gm_ix x2 j3 40) (c4 : Op.lookupswitch.offset [(100, 42), (115, 72), (117, 62), (120, 52)] 91 (S 119 j3).toInt = 91) (c5 : ¬ (S 121 j3) = 0) (h7 : gm_run gC 5 YX10_tick 0 [some (.ref 0), some (.int (S 121 j3)), none] [] S (some (.int r6)) T1) (h9 : gm_run gC 0 YX10_isError 0 [some (.int r6)] [] T1 (some (.int r8)) T1) (c10 : r8 = 0) (K : gm_run gC 7 YX10_runScript 34 [some (.ref 0), some (.int x1), some (.int (x2 + 1)), none, none] [] T1 r S2) : gm_run gC 7 YX10_runScript 34 [some (.ref 0), some (.int x1), some (.int x2), none, none] [] S r S2 := by
  refine gm_iload_n dX10_runScript_34 rfl ?_
  refine gm_aload_n dX10_runScript_35 rfl ?_
  refine gm_getR (own := RX10) (q := 117) rfl dX10_runScript_36 lfX10_22 sC_0 rfl ?_
  refine gm_getI (own := RX10) (x := (S 117 5)) rfl dX10_runScript_39 lfX10_253 sC_117 rfl rfl ?_
  refine gm_icmp_ge_f dX10_runScript_42 ⟨198, by decide⟩ c1 ?_
  refine gm_iload_n dX10_runScript_45 rfl ?_
  refine gm_bipush (v := 40) dX10_runScript_46 (by decide) ?_
  refine gm_icmp_ge_f dX10_runScript_48 ⟨198, by decide⟩ c2 ?_
  refine gm_aload_n dX10_runScript_51 rfl ?_
  refine gm_getR (own := RX10) (q := 117) rfl dX10_runScript_52 lfX10_22 sC_0 rfl ?_
  refine gm_getR (own := RX10) (q := 121) rfl dX10_runScript_55 lfX10_256 sC_117 rfl ?_
  refine gm_iload_n dX10_runScript_58 rfl ?_
  refine gm_iald (j := j3) (x := (S 121 j3)) dX10_runScript_59 sC_121 ij3 rfl ?_
  refine gm_istore_n (L' := [some (.ref 0), some (.int x1), some (.int x2), some (.int (S 121 j3)), none]) dX10_runScript_60 (by decide) rfl ?_
  refine gm_aload_n dX10_runScript_61 rfl ?_
  refine gm_getR (own := RX10) (q := 117) rfl dX10_runScript_62 lfX10_22 sC_0 rfl ?_
  refine gm_getR (own := RX10) (q := 119) rfl dX10_runScript_65 lfX10_259 sC_117 rfl ?_
  refine gm_iload_n dX10_runScript_68 rfl ?_
  refine gm_iald (j := j3) (x := (S 119 j3)) dX10_runScript_69 sC_119 ij3 rfl ?_
  refine gm_look (off := 91) (tgt := 161) dX10_runScript_70 (by decide) c4 (by decide) ?_
  refine gm_iload_n dX10_runScript_161 rfl ?_
  refine gm_if_ne_t (tgt := 175) dX10_runScript_162 (by decide) c5 ?_
  refine gm_aload_n dX10_runScript_175 rfl ?_
  refine gm_iload_n dX10_runScript_176 rfl ?_
  refine gm_callV (r1 := (some (.int r6))) (own := RX10) rfl dX10_runScript_177 llX10_277 mvX10_tick sC_0 rfl [.int (S 121 j3)] [] rfl rfl (Nat.le_of_ble_eq_true rfl) (by decide) rfl h7 rfl ?_
  refine gm_istore (L' := [some (.ref 0), some (.int x1), some (.int x2), some (.int (S 121 j3)), some (.int r6)]) dX10_runScript_180 (by decide) rfl ?_
  refine gm_iload dX10_runScript_182 rfl ?_
  refine gm_callS (r1 := (some (.int r8))) (own := RX10) rfl dX10_runScript_184 llX10_280 msX10_isError [.int r6] [] rfl rfl (Nat.le_of_ble_eq_true rfl) (by decide) rfl h9 rfl ?_
  refine gm_if_eq_t (tgt := 192) dX10_runScript_187 (by decide) c10 ?_
  refine gm_iinc (L' := [some (.ref 0), some (.int x1), some (.int (x2 + 1)), some (.int (S 121 j3)), some (.int r6)]) (v := (x2 + 1)) dX10_runScript_192 rfl rfl (by decide) rfl ?_
  refine gm_goto (tgt := 34) dX10_runScript_195 (by decide) ?_
  refine gm_forget (L2 := [some (.ref 0), some (.int x1), some (.int (x2 + 1)), none, none]) (by simp [gm_sub]) ?_
  exact K
/-- X10_runScript 34 [42f 48t] -> ret  -/
theorem PX10_runScript_15 {x1 : Int32} {x2 : Int32} {S : gm_Mem} (c1 : x2 < (S 117 5)) (c2 : ¬ x2 < 40) : gm_run gC 7 YX10_runScript 34 [some (.ref 0), some (.int x1), some (.int x2), none, none] [] S (some (.int (S 117 5))) S := by
  refine gm_iload_n dX10_runScript_34 rfl ?_
  refine gm_aload_n dX10_runScript_35 rfl ?_
  refine gm_getR (own := RX10) (q := 117) rfl dX10_runScript_36 lfX10_22 sC_0 rfl ?_
  refine gm_getI (own := RX10) (x := (S 117 5)) rfl dX10_runScript_39 lfX10_253 sC_117 rfl rfl ?_
  refine gm_icmp_ge_f dX10_runScript_42 ⟨198, by decide⟩ c1 ?_
  refine gm_iload_n dX10_runScript_45 rfl ?_
  refine gm_bipush (v := 40) dX10_runScript_46 (by decide) ?_
  refine gm_icmp_ge_t (tgt := 198) dX10_runScript_48 (by decide) c2 ?_
  refine gm_aload_n dX10_runScript_198 rfl ?_
  refine gm_getR (own := RX10) (q := 117) rfl dX10_runScript_199 lfX10_22 sC_0 rfl ?_
  refine gm_getI (own := RX10) (x := (S 117 5)) rfl dX10_runScript_202 lfX10_253 sC_117 rfl rfl ?_
  exact gm_iret dX10_runScript_205 rfl
/-- X10_runScript 34 [42t] -> ret  -/
theorem PX10_runScript_16 {x1 : Int32} {x2 : Int32} {S : gm_Mem} (c1 : ¬ x2 < (S 117 5)) : gm_run gC 7 YX10_runScript 34 [some (.ref 0), some (.int x1), some (.int x2), none, none] [] S (some (.int (S 117 5))) S := by
  refine gm_iload_n dX10_runScript_34 rfl ?_
  refine gm_aload_n dX10_runScript_35 rfl ?_
  refine gm_getR (own := RX10) (q := 117) rfl dX10_runScript_36 lfX10_22 sC_0 rfl ?_
  refine gm_getI (own := RX10) (x := (S 117 5)) rfl dX10_runScript_39 lfX10_253 sC_117 rfl rfl ?_
  refine gm_icmp_ge_t (tgt := 198) dX10_runScript_42 (by decide) c1 ?_
  refine gm_aload_n dX10_runScript_198 rfl ?_
  refine gm_getR (own := RX10) (q := 117) rfl dX10_runScript_199 lfX10_22 sC_0 rfl ?_
  refine gm_getI (own := RX10) (x := (S 117 5)) rfl dX10_runScript_202 lfX10_253 sC_117 rfl rfl ?_
  exact gm_iret dX10_runScript_205 rfl
/-- X10_save 0 [] -> ret  -/
theorem PX10_save_1 {S : gm_Mem} {T1 : gm_Mem} (h1 : gm_run gC 3 YX9_copyFrom 0 [some (.ref 59), some (.ref 1)] [] S none T1) : gm_run gC 4 YX10_save 0 [some (.ref 0)] [] S (some (.int (T1 26 1))) (gm_u T1 0 4 1) := by
  refine gm_aload_n dX10_save_0 rfl ?_
  refine gm_getR (own := RX10) (q := 59) rfl dX10_save_1 lfX10_16 sC_0 rfl ?_
  refine gm_aload_n dX10_save_4 rfl ?_
  refine gm_getR (own := RX10) (q := 1) rfl dX10_save_5 lfX10_10 sC_0 rfl ?_
  refine gm_callV (r1 := none) (own := RX10) rfl dX10_save_8 llX10_283 mvX9_copyFrom sC_59 rfl [.ref 1] [] rfl rfl (Nat.le_of_ble_eq_true rfl) (by decide) rfl h1 rfl ?_
  refine gm_aload_n dX10_save_11 rfl ?_
  refine gm_iconst (v := 1) dX10_save_12 (by decide) ?_
  refine gm_put (own := RX10) rfl dX10_save_13 lfX10_33 sC_0 rfl gm_fit_1 ?_
  refine gm_aload_n dX10_save_16 rfl ?_
  refine gm_getR (own := RX10) (q := 1) rfl dX10_save_17 lfX10_10 sC_0 rfl ?_
  refine gm_getR (own := RX10) (q := 26) rfl dX10_save_20 lfX10_58 sC_1 rfl ?_
  refine gm_getI (own := RX10) (x := (T1 26 1)) rfl dX10_save_23 lfX10_83 sC_26 rfl (gm_rp (by omega)) ?_
  exact gm_iret dX10_save_26 rfl
/-- X10_restore 0 [4f] -> ret  -/
theorem PX10_restore_1 {S : gm_Mem} (c1 : (S 0 4) = 0) : gm_run gC 4 YX10_restore 0 [some (.ref 0)] [] S (some (.int (-1000000001))) S := by
  refine gm_aload_n dX10_restore_0 rfl ?_
  refine gm_getI (own := RX10) (x := (S 0 4)) rfl dX10_restore_1 lfX10_33 sC_0 rfl rfl ?_
  refine gm_if_ne_f dX10_restore_4 ⟨10, by decide⟩ c1 ?_
  refine gm_ldc (own := RX10) rfl lcX10_82 dX10_restore_7 ?_
  exact gm_iret dX10_restore_9 rfl
/-- X10_restore 0 [4t] -> ret  -/
theorem PX10_restore_2 {S : gm_Mem} {T1 : gm_Mem} (c1 : ¬ (S 0 4) = 0) (h2 : gm_run gC 3 YX9_copyFrom 0 [some (.ref 1), some (.ref 59)] [] S none T1) : gm_run gC 4 YX10_restore 0 [some (.ref 0)] [] S (some (.int (T1 26 1))) T1 := by
  refine gm_aload_n dX10_restore_0 rfl ?_
  refine gm_getI (own := RX10) (x := (S 0 4)) rfl dX10_restore_1 lfX10_33 sC_0 rfl rfl ?_
  refine gm_if_ne_t (tgt := 10) dX10_restore_4 (by decide) c1 ?_
  refine gm_aload_n dX10_restore_10 rfl ?_
  refine gm_getR (own := RX10) (q := 1) rfl dX10_restore_11 lfX10_10 sC_0 rfl ?_
  refine gm_aload_n dX10_restore_14 rfl ?_
  refine gm_getR (own := RX10) (q := 59) rfl dX10_restore_15 lfX10_16 sC_0 rfl ?_
  refine gm_callV (r1 := none) (own := RX10) rfl dX10_restore_18 llX10_283 mvX9_copyFrom sC_1 rfl [.ref 59] [] rfl rfl (Nat.le_of_ble_eq_true rfl) (by decide) rfl h2 rfl ?_
  refine gm_aload_n dX10_restore_21 rfl ?_
  refine gm_getR (own := RX10) (q := 1) rfl dX10_restore_22 lfX10_10 sC_0 rfl ?_
  refine gm_getR (own := RX10) (q := 26) rfl dX10_restore_25 lfX10_58 sC_1 rfl ?_
  refine gm_getI (own := RX10) (x := (T1 26 1)) rfl dX10_restore_28 lfX10_83 sC_26 rfl rfl ?_
  exact gm_iret dX10_restore_31 rfl
