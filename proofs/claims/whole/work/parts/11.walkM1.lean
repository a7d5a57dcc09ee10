/-- X11_isBetween 0 [2f 7f] -> ret  -/
theorem PX11_isBetween_1 {a1 : Int32} {a2 : Int32} {a3 : Int32} {S : gm_Mem} (c1 : ¬ a1 < a2) (c2 : ¬ a3 < a1) : gm_run gM 0 YX11_isBetween 0 [some (.int a1), some (.int a2), some (.int a3)] [] S (some (.int 1)) S := by
  refine gm_iload_n dX11_isBetween_0 rfl ?_
  refine gm_iload_n dX11_isBetween_1 rfl ?_
  refine gm_icmp_lt_f dX11_isBetween_2 ⟨14, by decide⟩ c1 ?_
  refine gm_iload_n dX11_isBetween_5 rfl ?_
  refine gm_iload_n dX11_isBetween_6 rfl ?_
  refine gm_icmp_gt_f dX11_isBetween_7 ⟨14, by decide⟩ c2 ?_
  refine gm_iconst (v := 1) dX11_isBetween_10 (by decide) ?_
  refine gm_goto (tgt := 15) dX11_isBetween_11 (by decide) ?_
  exact gm_zret dX11_isBetween_15 rfl gm_fit_1
/-- X11_isBetween 0 [2f 7t] -> ret  -/
theorem PX11_isBetween_2 {a1 : Int32} {a2 : Int32} {a3 : Int32} {S : gm_Mem} (c1 : ¬ a1 < a2) (c2 : a3 < a1) : gm_run gM 0 YX11_isBetween 0 [some (.int a1), some (.int a2), some (.int a3)] [] S (some (.int 0)) S := by
  refine gm_iload_n dX11_isBetween_0 rfl ?_
  refine gm_iload_n dX11_isBetween_1 rfl ?_
  refine gm_icmp_lt_f dX11_isBetween_2 ⟨14, by decide⟩ c1 ?_
  refine gm_iload_n dX11_isBetween_5 rfl ?_
  refine gm_iload_n dX11_isBetween_6 rfl ?_
  refine gm_icmp_gt_t (tgt := 14) dX11_isBetween_7 (by decide) c2 ?_
  refine gm_iconst (v := 0) dX11_isBetween_14 (by decide) ?_
  exact gm_zret dX11_isBetween_15 rfl gm_fit_0
/-- X11_isBetween 0 [2t] -> ret  -/
theorem PX11_isBetween_3 {a1 : Int32} {a2 : Int32} {a3 : Int32} {S : gm_Mem} (c1 : a1 < a2) : gm_run gM 0 YX11_isBetween 0 [some (.int a1), some (.int a2), some (.int a3)] [] S (some (.int 0)) S := by
  refine gm_iload_n dX11_isBetween_0 rfl ?_
  refine gm_iload_n dX11_isBetween_1 rfl ?_
  refine gm_icmp_lt_t (tgt := 14) dX11_isBetween_2 (by decide) c1 ?_
  refine gm_iconst (v := 0) dX11_isBetween_14 (by decide) ?_
  exact gm_zret dX11_isBetween_15 rfl gm_fit_0
/-- X11_mix 0 [] -> ret  -/
theorem PX11_mix_1 {a1 : Int32} {a2 : Int32} {S : gm_Mem}  : gm_run gM 0 YX11_mix 0 [some (.int a1), some (.int a2), none] [] S (some (.int (((a1 * 31) + a2) ^^^ (gm_ushr ((a1 * 31) + a2) 7)))) S := by
  refine gm_iload_n dX11_mix_0 rfl ?_
  refine gm_bipush (v := 31) dX11_mix_1 (by decide) ?_
  refine gm_imul dX11_mix_3 rfl ?_
  refine gm_iload_n dX11_mix_4 rfl ?_
  refine gm_iadd dX11_mix_5 rfl ?_
  refine gm_istore_n (L' := [some (.int a1), some (.int a2), some (.int ((a1 * 31) + a2))]) dX11_mix_6 (by decide) rfl ?_
  refine gm_iload_n dX11_mix_7 rfl ?_
  refine gm_iload_n dX11_mix_8 rfl ?_
  refine gm_bipush (v := 7) dX11_mix_9 (by decide) ?_
  refine gm_iushr (v := (gm_ushr ((a1 * 31) + a2) 7)) dX11_mix_11 rfl ?_
  refine gm_ixor dX11_mix_12 rfl ?_
  exact gm_iret dX11_mix_13 rfl
/-- X11_configure 0 [7f 17f 27f] -> ret  -/
theorem PX11_configure_1 {a1 : Int32} {a2 : Int32} {a3 : Int32} {S : gm_Mem} {r1 : Int32} {r4 : Int32} {r7 : Int32} (h2 : gm_run gM 0 YX11_isBetween 0 [some (.int a1), some (.int 1), some (.int 20)] [] S (some (.int r1)) S) (c3 : ¬ r1 = 0) (h5 : gm_run gM 0 YX11_isBetween 0 [some (.int a2), some (.int 1), some (.int 9)] [] S (some (.int r4)) S) (c6 : ¬ r4 = 0) (h8 : gm_run gM 0 YX11_isBetween 0 [some (.int a3), some (.int 0), some (.int 50)] [] S (some (.int r7)) S) (c9 : r7 = 0) : gm_run gM 1 YX11_configure 0 [some (.ref 0), some (.int a1), some (.int a2), some (.int a3), none] [] S (some (.int (-1000000002))) S := by
  refine gm_iload_n dX11_configure_0 rfl ?_
  refine gm_iconst (v := 1) dX11_configure_1 (by decide) ?_
  refine gm_bipush (v := 20) dX11_configure_2 (by decide) ?_
  refine gm_callS (r1 := (some (.int r1))) (own := RX11) rfl dX11_configure_4 llX11_137 msX11_isBetween [.int a1, .int 1, .int 20] [] rfl rfl (Nat.le_of_ble_eq_true rfl) (by decide) rfl h2 rfl ?_
  refine gm_if_eq_f dX11_configure_7 ⟨30, by decide⟩ c3 ?_
  refine gm_iload_n dX11_configure_10 rfl ?_
  refine gm_iconst (v := 1) dX11_configure_11 (by decide) ?_
  refine gm_bipush (v := 9) dX11_configure_12 (by decide) ?_
  refine gm_callS (r1 := (some (.int r4))) (own := RX11) rfl dX11_configure_14 llX11_137 msX11_isBetween [.int a2, .int 1, .int 9] [] rfl rfl (Nat.le_of_ble_eq_true rfl) (by decide) rfl h5 rfl ?_
  refine gm_if_eq_f dX11_configure_17 ⟨30, by decide⟩ c6 ?_
  refine gm_iload_n dX11_configure_20 rfl ?_
  refine gm_iconst (v := 0) dX11_configure_21 (by decide) ?_
  refine gm_bipush (v := 50) dX11_configure_22 (by decide) ?_
  refine gm_callS (r1 := (some (.int r7))) (own := RX11) rfl dX11_configure_24 llX11_137 msX11_isBetween [.int a3, .int 0, .int 50] [] rfl rfl (Nat.le_of_ble_eq_true rfl) (by decide) rfl h8 rfl ?_
  refine gm_if_ne_f dX11_configure_27 ⟨33, by decide⟩ c9 ?_
  refine gm_ldc (own := RX11) rfl lcX11_141 dX11_configure_30 ?_
  exact gm_iret dX11_configure_32 rfl
/-- X11_configure 0 [7f 17f 27t] -> ret  -/
theorem PX11_configure_2 {a1 : Int32} {a2 : Int32} {a3 : Int32} {S : gm_Mem} {r1 : Int32} {r4 : Int32} {r7 : Int32} (h2 : gm_run gM 0 YX11_isBetween 0 [some (.int a1), some (.int 1), some (.int 20)] [] S (some (.int r1)) S) (c3 : ¬ r1 = 0) (h5 : gm_run gM 0 YX11_isBetween 0 [some (.int a2), some (.int 1), some (.int 9)] [] S (some (.int r4)) S) (c6 : ¬ r4 = 0) (h8 : gm_run gM 0 YX11_isBetween 0 [some (.int a3), some (.int 0), some (.int 50)] [] S (some (.int r7)) S) (c9 : ¬ r7 = 0) : gm_run gM 1 YX11_configure 0 [some (.ref 0), some (.int a1), some (.int a2), some (.int a3), none] [] S (some (.int (((1000 * (S 0 0)) + (100 * (S 0 1))) + (S 0 2)))) (gm_u (gm_u (gm_u S 0 0 a1) 0 1 a2) 0 2 a3) := by
  refine gm_iload_n dX11_configure_0 rfl ?_
  refine gm_iconst (v := 1) dX11_configure_1 (by decide) ?_
  refine gm_bipush (v := 20) dX11_configure_2 (by decide) ?_
  refine gm_callS (r1 := (some (.int r1))) (own := RX11) rfl dX11_configure_4 llX11_137 msX11_isBetween [.int a1, .int 1, .int 20] [] rfl rfl (Nat.le_of_ble_eq_true rfl) (by decide) rfl h2 rfl ?_
  refine gm_if_eq_f dX11_configure_7 ⟨30, by decide⟩ c3 ?_
  refine gm_iload_n dX11_configure_10 rfl ?_
  refine gm_iconst (v := 1) dX11_configure_11 (by decide) ?_
  refine gm_bipush (v := 9) dX11_configure_12 (by decide) ?_
  refine gm_callS (r1 := (some (.int r4))) (own := RX11) rfl dX11_configure_14 llX11_137 msX11_isBetween [.int a2, .int 1, .int 9] [] rfl rfl (Nat.le_of_ble_eq_true rfl) (by decide) rfl h5 rfl ?_
  refine gm_if_eq_f dX11_configure_17 ⟨30, by decide⟩ c6 ?_
  refine gm_iload_n dX11_configure_20 rfl ?_
  refine gm_iconst (v := 0) dX11_configure_21 (by decide) ?_
  refine gm_bipush (v := 50) dX11_configure_22 (by decide) ?_
  refine gm_callS (r1 := (some (.int r7))) (own := RX11) rfl dX11_configure_24 llX11_137 msX11_isBetween [.int a3, .int 0, .int 50] [] rfl rfl (Nat.le_of_ble_eq_true rfl) (by decide) rfl h8 rfl ?_
  refine gm_if_ne_t (tgt := 33) dX11_configure_27 (by decide) c9 ?_
  refine gm_sipush (v := 1000) dX11_configure_33 (by decide) ?_
  refine gm_aload_n dX11_configure_36 rfl ?_
  refine gm_getI (own := RX11) (x := (S 0 0)) rfl dX11_configure_37 lfX11_7 sM_0 rfl rfl ?_
  refine gm_imul dX11_configure_40 rfl ?_
  refine gm_bipush (v := 100) dX11_configure_41 (by decide) ?_
  refine gm_aload_n dX11_configure_43 rfl ?_
  refine gm_getI (own := RX11) (x := (S 0 1)) rfl dX11_configure_44 lfX11_13 sM_0 rfl rfl ?_
  refine gm_imul dX11_configure_47 rfl ?_
  refine gm_iadd dX11_configure_48 rfl ?_
  refine gm_aload_n dX11_configure_49 rfl ?_
  refine gm_getI (own := RX11) (x := (S 0 2)) rfl dX11_configure_50 lfX11_16 sM_0 rfl rfl ?_
  refine gm_iadd dX11_configure_53 rfl ?_
  refine gm_istore (L' := [some (.ref 0), some (.int a1), some (.int a2), some (.int a3), some (.int (((1000 * (S 0 0)) + (100 * (S 0 1))) + (S 0 2)))]) dX11_configure_54 (by decide) rfl ?_
  refine gm_aload_n dX11_configure_56 rfl ?_
  refine gm_iload_n dX11_configure_57 rfl ?_
  refine gm_put (own := RX11) rfl dX11_configure_58 lfX11_7 sM_0 rfl (gm_fit_int _) ?_
  refine gm_aload_n dX11_configure_61 rfl ?_
  refine gm_iload_n dX11_configure_62 rfl ?_
  refine gm_put (own := RX11) rfl dX11_configure_63 lfX11_13 sM_0 rfl (gm_fit_int _) ?_
  refine gm_aload_n dX11_configure_66 rfl ?_
  refine gm_iload_n dX11_configure_67 rfl ?_
  refine gm_put (own := RX11) rfl dX11_configure_68 lfX11_16 sM_0 rfl (gm_fit_int _) ?_
  refine gm_iload dX11_configure_71 rfl ?_
  exact gm_iret dX11_configure_73 rfl
/-- X11_configure 0 [7f 17t] -> ret  -/
theorem PX11_configure_3 {a1 : Int32} {a2 : Int32} {a3 : Int32} {S : gm_Mem} {r1 : Int32} {r4 : Int32} (h2 : gm_run gM 0 YX11_isBetween 0 [some (.int a1), some (.int 1), some (.int 20)] [] S (some (.int r1)) S) (c3 : ¬ r1 = 0) (h5 : gm_run gM 0 YX11_isBetween 0 [some (.int a2), some (.int 1), some (.int 9)] [] S (some (.int r4)) S) (c6 : r4 = 0) : gm_run gM 1 YX11_configure 0 [some (.ref 0), some (.int a1), some (.int a2), some (.int a3), none] [] S (some (.int (-1000000002))) S := by
  refine gm_iload_n dX11_configure_0 rfl ?_
  refine gm_iconst (v := 1) dX11_configure_1 (by decide) ?_
  refine gm_bipush (v := 20) dX11_configure_2 (by decide) ?_
  refine gm_callS (r1 := (some (.int r1))) (own := RX11) rfl dX11_configure_4 llX11_137 msX11_isBetween [.int a1, .int 1, .int 20] [] rfl rfl (Nat.le_of_ble_eq_true rfl) (by decide) rfl h2 rfl ?_
  refine gm_if_eq_f dX11_configure_7 ⟨30, by decide⟩ c3 ?_
  refine gm_iload_n dX11_configure_10 rfl ?_
  refine gm_iconst (v := 1) dX11_configure_11 (by decide) ?_
  refine gm_bipush (v := 9) dX11_configure_12 (by decide) ?_
  refine gm_callS (r1 := (some (.int r4))) (own := RX11) rfl dX11_configure_14 llX11_137 msX11_isBetween [.int a2, .int 1, .int 9] [] rfl rfl (Nat.le_of_ble_eq_true rfl) (by decide) rfl h5 rfl ?_
  refine gm_if_eq_t (tgt := 30) dX11_configure_17 (by decide) c6 ?_
  refine gm_ldc (own := RX11) rfl lcX11_141 dX11_configure_30 ?_
  exact gm_iret dX11_configure_32 rfl
/-- X11_configure 0 [7t] -> ret  -/
theorem PX11_configure_4 {a1 : Int32} {a2 : Int32} {a3 : Int32} {S : gm_Mem} {r1 : Int32} (h2 : gm_run gM 0 YX11_isBetween 0 [some (.int a1), some (.int 1), some (.int 20)] [] S (some (.int r1)) S) (c3 : r1 = 0) : gm_run gM 1 YX11_configure 0 [some (.ref 0), some (.int a1), some (.int a2), some (.int a3), none] [] S (some (.int (-1000000002))) S := by
  refine gm_iload_n dX11_configure_0 rfl ?_
  refine gm_iconst (v := 1) dX11_configure_1 (by decide) ?_
  refine gm_bipush (v := 20) dX11_configure_2 (by decide) ?_
  refine gm_callS (r1 := (some (.int r1))) (own := RX11) rfl dX11_configure_4 llX11_137 msX11_isBetween [.int a1, .int 1, .int 20] [] rfl rfl (Nat.le_of_ble_eq_true rfl) (by decide) rfl h2 rfl ?_
  refine gm_if_eq_t (tgt := 30) dX11_configure_7 (by decide) c3 ?_
  refine gm_ldc (own := RX11) rfl lcX11_141 dX11_configure_30 ?_
  exact gm_iret dX11_configure_32 rfl
/-- X11_isEndpoint 0 [1f 6f] -> ret  -/
theorem PX11_isEndpoint_1 {a1 : Int32} {S : gm_Mem} (c1 : ¬ a1 = 0) (c2 : a1 = 1) : gm_run gM 0 YX11_isEndpoint 0 [some (.int a1)] [] S (some (.int 1)) S := by
  refine gm_iload_n dX11_isEndpoint_0 rfl ?_
  refine gm_if_eq_f dX11_isEndpoint_1 ⟨9, by decide⟩ c1 ?_
  refine gm_iload_n dX11_isEndpoint_4 rfl ?_
  refine gm_iconst (v := 1) dX11_isEndpoint_5 (by decide) ?_
  refine gm_icmp_ne_f dX11_isEndpoint_6 ⟨13, by decide⟩ c2 ?_
  refine gm_iconst (v := 1) dX11_isEndpoint_9 (by decide) ?_
  refine gm_goto (tgt := 14) dX11_isEndpoint_10 (by decide) ?_
  exact gm_zret dX11_isEndpoint_14 rfl gm_fit_1
/-- X11_isEndpoint 0 [1f 6t] -> ret  -/
theorem PX11_isEndpoint_2 {a1 : Int32} {S : gm_Mem} (c1 : ¬ a1 = 0) (c2 : ¬ a1 = 1) : gm_run gM 0 YX11_isEndpoint 0 [some (.int a1)] [] S (some (.int 0)) S := by
  refine gm_iload_n dX11_isEndpoint_0 rfl ?_
  refine gm_if_eq_f dX11_isEndpoint_1 ⟨9, by decide⟩ c1 ?_
  refine gm_iload_n dX11_isEndpoint_4 rfl ?_
  refine gm_iconst (v := 1) dX11_isEndpoint_5 (by decide) ?_
  refine gm_icmp_ne_t (tgt := 13) dX11_isEndpoint_6 (by decide) c2 ?_
  refine gm_iconst (v := 0) dX11_isEndpoint_13 (by decide) ?_
  exact gm_zret dX11_isEndpoint_14 rfl gm_fit_0
/-- X11_isEndpoint 0 [1t] -> ret  -/
theorem PX11_isEndpoint_3 {a1 : Int32} {S : gm_Mem} (c1 : a1 = 0) : gm_run gM 0 YX11_isEndpoint 0 [some (.int a1)] [] S (some (.int 1)) S := by
  refine gm_iload_n dX11_isEndpoint_0 rfl ?_
  refine gm_if_eq_t (tgt := 9) dX11_isEndpoint_1 (by decide) c1 ?_
  refine gm_iconst (v := 1) dX11_isEndpoint_9 (by decide) ?_
  refine gm_goto (tgt := 14) dX11_isEndpoint_10 (by decide) ?_
  exact gm_zret dX11_isEndpoint_14 rfl gm_fit_1
/-- X11_logs 0 [6f] -> cut 22 -/
theorem PX11_logs_1 {a1 : Int32} {a2 : Int32} {a3 : Int32} {S : gm_Mem} {r : Option Value} {S2 : gm_Mem} (c1 : (S 0 42) = 30) (K : gm_run gM 0 YX11_logs 22 [some (.ref 0), some (.int a1), some (.int a2), some (.int a3), some (.int 0)] [] (gm_u S 0 42 ((S 0 42) - 1)) r S2) : gm_run gM 0 YX11_logs 0 [some (.ref 0), some (.int a1), some (.int a2), some (.int a3), none] [] S r S2 := by
  refine gm_aload_n dX11_logs_0 rfl ?_
  refine gm_getI (own := RX11) (x := (S 0 42)) rfl dX11_logs_1 lfX11_150 sM_0 rfl rfl ?_
  refine gm_bipush (v := 30) dX11_logs_4 (by decide) ?_
  refine gm_icmp_ne_f dX11_logs_6 ⟨55, by decide⟩ c1 ?_
  refine gm_aload_n dX11_logs_9 rfl ?_
  refine gm_dup dX11_logs_10 ?_
  refine gm_getI (own := RX11) (x := (S 0 42)) rfl dX11_logs_11 lfX11_150 sM_0 rfl rfl ?_
  refine gm_iconst (v := 1) dX11_logs_14 (by decide) ?_
  refine gm_isub dX11_logs_15 rfl ?_
  refine gm_put (own := RX11) rfl dX11_logs_16 lfX11_150 sM_0 rfl (gm_fit_int _) ?_
  refine gm_iconst (v := 0) dX11_logs_19 (by decide) ?_
  refine gm_istore (L' := [some (.ref 0), some (.int a1), some (.int a2), some (.int a3), some (.int 0)]) dX11_logs_20 (by decide) rfl ?_
  exact K
/-- X11_logs 0 [6t] -> ret  -/
theorem PX11_logs_2 {a1 : Int32} {a2 : Int32} {a3 : Int32} {S : gm_Mem} {j2 : Nat} {j3 : Nat} {j4 : Nat} (c1 : ¬ (S 0 42) = 30) (ij2 : gm_ix (3 * (S 0 42)) j2 90) (ij3 : gm_ix ((3 * (S 0 42)) + 1) j3 90) (ij4 : gm_ix ((3 * (S 0 42)) + 2) j4 90) : gm_run gM 0 YX11_logs 0 [some (.ref 0), some (.int a1), some (.int a2), some (.int a3), none] [] S none (gm_u (gm_u (gm_u (gm_u S 29 j2 a1) 29 j3 a2) 29 j4 a3) 0 42 ((S 0 42) + 1)) := by
  refine gm_aload_n dX11_logs_0 rfl ?_
  refine gm_getI (own := RX11) (x := (S 0 42)) rfl dX11_logs_1 lfX11_150 sM_0 rfl rfl ?_
  refine gm_bipush (v := 30) dX11_logs_4 (by decide) ?_
  refine gm_icmp_ne_t (tgt := 55) dX11_logs_6 (by decide) c1 ?_
  refine gm_aload_n dX11_logs_55 rfl ?_
  refine gm_getR (own := RX11) (q := 29) rfl dX11_logs_56 lfX11_110 sM_0 rfl ?_
  refine gm_iconst (v := 3) dX11_logs_59 (by decide) ?_
  refine gm_aload_n dX11_logs_60 rfl ?_
  refine gm_getI (own := RX11) (x := (S 0 42)) rfl dX11_logs_61 lfX11_150 sM_0 rfl rfl ?_
  refine gm_imul dX11_logs_64 rfl ?_
  refine gm_iload_n dX11_logs_65 rfl ?_
  refine gm_iast (j := j2) dX11_logs_66 sM_29 ij2 ?_
  refine gm_aload_n dX11_logs_67 rfl ?_
  refine gm_getR (own := RX11) (q := 29) rfl dX11_logs_68 lfX11_110 sM_0 rfl ?_
  refine gm_iconst (v := 3) dX11_logs_71 (by decide) ?_
  refine gm_aload_n dX11_logs_72 rfl ?_
  refine gm_getI (own := RX11) (x := (S 0 42)) rfl dX11_logs_73 lfX11_150 sM_0 rfl (gm_rp (by omega)) ?_
  refine gm_imul dX11_logs_76 rfl ?_
  refine gm_iconst (v := 1) dX11_logs_77 (by decide) ?_
  refine gm_iadd dX11_logs_78 rfl ?_
  refine gm_iload_n dX11_logs_79 rfl ?_
  refine gm_iast (j := j3) dX11_logs_80 sM_29 ij3 ?_
  refine gm_aload_n dX11_logs_81 rfl ?_
  refine gm_getR (own := RX11) (q := 29) rfl dX11_logs_82 lfX11_110 sM_0 rfl ?_
  refine gm_iconst (v := 3) dX11_logs_85 (by decide) ?_
  refine gm_aload_n dX11_logs_86 rfl ?_
  refine gm_getI (own := RX11) (x := (S 0 42)) rfl dX11_logs_87 lfX11_150 sM_0 rfl ((gm_rp (by omega)).trans (gm_rp (by omega))) ?_
  refine gm_imul dX11_logs_90 rfl ?_
  refine gm_iconst (v := 2) dX11_logs_91 (by decide) ?_
  refine gm_iadd dX11_logs_92 rfl ?_
  refine gm_iload_n dX11_logs_93 rfl ?_
  refine gm_iast (j := j4) dX11_logs_94 sM_29 ij4 ?_
  refine gm_aload_n dX11_logs_95 rfl ?_
  refine gm_dup dX11_logs_96 ?_
  refine gm_getI (own := RX11) (x := (S 0 42)) rfl dX11_logs_97 lfX11_150 sM_0 rfl ((gm_rp (by omega)).trans ((gm_rp (by omega)).trans (gm_rp (by omega)))) ?_
  refine gm_iconst (v := 1) dX11_logs_100 (by decide) ?_
  refine gm_iadd dX11_logs_101 rfl ?_
  refine gm_put (own := RX11) rfl dX11_logs_102 lfX11_150 sM_0 rfl (gm_fit_int _) ?_
  exact gm_vret dX11_logs_105 rfl
/-- X11_logs 22 [30f] -> cut 22 -/
theorem PX11_logs_3 {x1 : Int32} {x2 : Int32} {x3 : Int32} {x4 : Int32} {S : gm_Mem} {j2 : Nat} {j3 : Nat} {r : Option Value} {S2 : gm_Mem} (c1 : x4 < (3 * (S 0 42))) (ij2 : gm_ix (x4 + 3) j2 90) (ij3 : gm_ix x4 j3 90) (K : gm_run gM 0 YX11_logs 22 [some (.ref 0), some (.int x1), some (.int x2), some (.int x3), some (.int (x4 + 1))] [] (gm_u S 29 j3 (S 29 j2)) r S2) : gm_run gM 0 YX11_logs 22 [some (.ref 0), some (.int x1), some (.int x2), some (.int x3), some (.int x4)] [] S r S2 := by
  refine gm_iload dX11_logs_22 rfl ?_
  refine gm_iconst (v := 3) dX11_logs_24 (by decide) ?_
  refine gm_aload_n dX11_logs_25 rfl ?_
  refine gm_getI (own := RX11) (x := (S 0 42)) rfl dX11_logs_26 lfX11_150 sM_0 rfl rfl ?_
  refine gm_imul dX11_logs_29 rfl ?_
  refine gm_icmp_ge_f dX11_logs_30 ⟨55, by decide⟩ c1 ?_
  refine gm_aload_n dX11_logs_33 rfl ?_
  refine gm_getR (own := RX11) (q := 29) rfl dX11_logs_34 lfX11_110 sM_0 rfl ?_
  refine gm_iload dX11_logs_37 rfl ?_
  refine gm_aload_n dX11_logs_39 rfl ?_
  refine gm_getR (own := RX11) (q := 29) rfl dX11_logs_40 lfX11_110 sM_0 rfl ?_
  refine gm_iload dX11_logs_43 rfl ?_
  refine gm_iconst (v := 3) dX11_logs_45 (by decide) ?_
  refine gm_iadd dX11_logs_46 rfl ?_
  refine gm_iald (j := j2) (x := (S 29 j2)) dX11_logs_47 sM_29 ij2 rfl ?_
  refine gm_iast (j := j3) dX11_logs_48 sM_29 ij3 ?_
  refine gm_iinc (L' := [some (.ref 0), some (.int x1), some (.int x2), some (.int x3), some (.int (x4 + 1))]) (v := (x4 + 1)) dX11_logs_49 rfl rfl (by decide) rfl ?_
  refine gm_goto (tgt := 22) dX11_logs_52 (by decide) ?_
  exact K
/-- X11_logs 22 [30t] -> ret  -/
theorem PX11_logs_4 {x1 : Int32} {x2 : Int32} {x3 : Int32} {x4 : Int32} {S : gm_Mem} {j2 : Nat} {j3 : Nat} {j4 : Nat} (c1 : ¬ x4 < (3 * (S 0 42))) (ij2 : gm_ix (3 * (S 0 42)) j2 90) (ij3 : gm_ix ((3 * (S 0 42)) + 1) j3 90) (ij4 : gm_ix ((3 * (S 0 42)) + 2) j4 90) : gm_run gM 0 YX11_logs 22 [some (.ref 0), some (.int x1), some (.int x2), some (.int x3), some (.int x4)] [] S none (gm_u (gm_u (gm_u (gm_u S 29 j2 x1) 29 j3 x2) 29 j4 x3) 0 42 ((S 0 42) + 1)) := by
  refine gm_iload dX11_logs_22 rfl ?_
  refine gm_iconst (v := 3) dX11_logs_24 (by decide) ?_
  refine gm_aload_n dX11_logs_25 rfl ?_
  refine gm_getI (own := RX11) (x := (S 0 42)) rfl dX11_logs_26 lfX11_150 sM_0 rfl rfl ?_
  refine gm_imul dX11_logs_29 rfl ?_
  refine gm_icmp_ge_t (tgt := 55) dX11_logs_30 (by decide) c1 ?_
  refine gm_aload_n dX11_logs_55 rfl ?_
  refine gm_getR (own := RX11) (q := 29) rfl dX11_logs_56 lfX11_110 sM_0 rfl ?_
  refine gm_iconst (v := 3) dX11_logs_59 (by decide) ?_
  refine gm_aload_n dX11_logs_60 rfl ?_
  refine gm_getI (own := RX11) (x := (S 0 42)) rfl dX11_logs_61 lfX11_150 sM_0 rfl rfl ?_
  refine gm_imul dX11_logs_64 rfl ?_
  refine gm_iload_n dX11_logs_65 rfl ?_
  refine gm_iast (j := j2) dX11_logs_66 sM_29 ij2 ?_
  refine gm_aload_n dX11_logs_67 rfl ?_
  refine gm_getR (own := RX11) (q := 29) rfl dX11_logs_68 lfX11_110 sM_0 rfl ?_
  refine gm_iconst (v := 3) dX11_logs_71 (by decide) ?_
  refine gm_aload_n dX11_logs_72 rfl ?_
  refine gm_getI (own := RX11) (x := (S 0 42)) rfl dX11_logs_73 lfX11_150 sM_0 rfl (gm_rp (by omega)) ?_
  refine gm_imul dX11_logs_76 rfl ?_
  refine gm_iconst (v := 1) dX11_logs_77 (by decide) ?_
  refine gm_iadd dX11_logs_78 rfl ?_
  refine gm_iload_n dX11_logs_79 rfl ?_
  refine gm_iast (j := j3) dX11_logs_80 sM_29 ij3 ?_
  refine gm_aload_n dX11_logs_81 rfl ?_
  refine gm_getR (own := RX11) (q := 29) rfl dX11_logs_82 lfX11_110 sM_0 rfl ?_
  refine gm_iconst (v := 3) dX11_logs_85 (by decide) ?_
  refine gm_aload_n dX11_logs_86 rfl ?_
  refine gm_getI (own := RX11) (x := (S 0 42)) rfl dX11_logs_87 lfX11_150 sM_0 rfl ((gm_rp (by omega)).trans (gm_rp (by omega))) ?_
  refine gm_imul dX11_logs_90 rfl ?_
  refine gm_iconst (v := 2) dX11_logs_91 (by decide) ?_
  refine gm_iadd dX11_logs_92 rfl ?_
  refine gm_iload_n dX11_logs_93 rfl ?_
  refine gm_iast (j := j4) dX11_logs_94 sM_29 ij4 ?_
  refine gm_aload_n dX11_logs_95 rfl ?_
  refine gm_dup dX11_logs_96 ?_
  refine gm_getI (own := RX11) (x := (S 0 42)) rfl dX11_logs_97 lfX11_150 sM_0 rfl ((gm_rp (by omega)).trans ((gm_rp (by omega)).trans (gm_rp (by omega)))) ?_
  refine gm_iconst (v := 1) dX11_logs_100 (by decide) ?_
  refine gm_iadd dX11_logs_101 rfl ?_
  refine gm_put (own := RX11) rfl dX11_logs_102 lfX11_150 sM_0 rfl (gm_fit_int _) ?_
  exact gm_vret dX11_logs_105 rfl
/-- X11_becomes 0 [7f] -> ret  -/
theorem PX11_becomes_1 {a1 : Int32} {a2 : Int32} {S : gm_Mem} {j1 : Nat} (ij1 : gm_ix a1 j1 2) (c2 : (S 1 j1) = a2) : gm_run gM 1 YX11_becomes 0 [some (.ref 0), some (.int a1), some (.int a2)] [] S none S := by
  refine gm_aload_n dX11_becomes_0 rfl ?_
  refine gm_getR (own := RX11) (q := 1) rfl dX11_becomes_1 lfX11_19 sM_0 rfl ?_
  refine gm_iload_n dX11_becomes_4 rfl ?_
  refine gm_iald (j := j1) (x := (S 1 j1)) dX11_becomes_5 sM_1 ij1 rfl ?_
  refine gm_iload_n dX11_becomes_6 rfl ?_
  refine gm_icmp_ne_f dX11_becomes_7 ⟨11, by decide⟩ c2 ?_
  exact gm_vret dX11_becomes_10 rfl
/-- X11_becomes 0 [7t] -> ret  -/
theorem PX11_becomes_2 {a1 : Int32} {a2 : Int32} {S : gm_Mem} {j1 : Nat} {T1 : gm_Mem} (ij1 : gm_ix a1 j1 2) (c2 : ¬ (S 1 j1) = a2) (h3 : gm_run gM 0 YX11_logs 0 [some (.ref 0), some (.int 3), some (.int a1), some (.int a2), none] [] (gm_u S 1 j1 a2) none T1) : gm_run gM 1 YX11_becomes 0 [some (.ref 0), some (.int a1), some (.int a2)] [] S none T1 := by
  refine gm_aload_n dX11_becomes_0 rfl ?_
  refine gm_getR (own := RX11) (q := 1) rfl dX11_becomes_1 lfX11_19 sM_0 rfl ?_
  refine gm_iload_n dX11_becomes_4 rfl ?_
  refine gm_iald (j := j1) (x := (S 1 j1)) dX11_becomes_5 sM_1 ij1 rfl ?_
  refine gm_iload_n dX11_becomes_6 rfl ?_
  refine gm_icmp_ne_t (tgt := 11) dX11_becomes_7 (by decide) c2 ?_
  refine gm_aload_n dX11_becomes_11 rfl ?_
  refine gm_getR (own := RX11) (q := 1) rfl dX11_becomes_12 lfX11_19 sM_0 rfl ?_
  refine gm_iload_n dX11_becomes_15 rfl ?_
  refine gm_iload_n dX11_becomes_16 rfl ?_
  refine gm_iast (j := j1) dX11_becomes_17 sM_1 ij1 ?_
  refine gm_aload_n dX11_becomes_18 rfl ?_
  refine gm_iconst (v := 3) dX11_becomes_19 (by decide) ?_
  refine gm_iload_n dX11_becomes_20 rfl ?_
  refine gm_iload_n dX11_becomes_21 rfl ?_
  refine gm_callV (r1 := none) (own := RX11) rfl dX11_becomes_22 llX11_142 mvX11_logs sM_0 rfl [.int 3, .int a1, .int a2] [] rfl rfl (Nat.le_of_ble_eq_true rfl) (by decide) rfl h3 rfl ?_
  exact gm_vret dX11_becomes_25 rfl
/-- X11_clearsWaiting 0 [] -> cut 2 -/
theorem PX11_clearsWaiting_1 {a1 : Int32} {S : gm_Mem} {r : Option Value} {S2 : gm_Mem}  (K : gm_run gM 0 YX11_clearsWaiting 2 [some (.ref 0), some (.int a1), some (.int 0)] [] S r S2) : gm_run gM 0 YX11_clearsWaiting 0 [some (.ref 0), some (.int a1), none] [] S r S2 := by
  refine gm_iconst (v := 0) dX11_clearsWaiting_0 (by decide) ?_
  refine gm_istore_n (L' := [some (.ref 0), some (.int a1), some (.int 0)]) dX11_clearsWaiting_1 (by decide) rfl ?_
  exact K
/-- X11_clearsWaiting 2 [4f] -> cut 2 -/
theorem PX11_clearsWaiting_2 {x1 : Int32} {x2 : Int32} {S : gm_Mem} {j2 : Nat} {r : Option Value} {S2 : gm_Mem} (c1 : x2 < 4) (ij2 : gm_ix ((4 * x1) + x2) j2 8) (K : gm_run gM 0 YX11_clearsWaiting 2 [some (.ref 0), some (.int x1), some (.int (x2 + 1))] [] (gm_u S 24 j2 0) r S2) : gm_run gM 0 YX11_clearsWaiting 2 [some (.ref 0), some (.int x1), some (.int x2)] [] S r S2 := by
  refine gm_iload_n dX11_clearsWaiting_2 rfl ?_
  refine gm_iconst (v := 4) dX11_clearsWaiting_3 (by decide) ?_
  refine gm_icmp_ge_f dX11_clearsWaiting_4 ⟨24, by decide⟩ c1 ?_
  refine gm_aload_n dX11_clearsWaiting_7 rfl ?_
  refine gm_getR (own := RX11) (q := 24) rfl dX11_clearsWaiting_8 lfX11_89 sM_0 rfl ?_
  refine gm_iconst (v := 4) dX11_clearsWaiting_11 (by decide) ?_
  refine gm_iload_n dX11_clearsWaiting_12 rfl ?_
  refine gm_imul dX11_clearsWaiting_13 rfl ?_
  refine gm_iload_n dX11_clearsWaiting_14 rfl ?_
  refine gm_iadd dX11_clearsWaiting_15 rfl ?_
  refine gm_iconst (v := 0) dX11_clearsWaiting_16 (by decide) ?_
  refine gm_iast (j := j2) dX11_clearsWaiting_17 sM_24 ij2 ?_
  refine gm_iinc (L' := [some (.ref 0), some (.int x1), some (.int (x2 + 1))]) (v := (x2 + 1)) dX11_clearsWaiting_18 rfl rfl (by decide) rfl ?_
  refine gm_goto (tgt := 2) dX11_clearsWaiting_21 (by decide) ?_
  exact K
/-- X11_clearsWaiting 2 [4t] -> ret  -/
theorem PX11_clearsWaiting_3 {x1 : Int32} {x2 : Int32} {S : gm_Mem} (c1 : ¬ x2 < 4) : gm_run gM 0 YX11_clearsWaiting 2 [some (.ref 0), some (.int x1), some (.int x2)] [] S none S := by
  refine gm_iload_n dX11_clearsWaiting_2 rfl ?_
  refine gm_iconst (v := 4) dX11_clearsWaiting_3 (by decide) ?_
  refine gm_icmp_ge_t (tgt := 24) dX11_clearsWaiting_4 (by decide) c1 ?_
  exact gm_vret dX11_clearsWaiting_24 rfl
/-- X11_beginsStream 0 [] -> ret  -/
theorem PX11_beginsStream_1 {a1 : Int32} {S : gm_Mem} {j1 : Nat} {T1 : gm_Mem} (ij1 : gm_ix a1 j1 2) (h2 : gm_run gM 0 YX11_clearsWaiting 0 [some (.ref 0), some (.int a1), none] [] (gm_u (gm_u (gm_u (gm_u (gm_u (gm_u S 18 j1 0) 13 j1 0) 17 j1 0) 14 j1 0) 15 j1 (-1)) 16 j1 (-1)) none T1) : gm_run gM 1 YX11_beginsStream 0 [some (.ref 0), some (.int a1)] [] S none T1 := by
  refine gm_aload_n dX11_beginsStream_0 rfl ?_
  refine gm_getR (own := RX11) (q := 18) rfl dX11_beginsStream_1 lfX11_71 sM_0 rfl ?_
  refine gm_iload_n dX11_beginsStream_4 rfl ?_
  refine gm_iconst (v := 0) dX11_beginsStream_5 (by decide) ?_
  refine gm_iast (j := j1) dX11_beginsStream_6 sM_18 ij1 ?_
  refine gm_aload_n dX11_beginsStream_7 rfl ?_
  refine gm_getR (own := RX11) (q := 13) rfl dX11_beginsStream_8 lfX11_56 sM_0 rfl ?_
  refine gm_iload_n dX11_beginsStream_11 rfl ?_
  refine gm_iconst (v := 0) dX11_beginsStream_12 (by decide) ?_
  refine gm_iast (j := j1) dX11_beginsStream_13 sM_13 ij1 ?_
  refine gm_aload_n dX11_beginsStream_14 rfl ?_
  refine gm_getR (own := RX11) (q := 17) rfl dX11_beginsStream_15 lfX11_68 sM_0 rfl ?_
  refine gm_iload_n dX11_beginsStream_18 rfl ?_
  refine gm_iconst (v := 0) dX11_beginsStream_19 (by decide) ?_
  refine gm_iast (j := j1) dX11_beginsStream_20 sM_17 ij1 ?_
  refine gm_aload_n dX11_beginsStream_21 rfl ?_
  refine gm_getR (own := RX11) (q := 14) rfl dX11_beginsStream_22 lfX11_59 sM_0 rfl ?_
  refine gm_iload_n dX11_beginsStream_25 rfl ?_
  refine gm_iconst (v := 0) dX11_beginsStream_26 (by decide) ?_
  refine gm_iast (j := j1) dX11_beginsStream_27 sM_14 ij1 ?_
  refine gm_aload_n dX11_beginsStream_28 rfl ?_
  refine gm_getR (own := RX11) (q := 15) rfl dX11_beginsStream_29 lfX11_62 sM_0 rfl ?_
  refine gm_iload_n dX11_beginsStream_32 rfl ?_
  refine gm_iconst (v := (-1)) dX11_beginsStream_33 (by decide) ?_
  refine gm_iast (j := j1) dX11_beginsStream_34 sM_15 ij1 ?_
  refine gm_aload_n dX11_beginsStream_35 rfl ?_
  refine gm_getR (own := RX11) (q := 16) rfl dX11_beginsStream_36 lfX11_65 sM_0 rfl ?_
  refine gm_iload_n dX11_beginsStream_39 rfl ?_
  refine gm_iconst (v := (-1)) dX11_beginsStream_40 (by decide) ?_
  refine gm_iast (j := j1) dX11_beginsStream_41 sM_16 ij1 ?_
  refine gm_aload_n dX11_beginsStream_42 rfl ?_
  refine gm_iload_n dX11_beginsStream_43 rfl ?_
  refine gm_callV (r1 := none) (own := RX11) rfl dX11_beginsStream_44 llX11_146 mvX11_clearsWaiting sM_0 rfl [.int a1] [] rfl rfl (Nat.le_of_ble_eq_true rfl) (by decide) rfl h2 rfl ?_
  exact gm_vret dX11_beginsStream_47 rfl
/-- X11_beginsWindows 0 [] -> cut 37 -/
theorem PX11_beginsWindows_1 {a1 : Int32} {S : gm_Mem} {j1 : Nat} {r : Option Value} {S2 : gm_Mem} (ij1 : gm_ix a1 j1 2) (K : gm_run gM 0 YX11_beginsWindows 37 [some (.ref 0), some (.int a1), some (.int 0)] [] (gm_u (gm_u (gm_u (gm_u (gm_u S 5 j1 0) 6 j1 0) 7 j1 0) 8 j1 (-1)) 12 j1 0) r S2) : gm_run gM 0 YX11_beginsWindows 0 [some (.ref 0), some (.int a1), none] [] S r S2 := by
  refine gm_aload_n dX11_beginsWindows_0 rfl ?_
  refine gm_getR (own := RX11) (q := 5) rfl dX11_beginsWindows_1 lfX11_32 sM_0 rfl ?_
  refine gm_iload_n dX11_beginsWindows_4 rfl ?_
  refine gm_iconst (v := 0) dX11_beginsWindows_5 (by decide) ?_
  refine gm_iast (j := j1) dX11_beginsWindows_6 sM_5 ij1 ?_
  refine gm_aload_n dX11_beginsWindows_7 rfl ?_
  refine gm_getR (own := RX11) (q := 6) rfl dX11_beginsWindows_8 lfX11_35 sM_0 rfl ?_
  refine gm_iload_n dX11_beginsWindows_11 rfl ?_
  refine gm_iconst (v := 0) dX11_beginsWindows_12 (by decide) ?_
  refine gm_iast (j := j1) dX11_beginsWindows_13 sM_6 ij1 ?_
  refine gm_aload_n dX11_beginsWindows_14 rfl ?_
  refine gm_getR (own := RX11) (q := 7) rfl dX11_beginsWindows_15 lfX11_38 sM_0 rfl ?_
  refine gm_iload_n dX11_beginsWindows_18 rfl ?_
  refine gm_iconst (v := 0) dX11_beginsWindows_19 (by decide) ?_
  refine gm_iast (j := j1) dX11_beginsWindows_20 sM_7 ij1 ?_
  refine gm_aload_n dX11_beginsWindows_21 rfl ?_
  refine gm_getR (own := RX11) (q := 8) rfl dX11_beginsWindows_22 lfX11_41 sM_0 rfl ?_
  refine gm_iload_n dX11_beginsWindows_25 rfl ?_
  refine gm_iconst (v := (-1)) dX11_beginsWindows_26 (by decide) ?_
  refine gm_iast (j := j1) dX11_beginsWindows_27 sM_8 ij1 ?_
  refine gm_aload_n dX11_beginsWindows_28 rfl ?_
  refine gm_getR (own := RX11) (q := 12) rfl dX11_beginsWindows_29 lfX11_53 sM_0 rfl ?_
  refine gm_iload_n dX11_beginsWindows_32 rfl ?_
  refine gm_iconst (v := 0) dX11_beginsWindows_33 (by decide) ?_
  refine gm_iast (j := j1) dX11_beginsWindows_34 sM_12 ij1 ?_
  refine gm_iconst (v := 0) dX11_beginsWindows_35 (by decide) ?_
  refine gm_istore_n (L' := [some (.ref 0), some (.int a1), some (.int 0)]) dX11_beginsWindows_36 (by decide) rfl ?_
  exact K
/-- X11_beginsWindows 37 [44f] -> cut 37 -/
theorem PX11_beginsWindows_2 {x1 : Int32} {x2 : Int32} {S : gm_Mem} {j1 : Nat} {j3 : Nat} {r : Option Value} {S2 : gm_Mem} (ij1 : gm_ix x1 j1 2) (c2 : x2 < (S 18 j1)) (ij3 : gm_ix ((16 * x1) + x2) j3 32) (K : gm_run gM 0 YX11_beginsWindows 37 [some (.ref 0), some (.int x1), some (.int (x2 + 1))] [] (gm_u S 23 j3 (-1)) r S2) : gm_run gM 0 YX11_beginsWindows 37 [some (.ref 0), some (.int x1), some (.int x2)] [] S r S2 := by
  refine gm_iload_n dX11_beginsWindows_37 rfl ?_
  refine gm_aload_n dX11_beginsWindows_38 rfl ?_
  refine gm_getR (own := RX11) (q := 18) rfl dX11_beginsWindows_39 lfX11_71 sM_0 rfl ?_
  refine gm_iload_n dX11_beginsWindows_42 rfl ?_
  refine gm_iald (j := j1) (x := (S 18 j1)) dX11_beginsWindows_43 sM_18 ij1 rfl ?_
  refine gm_icmp_ge_f dX11_beginsWindows_44 ⟨65, by decide⟩ c2 ?_
  refine gm_aload_n dX11_beginsWindows_47 rfl ?_
  refine gm_getR (own := RX11) (q := 23) rfl dX11_beginsWindows_48 lfX11_86 sM_0 rfl ?_
  refine gm_bipush (v := 16) dX11_beginsWindows_51 (by decide) ?_
  refine gm_iload_n dX11_beginsWindows_53 rfl ?_
  refine gm_imul dX11_beginsWindows_54 rfl ?_
  refine gm_iload_n dX11_beginsWindows_55 rfl ?_
  refine gm_iadd dX11_beginsWindows_56 rfl ?_
  refine gm_iconst (v := (-1)) dX11_beginsWindows_57 (by decide) ?_
  refine gm_iast (j := j3) dX11_beginsWindows_58 sM_23 ij3 ?_
  refine gm_iinc (L' := [some (.ref 0), some (.int x1), some (.int (x2 + 1))]) (v := (x2 + 1)) dX11_beginsWindows_59 rfl rfl (by decide) rfl ?_
  refine gm_goto (tgt := 37) dX11_beginsWindows_62 (by decide) ?_
  exact K
/-- X11_beginsWindows 37 [44t] -> ret  -/
theorem PX11_beginsWindows_3 {x1 : Int32} {x2 : Int32} {S : gm_Mem} {j1 : Nat} (ij1 : gm_ix x1 j1 2) (c2 : ¬ x2 < (S 18 j1)) : gm_run gM 0 YX11_beginsWindows 37 [some (.ref 0), some (.int x1), some (.int x2)] [] S none S := by
  refine gm_iload_n dX11_beginsWindows_37 rfl ?_
  refine gm_aload_n dX11_beginsWindows_38 rfl ?_
  refine gm_getR (own := RX11) (q := 18) rfl dX11_beginsWindows_39 lfX11_71 sM_0 rfl ?_
  refine gm_iload_n dX11_beginsWindows_42 rfl ?_
  refine gm_iald (j := j1) (x := (S 18 j1)) dX11_beginsWindows_43 sM_18 ij1 rfl ?_
  refine gm_icmp_ge_t (tgt := 65) dX11_beginsWindows_44 (by decide) c2 ?_
  exact gm_vret dX11_beginsWindows_65 rfl
/-- X11_at 0 [] -> ret  -/
theorem PX11_at_1 {a1 : Int32} {a2 : Int32} {S : gm_Mem} {j1 : Nat} (ij1 : gm_ix ((9 * a1) + a2) j1 216) : gm_run gM 0 YX11_at 0 [some (.ref 0), some (.int a1), some (.int a2)] [] S (some (.int (S 30 j1))) S := by
  refine gm_aload_n dX11_at_0 rfl ?_
  refine gm_getR (own := RX11) (q := 30) rfl dX11_at_1 lfX11_113 sM_0 rfl ?_
  refine gm_bipush (v := 9) dX11_at_4 (by decide) ?_
  refine gm_iload_n dX11_at_6 rfl ?_
  refine gm_imul dX11_at_7 rfl ?_
  refine gm_iload_n dX11_at_8 rfl ?_
  refine gm_iadd dX11_at_9 rfl ?_
  refine gm_iald (j := j1) (x := (S 30 j1)) dX11_at_10 sM_30 ij1 rfl ?_
  exact gm_iret dX11_at_11 rfl
/-- X11_isPacket 0 [1f 9f] -> ret  -/
theorem PX11_isPacket_1 {a1 : Int32} {S : gm_Mem} (c1 : ¬ a1 < 0) (c2 : a1 < (S 0 45)) : gm_run gM 0 YX11_isPacket 0 [some (.ref 0), some (.int a1)] [] S (some (.int 1)) S := by
  refine gm_iload_n dX11_isPacket_0 rfl ?_
  refine gm_if_lt_f dX11_isPacket_1 ⟨16, by decide⟩ c1 ?_
  refine gm_iload_n dX11_isPacket_4 rfl ?_
  refine gm_aload_n dX11_isPacket_5 rfl ?_
  refine gm_getI (own := RX11) (x := (S 0 45)) rfl dX11_isPacket_6 lfX11_153 sM_0 rfl rfl ?_
  refine gm_icmp_ge_f dX11_isPacket_9 ⟨16, by decide⟩ c2 ?_
  refine gm_iconst (v := 1) dX11_isPacket_12 (by decide) ?_
  refine gm_goto (tgt := 17) dX11_isPacket_13 (by decide) ?_
  exact gm_zret dX11_isPacket_17 rfl gm_fit_1
/-- X11_isPacket 0 [1f 9t] -> ret  -/
theorem PX11_isPacket_2 {a1 : Int32} {S : gm_Mem} (c1 : ¬ a1 < 0) (c2 : ¬ a1 < (S 0 45)) : gm_run gM 0 YX11_isPacket 0 [some (.ref 0), some (.int a1)] [] S (some (.int 0)) S := by
  refine gm_iload_n dX11_isPacket_0 rfl ?_
  refine gm_if_lt_f dX11_isPacket_1 ⟨16, by decide⟩ c1 ?_
  refine gm_iload_n dX11_isPacket_4 rfl ?_
  refine gm_aload_n dX11_isPacket_5 rfl ?_
  refine gm_getI (own := RX11) (x := (S 0 45)) rfl dX11_isPacket_6 lfX11_153 sM_0 rfl rfl ?_
  refine gm_icmp_ge_t (tgt := 16) dX11_isPacket_9 (by decide) c2 ?_
  refine gm_iconst (v := 0) dX11_isPacket_16 (by decide) ?_
  exact gm_zret dX11_isPacket_17 rfl gm_fit_0
/-- X11_isPacket 0 [1t] -> ret  -/
theorem PX11_isPacket_3 {a1 : Int32} {S : gm_Mem} (c1 : a1 < 0) : gm_run gM 0 YX11_isPacket 0 [some (.ref 0), some (.int a1)] [] S (some (.int 0)) S := by
  refine gm_iload_n dX11_isPacket_0 rfl ?_
  refine gm_if_lt_t (tgt := 16) dX11_isPacket_1 (by decide) c1 ?_
  refine gm_iconst (v := 0) dX11_isPacket_16 (by decide) ?_
  exact gm_zret dX11_isPacket_17 rfl gm_fit_0
/-- X11_hasRoom 0 [6f] -> ret  -/
theorem PX11_hasRoom_1 {S : gm_Mem} (c1 : (S 0 45) < 24) : gm_run gM 0 YX11_hasRoom 0 [some (.ref 0)] [] S (some (.int 1)) S := by
  refine gm_aload_n dX11_hasRoom_0 rfl ?_
  refine gm_getI (own := RX11) (x := (S 0 45)) rfl dX11_hasRoom_1 lfX11_153 sM_0 rfl rfl ?_
  refine gm_bipush (v := 24) dX11_hasRoom_4 (by decide) ?_
  refine gm_icmp_ge_f dX11_hasRoom_6 ⟨13, by decide⟩ c1 ?_
  refine gm_iconst (v := 1) dX11_hasRoom_9 (by decide) ?_
  refine gm_goto (tgt := 14) dX11_hasRoom_10 (by decide) ?_
  exact gm_zret dX11_hasRoom_14 rfl gm_fit_1
/-- X11_hasRoom 0 [6t] -> ret  -/
theorem PX11_hasRoom_2 {S : gm_Mem} (c1 : ¬ (S 0 45) < 24) : gm_run gM 0 YX11_hasRoom 0 [some (.ref 0)] [] S (some (.int 0)) S := by
  refine gm_aload_n dX11_hasRoom_0 rfl ?_
  refine gm_getI (own := RX11) (x := (S 0 45)) rfl dX11_hasRoom_1 lfX11_153 sM_0 rfl rfl ?_
  refine gm_bipush (v := 24) dX11_hasRoom_4 (by decide) ?_
  refine gm_icmp_ge_t (tgt := 13) dX11_hasRoom_6 (by decide) c1 ?_
  refine gm_iconst (v := 0) dX11_hasRoom_13 (by decide) ?_
  exact gm_zret dX11_hasRoom_14 rfl gm_fit_0
/-- X11_appends 0 [] -> ret  -/
theorem PX11_appends_1 {a1 : Int32} {a2 : Int32} {a3 : Int32} {a4 : Int32} {a5 : Int32} {a6 : Int32} {a7 : Int32} {a8 : Int32} {a9 : Int32} {S : gm_Mem} {j1 : Nat} {j2 : Nat} {j3 : Nat} {j4 : Nat} {j5 : Nat} {j6 : Nat} {j7 : Nat} {j8 : Nat} {j9 : Nat} {T1 : gm_Mem} (ij1 : gm_ix (9 * (S 0 45)) j1 216) (ij2 : gm_ix ((9 * (S 0 45)) + 1) j2 216) (ij3 : gm_ix ((9 * (S 0 45)) + 2) j3 216) (ij4 : gm_ix ((9 * (S 0 45)) + 3) j4 216) (ij5 : gm_ix ((9 * (S 0 45)) + 4) j5 216) (ij6 : gm_ix ((9 * (S 0 45)) + 5) j6 216) (ij7 : gm_ix ((9 * (S 0 45)) + 6) j7 216) (ij8 : gm_ix ((9 * (S 0 45)) + 7) j8 216) (ij9 : gm_ix ((9 * (S 0 45)) + 8) j9 216) (h10 : gm_run gM 0 YX11_logs 0 [some (.ref 0), some (.int 0), some (.int a1), some (.int a2), none] [] (gm_u (gm_u (gm_u (gm_u (gm_u (gm_u (gm_u (gm_u (gm_u (gm_u (gm_u S 30 j1 a1) 30 j2 a2) 30 j3 a3) 30 j4 a4) 30 j5 a5) 30 j6 a6) 30 j7 a7) 30 j8 a8) 30 j9 a9) 0 45 ((S 0 45) + 1)) 0 5 ((S 0 5) + 1)) none T1) : gm_run gM 1 YX11_appends 0 [some (.ref 0), some (.int a1), some (.int a2), some (.int a3), some (.int a4), some (.int a5), some (.int a6), some (.int a7), some (.int a8), some (.int a9), none] [] S none T1 := by
  refine gm_bipush (v := 9) dX11_appends_0 (by decide) ?_
  refine gm_aload_n dX11_appends_2 rfl ?_
  refine gm_getI (own := RX11) (x := (S 0 45)) rfl dX11_appends_3 lfX11_153 sM_0 rfl rfl ?_
  refine gm_imul dX11_appends_6 rfl ?_
  refine gm_istore (L' := [some (.ref 0), some (.int a1), some (.int a2), some (.int a3), some (.int a4), some (.int a5), some (.int a6), some (.int a7), some (.int a8), some (.int a9), some (.int (9 * (S 0 45)))]) dX11_appends_7 (by decide) rfl ?_
  refine gm_aload_n dX11_appends_9 rfl ?_
  refine gm_getR (own := RX11) (q := 30) rfl dX11_appends_10 lfX11_113 sM_0 rfl ?_
  refine gm_iload dX11_appends_13 rfl ?_
  refine gm_iload_n dX11_appends_15 rfl ?_
  refine gm_iast (j := j1) dX11_appends_16 sM_30 ij1 ?_
  refine gm_aload_n dX11_appends_17 rfl ?_
  refine gm_getR (own := RX11) (q := 30) rfl dX11_appends_18 lfX11_113 sM_0 rfl ?_
  refine gm_iload dX11_appends_21 rfl ?_
  refine gm_iconst (v := 1) dX11_appends_23 (by decide) ?_
  refine gm_iadd dX11_appends_24 rfl ?_
  refine gm_iload_n dX11_appends_25 rfl ?_
  refine gm_iast (j := j2) dX11_appends_26 sM_30 ij2 ?_
  refine gm_aload_n dX11_appends_27 rfl ?_
  refine gm_getR (own := RX11) (q := 30) rfl dX11_appends_28 lfX11_113 sM_0 rfl ?_
  refine gm_iload dX11_appends_31 rfl ?_
  refine gm_iconst (v := 2) dX11_appends_33 (by decide) ?_
  refine gm_iadd dX11_appends_34 rfl ?_
  refine gm_iload_n dX11_appends_35 rfl ?_
  refine gm_iast (j := j3) dX11_appends_36 sM_30 ij3 ?_
  refine gm_aload_n dX11_appends_37 rfl ?_
  refine gm_getR (own := RX11) (q := 30) rfl dX11_appends_38 lfX11_113 sM_0 rfl ?_
  refine gm_iload dX11_appends_41 rfl ?_
  refine gm_iconst (v := 3) dX11_appends_43 (by decide) ?_
  refine gm_iadd dX11_appends_44 rfl ?_
  refine gm_iload dX11_appends_45 rfl ?_
  refine gm_iast (j := j4) dX11_appends_47 sM_30 ij4 ?_
  refine gm_aload_n dX11_appends_48 rfl ?_
  refine gm_getR (own := RX11) (q := 30) rfl dX11_appends_49 lfX11_113 sM_0 rfl ?_
  refine gm_iload dX11_appends_52 rfl ?_
  refine gm_iconst (v := 4) dX11_appends_54 (by decide) ?_
  refine gm_iadd dX11_appends_55 rfl ?_
  refine gm_iload dX11_appends_56 rfl ?_
  refine gm_iast (j := j5) dX11_appends_58 sM_30 ij5 ?_
  refine gm_aload_n dX11_appends_59 rfl ?_
  refine gm_getR (own := RX11) (q := 30) rfl dX11_appends_60 lfX11_113 sM_0 rfl ?_
  refine gm_iload dX11_appends_63 rfl ?_
  refine gm_iconst (v := 5) dX11_appends_65 (by decide) ?_
  refine gm_iadd dX11_appends_66 rfl ?_
  refine gm_iload dX11_appends_67 rfl ?_
  refine gm_iast (j := j6) dX11_appends_69 sM_30 ij6 ?_
  refine gm_aload_n dX11_appends_70 rfl ?_
  refine gm_getR (own := RX11) (q := 30) rfl dX11_appends_71 lfX11_113 sM_0 rfl ?_
  refine gm_iload dX11_appends_74 rfl ?_
  refine gm_bipush (v := 6) dX11_appends_76 (by decide) ?_
  refine gm_iadd dX11_appends_78 rfl ?_
  refine gm_iload dX11_appends_79 rfl ?_
  refine gm_iast (j := j7) dX11_appends_81 sM_30 ij7 ?_
  refine gm_aload_n dX11_appends_82 rfl ?_
  refine gm_getR (own := RX11) (q := 30) rfl dX11_appends_83 lfX11_113 sM_0 rfl ?_
  refine gm_iload dX11_appends_86 rfl ?_
  refine gm_bipush (v := 7) dX11_appends_88 (by decide) ?_
  refine gm_iadd dX11_appends_90 rfl ?_
  refine gm_iload dX11_appends_91 rfl ?_
  refine gm_iast (j := j8) dX11_appends_93 sM_30 ij8 ?_
  refine gm_aload_n dX11_appends_94 rfl ?_
  refine gm_getR (own := RX11) (q := 30) rfl dX11_appends_95 lfX11_113 sM_0 rfl ?_
  refine gm_iload dX11_appends_98 rfl ?_
  refine gm_bipush (v := 8) dX11_appends_100 (by decide) ?_
  refine gm_iadd dX11_appends_102 rfl ?_
  refine gm_iload dX11_appends_103 rfl ?_
  refine gm_iast (j := j9) dX11_appends_105 sM_30 ij9 ?_
  refine gm_aload_n dX11_appends_106 rfl ?_
  refine gm_dup dX11_appends_107 ?_
  refine gm_getI (own := RX11) (x := (S 0 45)) rfl dX11_appends_108 lfX11_153 sM_0 rfl ((gm_rp (by omega)).trans ((gm_rp (by omega)).trans ((gm_rp (by omega)).trans ((gm_rp (by omega)).trans ((gm_rp (by omega)).trans ((gm_rp (by omega)).trans ((gm_rp (by omega)).trans ((gm_rp (by omega)).trans (gm_rp (by omega)))))))))) ?_
  refine gm_iconst (v := 1) dX11_appends_111 (by decide) ?_
  refine gm_iadd dX11_appends_112 rfl ?_
  refine gm_put (own := RX11) rfl dX11_appends_113 lfX11_153 sM_0 rfl (gm_fit_int _) ?_
  refine gm_aload_n dX11_appends_116 rfl ?_
  refine gm_dup dX11_appends_117 ?_
  refine gm_getI (own := RX11) (x := (S 0 5)) rfl dX11_appends_118 lfX11_156 sM_0 rfl ((gm_rk (by decide)).trans ((gm_rp (by omega)).trans ((gm_rp (by omega)).trans ((gm_rp (by omega)).trans ((gm_rp (by omega)).trans ((gm_rp (by omega)).trans ((gm_rp (by omega)).trans ((gm_rp (by omega)).trans ((gm_rp (by omega)).trans (gm_rp (by omega))))))))))) ?_
  refine gm_iconst (v := 1) dX11_appends_121 (by decide) ?_
  refine gm_iadd dX11_appends_122 rfl ?_
  refine gm_put (own := RX11) rfl dX11_appends_123 lfX11_156 sM_0 rfl (gm_fit_int _) ?_
  refine gm_aload_n dX11_appends_126 rfl ?_
  refine gm_iconst (v := 0) dX11_appends_127 (by decide) ?_
  refine gm_iload_n dX11_appends_128 rfl ?_
  refine gm_iload_n dX11_appends_129 rfl ?_
  refine gm_callV (r1 := none) (own := RX11) rfl dX11_appends_130 llX11_142 mvX11_logs sM_0 rfl [.int 0, .int a1, .int a2] [] rfl rfl (Nat.le_of_ble_eq_true rfl) (by decide) rfl h10 rfl ?_
  exact gm_vret dX11_appends_133 rfl
/-- X11_sendsPlain 0 [4f] -> ret  -/
theorem PX11_sendsPlain_1 {a1 : Int32} {a2 : Int32} {a3 : Int32} {a4 : Int32} {a5 : Int32} {S : gm_Mem} {r1 : Int32} (h2 : gm_run gM 0 YX11_hasRoom 0 [some (.ref 0)] [] S (some (.int r1)) S) (c3 : r1 = 0) : gm_run gM 2 YX11_sendsPlain 0 [some (.ref 0), some (.int a1), some (.int a2), some (.int a3), some (.int a4), some (.int a5)] [] S (some (.int 0)) S := by
  refine gm_aload_n dX11_sendsPlain_0 rfl ?_
  refine gm_callV (r1 := (some (.int r1))) (own := RX11) rfl dX11_sendsPlain_1 llX11_159 mvX11_hasRoom sM_0 rfl [] [] rfl rfl (Nat.le_of_ble_eq_true rfl) (by decide) rfl h2 rfl ?_
  refine gm_if_ne_f dX11_sendsPlain_4 ⟨9, by decide⟩ c3 ?_
  refine gm_iconst (v := 0) dX11_sendsPlain_7 (by decide) ?_
  exact gm_zret dX11_sendsPlain_8 rfl gm_fit_0
/-- X11_sendsPlain 0 [4t] -> ret  -/
theorem PX11_sendsPlain_2 {a1 : Int32} {a2 : Int32} {a3 : Int32} {a4 : Int32} {a5 : Int32} {S : gm_Mem} {r1 : Int32} {T1 : gm_Mem} (h2 : gm_run gM 0 YX11_hasRoom 0 [some (.ref 0)] [] S (some (.int r1)) S) (c3 : ¬ r1 = 0) (h4 : gm_run gM 1 YX11_appends 0 [some (.ref 0), some (.int a1), some (.int a2), some (.int a3), some (.int 0), some (.int 0), some (.int a4), some (.int a5), some (.int 0), some (.int 0), none] [] S none T1) : gm_run gM 2 YX11_sendsPlain 0 [some (.ref 0), some (.int a1), some (.int a2), some (.int a3), some (.int a4), some (.int a5)] [] S (some (.int 1)) T1 := by
  refine gm_aload_n dX11_sendsPlain_0 rfl ?_
  refine gm_callV (r1 := (some (.int r1))) (own := RX11) rfl dX11_sendsPlain_1 llX11_159 mvX11_hasRoom sM_0 rfl [] [] rfl rfl (Nat.le_of_ble_eq_true rfl) (by decide) rfl h2 rfl ?_
  refine gm_if_ne_t (tgt := 9) dX11_sendsPlain_4 (by decide) c3 ?_
  refine gm_aload_n dX11_sendsPlain_9 rfl ?_
  refine gm_iload_n dX11_sendsPlain_10 rfl ?_
  refine gm_iload_n dX11_sendsPlain_11 rfl ?_
  refine gm_iload_n dX11_sendsPlain_12 rfl ?_
  refine gm_iconst (v := 0) dX11_sendsPlain_13 (by decide) ?_
  refine gm_iconst (v := 0) dX11_sendsPlain_14 (by decide) ?_
  refine gm_iload dX11_sendsPlain_15 rfl ?_
  refine gm_iload dX11_sendsPlain_17 rfl ?_
  refine gm_iconst (v := 0) dX11_sendsPlain_19 (by decide) ?_
  refine gm_iconst (v := 0) dX11_sendsPlain_20 (by decide) ?_
  refine gm_callV (r1 := none) (own := RX11) rfl dX11_sendsPlain_21 llX11_163 mvX11_appends sM_0 rfl [.int a1, .int a2, .int a3, .int 0, .int 0, .int a4, .int a5, .int 0, .int 0] [] rfl rfl (Nat.le_of_ble_eq_true rfl) (by decide) rfl h4 rfl ?_
  refine gm_iconst (v := 1) dX11_sendsPlain_24 (by decide) ?_
  exact gm_zret dX11_sendsPlain_25 rfl gm_fit_1
/-- X11_tagOf 0 [] -> ret  -/
theorem PX11_tagOf_1 {a1 : Int32} {a2 : Int32} {a3 : Int32} {a4 : Int32} {a5 : Int32} {a6 : Int32} {a7 : Int32} {a8 : Int32} {S : gm_Mem} {r1 : Int32} {r3 : Int32} {r5 : Int32} {r7 : Int32} {r9 : Int32} {r11 : Int32} {r13 : Int32} (h2 : gm_run gM 0 YX11_mix 0 [some (.int a1), some (.int a3), none] [] S (some (.int r1)) S) (h4 : gm_run gM 0 YX11_mix 0 [some (.int r1), some (.int a2), none] [] S (some (.int r3)) S) (h6 : gm_run gM 0 YX11_mix 0 [some (.int r3), some (.int a4), none] [] S (some (.int r5)) S) (h8 : gm_run gM 0 YX11_mix 0 [some (.int a5), some (.int a6), none] [] S (some (.int r7)) S) (h10 : gm_run gM 0 YX11_mix 0 [some (.int r5), some (.int r7), none] [] S (some (.int r9)) S) (h12 : gm_run gM 0 YX11_mix 0 [some (.int r9), some (.int a7), none] [] S (some (.int r11)) S) (h14 : gm_run gM 0 YX11_mix 0 [some (.int r11), some (.int a8), none] [] S (some (.int r13)) S) : gm_run gM 1 YX11_tagOf 0 [some (.int a1), some (.int a2), some (.int a3), some (.int a4), some (.int a5), some (.int a6), some (.int a7), some (.int a8), none] [] S (some (.int r13)) S := by
  refine gm_iload_n dX11_tagOf_0 rfl ?_
  refine gm_iload_n dX11_tagOf_1 rfl ?_
  refine gm_callS (r1 := (some (.int r1))) (own := RX11) rfl dX11_tagOf_2 llX11_167 msX11_mix [.int a1, .int a3] [] rfl rfl (Nat.le_of_ble_eq_true rfl) (by decide) rfl h2 rfl ?_
  refine gm_iload_n dX11_tagOf_5 rfl ?_
  refine gm_callS (r1 := (some (.int r3))) (own := RX11) rfl dX11_tagOf_6 llX11_167 msX11_mix [.int r1, .int a2] [] rfl rfl (Nat.le_of_ble_eq_true rfl) (by decide) rfl h4 rfl ?_
  refine gm_istore (L' := [some (.int a1), some (.int a2), some (.int a3), some (.int a4), some (.int a5), some (.int a6), some (.int a7), some (.int a8), some (.int r3)]) dX11_tagOf_9 (by decide) rfl ?_
  refine gm_iload dX11_tagOf_11 rfl ?_
  refine gm_iload_n dX11_tagOf_13 rfl ?_
  refine gm_callS (r1 := (some (.int r5))) (own := RX11) rfl dX11_tagOf_14 llX11_167 msX11_mix [.int r3, .int a4] [] rfl rfl (Nat.le_of_ble_eq_true rfl) (by decide) rfl h6 rfl ?_
  refine gm_iload dX11_tagOf_17 rfl ?_
  refine gm_iload dX11_tagOf_19 rfl ?_
  refine gm_callS (r1 := (some (.int r7))) (own := RX11) rfl dX11_tagOf_21 llX11_167 msX11_mix [.int a5, .int a6] [.int r5] rfl rfl (Nat.le_of_ble_eq_true rfl) (by decide) rfl h8 rfl ?_
  refine gm_callS (r1 := (some (.int r9))) (own := RX11) rfl dX11_tagOf_24 llX11_167 msX11_mix [.int r5, .int r7] [] rfl rfl (Nat.le_of_ble_eq_true rfl) (by decide) rfl h10 rfl ?_
  refine gm_iload dX11_tagOf_27 rfl ?_
  refine gm_callS (r1 := (some (.int r11))) (own := RX11) rfl dX11_tagOf_29 llX11_167 msX11_mix [.int r9, .int a7] [] rfl rfl (Nat.le_of_ble_eq_true rfl) (by decide) rfl h12 rfl ?_
  refine gm_iload dX11_tagOf_32 rfl ?_
  refine gm_callS (r1 := (some (.int r13))) (own := RX11) rfl dX11_tagOf_34 llX11_167 msX11_mix [.int r11, .int a8] [] rfl rfl (Nat.le_of_ble_eq_true rfl) (by decide) rfl h14 rfl ?_
  exact gm_iret dX11_tagOf_37 rfl
/-- X11_sendsProtected 0 [4f] -> ret  -/
theorem PX11_sendsProtected_1 {a1 : Int32} {a2 : Int32} {a3 : Int32} {a4 : Int32} {S : gm_Mem} {r1 : Int32} (h2 : gm_run gM 0 YX11_hasRoom 0 [some (.ref 0)] [] S (some (.int r1)) S) (c3 : r1 = 0) : gm_run gM 2 YX11_sendsProtected 0 [some (.ref 0), some (.int a1), some (.int a2), some (.int a3), some (.int a4)] [] S (some (.int 0)) S := by
  refine gm_aload_n dX11_sendsProtected_0 rfl ?_
  refine gm_callV (r1 := (some (.int r1))) (own := RX11) rfl dX11_sendsProtected_1 llX11_159 mvX11_hasRoom sM_0 rfl [] [] rfl rfl (Nat.le_of_ble_eq_true rfl) (by decide) rfl h2 rfl ?_
  refine gm_if_ne_f dX11_sendsProtected_4 ⟨9, by decide⟩ c3 ?_
  refine gm_iconst (v := 0) dX11_sendsProtected_7 (by decide) ?_
  exact gm_zret dX11_sendsProtected_8 rfl gm_fit_0
/-- X11_sendsProtected 0 [4t 19f] -> ret  -/
theorem PX11_sendsProtected_2 {a1 : Int32} {a2 : Int32} {a3 : Int32} {a4 : Int32} {S : gm_Mem} {r1 : Int32} {j4 : Nat} {r6 : Int32} {T1 : gm_Mem} (h2 : gm_run gM 0 YX11_hasRoom 0 [some (.ref 0)] [] S (some (.int r1)) S) (c3 : ¬ r1 = 0) (ij4 : gm_ix a1 j4 2) (c5 : ¬ (S 6 j4) < (S 0 0)) (h7 : gm_run gM 1 YX11_tagOf 0 [some (.int (S 4 j4)), some (.int a1), some (.int ((S 5 j4) + 1)), some (.int 0), some (.int a2), some (.int a3), some (.int a4), some (.int (S 13 j4)), none] [] (gm_u (gm_u S 5 j4 ((S 5 j4) + 1)) 6 j4 0) (some (.int r6)) (gm_u (gm_u S 5 j4 ((S 5 j4) + 1)) 6 j4 0)) (h8 : gm_run gM 1 YX11_appends 0 [some (.ref 0), some (.int a1), some (.int a2), some (.int (S 2 j4)), some (.int ((S 5 j4) + 1)), some (.int 0), some (.int a3), some (.int a4), some (.int (S 13 j4)), some (.int r6), none] [] (gm_u (gm_u S 5 j4 ((S 5 j4) + 1)) 6 j4 0) none T1) : gm_run gM 2 YX11_sendsProtected 0 [some (.ref 0), some (.int a1), some (.int a2), some (.int a3), some (.int a4)] [] S (some (.int 1)) (gm_u T1 6 j4 ((T1 6 j4) + 1)) := by
  refine gm_aload_n dX11_sendsProtected_0 rfl ?_
  refine gm_callV (r1 := (some (.int r1))) (own := RX11) rfl dX11_sendsProtected_1 llX11_159 mvX11_hasRoom sM_0 rfl [] [] rfl rfl (Nat.le_of_ble_eq_true rfl) (by decide) rfl h2 rfl ?_
  refine gm_if_ne_t (tgt := 9) dX11_sendsProtected_4 (by decide) c3 ?_
  refine gm_aload_n dX11_sendsProtected_9 rfl ?_
  refine gm_getR (own := RX11) (q := 6) rfl dX11_sendsProtected_10 lfX11_35 sM_0 rfl ?_
  refine gm_iload_n dX11_sendsProtected_13 rfl ?_
  refine gm_iald (j := j4) (x := (S 6 j4)) dX11_sendsProtected_14 sM_6 ij4 rfl ?_
  refine gm_aload_n dX11_sendsProtected_15 rfl ?_
  refine gm_getI (own := RX11) (x := (S 0 0)) rfl dX11_sendsProtected_16 lfX11_7 sM_0 rfl rfl ?_
  refine gm_icmp_lt_f dX11_sendsProtected_19 ⟨39, by decide⟩ c5 ?_
  refine gm_aload_n dX11_sendsProtected_22 rfl ?_
  refine gm_getR (own := RX11) (q := 5) rfl dX11_sendsProtected_23 lfX11_32 sM_0 rfl ?_
  refine gm_iload_n dX11_sendsProtected_26 rfl ?_
  refine gm_dup2 dX11_sendsProtected_27 ?_
  refine gm_iald (j := j4) (x := (S 5 j4)) dX11_sendsProtected_28 sM_5 ij4 rfl ?_
  refine gm_iconst (v := 1) dX11_sendsProtected_29 (by decide) ?_
  refine gm_iadd dX11_sendsProtected_30 rfl ?_
  refine gm_iast (j := j4) dX11_sendsProtected_31 sM_5 ij4 ?_
  refine gm_aload_n dX11_sendsProtected_32 rfl ?_
  refine gm_getR (own := RX11) (q := 6) rfl dX11_sendsProtected_33 lfX11_35 sM_0 rfl ?_
  refine gm_iload_n dX11_sendsProtected_36 rfl ?_
  refine gm_iconst (v := 0) dX11_sendsProtected_37 (by decide) ?_
  refine gm_iast (j := j4) dX11_sendsProtected_38 sM_6 ij4 ?_
  refine gm_aload_n dX11_sendsProtected_39 rfl ?_
  refine gm_iload_n dX11_sendsProtected_40 rfl ?_
  refine gm_iload_n dX11_sendsProtected_41 rfl ?_
  refine gm_aload_n dX11_sendsProtected_42 rfl ?_
  refine gm_getR (own := RX11) (q := 2) rfl dX11_sendsProtected_43 lfX11_23 sM_0 rfl ?_
  refine gm_iload_n dX11_sendsProtected_46 rfl ?_
  refine gm_iald (j := j4) (x := (S 2 j4)) dX11_sendsProtected_47 sM_2 ij4 ((gm_rp (by omega)).trans (gm_rp (by omega))) ?_
  refine gm_aload_n dX11_sendsProtected_48 rfl ?_
  refine gm_getR (own := RX11) (q := 5) rfl dX11_sendsProtected_49 lfX11_32 sM_0 rfl ?_
  refine gm_iload_n dX11_sendsProtected_52 rfl ?_
  refine gm_iald (j := j4) (x := ((S 5 j4) + 1)) dX11_sendsProtected_53 sM_5 ij4 ((gm_rp (by omega)).trans (gm_rS _ _ _ _)) ?_
  refine gm_aload_n dX11_sendsProtected_54 rfl ?_
  refine gm_getR (own := RX11) (q := 6) rfl dX11_sendsProtected_55 lfX11_35 sM_0 rfl ?_
  refine gm_iload_n dX11_sendsProtected_58 rfl ?_
  refine gm_iald (j := j4) (x := 0) dX11_sendsProtected_59 sM_6 ij4 (gm_rS _ _ _ _) ?_
  refine gm_iload_n dX11_sendsProtected_60 rfl ?_
  refine gm_iload dX11_sendsProtected_61 rfl ?_
  refine gm_aload_n dX11_sendsProtected_63 rfl ?_
  refine gm_getR (own := RX11) (q := 13) rfl dX11_sendsProtected_64 lfX11_56 sM_0 rfl ?_
  refine gm_iload_n dX11_sendsProtected_67 rfl ?_
  refine gm_iald (j := j4) (x := (S 13 j4)) dX11_sendsProtected_68 sM_13 ij4 ((gm_rp (by omega)).trans (gm_rp (by omega))) ?_
  refine gm_aload_n dX11_sendsProtected_69 rfl ?_
  refine gm_getR (own := RX11) (q := 4) rfl dX11_sendsProtected_70 lfX11_29 sM_0 rfl ?_
  refine gm_iload_n dX11_sendsProtected_73 rfl ?_
  refine gm_iald (j := j4) (x := (S 4 j4)) dX11_sendsProtected_74 sM_4 ij4 ((gm_rp (by omega)).trans (gm_rp (by omega))) ?_
  refine gm_iload_n dX11_sendsProtected_75 rfl ?_
  refine gm_aload_n dX11_sendsProtected_76 rfl ?_
  refine gm_getR (own := RX11) (q := 5) rfl dX11_sendsProtected_77 lfX11_32 sM_0 rfl ?_
  refine gm_iload_n dX11_sendsProtected_80 rfl ?_
  refine gm_iald (j := j4) (x := ((S 5 j4) + 1)) dX11_sendsProtected_81 sM_5 ij4 ((gm_rp (by omega)).trans (gm_rS _ _ _ _)) ?_
  refine gm_aload_n dX11_sendsProtected_82 rfl ?_
  refine gm_getR (own := RX11) (q := 6) rfl dX11_sendsProtected_83 lfX11_35 sM_0 rfl ?_
  refine gm_iload_n dX11_sendsProtected_86 rfl ?_
  refine gm_iald (j := j4) (x := 0) dX11_sendsProtected_87 sM_6 ij4 (gm_rS _ _ _ _) ?_
  refine gm_iload_n dX11_sendsProtected_88 rfl ?_
  refine gm_iload_n dX11_sendsProtected_89 rfl ?_
  refine gm_iload dX11_sendsProtected_90 rfl ?_
  refine gm_aload_n dX11_sendsProtected_92 rfl ?_
  refine gm_getR (own := RX11) (q := 13) rfl dX11_sendsProtected_93 lfX11_56 sM_0 rfl ?_
  refine gm_iload_n dX11_sendsProtected_96 rfl ?_
  refine gm_iald (j := j4) (x := (S 13 j4)) dX11_sendsProtected_97 sM_13 ij4 ((gm_rp (by omega)).trans (gm_rp (by omega))) ?_
  refine gm_callS (r1 := (some (.int r6))) (own := RX11) rfl dX11_sendsProtected_98 llX11_171 msX11_tagOf [.int (S 4 j4), .int a1, .int ((S 5 j4) + 1), .int 0, .int a2, .int a3, .int a4, .int (S 13 j4)] [.int (S 13 j4), .int a4, .int a3, .int 0, .int ((S 5 j4) + 1), .int (S 2 j4), .int a2, .int a1, .ref 0] rfl rfl (Nat.le_of_ble_eq_true rfl) (by decide) rfl h7 rfl ?_
  refine gm_callV (r1 := none) (own := RX11) rfl dX11_sendsProtected_101 llX11_163 mvX11_appends sM_0 rfl [.int a1, .int a2, .int (S 2 j4), .int ((S 5 j4) + 1), .int 0, .int a3, .int a4, .int (S 13 j4), .int r6] [] rfl rfl (Nat.le_of_ble_eq_true rfl) (by decide) rfl h8 rfl ?_
  refine gm_aload_n dX11_sendsProtected_104 rfl ?_
  refine gm_getR (own := RX11) (q := 6) rfl dX11_sendsProtected_105 lfX11_35 sM_0 rfl ?_
  refine gm_iload_n dX11_sendsProtected_108 rfl ?_
  refine gm_dup2 dX11_sendsProtected_109 ?_
  refine gm_iald (j := j4) (x := (T1 6 j4)) dX11_sendsProtected_110 sM_6 ij4 rfl ?_
  refine gm_iconst (v := 1) dX11_sendsProtected_111 (by decide) ?_
  refine gm_iadd dX11_sendsProtected_112 rfl ?_
  refine gm_iast (j := j4) dX11_sendsProtected_113 sM_6 ij4 ?_
  refine gm_iconst (v := 1) dX11_sendsProtected_114 (by decide) ?_
  exact gm_zret dX11_sendsProtected_115 rfl gm_fit_1
/-- X11_sendsProtected 0 [4t 19t] -> ret  -/
theorem PX11_sendsProtected_3 {a1 : Int32} {a2 : Int32} {a3 : Int32} {a4 : Int32} {S : gm_Mem} {r1 : Int32} {j4 : Nat} {r6 : Int32} {T1 : gm_Mem} (h2 : gm_run gM 0 YX11_hasRoom 0 [some (.ref 0)] [] S (some (.int r1)) S) (c3 : ¬ r1 = 0) (ij4 : gm_ix a1 j4 2) (c5 : (S 6 j4) < (S 0 0)) (h7 : gm_run gM 1 YX11_tagOf 0 [some (.int (S 4 j4)), some (.int a1), some (.int (S 5 j4)), some (.int (S 6 j4)), some (.int a2), some (.int a3), some (.int a4), some (.int (S 13 j4)), none] [] S (some (.int r6)) S) (h8 : gm_run gM 1 YX11_appends 0 [some (.ref 0), some (.int a1), some (.int a2), some (.int (S 2 j4)), some (.int (S 5 j4)), some (.int (S 6 j4)), some (.int a3), some (.int a4), some (.int (S 13 j4)), some (.int r6), none] [] S none T1) : gm_run gM 2 YX11_sendsProtected 0 [some (.ref 0), some (.int a1), some (.int a2), some (.int a3), some (.int a4)] [] S (some (.int 1)) (gm_u T1 6 j4 ((T1 6 j4) + 1)) := by
  refine gm_aload_n dX11_sendsProtected_0 rfl ?_
  refine gm_callV (r1 := (some (.int r1))) (own := RX11) rfl dX11_sendsProtected_1 llX11_159 mvX11_hasRoom sM_0 rfl [] [] rfl rfl (Nat.le_of_ble_eq_true rfl) (by decide) rfl h2 rfl ?_
  refine gm_if_ne_t (tgt := 9) dX11_sendsProtected_4 (by decide) c3 ?_
  refine gm_aload_n dX11_sendsProtected_9 rfl ?_
  refine gm_getR (own := RX11) (q := 6) rfl dX11_sendsProtected_10 lfX11_35 sM_0 rfl ?_
  refine gm_iload_n dX11_sendsProtected_13 rfl ?_
  refine gm_iald (j := j4) (x := (S 6 j4)) dX11_sendsProtected_14 sM_6 ij4 rfl ?_
  refine gm_aload_n dX11_sendsProtected_15 rfl ?_
  refine gm_getI (own := RX11) (x := (S 0 0)) rfl dX11_sendsProtected_16 lfX11_7 sM_0 rfl rfl ?_
  refine gm_icmp_lt_t (tgt := 39) dX11_sendsProtected_19 (by decide) c5 ?_
  refine gm_aload_n dX11_sendsProtected_39 rfl ?_
  refine gm_iload_n dX11_sendsProtected_40 rfl ?_
  refine gm_iload_n dX11_sendsProtected_41 rfl ?_
  refine gm_aload_n dX11_sendsProtected_42 rfl ?_
  refine gm_getR (own := RX11) (q := 2) rfl dX11_sendsProtected_43 lfX11_23 sM_0 rfl ?_
  refine gm_iload_n dX11_sendsProtected_46 rfl ?_
  refine gm_iald (j := j4) (x := (S 2 j4)) dX11_sendsProtected_47 sM_2 ij4 rfl ?_
  refine gm_aload_n dX11_sendsProtected_48 rfl ?_
  refine gm_getR (own := RX11) (q := 5) rfl dX11_sendsProtected_49 lfX11_32 sM_0 rfl ?_
  refine gm_iload_n dX11_sendsProtected_52 rfl ?_
  refine gm_iald (j := j4) (x := (S 5 j4)) dX11_sendsProtected_53 sM_5 ij4 rfl ?_
  refine gm_aload_n dX11_sendsProtected_54 rfl ?_
  refine gm_getR (own := RX11) (q := 6) rfl dX11_sendsProtected_55 lfX11_35 sM_0 rfl ?_
  refine gm_iload_n dX11_sendsProtected_58 rfl ?_
  refine gm_iald (j := j4) (x := (S 6 j4)) dX11_sendsProtected_59 sM_6 ij4 rfl ?_
  refine gm_iload_n dX11_sendsProtected_60 rfl ?_
  refine gm_iload dX11_sendsProtected_61 rfl ?_
  refine gm_aload_n dX11_sendsProtected_63 rfl ?_
  refine gm_getR (own := RX11) (q := 13) rfl dX11_sendsProtected_64 lfX11_56 sM_0 rfl ?_
  refine gm_iload_n dX11_sendsProtected_67 rfl ?_
  refine gm_iald (j := j4) (x := (S 13 j4)) dX11_sendsProtected_68 sM_13 ij4 rfl ?_
  refine gm_aload_n dX11_sendsProtected_69 rfl ?_
  refine gm_getR (own := RX11) (q := 4) rfl dX11_sendsProtected_70 lfX11_29 sM_0 rfl ?_
  refine gm_iload_n dX11_sendsProtected_73 rfl ?_
  refine gm_iald (j := j4) (x := (S 4 j4)) dX11_sendsProtected_74 sM_4 ij4 rfl ?_
  refine gm_iload_n dX11_sendsProtected_75 rfl ?_
  refine gm_aload_n dX11_sendsProtected_76 rfl ?_
  refine gm_getR (own := RX11) (q := 5) rfl dX11_sendsProtected_77 lfX11_32 sM_0 rfl ?_
  refine gm_iload_n dX11_sendsProtected_80 rfl ?_
  refine gm_iald (j := j4) (x := (S 5 j4)) dX11_sendsProtected_81 sM_5 ij4 rfl ?_
  refine gm_aload_n dX11_sendsProtected_82 rfl ?_
  refine gm_getR (own := RX11) (q := 6) rfl dX11_sendsProtected_83 lfX11_35 sM_0 rfl ?_
  refine gm_iload_n dX11_sendsProtected_86 rfl ?_
  refine gm_iald (j := j4) (x := (S 6 j4)) dX11_sendsProtected_87 sM_6 ij4 rfl ?_
  refine gm_iload_n dX11_sendsProtected_88 rfl ?_
  refine gm_iload_n dX11_sendsProtected_89 rfl ?_
  refine gm_iload dX11_sendsProtected_90 rfl ?_
  refine gm_aload_n dX11_sendsProtected_92 rfl ?_
  refine gm_getR (own := RX11) (q := 13) rfl dX11_sendsProtected_93 lfX11_56 sM_0 rfl ?_
  refine gm_iload_n dX11_sendsProtected_96 rfl ?_
  refine gm_iald (j := j4) (x := (S 13 j4)) dX11_sendsProtected_97 sM_13 ij4 rfl ?_
  refine gm_callS (r1 := (some (.int r6))) (own := RX11) rfl dX11_sendsProtected_98 llX11_171 msX11_tagOf [.int (S 4 j4), .int a1, .int (S 5 j4), .int (S 6 j4), .int a2, .int a3, .int a4, .int (S 13 j4)] [.int (S 13 j4), .int a4, .int a3, .int (S 6 j4), .int (S 5 j4), .int (S 2 j4), .int a2, .int a1, .ref 0] rfl rfl (Nat.le_of_ble_eq_true rfl) (by decide) rfl h7 rfl ?_
  refine gm_callV (r1 := none) (own := RX11) rfl dX11_sendsProtected_101 llX11_163 mvX11_appends sM_0 rfl [.int a1, .int a2, .int (S 2 j4), .int (S 5 j4), .int (S 6 j4), .int a3, .int a4, .int (S 13 j4), .int r6] [] rfl rfl (Nat.le_of_ble_eq_true rfl) (by decide) rfl h8 rfl ?_
  refine gm_aload_n dX11_sendsProtected_104 rfl ?_
  refine gm_getR (own := RX11) (q := 6) rfl dX11_sendsProtected_105 lfX11_35 sM_0 rfl ?_
  refine gm_iload_n dX11_sendsProtected_108 rfl ?_
  refine gm_dup2 dX11_sendsProtected_109 ?_
  refine gm_iald (j := j4) (x := (T1 6 j4)) dX11_sendsProtected_110 sM_6 ij4 rfl ?_
  refine gm_iconst (v := 1) dX11_sendsProtected_111 (by decide) ?_
  refine gm_iadd dX11_sendsProtected_112 rfl ?_
  refine gm_iast (j := j4) dX11_sendsProtected_113 sM_6 ij4 ?_
  refine gm_iconst (v := 1) dX11_sendsProtected_114 (by decide) ?_
  exact gm_zret dX11_sendsProtected_115 rfl gm_fit_1
/-- X11_sendsDue 0 [7f] -> ret  -/
theorem PX11_sendsDue_1 {a1 : Int32} {S : gm_Mem} {j1 : Nat} (ij1 : gm_ix a1 j1 2) (c2 : ¬ (S 1 j1) = 3) : gm_run gM 3 YX11_sendsDue 0 [some (.ref 0), some (.int a1), none, none] [] S none S := by
  refine gm_aload_n dX11_sendsDue_0 rfl ?_
  refine gm_getR (own := RX11) (q := 1) rfl dX11_sendsDue_1 lfX11_19 sM_0 rfl ?_
  refine gm_iload_n dX11_sendsDue_4 rfl ?_
  refine gm_iald (j := j1) (x := (S 1 j1)) dX11_sendsDue_5 sM_1 ij1 rfl ?_
  refine gm_iconst (v := 3) dX11_sendsDue_6 (by decide) ?_
  refine gm_icmp_eq_f dX11_sendsDue_7 ⟨11, by decide⟩ c2 ?_
  exact gm_vret dX11_sendsDue_10 rfl
/-- X11_sendsDue 0 [7t] -> cut 13 -/
theorem PX11_sendsDue_2 {a1 : Int32} {S : gm_Mem} {j1 : Nat} {r : Option Value} {S2 : gm_Mem} (ij1 : gm_ix a1 j1 2) (c2 : (S 1 j1) = 3) (K : gm_run gM 3 YX11_sendsDue 13 [some (.ref 0), some (.int a1), some (.int 0), none] [] S r S2) : gm_run gM 3 YX11_sendsDue 0 [some (.ref 0), some (.int a1), none, none] [] S r S2 := by
  refine gm_aload_n dX11_sendsDue_0 rfl ?_
  refine gm_getR (own := RX11) (q := 1) rfl dX11_sendsDue_1 lfX11_19 sM_0 rfl ?_
  refine gm_iload_n dX11_sendsDue_4 rfl ?_
  refine gm_iald (j := j1) (x := (S 1 j1)) dX11_sendsDue_5 sM_1 ij1 rfl ?_
  refine gm_iconst (v := 3) dX11_sendsDue_6 (by decide) ?_
  refine gm_icmp_eq_t (tgt := 11) dX11_sendsDue_7 (by decide) c2 ?_
  refine gm_iconst (v := 0) dX11_sendsDue_11 (by decide) ?_
  refine gm_istore_n (L' := [some (.ref 0), some (.int a1), some (.int 0), none]) dX11_sendsDue_12 (by decide) rfl ?_
  exact K
/-- X11_sendsDue 13 [20f 47f] -> ret  -/
theorem PX11_sendsDue_3 {x1 : Int32} {x2 : Int32} {S : gm_Mem} {j1 : Nat} {j3 : Nat} {j4 : Nat} (ij1 : gm_ix x1 j1 2) (c2 : x2 < (S 18 j1)) (ij3 : gm_ix ((16 * x1) + x2) j3 32) (ij4 : gm_ix (16 * x1) j4 32) (c5 : ¬ (S 20 j3) < ((S 20 j4) + 3)) : gm_run gM 3 YX11_sendsDue 13 [some (.ref 0), some (.int x1), some (.int x2), none] [] S none S := by
  refine gm_iload_n dX11_sendsDue_13 rfl ?_
  refine gm_aload_n dX11_sendsDue_14 rfl ?_
  refine gm_getR (own := RX11) (q := 18) rfl dX11_sendsDue_15 lfX11_71 sM_0 rfl ?_
  refine gm_iload_n dX11_sendsDue_18 rfl ?_
  refine gm_iald (j := j1) (x := (S 18 j1)) dX11_sendsDue_19 sM_18 ij1 rfl ?_
  refine gm_icmp_ge_f dX11_sendsDue_20 ⟨116, by decide⟩ c2 ?_
  refine gm_bipush (v := 16) dX11_sendsDue_23 (by decide) ?_
  refine gm_iload_n dX11_sendsDue_25 rfl ?_
  refine gm_imul dX11_sendsDue_26 rfl ?_
  refine gm_iload_n dX11_sendsDue_27 rfl ?_
  refine gm_iadd dX11_sendsDue_28 rfl ?_
  refine gm_istore_n (L' := [some (.ref 0), some (.int x1), some (.int x2), some (.int ((16 * x1) + x2))]) dX11_sendsDue_29 (by decide) rfl ?_
  refine gm_aload_n dX11_sendsDue_30 rfl ?_
  refine gm_getR (own := RX11) (q := 20) rfl dX11_sendsDue_31 lfX11_77 sM_0 rfl ?_
  refine gm_iload_n dX11_sendsDue_34 rfl ?_
  refine gm_iald (j := j3) (x := (S 20 j3)) dX11_sendsDue_35 sM_20 ij3 rfl ?_
  refine gm_aload_n dX11_sendsDue_36 rfl ?_
  refine gm_getR (own := RX11) (q := 20) rfl dX11_sendsDue_37 lfX11_77 sM_0 rfl ?_
  refine gm_bipush (v := 16) dX11_sendsDue_40 (by decide) ?_
  refine gm_iload_n dX11_sendsDue_42 rfl ?_
  refine gm_imul dX11_sendsDue_43 rfl ?_
  refine gm_iald (j := j4) (x := (S 20 j4)) dX11_sendsDue_44 sM_20 ij4 rfl ?_
  refine gm_iconst (v := 3) dX11_sendsDue_45 (by decide) ?_
  refine gm_iadd dX11_sendsDue_46 rfl ?_
  refine gm_icmp_lt_f dX11_sendsDue_47 ⟨51, by decide⟩ c5 ?_
  exact gm_vret dX11_sendsDue_50 rfl
/-- X11_sendsDue 13 [20f 47t 57f] -> cut 13 -/
theorem PX11_sendsDue_4 {x1 : Int32} {x2 : Int32} {S : gm_Mem} {j1 : Nat} {j3 : Nat} {j4 : Nat} {r : Option Value} {S2 : gm_Mem} (ij1 : gm_ix x1 j1 2) (c2 : x2 < (S 18 j1)) (ij3 : gm_ix ((16 * x1) + x2) j3 32) (ij4 : gm_ix (16 * x1) j4 32) (c5 : (S 20 j3) < ((S 20 j4) + 3)) (c6 : ¬ (S 23 j3) < 0) (K : gm_run gM 3 YX11_sendsDue 13 [some (.ref 0), some (.int x1), some (.int (x2 + 1)), none] [] S r S2) : gm_run gM 3 YX11_sendsDue 13 [some (.ref 0), some (.int x1), some (.int x2), none] [] S r S2 := by
  refine gm_iload_n dX11_sendsDue_13 rfl ?_
  refine gm_aload_n dX11_sendsDue_14 rfl ?_
  refine gm_getR (own := RX11) (q := 18) rfl dX11_sendsDue_15 lfX11_71 sM_0 rfl ?_
  refine gm_iload_n dX11_sendsDue_18 rfl ?_
  refine gm_iald (j := j1) (x := (S 18 j1)) dX11_sendsDue_19 sM_18 ij1 rfl ?_
  refine gm_icmp_ge_f dX11_sendsDue_20 ⟨116, by decide⟩ c2 ?_
  refine gm_bipush (v := 16) dX11_sendsDue_23 (by decide) ?_
  refine gm_iload_n dX11_sendsDue_25 rfl ?_
  refine gm_imul dX11_sendsDue_26 rfl ?_
  refine gm_iload_n dX11_sendsDue_27 rfl ?_
  refine gm_iadd dX11_sendsDue_28 rfl ?_
  refine gm_istore_n (L' := [some (.ref 0), some (.int x1), some (.int x2), some (.int ((16 * x1) + x2))]) dX11_sendsDue_29 (by decide) rfl ?_
  refine gm_aload_n dX11_sendsDue_30 rfl ?_
  refine gm_getR (own := RX11) (q := 20) rfl dX11_sendsDue_31 lfX11_77 sM_0 rfl ?_
  refine gm_iload_n dX11_sendsDue_34 rfl ?_
  refine gm_iald (j := j3) (x := (S 20 j3)) dX11_sendsDue_35 sM_20 ij3 rfl ?_
  refine gm_aload_n dX11_sendsDue_36 rfl ?_
  refine gm_getR (own := RX11) (q := 20) rfl dX11_sendsDue_37 lfX11_77 sM_0 rfl ?_
  refine gm_bipush (v := 16) dX11_sendsDue_40 (by decide) ?_
  refine gm_iload_n dX11_sendsDue_42 rfl ?_
  refine gm_imul dX11_sendsDue_43 rfl ?_
  refine gm_iald (j := j4) (x := (S 20 j4)) dX11_sendsDue_44 sM_20 ij4 rfl ?_
  refine gm_iconst (v := 3) dX11_sendsDue_45 (by decide) ?_
  refine gm_iadd dX11_sendsDue_46 rfl ?_
  refine gm_icmp_lt_t (tgt := 51) dX11_sendsDue_47 (by decide) c5 ?_
  refine gm_aload_n dX11_sendsDue_51 rfl ?_
  refine gm_getR (own := RX11) (q := 23) rfl dX11_sendsDue_52 lfX11_86 sM_0 rfl ?_
  refine gm_iload_n dX11_sendsDue_55 rfl ?_
  refine gm_iald (j := j3) (x := (S 23 j3)) dX11_sendsDue_56 sM_23 ij3 rfl ?_
  refine gm_if_lt_f dX11_sendsDue_57 ⟨63, by decide⟩ c6 ?_
  refine gm_goto (tgt := 110) dX11_sendsDue_60 (by decide) ?_
  refine gm_iinc (L' := [some (.ref 0), some (.int x1), some (.int (x2 + 1)), some (.int ((16 * x1) + x2))]) (v := (x2 + 1)) dX11_sendsDue_110 rfl rfl (by decide) rfl ?_
  refine gm_goto (tgt := 13) dX11_sendsDue_113 (by decide) ?_
  refine gm_forget (L2 := [some (.ref 0), some (.int x1), some (.int (x2 + 1)), none]) (by simp [gm_sub]) ?_
  exact K
/-- X11_sendsDue 13 [20f 47t 57t 72f 96f] -> ret  -/
theorem PX11_sendsDue_5 {x1 : Int32} {x2 : Int32} {S : gm_Mem} {j1 : Nat} {j3 : Nat} {j4 : Nat} {T1 : gm_Mem} {r8 : Int32} (ij1 : gm_ix x1 j1 2) (c2 : x2 < (S 18 j1)) (ij3 : gm_ix ((16 * x1) + x2) j3 32) (ij4 : gm_ix (16 * x1) j4 32) (c5 : (S 20 j3) < ((S 20 j4) + 3)) (c6 : (S 23 j3) < 0) (c7 : (S 22 j3) = 1) (h9 : gm_run gM 2 YX11_sendsProtected 0 [some (.ref 0), some (.int x1), some (.int 7), some (.int (S 20 j3)), some (.int (S 21 j3))] [] S (some (.int r8)) T1) (c10 : r8 = 0) : gm_run gM 3 YX11_sendsDue 13 [some (.ref 0), some (.int x1), some (.int x2), none] [] S none T1 := by
  refine gm_iload_n dX11_sendsDue_13 rfl ?_
  refine gm_aload_n dX11_sendsDue_14 rfl ?_
  refine gm_getR (own := RX11) (q := 18) rfl dX11_sendsDue_15 lfX11_71 sM_0 rfl ?_
  refine gm_iload_n dX11_sendsDue_18 rfl ?_
  refine gm_iald (j := j1) (x := (S 18 j1)) dX11_sendsDue_19 sM_18 ij1 rfl ?_
  refine gm_icmp_ge_f dX11_sendsDue_20 ⟨116, by decide⟩ c2 ?_
  refine gm_bipush (v := 16) dX11_sendsDue_23 (by decide) ?_
  refine gm_iload_n dX11_sendsDue_25 rfl ?_
  refine gm_imul dX11_sendsDue_26 rfl ?_
  refine gm_iload_n dX11_sendsDue_27 rfl ?_
  refine gm_iadd dX11_sendsDue_28 rfl ?_
  refine gm_istore_n (L' := [some (.ref 0), some (.int x1), some (.int x2), some (.int ((16 * x1) + x2))]) dX11_sendsDue_29 (by decide) rfl ?_
  refine gm_aload_n dX11_sendsDue_30 rfl ?_
  refine gm_getR (own := RX11) (q := 20) rfl dX11_sendsDue_31 lfX11_77 sM_0 rfl ?_
  refine gm_iload_n dX11_sendsDue_34 rfl ?_
  refine gm_iald (j := j3) (x := (S 20 j3)) dX11_sendsDue_35 sM_20 ij3 rfl ?_
  refine gm_aload_n dX11_sendsDue_36 rfl ?_
  refine gm_getR (own := RX11) (q := 20) rfl dX11_sendsDue_37 lfX11_77 sM_0 rfl ?_
  refine gm_bipush (v := 16) dX11_sendsDue_40 (by decide) ?_
  refine gm_iload_n dX11_sendsDue_42 rfl ?_
  refine gm_imul dX11_sendsDue_43 rfl ?_
  refine gm_iald (j := j4) (x := (S 20 j4)) dX11_sendsDue_44 sM_20 ij4 rfl ?_
  refine gm_iconst (v := 3) dX11_sendsDue_45 (by decide) ?_
  refine gm_iadd dX11_sendsDue_46 rfl ?_
  refine gm_icmp_lt_t (tgt := 51) dX11_sendsDue_47 (by decide) c5 ?_
  refine gm_aload_n dX11_sendsDue_51 rfl ?_
  refine gm_getR (own := RX11) (q := 23) rfl dX11_sendsDue_52 lfX11_86 sM_0 rfl ?_
  refine gm_iload_n dX11_sendsDue_55 rfl ?_
  refine gm_iald (j := j3) (x := (S 23 j3)) dX11_sendsDue_56 sM_23 ij3 rfl ?_
  refine gm_if_lt_t (tgt := 63) dX11_sendsDue_57 (by decide) c6 ?_
  refine gm_aload_n dX11_sendsDue_63 rfl ?_
  refine gm_iload_n dX11_sendsDue_64 rfl ?_
  refine gm_aload_n dX11_sendsDue_65 rfl ?_
  refine gm_getR (own := RX11) (q := 22) rfl dX11_sendsDue_66 lfX11_83 sM_0 rfl ?_
  refine gm_iload_n dX11_sendsDue_69 rfl ?_
  refine gm_iald (j := j3) (x := (S 22 j3)) dX11_sendsDue_70 sM_22 ij3 rfl ?_
  refine gm_iconst (v := 1) dX11_sendsDue_71 (by decide) ?_
  refine gm_icmp_ne_f dX11_sendsDue_72 ⟨80, by decide⟩ c7 ?_
  refine gm_bipush (v := 7) dX11_sendsDue_75 (by decide) ?_
  refine gm_goto (tgt := 81) dX11_sendsDue_77 (by decide) ?_
  refine gm_aload_n dX11_sendsDue_81 rfl ?_
  refine gm_getR (own := RX11) (q := 20) rfl dX11_sendsDue_82 lfX11_77 sM_0 rfl ?_
  refine gm_iload_n dX11_sendsDue_85 rfl ?_
  refine gm_iald (j := j3) (x := (S 20 j3)) dX11_sendsDue_86 sM_20 ij3 rfl ?_
  refine gm_aload_n dX11_sendsDue_87 rfl ?_
  refine gm_getR (own := RX11) (q := 21) rfl dX11_sendsDue_88 lfX11_80 sM_0 rfl ?_
  refine gm_iload_n dX11_sendsDue_91 rfl ?_
  refine gm_iald (j := j3) (x := (S 21 j3)) dX11_sendsDue_92 sM_21 ij3 rfl ?_
  refine gm_callV (r1 := (some (.int r8))) (own := RX11) rfl dX11_sendsDue_93 llX11_175 mvX11_sendsProtected sM_0 rfl [.int x1, .int 7, .int (S 20 j3), .int (S 21 j3)] [] rfl rfl (Nat.le_of_ble_eq_true rfl) (by decide) rfl h9 rfl ?_
  refine gm_if_ne_f dX11_sendsDue_96 ⟨100, by decide⟩ c10 ?_
  exact gm_vret dX11_sendsDue_99 rfl
/-- X11_sendsDue 13 [20f 47t 57t 72f 96t] -> cut 13 -/
theorem PX11_sendsDue_6 {x1 : Int32} {x2 : Int32} {S : gm_Mem} {j1 : Nat} {j3 : Nat} {j4 : Nat} {T1 : gm_Mem} {r8 : Int32} {r : Option Value} {S2 : gm_Mem} (ij1 : gm_ix x1 j1 2) (c2 : x2 < (S 18 j1)) (ij3 : gm_ix ((16 * x1) + x2) j3 32) (ij4 : gm_ix (16 * x1) j4 32) (c5 : (S 20 j3) < ((S 20 j4) + 3)) (c6 : (S 23 j3) < 0) (c7 : (S 22 j3) = 1) (h9 : gm_run gM 2 YX11_sendsProtected 0 [some (.ref 0), some (.int x1), some (.int 7), some (.int (S 20 j3)), some (.int (S 21 j3))] [] S (some (.int r8)) T1) (c10 : ¬ r8 = 0) (K : gm_run gM 3 YX11_sendsDue 13 [some (.ref 0), some (.int x1), some (.int (x2 + 1)), none] [] (gm_u T1 23 j3 (T1 0 4)) r S2) : gm_run gM 3 YX11_sendsDue 13 [some (.ref 0), some (.int x1), some (.int x2), none] [] S r S2 := by
  refine gm_iload_n dX11_sendsDue_13 rfl ?_
  refine gm_aload_n dX11_sendsDue_14 rfl ?_
  refine gm_getR (own := RX11) (q := 18) rfl dX11_sendsDue_15 lfX11_71 sM_0 rfl ?_
  refine gm_iload_n dX11_sendsDue_18 rfl ?_
  refine gm_iald (j := j1) (x := (S 18 j1)) dX11_sendsDue_19 sM_18 ij1 rfl ?_
  refine gm_icmp_ge_f dX11_sendsDue_20 ⟨116, by decide⟩ c2 ?_
  refine gm_bipush (v := 16) dX11_sendsDue_23 (by decide) ?_
  refine gm_iload_n dX11_sendsDue_25 rfl ?_
  refine gm_imul dX11_sendsDue_26 rfl ?_
  refine gm_iload_n dX11_sendsDue_27 rfl ?_
  refine gm_iadd dX11_sendsDue_28 rfl ?_
  refine gm_istore_n (L' := [some (.ref 0), some (.int x1), some (.int x2), some (.int ((16 * x1) + x2))]) dX11_sendsDue_29 (by decide) rfl ?_
  refine gm_aload_n dX11_sendsDue_30 rfl ?_
  refine gm_getR (own := RX11) (q := 20) rfl dX11_sendsDue_31 lfX11_77 sM_0 rfl ?_
  refine gm_iload_n dX11_sendsDue_34 rfl ?_
  refine gm_iald (j := j3) (x := (S 20 j3)) dX11_sendsDue_35 sM_20 ij3 rfl ?_
  refine gm_aload_n dX11_sendsDue_36 rfl ?_
  refine gm_getR (own := RX11) (q := 20) rfl dX11_sendsDue_37 lfX11_77 sM_0 rfl ?_
  refine gm_bipush (v := 16) dX11_sendsDue_40 (by decide) ?_
  refine gm_iload_n dX11_sendsDue_42 rfl ?_
  refine gm_imul dX11_sendsDue_43 rfl ?_
  refine gm_iald (j := j4) (x := (S 20 j4)) dX11_sendsDue_44 sM_20 ij4 rfl ?_
  refine gm_iconst (v := 3) dX11_sendsDue_45 (by decide) ?_
  refine gm_iadd dX11_sendsDue_46 rfl ?_
  refine gm_icmp_lt_t (tgt := 51) dX11_sendsDue_47 (by decide) c5 ?_
  refine gm_aload_n dX11_sendsDue_51 rfl ?_
  refine gm_getR (own := RX11) (q := 23) rfl dX11_sendsDue_52 lfX11_86 sM_0 rfl ?_
  refine gm_iload_n dX11_sendsDue_55 rfl ?_
  refine gm_iald (j := j3) (x := (S 23 j3)) dX11_sendsDue_56 sM_23 ij3 rfl ?_
  refine gm_if_lt_t (tgt := 63) dX11_sendsDue_57 (by decide) c6 ?_
  refine gm_aload_n dX11_sendsDue_63 rfl ?_
  refine gm_iload_n dX11_sendsDue_64 rfl ?_
  refine gm_aload_n dX11_sendsDue_65 rfl ?_
  refine gm_getR (own := RX11) (q := 22) rfl dX11_sendsDue_66 lfX11_83 sM_0 rfl ?_
  refine gm_iload_n dX11_sendsDue_69 rfl ?_
  refine gm_iald (j := j3) (x := (S 22 j3)) dX11_sendsDue_70 sM_22 ij3 rfl ?_
  refine gm_iconst (v := 1) dX11_sendsDue_71 (by decide) ?_
  refine gm_icmp_ne_f dX11_sendsDue_72 ⟨80, by decide⟩ c7 ?_
  refine gm_bipush (v := 7) dX11_sendsDue_75 (by decide) ?_
  refine gm_goto (tgt := 81) dX11_sendsDue_77 (by decide) ?_
  refine gm_aload_n dX11_sendsDue_81 rfl ?_
  refine gm_getR (own := RX11) (q := 20) rfl dX11_sendsDue_82 lfX11_77 sM_0 rfl ?_
  refine gm_iload_n dX11_sendsDue_85 rfl ?_
  refine gm_iald (j := j3) (x := (S 20 j3)) dX11_sendsDue_86 sM_20 ij3 rfl ?_
  refine gm_aload_n dX11_sendsDue_87 rfl ?_
  refine gm_getR (own := RX11) (q := 21) rfl dX11_sendsDue_88 lfX11_80 sM_0 rfl ?_
  refine gm_iload_n dX11_sendsDue_91 rfl ?_
  refine gm_iald (j := j3) (x := (S 21 j3)) dX11_sendsDue_92 sM_21 ij3 rfl ?_
  refine gm_callV (r1 := (some (.int r8))) (own := RX11) rfl dX11_sendsDue_93 llX11_175 mvX11_sendsProtected sM_0 rfl [.int x1, .int 7, .int (S 20 j3), .int (S 21 j3)] [] rfl rfl (Nat.le_of_ble_eq_true rfl) (by decide) rfl h9 rfl ?_
  refine gm_if_ne_t (tgt := 100) dX11_sendsDue_96 (by decide) c10 ?_
  refine gm_aload_n dX11_sendsDue_100 rfl ?_
  refine gm_getR (own := RX11) (q := 23) rfl dX11_sendsDue_101 lfX11_86 sM_0 rfl ?_
  refine gm_iload_n dX11_sendsDue_104 rfl ?_
  refine gm_aload_n dX11_sendsDue_105 rfl ?_
  refine gm_getI (own := RX11) (x := (T1 0 4)) rfl dX11_sendsDue_106 lfX11_179 sM_0 rfl rfl ?_
  refine gm_iast (j := j3) dX11_sendsDue_109 sM_23 ij3 ?_
  refine gm_iinc (L' := [some (.ref 0), some (.int x1), some (.int (x2 + 1)), some (.int ((16 * x1) + x2))]) (v := (x2 + 1)) dX11_sendsDue_110 rfl rfl (by decide) rfl ?_
  refine gm_goto (tgt := 13) dX11_sendsDue_113 (by decide) ?_
  refine gm_forget (L2 := [some (.ref 0), some (.int x1), some (.int (x2 + 1)), none]) (by simp [gm_sub]) ?_
  exact K
/-- X11_sendsDue 13 [20f 47t 57t 72t 96f] -> ret  -/
theorem PX11_sendsDue_7 {x1 : Int32} {x2 : Int32} {S : gm_Mem} {j1 : Nat} {j3 : Nat} {j4 : Nat} {T1 : gm_Mem} {r8 : Int32} (ij1 : gm_ix x1 j1 2) (c2 : x2 < (S 18 j1)) (ij3 : gm_ix ((16 * x1) + x2) j3 32) (ij4 : gm_ix (16 * x1) j4 32) (c5 : (S 20 j3) < ((S 20 j4) + 3)) (c6 : (S 23 j3) < 0) (c7 : ¬ (S 22 j3) = 1) (h9 : gm_run gM 2 YX11_sendsProtected 0 [some (.ref 0), some (.int x1), some (.int 4), some (.int (S 20 j3)), some (.int (S 21 j3))] [] S (some (.int r8)) T1) (c10 : r8 = 0) : gm_run gM 3 YX11_sendsDue 13 [some (.ref 0), some (.int x1), some (.int x2), none] [] S none T1 := by
  refine gm_iload_n dX11_sendsDue_13 rfl ?_
  refine gm_aload_n dX11_sendsDue_14 rfl ?_
  refine gm_getR (own := RX11) (q := 18) rfl dX11_sendsDue_15 lfX11_71 sM_0 rfl ?_
  refine gm_iload_n dX11_sendsDue_18 rfl ?_
  refine gm_iald (j := j1) (x := (S 18 j1)) dX11_sendsDue_19 sM_18 ij1 rfl ?_
  refine gm_icmp_ge_f dX11_sendsDue_20 ⟨116, by decide⟩ c2 ?_
  refine gm_bipush (v := 16) dX11_sendsDue_23 (by decide) ?_
  refine gm_iload_n dX11_sendsDue_25 rfl ?_
  refine gm_imul dX11_sendsDue_26 rfl ?_
  refine gm_iload_n dX11_sendsDue_27 rfl ?_
  refine gm_iadd dX11_sendsDue_28 rfl ?_
  refine gm_istore_n (L' := [some (.ref 0), some (.int x1), some (.int x2), some (.int ((16 * x1) + x2))]) dX11_sendsDue_29 (by decide) rfl ?_
  refine gm_aload_n dX11_sendsDue_30 rfl ?_
  refine gm_getR (own := RX11) (q := 20) rfl dX11_sendsDue_31 lfX11_77 sM_0 rfl ?_
  refine gm_iload_n dX11_sendsDue_34 rfl ?_
  refine gm_iald (j := j3) (x := (S 20 j3)) dX11_sendsDue_35 sM_20 ij3 rfl ?_
  refine gm_aload_n dX11_sendsDue_36 rfl ?_
  refine gm_getR (own := RX11) (q := 20) rfl dX11_sendsDue_37 lfX11_77 sM_0 rfl ?_
  refine gm_bipush (v := 16) dX11_sendsDue_40 (by decide) ?_
  refine gm_iload_n dX11_sendsDue_42 rfl ?_
  refine gm_imul dX11_sendsDue_43 rfl ?_
  refine gm_iald (j := j4) (x := (S 20 j4)) dX11_sendsDue_44 sM_20 ij4 rfl ?_
  refine gm_iconst (v := 3) dX11_sendsDue_45 (by decide) ?_
  refine gm_iadd dX11_sendsDue_46 rfl ?_
  refine gm_icmp_lt_t (tgt := 51) dX11_sendsDue_47 (by decide) c5 ?_
  refine gm_aload_n dX11_sendsDue_51 rfl ?_
  refine gm_getR (own := RX11) (q := 23) rfl dX11_sendsDue_52 lfX11_86 sM_0 rfl ?_
  refine gm_iload_n dX11_sendsDue_55 rfl ?_
  refine gm_iald (j := j3) (x := (S 23 j3)) dX11_sendsDue_56 sM_23 ij3 rfl ?_
  refine gm_if_lt_t (tgt := 63) dX11_sendsDue_57 (by decide) c6 ?_
  refine gm_aload_n dX11_sendsDue_63 rfl ?_
  refine gm_iload_n dX11_sendsDue_64 rfl ?_
  refine gm_aload_n dX11_sendsDue_65 rfl ?_
  refine gm_getR (own := RX11) (q := 22) rfl dX11_sendsDue_66 lfX11_83 sM_0 rfl ?_
  refine gm_iload_n dX11_sendsDue_69 rfl ?_
  refine gm_iald (j := j3) (x := (S 22 j3)) dX11_sendsDue_70 sM_22 ij3 rfl ?_
  refine gm_iconst (v := 1) dX11_sendsDue_71 (by decide) ?_
  refine gm_icmp_ne_t (tgt := 80) dX11_sendsDue_72 (by decide) c7 ?_
  refine gm_iconst (v := 4) dX11_sendsDue_80 (by decide) ?_
  refine gm_aload_n dX11_sendsDue_81 rfl ?_
  refine gm_getR (own := RX11) (q := 20) rfl dX11_sendsDue_82 lfX11_77 sM_0 rfl ?_
  refine gm_iload_n dX11_sendsDue_85 rfl ?_
  refine gm_iald (j := j3) (x := (S 20 j3)) dX11_sendsDue_86 sM_20 ij3 rfl ?_
  refine gm_aload_n dX11_sendsDue_87 rfl ?_
  refine gm_getR (own := RX11) (q := 21) rfl dX11_sendsDue_88 lfX11_80 sM_0 rfl ?_
  refine gm_iload_n dX11_sendsDue_91 rfl ?_
  refine gm_iald (j := j3) (x := (S 21 j3)) dX11_sendsDue_92 sM_21 ij3 rfl ?_
  refine gm_callV (r1 := (some (.int r8))) (own := RX11) rfl dX11_sendsDue_93 llX11_175 mvX11_sendsProtected sM_0 rfl [.int x1, .int 4, .int (S 20 j3), .int (S 21 j3)] [] rfl rfl (Nat.le_of_ble_eq_true rfl) (by decide) rfl h9 rfl ?_
  refine gm_if_ne_f dX11_sendsDue_96 ⟨100, by decide⟩ c10 ?_
  exact gm_vret dX11_sendsDue_99 rfl
/-- X11_sendsDue 13 [20f 47t 57t 72t 96t] -> cut 13 -/
theorem PX11_sendsDue_8 {x1 : Int32} {x2 : Int32} {S : gm_Mem} {j1 : Nat} {j3 : Nat} {j4 : Nat} {T1 : gm_Mem} {r8 : Int32} {r : Option Value} {S2 : gm_Mem} (ij1 : gm_ix x1 j1 2) (c2 : x2 < (S 18 j1)) (ij3 : gm_ix ((16 * x1) + x2) j3 32) (ij4 : gm_ix (16 * x1) j4 32) (c5 : (S 20 j3) < ((S 20 j4) + 3)) (c6 : (S 23 j3) < 0) (c7 : ¬ (S 22 j3) = 1) (h9 : gm_run gM 2 YX11_sendsProtected 0 [some (.ref 0), some (.int x1), some (.int 4), some (.int (S 20 j3)), some (.int (S 21 j3))] [] S (some (.int r8)) T1) (c10 : ¬ r8 = 0) (K : gm_run gM 3 YX11_sendsDue 13 [some (.ref 0), some (.int x1), some (.int (x2 + 1)), none] [] (gm_u T1 23 j3 (T1 0 4)) r S2) : gm_run gM 3 YX11_sendsDue 13 [some (.ref 0), some (.int x1), some (.int x2), none] [] S r S2 := by
  refine gm_iload_n dX11_sendsDue_13 rfl ?_
  refine gm_aload_n dX11_sendsDue_14 rfl ?_
  refine gm_getR (own := RX11) (q := 18) rfl dX11_sendsDue_15 lfX11_71 sM_0 rfl ?_
  refine gm_iload_n dX11_sendsDue_18 rfl ?_
  refine gm_iald (j := j1) (x := (S 18 j1)) dX11_sendsDue_19 sM_18 ij1 rfl ?_
  refine gm_icmp_ge_f dX11_sendsDue_20 ⟨116, by decide⟩ c2 ?_
  refine gm_bipush (v := 16) dX11_sendsDue_23 (by decide) ?_
  refine gm_iload_n dX11_sendsDue_25 rfl ?_
  refine gm_imul dX11_sendsDue_26 rfl ?_
  refine gm_iload_n dX11_sendsDue_27 rfl ?_
  refine gm_iadd dX11_sendsDue_28 rfl ?_
  refine gm_istore_n (L' := [some (.ref 0), some (.int x1), some (.int x2), some (.int ((16 * x1) + x2))]) dX11_sendsDue_29 (by decide) rfl ?_
  refine gm_aload_n dX11_sendsDue_30 rfl ?_
  refine gm_getR (own := RX11) (q := 20) rfl dX11_sendsDue_31 lfX11_77 sM_0 rfl ?_
  refine gm_iload_n dX11_sendsDue_34 rfl ?_
  refine gm_iald (j := j3) (x := (S 20 j3)) dX11_sendsDue_35 sM_20 ij3 rfl ?_
  refine gm_aload_n dX11_sendsDue_36 rfl ?_
  refine gm_getR (own := RX11) (q := 20) rfl dX11_sendsDue_37 lfX11_77 sM_0 rfl ?_
  refine gm_bipush (v := 16) dX11_sendsDue_40 (by decide) ?_
  refine gm_iload_n dX11_sendsDue_42 rfl ?_
  refine gm_imul dX11_sendsDue_43 rfl ?_
  refine gm_iald (j := j4) (x := (S 20 j4)) dX11_sendsDue_44 sM_20 ij4 rfl ?_
  refine gm_iconst (v := 3) dX11_sendsDue_45 (by decide) ?_
  refine gm_iadd dX11_sendsDue_46 rfl ?_
  refine gm_icmp_lt_t (tgt := 51) dX11_sendsDue_47 (by decide) c5 ?_
  refine gm_aload_n dX11_sendsDue_51 rfl ?_
  refine gm_getR (own := RX11) (q := 23) rfl dX11_sendsDue_52 lfX11_86 sM_0 rfl ?_
  refine gm_iload_n dX11_sendsDue_55 rfl ?_
  refine gm_iald (j := j3) (x := (S 23 j3)) dX11_sendsDue_56 sM_23 ij3 rfl ?_
  refine gm_if_lt_t (tgt := 63) dX11_sendsDue_57 (by decide) c6 ?_
  refine gm_aload_n dX11_sendsDue_63 rfl ?_
  refine gm_iload_n dX11_sendsDue_64 rfl ?_
  refine gm_aload_n dX11_sendsDue_65 rfl ?_
  refine gm_getR (own := RX11) (q := 22) rfl dX11_sendsDue_66 lfX11_83 sM_0 rfl ?_
  refine gm_iload_n dX11_sendsDue_69 rfl ?_
  refine gm_iald (j := j3) (x := (S 22 j3)) dX11_sendsDue_70 sM_22 ij3 rfl ?_
  refine gm_iconst (v := 1) dX11_sendsDue_71 (by decide) ?_
  refine gm_icmp_ne_t (tgt := 80) dX11_sendsDue_72 (by decide) c7 ?_
  refine gm_iconst (v := 4) dX11_sendsDue_80 (by decide) ?_
  refine gm_aload_n dX11_sendsDue_81 rfl ?_
  refine gm_getR (own := RX11) (q := 20) rfl dX11_sendsDue_82 lfX11_77 sM_0 rfl ?_
  refine gm_iload_n dX11_sendsDue_85 rfl ?_
  refine gm_iald (j := j3) (x := (S 20 j3)) dX11_sendsDue_86 sM_20 ij3 rfl ?_
  refine gm_aload_n dX11_sendsDue_87 rfl ?_
  refine gm_getR (own := RX11) (q := 21) rfl dX11_sendsDue_88 lfX11_80 sM_0 rfl ?_
  refine gm_iload_n dX11_sendsDue_91 rfl ?_
  refine gm_iald (j := j3) (x := (S 21 j3)) dX11_sendsDue_92 sM_21 ij3 rfl ?_
  refine gm_callV (r1 := (some (.int r8))) (own := RX11) rfl dX11_sendsDue_93 llX11_175 mvX11_sendsProtected sM_0 rfl [.int x1, .int 4, .int (S 20 j3), .int (S 21 j3)] [] rfl rfl (Nat.le_of_ble_eq_true rfl) (by decide) rfl h9 rfl ?_
  refine gm_if_ne_t (tgt := 100) dX11_sendsDue_96 (by decide) c10 ?_
  refine gm_aload_n dX11_sendsDue_100 rfl ?_
  refine gm_getR (own := RX11) (q := 23) rfl dX11_sendsDue_101 lfX11_86 sM_0 rfl ?_
  refine gm_iload_n dX11_sendsDue_104 rfl ?_
  refine gm_aload_n dX11_sendsDue_105 rfl ?_
  refine gm_getI (own := RX11) (x := (T1 0 4)) rfl dX11_sendsDue_106 lfX11_179 sM_0 rfl rfl ?_
  refine gm_iast (j := j3) dX11_sendsDue_109 sM_23 ij3 ?_
  refine gm_iinc (L' := [some (.ref 0), some (.int x1), some (.int (x2 + 1)), some (.int ((16 * x1) + x2))]) (v := (x2 + 1)) dX11_sendsDue_110 rfl rfl (by decide) rfl ?_
  refine gm_goto (tgt := 13) dX11_sendsDue_113 (by decide) ?_
  refine gm_forget (L2 := [some (.ref 0), some (.int x1), some (.int (x2 + 1)), none]) (by simp [gm_sub]) ?_
  exact K
/-- X11_sendsDue 13 [20t] -> ret  -/
theorem PX11_sendsDue_9 {x1 : Int32} {x2 : Int32} {S : gm_Mem} {j1 : Nat} (ij1 : gm_ix x1 j1 2) (c2 : ¬ x2 < (S 18 j1)) : gm_run gM 3 YX11_sendsDue 13 [some (.ref 0), some (.int x1), some (.int x2), none] [] S none S := by
  refine gm_iload_n dX11_sendsDue_13 rfl ?_
  refine gm_aload_n dX11_sendsDue_14 rfl ?_
  refine gm_getR (own := RX11) (q := 18) rfl dX11_sendsDue_15 lfX11_71 sM_0 rfl ?_
  refine gm_iload_n dX11_sendsDue_18 rfl ?_
  refine gm_iald (j := j1) (x := (S 18 j1)) dX11_sendsDue_19 sM_18 ij1 rfl ?_
  refine gm_icmp_ge_t (tgt := 116) dX11_sendsDue_20 (by decide) c2 ?_
  exact gm_vret dX11_sendsDue_116 rfl
/-- X11_greets 0 [] -> ret  -/
theorem PX11_greets_1 {a1 : Int32} {a2 : Int32} {S : gm_Mem} {T1 : gm_Mem} {T2 : gm_Mem} {r2 : Int32} (h1 : gm_run gM 1 YX11_becomes 0 [some (.ref 0), some (.int 0), some (.int 1)] [] (gm_u (gm_u (gm_u (gm_u S 0 3 ((S 0 3) + 1)) 2 0 ((S 0 3) + 1)) 3 0 a1) 0 36 a2) none T1) (h3 : gm_run gM 2 YX11_sendsPlain 0 [some (.ref 0), some (.int 0), some (.int 0), some (.int (T1 0 3)), some (.int a1), some (.int a2)] [] T1 (some (.int r2)) T2) : gm_run gM 3 YX11_greets 0 [some (.ref 0), some (.int a1), some (.int a2)] [] S none (gm_u T2 0 37 (T2 0 4)) := by
  refine gm_aload_n dX11_greets_0 rfl ?_
  refine gm_dup dX11_greets_1 ?_
  refine gm_getI (own := RX11) (x := (S 0 3)) rfl dX11_greets_2 lfX11_182 sM_0 rfl rfl ?_
  refine gm_iconst (v := 1) dX11_greets_5 (by decide) ?_
  refine gm_iadd dX11_greets_6 rfl ?_
  refine gm_put (own := RX11) rfl dX11_greets_7 lfX11_182 sM_0 rfl (gm_fit_int _) ?_
  refine gm_aload_n dX11_greets_10 rfl ?_
  refine gm_getR (own := RX11) (q := 2) rfl dX11_greets_11 lfX11_23 sM_0 rfl ?_
  refine gm_iconst (v := 0) dX11_greets_14 (by decide) ?_
  refine gm_aload_n dX11_greets_15 rfl ?_
  refine gm_getI (own := RX11) (x := ((S 0 3) + 1)) rfl dX11_greets_16 lfX11_182 sM_0 rfl (gm_rS _ _ _ _) ?_
  refine gm_iast (j := 0) dX11_greets_19 sM_2 ⟨by decide, by decide⟩ ?_
  refine gm_aload_n dX11_greets_20 rfl ?_
  refine gm_getR (own := RX11) (q := 3) rfl dX11_greets_21 lfX11_26 sM_0 rfl ?_
  refine gm_iconst (v := 0) dX11_greets_24 (by decide) ?_
  refine gm_iload_n dX11_greets_25 rfl ?_
  refine gm_iast (j := 0) dX11_greets_26 sM_3 ⟨by decide, by decide⟩ ?_
  refine gm_aload_n dX11_greets_27 rfl ?_
  refine gm_iload_n dX11_greets_28 rfl ?_
  refine gm_put (own := RX11) rfl dX11_greets_29 lfX11_101 sM_0 rfl (gm_fit_int _) ?_
  refine gm_aload_n dX11_greets_32 rfl ?_
  refine gm_iconst (v := 0) dX11_greets_33 (by decide) ?_
  refine gm_iconst (v := 1) dX11_greets_34 (by decide) ?_
  refine gm_callV (r1 := none) (own := RX11) rfl dX11_greets_35 llX11_185 mvX11_becomes sM_0 rfl [.int 0, .int 1] [] rfl rfl (Nat.le_of_ble_eq_true rfl) (by decide) rfl h1 rfl ?_
  refine gm_aload_n dX11_greets_38 rfl ?_
  refine gm_iconst (v := 0) dX11_greets_39 (by decide) ?_
  refine gm_iconst (v := 0) dX11_greets_40 (by decide) ?_
  refine gm_aload_n dX11_greets_41 rfl ?_
  refine gm_getI (own := RX11) (x := (T1 0 3)) rfl dX11_greets_42 lfX11_182 sM_0 rfl rfl ?_
  refine gm_iload_n dX11_greets_45 rfl ?_
  refine gm_iload_n dX11_greets_46 rfl ?_
  refine gm_callV (r1 := (some (.int r2))) (own := RX11) rfl dX11_greets_47 llX11_189 mvX11_sendsPlain sM_0 rfl [.int 0, .int 0, .int (T1 0 3), .int a1, .int a2] [] rfl rfl (Nat.le_of_ble_eq_true rfl) (by decide) rfl h3 rfl ?_
  refine gm_pop dX11_greets_50 ?_
  refine gm_aload_n dX11_greets_51 rfl ?_
  refine gm_aload_n dX11_greets_52 rfl ?_
  refine gm_getI (own := RX11) (x := (T2 0 4)) rfl dX11_greets_53 lfX11_179 sM_0 rfl rfl ?_
  refine gm_put (own := RX11) rfl dX11_greets_56 lfX11_193 sM_0 rfl (gm_fit_int _) ?_
  exact gm_vret dX11_greets_59 rfl
/-- X11_connect 0 [8f] -> ret  -/
theorem PX11_connect_1 {a1 : Int32} {S : gm_Mem} {r1 : Int32} (h2 : gm_run gM 0 YX11_isBetween 0 [some (.int a1), some (.int 0), some (.int 9999)] [] S (some (.int r1)) S) (c3 : r1 = 0) : gm_run gM 4 YX11_connect 0 [some (.ref 0), some (.int a1)] [] S (some (.int (-1000000002))) S := by
  refine gm_iload_n dX11_connect_0 rfl ?_
  refine gm_iconst (v := 0) dX11_connect_1 (by decide) ?_
  refine gm_sipush (v := 9999) dX11_connect_2 (by decide) ?_
  refine gm_callS (r1 := (some (.int r1))) (own := RX11) rfl dX11_connect_5 llX11_137 msX11_isBetween [.int a1, .int 0, .int 9999] [] rfl rfl (Nat.le_of_ble_eq_true rfl) (by decide) rfl h2 rfl ?_
  refine gm_if_ne_f dX11_connect_8 ⟨14, by decide⟩ c3 ?_
  refine gm_ldc (own := RX11) rfl lcX11_141 dX11_connect_11 ?_
  exact gm_iret dX11_connect_13 rfl
/-- X11_connect 0 [8t 20f 30f] -> ret  -/
theorem PX11_connect_2 {a1 : Int32} {S : gm_Mem} {r1 : Int32} (h2 : gm_run gM 0 YX11_isBetween 0 [some (.int a1), some (.int 0), some (.int 9999)] [] S (some (.int r1)) S) (c3 : ¬ r1 = 0) (c4 : ¬ (S 1 0) = 0) (c5 : ¬ (S 1 0) = 4) : gm_run gM 4 YX11_connect 0 [some (.ref 0), some (.int a1)] [] S (some (.int (-1000000004))) S := by
  refine gm_iload_n dX11_connect_0 rfl ?_
  refine gm_iconst (v := 0) dX11_connect_1 (by decide) ?_
  refine gm_sipush (v := 9999) dX11_connect_2 (by decide) ?_
  refine gm_callS (r1 := (some (.int r1))) (own := RX11) rfl dX11_connect_5 llX11_137 msX11_isBetween [.int a1, .int 0, .int 9999] [] rfl rfl (Nat.le_of_ble_eq_true rfl) (by decide) rfl h2 rfl ?_
  refine gm_if_ne_t (tgt := 14) dX11_connect_8 (by decide) c3 ?_
  refine gm_aload_n dX11_connect_14 rfl ?_
  refine gm_getR (own := RX11) (q := 1) rfl dX11_connect_15 lfX11_19 sM_0 rfl ?_
  refine gm_iconst (v := 0) dX11_connect_18 (by decide) ?_
  refine gm_iald (j := 0) (x := (S 1 0)) dX11_connect_19 sM_1 ⟨by decide, by decide⟩ rfl ?_
  refine gm_if_eq_f dX11_connect_20 ⟨36, by decide⟩ c4 ?_
  refine gm_aload_n dX11_connect_23 rfl ?_
  refine gm_getR (own := RX11) (q := 1) rfl dX11_connect_24 lfX11_19 sM_0 rfl ?_
  refine gm_iconst (v := 0) dX11_connect_27 (by decide) ?_
  refine gm_iald (j := 0) (x := (S 1 0)) dX11_connect_28 sM_1 ⟨by decide, by decide⟩ rfl ?_
  refine gm_iconst (v := 4) dX11_connect_29 (by decide) ?_
  refine gm_icmp_eq_f dX11_connect_30 ⟨36, by decide⟩ c5 ?_
  refine gm_ldc (own := RX11) rfl lcX11_196 dX11_connect_33 ?_
  exact gm_iret dX11_connect_35 rfl
/-- X11_connect 0 [8t 20f 30t 40f] -> ret  -/
theorem PX11_connect_3 {a1 : Int32} {S : gm_Mem} {r1 : Int32} {r6 : Int32} (h2 : gm_run gM 0 YX11_isBetween 0 [some (.int a1), some (.int 0), some (.int 9999)] [] S (some (.int r1)) S) (c3 : ¬ r1 = 0) (c4 : ¬ (S 1 0) = 0) (c5 : (S 1 0) = 4) (h7 : gm_run gM 0 YX11_hasRoom 0 [some (.ref 0)] [] S (some (.int r6)) S) (c8 : r6 = 0) : gm_run gM 4 YX11_connect 0 [some (.ref 0), some (.int a1)] [] S (some (.int (-1000000003))) S := by
  refine gm_iload_n dX11_connect_0 rfl ?_
  refine gm_iconst (v := 0) dX11_connect_1 (by decide) ?_
  refine gm_sipush (v := 9999) dX11_connect_2 (by decide) ?_
  refine gm_callS (r1 := (some (.int r1))) (own := RX11) rfl dX11_connect_5 llX11_137 msX11_isBetween [.int a1, .int 0, .int 9999] [] rfl rfl (Nat.le_of_ble_eq_true rfl) (by decide) rfl h2 rfl ?_
  refine gm_if_ne_t (tgt := 14) dX11_connect_8 (by decide) c3 ?_
  refine gm_aload_n dX11_connect_14 rfl ?_
  refine gm_getR (own := RX11) (q := 1) rfl dX11_connect_15 lfX11_19 sM_0 rfl ?_
  refine gm_iconst (v := 0) dX11_connect_18 (by decide) ?_
  refine gm_iald (j := 0) (x := (S 1 0)) dX11_connect_19 sM_1 ⟨by decide, by decide⟩ rfl ?_
  refine gm_if_eq_f dX11_connect_20 ⟨36, by decide⟩ c4 ?_
  refine gm_aload_n dX11_connect_23 rfl ?_
  refine gm_getR (own := RX11) (q := 1) rfl dX11_connect_24 lfX11_19 sM_0 rfl ?_
  refine gm_iconst (v := 0) dX11_connect_27 (by decide) ?_
  refine gm_iald (j := 0) (x := (S 1 0)) dX11_connect_28 sM_1 ⟨by decide, by decide⟩ rfl ?_
  refine gm_iconst (v := 4) dX11_connect_29 (by decide) ?_
  refine gm_icmp_eq_t (tgt := 36) dX11_connect_30 (by decide) c5 ?_
  refine gm_aload_n dX11_connect_36 rfl ?_
  refine gm_callV (r1 := (some (.int r6))) (own := RX11) rfl dX11_connect_37 llX11_159 mvX11_hasRoom sM_0 rfl [] [] rfl rfl (Nat.le_of_ble_eq_true rfl) (by decide) rfl h7 rfl ?_
  refine gm_if_ne_f dX11_connect_40 ⟨46, by decide⟩ c8 ?_
  refine gm_ldc (own := RX11) rfl lcX11_197 dX11_connect_43 ?_
  exact gm_iret dX11_connect_45 rfl
/-- X11_connect 0 [8t 20f 30t 40t] -> ret  -/
theorem PX11_connect_4 {a1 : Int32} {S : gm_Mem} {r1 : Int32} {r6 : Int32} {T1 : gm_Mem} {T2 : gm_Mem} (h2 : gm_run gM 0 YX11_isBetween 0 [some (.int a1), some (.int 0), some (.int 9999)] [] S (some (.int r1)) S) (c3 : ¬ r1 = 0) (c4 : ¬ (S 1 0) = 0) (c5 : (S 1 0) = 4) (h7 : gm_run gM 0 YX11_hasRoom 0 [some (.ref 0)] [] S (some (.int r6)) S) (c8 : ¬ r6 = 0) (h9 : gm_run gM 1 YX11_beginsStream 0 [some (.ref 0), some (.int 0)] [] S none T1) (h10 : gm_run gM 3 YX11_greets 0 [some (.ref 0), some (.int a1), some (.int (-1))] [] T1 none T2) : gm_run gM 4 YX11_connect 0 [some (.ref 0), some (.int a1)] [] S (some (.int (T2 0 3))) T2 := by
  refine gm_iload_n dX11_connect_0 rfl ?_
  refine gm_iconst (v := 0) dX11_connect_1 (by decide) ?_
  refine gm_sipush (v := 9999) dX11_connect_2 (by decide) ?_
  refine gm_callS (r1 := (some (.int r1))) (own := RX11) rfl dX11_connect_5 llX11_137 msX11_isBetween [.int a1, .int 0, .int 9999] [] rfl rfl (Nat.le_of_ble_eq_true rfl) (by decide) rfl h2 rfl ?_
  refine gm_if_ne_t (tgt := 14) dX11_connect_8 (by decide) c3 ?_
  refine gm_aload_n dX11_connect_14 rfl ?_
  refine gm_getR (own := RX11) (q := 1) rfl dX11_connect_15 lfX11_19 sM_0 rfl ?_
  refine gm_iconst (v := 0) dX11_connect_18 (by decide) ?_
  refine gm_iald (j := 0) (x := (S 1 0)) dX11_connect_19 sM_1 ⟨by decide, by decide⟩ rfl ?_
  refine gm_if_eq_f dX11_connect_20 ⟨36, by decide⟩ c4 ?_
  refine gm_aload_n dX11_connect_23 rfl ?_
  refine gm_getR (own := RX11) (q := 1) rfl dX11_connect_24 lfX11_19 sM_0 rfl ?_
  refine gm_iconst (v := 0) dX11_connect_27 (by decide) ?_
  refine gm_iald (j := 0) (x := (S 1 0)) dX11_connect_28 sM_1 ⟨by decide, by decide⟩ rfl ?_
  refine gm_iconst (v := 4) dX11_connect_29 (by decide) ?_
  refine gm_icmp_eq_t (tgt := 36) dX11_connect_30 (by decide) c5 ?_
  refine gm_aload_n dX11_connect_36 rfl ?_
  refine gm_callV (r1 := (some (.int r6))) (own := RX11) rfl dX11_connect_37 llX11_159 mvX11_hasRoom sM_0 rfl [] [] rfl rfl (Nat.le_of_ble_eq_true rfl) (by decide) rfl h7 rfl ?_
  refine gm_if_ne_t (tgt := 46) dX11_connect_40 (by decide) c8 ?_
  refine gm_aload_n dX11_connect_46 rfl ?_
  refine gm_iconst (v := 0) dX11_connect_47 (by decide) ?_
  refine gm_callV (r1 := none) (own := RX11) rfl dX11_connect_48 llX11_198 mvX11_beginsStream sM_0 rfl [.int 0] [] rfl rfl (Nat.le_of_ble_eq_true rfl) (by decide) rfl h9 rfl ?_
  refine gm_aload_n dX11_connect_51 rfl ?_
  refine gm_iload_n dX11_connect_52 rfl ?_
  refine gm_iconst (v := (-1)) dX11_connect_53 (by decide) ?_
  refine gm_callV (r1 := none) (own := RX11) rfl dX11_connect_54 llX11_201 mvX11_greets sM_0 rfl [.int a1, .int (-1)] [] rfl rfl (Nat.le_of_ble_eq_true rfl) (by decide) rfl h10 rfl ?_
  refine gm_aload_n dX11_connect_57 rfl ?_
  refine gm_getI (own := RX11) (x := (T2 0 3)) rfl dX11_connect_58 lfX11_182 sM_0 rfl rfl ?_
  exact gm_iret dX11_connect_61 rfl
/-- X11_connect 0 [8t 20t 40f] -> ret  -/
theorem PX11_connect_5 {a1 : Int32} {S : gm_Mem} {r1 : Int32} {r5 : Int32} (h2 : gm_run gM 0 YX11_isBetween 0 [some (.int a1), some (.int 0), some (.int 9999)] [] S (some (.int r1)) S) (c3 : ¬ r1 = 0) (c4 : (S 1 0) = 0) (h6 : gm_run gM 0 YX11_hasRoom 0 [some (.ref 0)] [] S (some (.int r5)) S) (c7 : r5 = 0) : gm_run gM 4 YX11_connect 0 [some (.ref 0), some (.int a1)] [] S (some (.int (-1000000003))) S := by
  refine gm_iload_n dX11_connect_0 rfl ?_
  refine gm_iconst (v := 0) dX11_connect_1 (by decide) ?_
  refine gm_sipush (v := 9999) dX11_connect_2 (by decide) ?_
  refine gm_callS (r1 := (some (.int r1))) (own := RX11) rfl dX11_connect_5 llX11_137 msX11_isBetween [.int a1, .int 0, .int 9999] [] rfl rfl (Nat.le_of_ble_eq_true rfl) (by decide) rfl h2 rfl ?_
  refine gm_if_ne_t (tgt := 14) dX11_connect_8 (by decide) c3 ?_
  refine gm_aload_n dX11_connect_14 rfl ?_
  refine gm_getR (own := RX11) (q := 1) rfl dX11_connect_15 lfX11_19 sM_0 rfl ?_
  refine gm_iconst (v := 0) dX11_connect_18 (by decide) ?_
  refine gm_iald (j := 0) (x := (S 1 0)) dX11_connect_19 sM_1 ⟨by decide, by decide⟩ rfl ?_
  refine gm_if_eq_t (tgt := 36) dX11_connect_20 (by decide) c4 ?_
  refine gm_aload_n dX11_connect_36 rfl ?_
  refine gm_callV (r1 := (some (.int r5))) (own := RX11) rfl dX11_connect_37 llX11_159 mvX11_hasRoom sM_0 rfl [] [] rfl rfl (Nat.le_of_ble_eq_true rfl) (by decide) rfl h6 rfl ?_
  refine gm_if_ne_f dX11_connect_40 ⟨46, by decide⟩ c7 ?_
  refine gm_ldc (own := RX11) rfl lcX11_197 dX11_connect_43 ?_
  exact gm_iret dX11_connect_45 rfl
/-- X11_connect 0 [8t 20t 40t] -> ret  -/
theorem PX11_connect_6 {a1 : Int32} {S : gm_Mem} {r1 : Int32} {r5 : Int32} {T1 : gm_Mem} {T2 : gm_Mem} (h2 : gm_run gM 0 YX11_isBetween 0 [some (.int a1), some (.int 0), some (.int 9999)] [] S (some (.int r1)) S) (c3 : ¬ r1 = 0) (c4 : (S 1 0) = 0) (h6 : gm_run gM 0 YX11_hasRoom 0 [some (.ref 0)] [] S (some (.int r5)) S) (c7 : ¬ r5 = 0) (h8 : gm_run gM 1 YX11_beginsStream 0 [some (.ref 0), some (.int 0)] [] S none T1) (h9 : gm_run gM 3 YX11_greets 0 [some (.ref 0), some (.int a1), some (.int (-1))] [] T1 none T2) : gm_run gM 4 YX11_connect 0 [some (.ref 0), some (.int a1)] [] S (some (.int (T2 0 3))) T2 := by
  refine gm_iload_n dX11_connect_0 rfl ?_
  refine gm_iconst (v := 0) dX11_connect_1 (by decide) ?_
  refine gm_sipush (v := 9999) dX11_connect_2 (by decide) ?_
  refine gm_callS (r1 := (some (.int r1))) (own := RX11) rfl dX11_connect_5 llX11_137 msX11_isBetween [.int a1, .int 0, .int 9999] [] rfl rfl (Nat.le_of_ble_eq_true rfl) (by decide) rfl h2 rfl ?_
  refine gm_if_ne_t (tgt := 14) dX11_connect_8 (by decide) c3 ?_
  refine gm_aload_n dX11_connect_14 rfl ?_
  refine gm_getR (own := RX11) (q := 1) rfl dX11_connect_15 lfX11_19 sM_0 rfl ?_
  refine gm_iconst (v := 0) dX11_connect_18 (by decide) ?_
  refine gm_iald (j := 0) (x := (S 1 0)) dX11_connect_19 sM_1 ⟨by decide, by decide⟩ rfl ?_
  refine gm_if_eq_t (tgt := 36) dX11_connect_20 (by decide) c4 ?_
  refine gm_aload_n dX11_connect_36 rfl ?_
  refine gm_callV (r1 := (some (.int r5))) (own := RX11) rfl dX11_connect_37 llX11_159 mvX11_hasRoom sM_0 rfl [] [] rfl rfl (Nat.le_of_ble_eq_true rfl) (by decide) rfl h6 rfl ?_
  refine gm_if_ne_t (tgt := 46) dX11_connect_40 (by decide) c7 ?_
  refine gm_aload_n dX11_connect_46 rfl ?_
  refine gm_iconst (v := 0) dX11_connect_47 (by decide) ?_
  refine gm_callV (r1 := none) (own := RX11) rfl dX11_connect_48 llX11_198 mvX11_beginsStream sM_0 rfl [.int 0] [] rfl rfl (Nat.le_of_ble_eq_true rfl) (by decide) rfl h8 rfl ?_
  refine gm_aload_n dX11_connect_51 rfl ?_
  refine gm_iload_n dX11_connect_52 rfl ?_
  refine gm_iconst (v := (-1)) dX11_connect_53 (by decide) ?_
  refine gm_callV (r1 := none) (own := RX11) rfl dX11_connect_54 llX11_201 mvX11_greets sM_0 rfl [.int a1, .int (-1)] [] rfl rfl (Nat.le_of_ble_eq_true rfl) (by decide) rfl h9 rfl ?_
  refine gm_aload_n dX11_connect_57 rfl ?_
  refine gm_getI (own := RX11) (x := (T2 0 3)) rfl dX11_connect_58 lfX11_182 sM_0 rfl rfl ?_
  exact gm_iret dX11_connect_61 rfl
/-- X11_resume 0 [8f] -> ret  -/
theorem PX11_resume_1 {a1 : Int32} {S : gm_Mem} {r1 : Int32} (h2 : gm_run gM 0 YX11_isBetween 0 [some (.int a1), some (.int 0), some (.int 9999)] [] S (some (.int r1)) S) (c3 : r1 = 0) : gm_run gM 4 YX11_resume 0 [some (.ref 0), some (.int a1), none] [] S (some (.int (-1000000002))) S := by
  refine gm_iload_n dX11_resume_0 rfl ?_
  refine gm_iconst (v := 0) dX11_resume_1 (by decide) ?_
  refine gm_sipush (v := 9999) dX11_resume_2 (by decide) ?_
  refine gm_callS (r1 := (some (.int r1))) (own := RX11) rfl dX11_resume_5 llX11_137 msX11_isBetween [.int a1, .int 0, .int 9999] [] rfl rfl (Nat.le_of_ble_eq_true rfl) (by decide) rfl h2 rfl ?_
  refine gm_if_ne_f dX11_resume_8 ⟨14, by decide⟩ c3 ?_
  refine gm_ldc (own := RX11) rfl lcX11_141 dX11_resume_11 ?_
  exact gm_iret dX11_resume_13 rfl
/-- X11_resume 0 [8t 20f] -> ret  -/
theorem PX11_resume_2 {a1 : Int32} {S : gm_Mem} {r1 : Int32} (h2 : gm_run gM 0 YX11_isBetween 0 [some (.int a1), some (.int 0), some (.int 9999)] [] S (some (.int r1)) S) (c3 : ¬ r1 = 0) (c4 : ¬ (S 1 0) = 0) : gm_run gM 4 YX11_resume 0 [some (.ref 0), some (.int a1), none] [] S (some (.int (-1000000004))) S := by
  refine gm_iload_n dX11_resume_0 rfl ?_
  refine gm_iconst (v := 0) dX11_resume_1 (by decide) ?_
  refine gm_sipush (v := 9999) dX11_resume_2 (by decide) ?_
  refine gm_callS (r1 := (some (.int r1))) (own := RX11) rfl dX11_resume_5 llX11_137 msX11_isBetween [.int a1, .int 0, .int 9999] [] rfl rfl (Nat.le_of_ble_eq_true rfl) (by decide) rfl h2 rfl ?_
  refine gm_if_ne_t (tgt := 14) dX11_resume_8 (by decide) c3 ?_
  refine gm_aload_n dX11_resume_14 rfl ?_
  refine gm_getR (own := RX11) (q := 1) rfl dX11_resume_15 lfX11_19 sM_0 rfl ?_
  refine gm_iconst (v := 0) dX11_resume_18 (by decide) ?_
  refine gm_iald (j := 0) (x := (S 1 0)) dX11_resume_19 sM_1 ⟨by decide, by decide⟩ rfl ?_
  refine gm_if_eq_f dX11_resume_20 ⟨26, by decide⟩ c4 ?_
  refine gm_ldc (own := RX11) rfl lcX11_196 dX11_resume_23 ?_
  exact gm_iret dX11_resume_25 rfl
/-- X11_resume 0 [8t 20t 30f] -> ret  -/
theorem PX11_resume_3 {a1 : Int32} {S : gm_Mem} {r1 : Int32} (h2 : gm_run gM 0 YX11_isBetween 0 [some (.int a1), some (.int 0), some (.int 9999)] [] S (some (.int r1)) S) (c3 : ¬ r1 = 0) (c4 : (S 1 0) = 0) (c5 : (S 0 35) < 0) : gm_run gM 4 YX11_resume 0 [some (.ref 0), some (.int a1), none] [] S (some (.int (-1000000001))) S := by
  refine gm_iload_n dX11_resume_0 rfl ?_
  refine gm_iconst (v := 0) dX11_resume_1 (by decide) ?_
  refine gm_sipush (v := 9999) dX11_resume_2 (by decide) ?_
  refine gm_callS (r1 := (some (.int r1))) (own := RX11) rfl dX11_resume_5 llX11_137 msX11_isBetween [.int a1, .int 0, .int 9999] [] rfl rfl (Nat.le_of_ble_eq_true rfl) (by decide) rfl h2 rfl ?_
  refine gm_if_ne_t (tgt := 14) dX11_resume_8 (by decide) c3 ?_
  refine gm_aload_n dX11_resume_14 rfl ?_
  refine gm_getR (own := RX11) (q := 1) rfl dX11_resume_15 lfX11_19 sM_0 rfl ?_
  refine gm_iconst (v := 0) dX11_resume_18 (by decide) ?_
  refine gm_iald (j := 0) (x := (S 1 0)) dX11_resume_19 sM_1 ⟨by decide, by decide⟩ rfl ?_
  refine gm_if_eq_t (tgt := 26) dX11_resume_20 (by decide) c4 ?_
  refine gm_aload_n dX11_resume_26 rfl ?_
  refine gm_getI (own := RX11) (x := (S 0 35)) rfl dX11_resume_27 lfX11_98 sM_0 rfl rfl ?_
  refine gm_if_ge_f dX11_resume_30 ⟨36, by decide⟩ c5 ?_
  refine gm_ldc (own := RX11) rfl lcX11_204 dX11_resume_33 ?_
  exact gm_iret dX11_resume_35 rfl
/-- X11_resume 0 [8t 20t 30t 40f] -> ret  -/
theorem PX11_resume_4 {a1 : Int32} {S : gm_Mem} {r1 : Int32} {r6 : Int32} (h2 : gm_run gM 0 YX11_isBetween 0 [some (.int a1), some (.int 0), some (.int 9999)] [] S (some (.int r1)) S) (c3 : ¬ r1 = 0) (c4 : (S 1 0) = 0) (c5 : ¬ (S 0 35) < 0) (h7 : gm_run gM 0 YX11_hasRoom 0 [some (.ref 0)] [] S (some (.int r6)) S) (c8 : r6 = 0) : gm_run gM 4 YX11_resume 0 [some (.ref 0), some (.int a1), none] [] S (some (.int (-1000000003))) S := by
  refine gm_iload_n dX11_resume_0 rfl ?_
  refine gm_iconst (v := 0) dX11_resume_1 (by decide) ?_
  refine gm_sipush (v := 9999) dX11_resume_2 (by decide) ?_
  refine gm_callS (r1 := (some (.int r1))) (own := RX11) rfl dX11_resume_5 llX11_137 msX11_isBetween [.int a1, .int 0, .int 9999] [] rfl rfl (Nat.le_of_ble_eq_true rfl) (by decide) rfl h2 rfl ?_
  refine gm_if_ne_t (tgt := 14) dX11_resume_8 (by decide) c3 ?_
  refine gm_aload_n dX11_resume_14 rfl ?_
  refine gm_getR (own := RX11) (q := 1) rfl dX11_resume_15 lfX11_19 sM_0 rfl ?_
  refine gm_iconst (v := 0) dX11_resume_18 (by decide) ?_
  refine gm_iald (j := 0) (x := (S 1 0)) dX11_resume_19 sM_1 ⟨by decide, by decide⟩ rfl ?_
  refine gm_if_eq_t (tgt := 26) dX11_resume_20 (by decide) c4 ?_
  refine gm_aload_n dX11_resume_26 rfl ?_
  refine gm_getI (own := RX11) (x := (S 0 35)) rfl dX11_resume_27 lfX11_98 sM_0 rfl rfl ?_
  refine gm_if_ge_t (tgt := 36) dX11_resume_30 (by decide) c5 ?_
  refine gm_aload_n dX11_resume_36 rfl ?_
  refine gm_callV (r1 := (some (.int r6))) (own := RX11) rfl dX11_resume_37 llX11_159 mvX11_hasRoom sM_0 rfl [] [] rfl rfl (Nat.le_of_ble_eq_true rfl) (by decide) rfl h7 rfl ?_
  refine gm_if_ne_f dX11_resume_40 ⟨46, by decide⟩ c8 ?_
  refine gm_ldc (own := RX11) rfl lcX11_197 dX11_resume_43 ?_
  exact gm_iret dX11_resume_45 rfl
/-- X11_resume 0 [8t 20t 30t 40t] -> ret  -/
theorem PX11_resume_5 {a1 : Int32} {S : gm_Mem} {r1 : Int32} {r6 : Int32} {T1 : gm_Mem} (h2 : gm_run gM 0 YX11_isBetween 0 [some (.int a1), some (.int 0), some (.int 9999)] [] S (some (.int r1)) S) (c3 : ¬ r1 = 0) (c4 : (S 1 0) = 0) (c5 : ¬ (S 0 35) < 0) (h7 : gm_run gM 0 YX11_hasRoom 0 [some (.ref 0)] [] S (some (.int r6)) S) (c8 : ¬ r6 = 0) (h9 : gm_run gM 3 YX11_greets 0 [some (.ref 0), some (.int a1), some (.int (S 0 35))] [] (gm_u S 0 35 (-1)) none T1) : gm_run gM 4 YX11_resume 0 [some (.ref 0), some (.int a1), none] [] S (some (.int (T1 0 3))) T1 := by
  refine gm_iload_n dX11_resume_0 rfl ?_
  refine gm_iconst (v := 0) dX11_resume_1 (by decide) ?_
  refine gm_sipush (v := 9999) dX11_resume_2 (by decide) ?_
  refine gm_callS (r1 := (some (.int r1))) (own := RX11) rfl dX11_resume_5 llX11_137 msX11_isBetween [.int a1, .int 0, .int 9999] [] rfl rfl (Nat.le_of_ble_eq_true rfl) (by decide) rfl h2 rfl ?_
  refine gm_if_ne_t (tgt := 14) dX11_resume_8 (by decide) c3 ?_
  refine gm_aload_n dX11_resume_14 rfl ?_
  refine gm_getR (own := RX11) (q := 1) rfl dX11_resume_15 lfX11_19 sM_0 rfl ?_
  refine gm_iconst (v := 0) dX11_resume_18 (by decide) ?_
  refine gm_iald (j := 0) (x := (S 1 0)) dX11_resume_19 sM_1 ⟨by decide, by decide⟩ rfl ?_
  refine gm_if_eq_t (tgt := 26) dX11_resume_20 (by decide) c4 ?_
  refine gm_aload_n dX11_resume_26 rfl ?_
  refine gm_getI (own := RX11) (x := (S 0 35)) rfl dX11_resume_27 lfX11_98 sM_0 rfl rfl ?_
  refine gm_if_ge_t (tgt := 36) dX11_resume_30 (by decide) c5 ?_
  refine gm_aload_n dX11_resume_36 rfl ?_
  refine gm_callV (r1 := (some (.int r6))) (own := RX11) rfl dX11_resume_37 llX11_159 mvX11_hasRoom sM_0 rfl [] [] rfl rfl (Nat.le_of_ble_eq_true rfl) (by decide) rfl h7 rfl ?_
  refine gm_if_ne_t (tgt := 46) dX11_resume_40 (by decide) c8 ?_
  refine gm_aload_n dX11_resume_46 rfl ?_
  refine gm_getI (own := RX11) (x := (S 0 35)) rfl dX11_resume_47 lfX11_98 sM_0 rfl rfl ?_
  refine gm_istore_n (L' := [some (.ref 0), some (.int a1), some (.int (S 0 35))]) dX11_resume_50 (by decide) rfl ?_
  refine gm_aload_n dX11_resume_51 rfl ?_
  refine gm_iconst (v := (-1)) dX11_resume_52 (by decide) ?_
  refine gm_put (own := RX11) rfl dX11_resume_53 lfX11_98 sM_0 rfl (gm_fit_int _) ?_
  refine gm_aload_n dX11_resume_56 rfl ?_
  refine gm_iload_n dX11_resume_57 rfl ?_
  refine gm_iload_n dX11_resume_58 rfl ?_
  refine gm_callV (r1 := none) (own := RX11) rfl dX11_resume_59 llX11_201 mvX11_greets sM_0 rfl [.int a1, .int (S 0 35)] [] rfl rfl (Nat.le_of_ble_eq_true rfl) (by decide) rfl h9 rfl ?_
  refine gm_aload_n dX11_resume_62 rfl ?_
  refine gm_getI (own := RX11) (x := (T1 0 3)) rfl dX11_resume_63 lfX11_182 sM_0 rfl rfl ?_
  exact gm_iret dX11_resume_66 rfl
/-- X11_disconnect 0 [] -> cut 22 -/
theorem PX11_disconnect_1 {S : gm_Mem} {r : Option Value} {S2 : gm_Mem}  (K : gm_run gM 2 YX11_disconnect 22 [some (.ref 0), some (.int (S 0 45)), some (.int 0)] [] (gm_u (gm_u S 0 45 0) 0 7 ((S 0 7) + (S 0 45))) r S2) : gm_run gM 2 YX11_disconnect 0 [some (.ref 0), none, none] [] S r S2 := by
  refine gm_aload_n dX11_disconnect_0 rfl ?_
  refine gm_getI (own := RX11) (x := (S 0 45)) rfl dX11_disconnect_1 lfX11_153 sM_0 rfl rfl ?_
  refine gm_istore_n (L' := [some (.ref 0), some (.int (S 0 45)), none]) dX11_disconnect_4 (by decide) rfl ?_
  refine gm_aload_n dX11_disconnect_5 rfl ?_
  refine gm_iconst (v := 0) dX11_disconnect_6 (by decide) ?_
  refine gm_put (own := RX11) rfl dX11_disconnect_7 lfX11_153 sM_0 rfl (gm_fit_int _) ?_
  refine gm_aload_n dX11_disconnect_10 rfl ?_
  refine gm_dup dX11_disconnect_11 ?_
  refine gm_getI (own := RX11) (x := (S 0 7)) rfl dX11_disconnect_12 lfX11_205 sM_0 rfl (gm_rk (by decide)) ?_
  refine gm_iload_n dX11_disconnect_15 rfl ?_
  refine gm_iadd dX11_disconnect_16 rfl ?_
  refine gm_put (own := RX11) rfl dX11_disconnect_17 lfX11_205 sM_0 rfl (gm_fit_int _) ?_
  refine gm_iconst (v := 0) dX11_disconnect_20 (by decide) ?_
  refine gm_istore_n (L' := [some (.ref 0), some (.int (S 0 45)), some (.int 0)]) dX11_disconnect_21 (by decide) rfl ?_
  exact K
/-- X11_disconnect 22 [24f 34f] -> cut 22 -/
theorem PX11_disconnect_2 {x1 : Int32} {x2 : Int32} {S : gm_Mem} {j2 : Nat} {T1 : gm_Mem} {T2 : gm_Mem} {r : Option Value} {S2 : gm_Mem} (c1 : x2 < 2) (ij2 : gm_ix x2 j2 2) (c3 : ¬ (S 1 j2) = 4) (h4 : gm_run gM 1 YX11_becomes 0 [some (.ref 0), some (.int x2), some (.int 0)] [] S none T1) (h5 : gm_run gM 0 YX11_clearsWaiting 0 [some (.ref 0), some (.int x2), none] [] T1 none T2) (K : gm_run gM 2 YX11_disconnect 22 [some (.ref 0), some (.int x1), some (.int (x2 + 1))] [] T2 r S2) : gm_run gM 2 YX11_disconnect 22 [some (.ref 0), some (.int x1), some (.int x2)] [] S r S2 := by
  refine gm_iload_n dX11_disconnect_22 rfl ?_
  refine gm_iconst (v := 2) dX11_disconnect_23 (by decide) ?_
  refine gm_icmp_ge_f dX11_disconnect_24 ⟨54, by decide⟩ c1 ?_
  refine gm_aload_n dX11_disconnect_27 rfl ?_
  refine gm_getR (own := RX11) (q := 1) rfl dX11_disconnect_28 lfX11_19 sM_0 rfl ?_
  refine gm_iload_n dX11_disconnect_31 rfl ?_
  refine gm_iald (j := j2) (x := (S 1 j2)) dX11_disconnect_32 sM_1 ij2 rfl ?_
  refine gm_iconst (v := 4) dX11_disconnect_33 (by decide) ?_
  refine gm_icmp_eq_f dX11_disconnect_34 ⟨43, by decide⟩ c3 ?_
  refine gm_aload_n dX11_disconnect_37 rfl ?_
  refine gm_iload_n dX11_disconnect_38 rfl ?_
  refine gm_iconst (v := 0) dX11_disconnect_39 (by decide) ?_
  refine gm_callV (r1 := none) (own := RX11) rfl dX11_disconnect_40 llX11_185 mvX11_becomes sM_0 rfl [.int x2, .int 0] [] rfl rfl (Nat.le_of_ble_eq_true rfl) (by decide) rfl h4 rfl ?_
  refine gm_aload_n dX11_disconnect_43 rfl ?_
  refine gm_iload_n dX11_disconnect_44 rfl ?_
  refine gm_callV (r1 := none) (own := RX11) rfl dX11_disconnect_45 llX11_146 mvX11_clearsWaiting sM_0 rfl [.int x2] [] rfl rfl (Nat.le_of_ble_eq_true rfl) (by decide) rfl h5 rfl ?_
  refine gm_iinc (L' := [some (.ref 0), some (.int x1), some (.int (x2 + 1))]) (v := (x2 + 1)) dX11_disconnect_48 rfl rfl (by decide) rfl ?_
  refine gm_goto (tgt := 22) dX11_disconnect_51 (by decide) ?_
  exact K
/-- X11_disconnect 22 [24f 34t] -> cut 22 -/
theorem PX11_disconnect_3 {x1 : Int32} {x2 : Int32} {S : gm_Mem} {j2 : Nat} {T1 : gm_Mem} {r : Option Value} {S2 : gm_Mem} (c1 : x2 < 2) (ij2 : gm_ix x2 j2 2) (c3 : (S 1 j2) = 4) (h4 : gm_run gM 0 YX11_clearsWaiting 0 [some (.ref 0), some (.int x2), none] [] S none T1) (K : gm_run gM 2 YX11_disconnect 22 [some (.ref 0), some (.int x1), some (.int (x2 + 1))] [] T1 r S2) : gm_run gM 2 YX11_disconnect 22 [some (.ref 0), some (.int x1), some (.int x2)] [] S r S2 := by
  refine gm_iload_n dX11_disconnect_22 rfl ?_
  refine gm_iconst (v := 2) dX11_disconnect_23 (by decide) ?_
  refine gm_icmp_ge_f dX11_disconnect_24 ⟨54, by decide⟩ c1 ?_
  refine gm_aload_n dX11_disconnect_27 rfl ?_
  refine gm_getR (own := RX11) (q := 1) rfl dX11_disconnect_28 lfX11_19 sM_0 rfl ?_
  refine gm_iload_n dX11_disconnect_31 rfl ?_
  refine gm_iald (j := j2) (x := (S 1 j2)) dX11_disconnect_32 sM_1 ij2 rfl ?_
  refine gm_iconst (v := 4) dX11_disconnect_33 (by decide) ?_
  refine gm_icmp_eq_t (tgt := 43) dX11_disconnect_34 (by decide) c3 ?_
  refine gm_aload_n dX11_disconnect_43 rfl ?_
  refine gm_iload_n dX11_disconnect_44 rfl ?_
  refine gm_callV (r1 := none) (own := RX11) rfl dX11_disconnect_45 llX11_146 mvX11_clearsWaiting sM_0 rfl [.int x2] [] rfl rfl (Nat.le_of_ble_eq_true rfl) (by decide) rfl h4 rfl ?_
  refine gm_iinc (L' := [some (.ref 0), some (.int x1), some (.int (x2 + 1))]) (v := (x2 + 1)) dX11_disconnect_48 rfl rfl (by decide) rfl ?_
  refine gm_goto (tgt := 22) dX11_disconnect_51 (by decide) ?_
  exact K
/-- X11_disconnect 22 [24t] -> ret  -/
theorem PX11_disconnect_4 {x1 : Int32} {x2 : Int32} {S : gm_Mem} (c1 : ¬ x2 < 2) : gm_run gM 2 YX11_disconnect 22 [some (.ref 0), some (.int x1), some (.int x2)] [] S (some (.int x1)) S := by
  refine gm_iload_n dX11_disconnect_22 rfl ?_
  refine gm_iconst (v := 2) dX11_disconnect_23 (by decide) ?_
  refine gm_icmp_ge_t (tgt := 54) dX11_disconnect_24 (by decide) c1 ?_
  refine gm_iload_n dX11_disconnect_54 rfl ?_
  exact gm_iret dX11_disconnect_55 rfl
/-- X11_notSending 0 [6f 16f] -> ret  -/
theorem PX11_notSending_1 {a1 : Int32} {S : gm_Mem} {j1 : Nat} (ij1 : gm_ix a1 j1 2) (c2 : (S 15 j1) < 0) (c3 : (S 1 j1) = 4) : gm_run gM 0 YX11_notSending 0 [some (.ref 0), some (.int a1)] [] S (some (.int (-1000000004))) S := by
  refine gm_aload_n dX11_notSending_0 rfl ?_
  refine gm_getR (own := RX11) (q := 15) rfl dX11_notSending_1 lfX11_62 sM_0 rfl ?_
  refine gm_iload_n dX11_notSending_4 rfl ?_
  refine gm_iald (j := j1) (x := (S 15 j1)) dX11_notSending_5 sM_15 ij1 rfl ?_
  refine gm_if_ge_f dX11_notSending_6 ⟨19, by decide⟩ c2 ?_
  refine gm_aload_n dX11_notSending_9 rfl ?_
  refine gm_getR (own := RX11) (q := 1) rfl dX11_notSending_10 lfX11_19 sM_0 rfl ?_
  refine gm_iload_n dX11_notSending_13 rfl ?_
  refine gm_iald (j := j1) (x := (S 1 j1)) dX11_notSending_14 sM_1 ij1 rfl ?_
  refine gm_iconst (v := 4) dX11_notSending_15 (by decide) ?_
  refine gm_icmp_ne_f dX11_notSending_16 ⟨24, by decide⟩ c3 ?_
  refine gm_ldc (own := RX11) rfl lcX11_196 dX11_notSending_19 ?_
  refine gm_goto (tgt := 41) dX11_notSending_21 (by decide) ?_
  exact gm_iret dX11_notSending_41 rfl
/-- X11_notSending 0 [6f 16t 32f] -> ret  -/
theorem PX11_notSending_2 {a1 : Int32} {S : gm_Mem} {j1 : Nat} (ij1 : gm_ix a1 j1 2) (c2 : (S 15 j1) < 0) (c3 : ¬ (S 1 j1) = 4) (c4 : (S 18 j1) = 16) : gm_run gM 0 YX11_notSending 0 [some (.ref 0), some (.int a1)] [] S (some (.int (-1000000003))) S := by
  refine gm_aload_n dX11_notSending_0 rfl ?_
  refine gm_getR (own := RX11) (q := 15) rfl dX11_notSending_1 lfX11_62 sM_0 rfl ?_
  refine gm_iload_n dX11_notSending_4 rfl ?_
  refine gm_iald (j := j1) (x := (S 15 j1)) dX11_notSending_5 sM_15 ij1 rfl ?_
  refine gm_if_ge_f dX11_notSending_6 ⟨19, by decide⟩ c2 ?_
  refine gm_aload_n dX11_notSending_9 rfl ?_
  refine gm_getR (own := RX11) (q := 1) rfl dX11_notSending_10 lfX11_19 sM_0 rfl ?_
  refine gm_iload_n dX11_notSending_13 rfl ?_
  refine gm_iald (j := j1) (x := (S 1 j1)) dX11_notSending_14 sM_1 ij1 rfl ?_
  refine gm_iconst (v := 4) dX11_notSending_15 (by decide) ?_
  refine gm_icmp_ne_t (tgt := 24) dX11_notSending_16 (by decide) c3 ?_
  refine gm_aload_n dX11_notSending_24 rfl ?_
  refine gm_getR (own := RX11) (q := 18) rfl dX11_notSending_25 lfX11_71 sM_0 rfl ?_
  refine gm_iload_n dX11_notSending_28 rfl ?_
  refine gm_iald (j := j1) (x := (S 18 j1)) dX11_notSending_29 sM_18 ij1 rfl ?_
  refine gm_bipush (v := 16) dX11_notSending_30 (by decide) ?_
  refine gm_icmp_ne_f dX11_notSending_32 ⟨40, by decide⟩ c4 ?_
  refine gm_ldc (own := RX11) rfl lcX11_197 dX11_notSending_35 ?_
  refine gm_goto (tgt := 41) dX11_notSending_37 (by decide) ?_
  exact gm_iret dX11_notSending_41 rfl
/-- X11_notSending 0 [6f 16t 32t] -> ret  -/
theorem PX11_notSending_3 {a1 : Int32} {S : gm_Mem} {j1 : Nat} (ij1 : gm_ix a1 j1 2) (c2 : (S 15 j1) < 0) (c3 : ¬ (S 1 j1) = 4) (c4 : ¬ (S 18 j1) = 16) : gm_run gM 0 YX11_notSending 0 [some (.ref 0), some (.int a1)] [] S (some (.int 0)) S := by
  refine gm_aload_n dX11_notSending_0 rfl ?_
  refine gm_getR (own := RX11) (q := 15) rfl dX11_notSending_1 lfX11_62 sM_0 rfl ?_
  refine gm_iload_n dX11_notSending_4 rfl ?_
  refine gm_iald (j := j1) (x := (S 15 j1)) dX11_notSending_5 sM_15 ij1 rfl ?_
  refine gm_if_ge_f dX11_notSending_6 ⟨19, by decide⟩ c2 ?_
  refine gm_aload_n dX11_notSending_9 rfl ?_
  refine gm_getR (own := RX11) (q := 1) rfl dX11_notSending_10 lfX11_19 sM_0 rfl ?_
  refine gm_iload_n dX11_notSending_13 rfl ?_
  refine gm_iald (j := j1) (x := (S 1 j1)) dX11_notSending_14 sM_1 ij1 rfl ?_
  refine gm_iconst (v := 4) dX11_notSending_15 (by decide) ?_
  refine gm_icmp_ne_t (tgt := 24) dX11_notSending_16 (by decide) c3 ?_
  refine gm_aload_n dX11_notSending_24 rfl ?_
  refine gm_getR (own := RX11) (q := 18) rfl dX11_notSending_25 lfX11_71 sM_0 rfl ?_
  refine gm_iload_n dX11_notSending_28 rfl ?_
  refine gm_iald (j := j1) (x := (S 18 j1)) dX11_notSending_29 sM_18 ij1 rfl ?_
  refine gm_bipush (v := 16) dX11_notSending_30 (by decide) ?_
  refine gm_icmp_ne_t (tgt := 40) dX11_notSending_32 (by decide) c4 ?_
  refine gm_iconst (v := 0) dX11_notSending_40 (by decide) ?_
  exact gm_iret dX11_notSending_41 rfl
/-- X11_notSending 0 [6t] -> ret  -/
theorem PX11_notSending_4 {a1 : Int32} {S : gm_Mem} {j1 : Nat} (ij1 : gm_ix a1 j1 2) (c2 : ¬ (S 15 j1) < 0) : gm_run gM 0 YX11_notSending 0 [some (.ref 0), some (.int a1)] [] S (some (.int (-1000000004))) S := by
  refine gm_aload_n dX11_notSending_0 rfl ?_
  refine gm_getR (own := RX11) (q := 15) rfl dX11_notSending_1 lfX11_62 sM_0 rfl ?_
  refine gm_iload_n dX11_notSending_4 rfl ?_
  refine gm_iald (j := j1) (x := (S 15 j1)) dX11_notSending_5 sM_15 ij1 rfl ?_
  refine gm_if_ge_t (tgt := 19) dX11_notSending_6 (by decide) c2 ?_
  refine gm_ldc (own := RX11) rfl lcX11_196 dX11_notSending_19 ?_
  refine gm_goto (tgt := 41) dX11_notSending_21 (by decide) ?_
  exact gm_iret dX11_notSending_41 rfl
/-- X11_comes 0 [41f] -> ret  -/
theorem PX11_comes_1 {a1 : Int32} {a2 : Int32} {a3 : Int32} {S : gm_Mem} {j1 : Nat} {j2 : Nat} {T1 : gm_Mem} (ij1 : gm_ix a1 j1 2) (ij2 : gm_ix ((16 * a1) + (S 18 j1)) j2 32) (c3 : ¬ a3 = 0) (h4 : gm_run gM 3 YX11_sendsDue 0 [some (.ref 0), some (.int a1), none, none] [] (gm_u (gm_u (gm_u (gm_u (gm_u (gm_u (gm_u S 20 j2 (S 14 j1)) 21 j2 a2) 22 j2 1) 23 j2 (-1)) 18 j1 ((S 18 j1) + 1)) 14 j1 ((S 14 j1) + 1)) 15 j1 (S 14 j1)) none T1) : gm_run gM 4 YX11_comes 0 [some (.ref 0), some (.int a1), some (.int a2), some (.int a3), none, none] [] S (some (.int (S 14 j1))) T1 := by
  refine gm_bipush (v := 16) dX11_comes_0 (by decide) ?_
  refine gm_iload_n dX11_comes_2 rfl ?_
  refine gm_imul dX11_comes_3 rfl ?_
  refine gm_aload_n dX11_comes_4 rfl ?_
  refine gm_getR (own := RX11) (q := 18) rfl dX11_comes_5 lfX11_71 sM_0 rfl ?_
  refine gm_iload_n dX11_comes_8 rfl ?_
  refine gm_iald (j := j1) (x := (S 18 j1)) dX11_comes_9 sM_18 ij1 rfl ?_
  refine gm_iadd dX11_comes_10 rfl ?_
  refine gm_istore (L' := [some (.ref 0), some (.int a1), some (.int a2), some (.int a3), some (.int ((16 * a1) + (S 18 j1))), none]) dX11_comes_11 (by decide) rfl ?_
  refine gm_aload_n dX11_comes_13 rfl ?_
  refine gm_getR (own := RX11) (q := 20) rfl dX11_comes_14 lfX11_77 sM_0 rfl ?_
  refine gm_iload dX11_comes_17 rfl ?_
  refine gm_aload_n dX11_comes_19 rfl ?_
  refine gm_getR (own := RX11) (q := 14) rfl dX11_comes_20 lfX11_59 sM_0 rfl ?_
  refine gm_iload_n dX11_comes_23 rfl ?_
  refine gm_iald (j := j1) (x := (S 14 j1)) dX11_comes_24 sM_14 ij1 rfl ?_
  refine gm_iast (j := j2) dX11_comes_25 sM_20 ij2 ?_
  refine gm_aload_n dX11_comes_26 rfl ?_
  refine gm_getR (own := RX11) (q := 21) rfl dX11_comes_27 lfX11_80 sM_0 rfl ?_
  refine gm_iload dX11_comes_30 rfl ?_
  refine gm_iload_n dX11_comes_32 rfl ?_
  refine gm_iast (j := j2) dX11_comes_33 sM_21 ij2 ?_
  refine gm_aload_n dX11_comes_34 rfl ?_
  refine gm_getR (own := RX11) (q := 22) rfl dX11_comes_35 lfX11_83 sM_0 rfl ?_
  refine gm_iload dX11_comes_38 rfl ?_
  refine gm_iload_n dX11_comes_40 rfl ?_
  refine gm_if_eq_f dX11_comes_41 ⟨48, by decide⟩ c3 ?_
  refine gm_iconst (v := 1) dX11_comes_44 (by decide) ?_
  refine gm_goto (tgt := 49) dX11_comes_45 (by decide) ?_
  refine gm_iast (j := j2) dX11_comes_49 sM_22 ij2 ?_
  refine gm_aload_n dX11_comes_50 rfl ?_
  refine gm_getR (own := RX11) (q := 23) rfl dX11_comes_51 lfX11_86 sM_0 rfl ?_
  refine gm_iload dX11_comes_54 rfl ?_
  refine gm_iconst (v := (-1)) dX11_comes_56 (by decide) ?_
  refine gm_iast (j := j2) dX11_comes_57 sM_23 ij2 ?_
  refine gm_aload_n dX11_comes_58 rfl ?_
  refine gm_getR (own := RX11) (q := 18) rfl dX11_comes_59 lfX11_71 sM_0 rfl ?_
  refine gm_iload_n dX11_comes_62 rfl ?_
  refine gm_dup2 dX11_comes_63 ?_
  refine gm_iald (j := j1) (x := (S 18 j1)) dX11_comes_64 sM_18 ij1 ((gm_rp (by omega)).trans ((gm_rp (by omega)).trans ((gm_rp (by omega)).trans (gm_rp (by omega))))) ?_
  refine gm_iconst (v := 1) dX11_comes_65 (by decide) ?_
  refine gm_iadd dX11_comes_66 rfl ?_
  refine gm_iast (j := j1) dX11_comes_67 sM_18 ij1 ?_
  refine gm_aload_n dX11_comes_68 rfl ?_
  refine gm_getR (own := RX11) (q := 14) rfl dX11_comes_69 lfX11_59 sM_0 rfl ?_
  refine gm_iload_n dX11_comes_72 rfl ?_
  refine gm_dup2 dX11_comes_73 ?_
  refine gm_iald (j := j1) (x := (S 14 j1)) dX11_comes_74 sM_14 ij1 ((gm_rp (by omega)).trans ((gm_rp (by omega)).trans ((gm_rp (by omega)).trans ((gm_rp (by omega)).trans (gm_rp (by omega)))))) ?_
  refine gm_iconst (v := 1) dX11_comes_75 (by decide) ?_
  refine gm_iadd dX11_comes_76 rfl ?_
  refine gm_iast (j := j1) dX11_comes_77 sM_14 ij1 ?_
  refine gm_iload_n dX11_comes_78 rfl ?_
  refine gm_if_eq_f dX11_comes_79 ⟨95, by decide⟩ c3 ?_
  refine gm_aload_n dX11_comes_82 rfl ?_
  refine gm_getR (own := RX11) (q := 15) rfl dX11_comes_83 lfX11_62 sM_0 rfl ?_
  refine gm_iload_n dX11_comes_86 rfl ?_
  refine gm_aload_n dX11_comes_87 rfl ?_
  refine gm_getR (own := RX11) (q := 20) rfl dX11_comes_88 lfX11_77 sM_0 rfl ?_
  refine gm_iload dX11_comes_91 rfl ?_
  refine gm_iald (j := j2) (x := (S 14 j1)) dX11_comes_93 sM_20 ij2 ((gm_rp (by omega)).trans ((gm_rp (by omega)).trans ((gm_rp (by omega)).trans ((gm_rp (by omega)).trans ((gm_rp (by omega)).trans (gm_rS _ _ _ _)))))) ?_
  refine gm_iast (j := j1) dX11_comes_94 sM_15 ij1 ?_
  refine gm_aload_n dX11_comes_95 rfl ?_
  refine gm_getR (own := RX11) (q := 20) rfl dX11_comes_96 lfX11_77 sM_0 rfl ?_
  refine gm_iload dX11_comes_99 rfl ?_
  refine gm_iald (j := j2) (x := (S 14 j1)) dX11_comes_101 sM_20 ij2 ((gm_rp (by omega)).trans ((gm_rp (by omega)).trans ((gm_rp (by omega)).trans ((gm_rp (by omega)).trans ((gm_rp (by omega)).trans ((gm_rp (by omega)).trans (gm_rS _ _ _ _))))))) ?_
  refine gm_istore (L' := [some (.ref 0), some (.int a1), some (.int a2), some (.int a3), some (.int ((16 * a1) + (S 18 j1))), some (.int (S 14 j1))]) dX11_comes_102 (by decide) rfl ?_
  refine gm_aload_n dX11_comes_104 rfl ?_
  refine gm_iload_n dX11_comes_105 rfl ?_
  refine gm_callV (r1 := none) (own := RX11) rfl dX11_comes_106 llX11_208 mvX11_sendsDue sM_0 rfl [.int a1] [] rfl rfl (Nat.le_of_ble_eq_true rfl) (by decide) rfl h4 rfl ?_
  refine gm_iload dX11_comes_109 rfl ?_
  exact gm_iret dX11_comes_111 rfl
/-- X11_comes 0 [41t] -> ret  -/
theorem PX11_comes_2 {a1 : Int32} {a2 : Int32} {a3 : Int32} {S : gm_Mem} {j1 : Nat} {j2 : Nat} {T1 : gm_Mem} (ij1 : gm_ix a1 j1 2) (ij2 : gm_ix ((16 * a1) + (S 18 j1)) j2 32) (c3 : a3 = 0) (h4 : gm_run gM 3 YX11_sendsDue 0 [some (.ref 0), some (.int a1), none, none] [] (gm_u (gm_u (gm_u (gm_u (gm_u (gm_u S 20 j2 (S 14 j1)) 21 j2 a2) 22 j2 0) 23 j2 (-1)) 18 j1 ((S 18 j1) + 1)) 14 j1 ((S 14 j1) + 1)) none T1) : gm_run gM 4 YX11_comes 0 [some (.ref 0), some (.int a1), some (.int a2), some (.int a3), none, none] [] S (some (.int (S 14 j1))) T1 := by
  refine gm_bipush (v := 16) dX11_comes_0 (by decide) ?_
  refine gm_iload_n dX11_comes_2 rfl ?_
  refine gm_imul dX11_comes_3 rfl ?_
  refine gm_aload_n dX11_comes_4 rfl ?_
  refine gm_getR (own := RX11) (q := 18) rfl dX11_comes_5 lfX11_71 sM_0 rfl ?_
  refine gm_iload_n dX11_comes_8 rfl ?_
  refine gm_iald (j := j1) (x := (S 18 j1)) dX11_comes_9 sM_18 ij1 rfl ?_
  refine gm_iadd dX11_comes_10 rfl ?_
  refine gm_istore (L' := [some (.ref 0), some (.int a1), some (.int a2), some (.int a3), some (.int ((16 * a1) + (S 18 j1))), none]) dX11_comes_11 (by decide) rfl ?_
  refine gm_aload_n dX11_comes_13 rfl ?_
  refine gm_getR (own := RX11) (q := 20) rfl dX11_comes_14 lfX11_77 sM_0 rfl ?_
  refine gm_iload dX11_comes_17 rfl ?_
  refine gm_aload_n dX11_comes_19 rfl ?_
  refine gm_getR (own := RX11) (q := 14) rfl dX11_comes_20 lfX11_59 sM_0 rfl ?_
  refine gm_iload_n dX11_comes_23 rfl ?_
  refine gm_iald (j := j1) (x := (S 14 j1)) dX11_comes_24 sM_14 ij1 rfl ?_
  refine gm_iast (j := j2) dX11_comes_25 sM_20 ij2 ?_
  refine gm_aload_n dX11_comes_26 rfl ?_
  refine gm_getR (own := RX11) (q := 21) rfl dX11_comes_27 lfX11_80 sM_0 rfl ?_
  refine gm_iload dX11_comes_30 rfl ?_
  refine gm_iload_n dX11_comes_32 rfl ?_
  refine gm_iast (j := j2) dX11_comes_33 sM_21 ij2 ?_
  refine gm_aload_n dX11_comes_34 rfl ?_
  refine gm_getR (own := RX11) (q := 22) rfl dX11_comes_35 lfX11_83 sM_0 rfl ?_
  refine gm_iload dX11_comes_38 rfl ?_
  refine gm_iload_n dX11_comes_40 rfl ?_
  refine gm_if_eq_t (tgt := 48) dX11_comes_41 (by decide) c3 ?_
  refine gm_iconst (v := 0) dX11_comes_48 (by decide) ?_
  refine gm_iast (j := j2) dX11_comes_49 sM_22 ij2 ?_
  refine gm_aload_n dX11_comes_50 rfl ?_
  refine gm_getR (own := RX11) (q := 23) rfl dX11_comes_51 lfX11_86 sM_0 rfl ?_
  refine gm_iload dX11_comes_54 rfl ?_
  refine gm_iconst (v := (-1)) dX11_comes_56 (by decide) ?_
  refine gm_iast (j := j2) dX11_comes_57 sM_23 ij2 ?_
  refine gm_aload_n dX11_comes_58 rfl ?_
  refine gm_getR (own := RX11) (q := 18) rfl dX11_comes_59 lfX11_71 sM_0 rfl ?_
  refine gm_iload_n dX11_comes_62 rfl ?_
  refine gm_dup2 dX11_comes_63 ?_
  refine gm_iald (j := j1) (x := (S 18 j1)) dX11_comes_64 sM_18 ij1 ((gm_rp (by omega)).trans ((gm_rp (by omega)).trans ((gm_rp (by omega)).trans (gm_rp (by omega))))) ?_
  refine gm_iconst (v := 1) dX11_comes_65 (by decide) ?_
  refine gm_iadd dX11_comes_66 rfl ?_
  refine gm_iast (j := j1) dX11_comes_67 sM_18 ij1 ?_
  refine gm_aload_n dX11_comes_68 rfl ?_
  refine gm_getR (own := RX11) (q := 14) rfl dX11_comes_69 lfX11_59 sM_0 rfl ?_
  refine gm_iload_n dX11_comes_72 rfl ?_
  refine gm_dup2 dX11_comes_73 ?_
  refine gm_iald (j := j1) (x := (S 14 j1)) dX11_comes_74 sM_14 ij1 ((gm_rp (by omega)).trans ((gm_rp (by omega)).trans ((gm_rp (by omega)).trans ((gm_rp (by omega)).trans (gm_rp (by omega)))))) ?_
  refine gm_iconst (v := 1) dX11_comes_75 (by decide) ?_
  refine gm_iadd dX11_comes_76 rfl ?_
  refine gm_iast (j := j1) dX11_comes_77 sM_14 ij1 ?_
  refine gm_iload_n dX11_comes_78 rfl ?_
  refine gm_if_eq_t (tgt := 95) dX11_comes_79 (by decide) c3 ?_
  refine gm_aload_n dX11_comes_95 rfl ?_
  refine gm_getR (own := RX11) (q := 20) rfl dX11_comes_96 lfX11_77 sM_0 rfl ?_
  refine gm_iload dX11_comes_99 rfl ?_
  refine gm_iald (j := j2) (x := (S 14 j1)) dX11_comes_101 sM_20 ij2 ((gm_rp (by omega)).trans ((gm_rp (by omega)).trans ((gm_rp (by omega)).trans ((gm_rp (by omega)).trans ((gm_rp (by omega)).trans (gm_rS _ _ _ _)))))) ?_
  refine gm_istore (L' := [some (.ref 0), some (.int a1), some (.int a2), some (.int a3), some (.int ((16 * a1) + (S 18 j1))), some (.int (S 14 j1))]) dX11_comes_102 (by decide) rfl ?_
  refine gm_aload_n dX11_comes_104 rfl ?_
  refine gm_iload_n dX11_comes_105 rfl ?_
  refine gm_callV (r1 := none) (own := RX11) rfl dX11_comes_106 llX11_208 mvX11_sendsDue sM_0 rfl [.int a1] [] rfl rfl (Nat.le_of_ble_eq_true rfl) (by decide) rfl h4 rfl ?_
  refine gm_iload dX11_comes_109 rfl ?_
  exact gm_iret dX11_comes_111 rfl
/-- X11_send 0 [4f 17f] -> ret  -/
theorem PX11_send_1 {a1 : Int32} {a2 : Int32} {S : gm_Mem} {r1 : Int32} {r4 : Int32} (h2 : gm_run gM 0 YX11_isEndpoint 0 [some (.int a1)] [] S (some (.int r1)) S) (c3 : ¬ r1 = 0) (h5 : gm_run gM 0 YX11_isBetween 0 [some (.int a2), some (.int (-999)), some (.int 999)] [] S (some (.int r4)) S) (c6 : r4 = 0) : gm_run gM 5 YX11_send 0 [some (.ref 0), some (.int a1), some (.int a2), none] [] S (some (.int (-1000000002))) S := by
  refine gm_iload_n dX11_send_0 rfl ?_
  refine gm_callS (r1 := (some (.int r1))) (own := RX11) rfl dX11_send_1 llX11_211 msX11_isEndpoint [.int a1] [] rfl rfl (Nat.le_of_ble_eq_true rfl) (by decide) rfl h2 rfl ?_
  refine gm_if_eq_f dX11_send_4 ⟨20, by decide⟩ c3 ?_
  refine gm_iload_n dX11_send_7 rfl ?_
  refine gm_sipush (v := (-999)) dX11_send_8 (by decide) ?_
  refine gm_sipush (v := 999) dX11_send_11 (by decide) ?_
  refine gm_callS (r1 := (some (.int r4))) (own := RX11) rfl dX11_send_14 llX11_137 msX11_isBetween [.int a2, .int (-999), .int 999] [] rfl rfl (Nat.le_of_ble_eq_true rfl) (by decide) rfl h5 rfl ?_
  refine gm_if_ne_f dX11_send_17 ⟨23, by decide⟩ c6 ?_
  refine gm_ldc (own := RX11) rfl lcX11_141 dX11_send_20 ?_
  exact gm_iret dX11_send_22 rfl
/-- X11_send 0 [4f 17t 30f] -> ret  -/
theorem PX11_send_2 {a1 : Int32} {a2 : Int32} {S : gm_Mem} {r1 : Int32} {r4 : Int32} {r7 : Int32} (h2 : gm_run gM 0 YX11_isEndpoint 0 [some (.int a1)] [] S (some (.int r1)) S) (c3 : ¬ r1 = 0) (h5 : gm_run gM 0 YX11_isBetween 0 [some (.int a2), some (.int (-999)), some (.int 999)] [] S (some (.int r4)) S) (c6 : ¬ r4 = 0) (h8 : gm_run gM 0 YX11_notSending 0 [some (.ref 0), some (.int a1)] [] S (some (.int r7)) S) (c9 : ¬ r7 = 0) : gm_run gM 5 YX11_send 0 [some (.ref 0), some (.int a1), some (.int a2), none] [] S (some (.int r7)) S := by
  refine gm_iload_n dX11_send_0 rfl ?_
  refine gm_callS (r1 := (some (.int r1))) (own := RX11) rfl dX11_send_1 llX11_211 msX11_isEndpoint [.int a1] [] rfl rfl (Nat.le_of_ble_eq_true rfl) (by decide) rfl h2 rfl ?_
  refine gm_if_eq_f dX11_send_4 ⟨20, by decide⟩ c3 ?_
  refine gm_iload_n dX11_send_7 rfl ?_
  refine gm_sipush (v := (-999)) dX11_send_8 (by decide) ?_
  refine gm_sipush (v := 999) dX11_send_11 (by decide) ?_
  refine gm_callS (r1 := (some (.int r4))) (own := RX11) rfl dX11_send_14 llX11_137 msX11_isBetween [.int a2, .int (-999), .int 999] [] rfl rfl (Nat.le_of_ble_eq_true rfl) (by decide) rfl h5 rfl ?_
  refine gm_if_ne_t (tgt := 23) dX11_send_17 (by decide) c6 ?_
  refine gm_aload_n dX11_send_23 rfl ?_
  refine gm_iload_n dX11_send_24 rfl ?_
  refine gm_callV (r1 := (some (.int r7))) (own := RX11) rfl dX11_send_25 llX11_215 mvX11_notSending sM_0 rfl [.int a1] [] rfl rfl (Nat.le_of_ble_eq_true rfl) (by decide) rfl h8 rfl ?_
  refine gm_istore_n (L' := [some (.ref 0), some (.int a1), some (.int a2), some (.int r7)]) dX11_send_28 (by decide) rfl ?_
  refine gm_iload_n dX11_send_29 rfl ?_
  refine gm_if_eq_f dX11_send_30 ⟨37, by decide⟩ c9 ?_
  refine gm_iload_n dX11_send_33 rfl ?_
  refine gm_goto (tgt := 44) dX11_send_34 (by decide) ?_
  exact gm_iret dX11_send_44 rfl
/-- X11_send 0 [4f 17t 30t] -> ret  -/
theorem PX11_send_3 {a1 : Int32} {a2 : Int32} {S : gm_Mem} {r1 : Int32} {r4 : Int32} {r7 : Int32} {T1 : gm_Mem} {r10 : Int32} (h2 : gm_run gM 0 YX11_isEndpoint 0 [some (.int a1)] [] S (some (.int r1)) S) (c3 : ¬ r1 = 0) (h5 : gm_run gM 0 YX11_isBetween 0 [some (.int a2), some (.int (-999)), some (.int 999)] [] S (some (.int r4)) S) (c6 : ¬ r4 = 0) (h8 : gm_run gM 0 YX11_notSending 0 [some (.ref 0), some (.int a1)] [] S (some (.int r7)) S) (c9 : r7 = 0) (h11 : gm_run gM 4 YX11_comes 0 [some (.ref 0), some (.int a1), some (.int a2), some (.int 0), none, none] [] S (some (.int r10)) T1) : gm_run gM 5 YX11_send 0 [some (.ref 0), some (.int a1), some (.int a2), none] [] S (some (.int r10)) T1 := by
  refine gm_iload_n dX11_send_0 rfl ?_
  refine gm_callS (r1 := (some (.int r1))) (own := RX11) rfl dX11_send_1 llX11_211 msX11_isEndpoint [.int a1] [] rfl rfl (Nat.le_of_ble_eq_true rfl) (by decide) rfl h2 rfl ?_
  refine gm_if_eq_f dX11_send_4 ⟨20, by decide⟩ c3 ?_
  refine gm_iload_n dX11_send_7 rfl ?_
  refine gm_sipush (v := (-999)) dX11_send_8 (by decide) ?_
  refine gm_sipush (v := 999) dX11_send_11 (by decide) ?_
  refine gm_callS (r1 := (some (.int r4))) (own := RX11) rfl dX11_send_14 llX11_137 msX11_isBetween [.int a2, .int (-999), .int 999] [] rfl rfl (Nat.le_of_ble_eq_true rfl) (by decide) rfl h5 rfl ?_
  refine gm_if_ne_t (tgt := 23) dX11_send_17 (by decide) c6 ?_
  refine gm_aload_n dX11_send_23 rfl ?_
  refine gm_iload_n dX11_send_24 rfl ?_
  refine gm_callV (r1 := (some (.int r7))) (own := RX11) rfl dX11_send_25 llX11_215 mvX11_notSending sM_0 rfl [.int a1] [] rfl rfl (Nat.le_of_ble_eq_true rfl) (by decide) rfl h8 rfl ?_
  refine gm_istore_n (L' := [some (.ref 0), some (.int a1), some (.int a2), some (.int r7)]) dX11_send_28 (by decide) rfl ?_
  refine gm_iload_n dX11_send_29 rfl ?_
  refine gm_if_eq_t (tgt := 37) dX11_send_30 (by decide) c9 ?_
  refine gm_aload_n dX11_send_37 rfl ?_
  refine gm_iload_n dX11_send_38 rfl ?_
  refine gm_iload_n dX11_send_39 rfl ?_
  refine gm_iconst (v := 0) dX11_send_40 (by decide) ?_
  refine gm_callV (r1 := (some (.int r10))) (own := RX11) rfl dX11_send_41 llX11_219 mvX11_comes sM_0 rfl [.int a1, .int a2, .int 0] [] rfl rfl (Nat.le_of_ble_eq_true rfl) (by decide) rfl h11 rfl ?_
  exact gm_iret dX11_send_44 rfl
/-- X11_send 0 [4t] -> ret  -/
theorem PX11_send_4 {a1 : Int32} {a2 : Int32} {S : gm_Mem} {r1 : Int32} (h2 : gm_run gM 0 YX11_isEndpoint 0 [some (.int a1)] [] S (some (.int r1)) S) (c3 : r1 = 0) : gm_run gM 5 YX11_send 0 [some (.ref 0), some (.int a1), some (.int a2), none] [] S (some (.int (-1000000002))) S := by
  refine gm_iload_n dX11_send_0 rfl ?_
  refine gm_callS (r1 := (some (.int r1))) (own := RX11) rfl dX11_send_1 llX11_211 msX11_isEndpoint [.int a1] [] rfl rfl (Nat.le_of_ble_eq_true rfl) (by decide) rfl h2 rfl ?_
  refine gm_if_eq_t (tgt := 20) dX11_send_4 (by decide) c3 ?_
  refine gm_ldc (own := RX11) rfl lcX11_141 dX11_send_20 ?_
  exact gm_iret dX11_send_22 rfl
/-- X11_close 0 [4f] -> ret  -/
theorem PX11_close_1 {a1 : Int32} {S : gm_Mem} {r1 : Int32} (h2 : gm_run gM 0 YX11_isEndpoint 0 [some (.int a1)] [] S (some (.int r1)) S) (c3 : r1 = 0) : gm_run gM 5 YX11_close 0 [some (.ref 0), some (.int a1), none] [] S (some (.int (-1000000002))) S := by
  refine gm_iload_n dX11_close_0 rfl ?_
  refine gm_callS (r1 := (some (.int r1))) (own := RX11) rfl dX11_close_1 llX11_211 msX11_isEndpoint [.int a1] [] rfl rfl (Nat.le_of_ble_eq_true rfl) (by decide) rfl h2 rfl ?_
  refine gm_if_ne_f dX11_close_4 ⟨10, by decide⟩ c3 ?_
  refine gm_ldc (own := RX11) rfl lcX11_141 dX11_close_7 ?_
  exact gm_iret dX11_close_9 rfl
/-- X11_close 0 [4t 17f] -> ret  -/
theorem PX11_close_2 {a1 : Int32} {S : gm_Mem} {r1 : Int32} {r4 : Int32} (h2 : gm_run gM 0 YX11_isEndpoint 0 [some (.int a1)] [] S (some (.int r1)) S) (c3 : ¬ r1 = 0) (h5 : gm_run gM 0 YX11_notSending 0 [some (.ref 0), some (.int a1)] [] S (some (.int r4)) S) (c6 : ¬ r4 = 0) : gm_run gM 5 YX11_close 0 [some (.ref 0), some (.int a1), none] [] S (some (.int r4)) S := by
  refine gm_iload_n dX11_close_0 rfl ?_
  refine gm_callS (r1 := (some (.int r1))) (own := RX11) rfl dX11_close_1 llX11_211 msX11_isEndpoint [.int a1] [] rfl rfl (Nat.le_of_ble_eq_true rfl) (by decide) rfl h2 rfl ?_
  refine gm_if_ne_t (tgt := 10) dX11_close_4 (by decide) c3 ?_
  refine gm_aload_n dX11_close_10 rfl ?_
  refine gm_iload_n dX11_close_11 rfl ?_
  refine gm_callV (r1 := (some (.int r4))) (own := RX11) rfl dX11_close_12 llX11_215 mvX11_notSending sM_0 rfl [.int a1] [] rfl rfl (Nat.le_of_ble_eq_true rfl) (by decide) rfl h5 rfl ?_
  refine gm_istore_n (L' := [some (.ref 0), some (.int a1), some (.int r4)]) dX11_close_15 (by decide) rfl ?_
  refine gm_iload_n dX11_close_16 rfl ?_
  refine gm_if_eq_f dX11_close_17 ⟨24, by decide⟩ c6 ?_
  refine gm_iload_n dX11_close_20 rfl ?_
  refine gm_goto (tgt := 31) dX11_close_21 (by decide) ?_
  exact gm_iret dX11_close_31 rfl
/-- X11_close 0 [4t 17t] -> ret  -/
theorem PX11_close_3 {a1 : Int32} {S : gm_Mem} {r1 : Int32} {r4 : Int32} {T1 : gm_Mem} {r7 : Int32} (h2 : gm_run gM 0 YX11_isEndpoint 0 [some (.int a1)] [] S (some (.int r1)) S) (c3 : ¬ r1 = 0) (h5 : gm_run gM 0 YX11_notSending 0 [some (.ref 0), some (.int a1)] [] S (some (.int r4)) S) (c6 : r4 = 0) (h8 : gm_run gM 4 YX11_comes 0 [some (.ref 0), some (.int a1), some (.int 0), some (.int 1), none, none] [] S (some (.int r7)) T1) : gm_run gM 5 YX11_close 0 [some (.ref 0), some (.int a1), none] [] S (some (.int r7)) T1 := by
  refine gm_iload_n dX11_close_0 rfl ?_
  refine gm_callS (r1 := (some (.int r1))) (own := RX11) rfl dX11_close_1 llX11_211 msX11_isEndpoint [.int a1] [] rfl rfl (Nat.le_of_ble_eq_true rfl) (by decide) rfl h2 rfl ?_
  refine gm_if_ne_t (tgt := 10) dX11_close_4 (by decide) c3 ?_
  refine gm_aload_n dX11_close_10 rfl ?_
  refine gm_iload_n dX11_close_11 rfl ?_
  refine gm_callV (r1 := (some (.int r4))) (own := RX11) rfl dX11_close_12 llX11_215 mvX11_notSending sM_0 rfl [.int a1] [] rfl rfl (Nat.le_of_ble_eq_true rfl) (by decide) rfl h5 rfl ?_
  refine gm_istore_n (L' := [some (.ref 0), some (.int a1), some (.int r4)]) dX11_close_15 (by decide) rfl ?_
  refine gm_iload_n dX11_close_16 rfl ?_
  refine gm_if_eq_t (tgt := 24) dX11_close_17 (by decide) c6 ?_
  refine gm_aload_n dX11_close_24 rfl ?_
  refine gm_iload_n dX11_close_25 rfl ?_
  refine gm_iconst (v := 0) dX11_close_26 (by decide) ?_
  refine gm_iconst (v := 1) dX11_close_27 (by decide) ?_
  refine gm_callV (r1 := (some (.int r7))) (own := RX11) rfl dX11_close_28 llX11_219 mvX11_comes sM_0 rfl [.int a1, .int 0, .int 1] [] rfl rfl (Nat.le_of_ble_eq_true rfl) (by decide) rfl h8 rfl ?_
  exact gm_iret dX11_close_31 rfl
/-- X11_takesKind 0 [1f 6f 15f 25f 35f] -> ret  -/
theorem PX11_takesKind_1 {a1 : Int32} {a2 : Int32} {S : gm_Mem} (c1 : a2 = 0) (c2 : a1 = 1) (c3 : ¬ (S 1 1) = 0) (c4 : ¬ (S 1 1) = 2) (c5 : (S 1 1) = 4) : gm_run gM 0 YX11_takesKind 0 [some (.ref 0), some (.int a1), some (.int a2)] [] S (some (.int 1)) S := by
  refine gm_iload_n dX11_takesKind_0 rfl ?_
  refine gm_if_ne_f dX11_takesKind_1 ⟨44, by decide⟩ c1 ?_
  refine gm_iload_n dX11_takesKind_4 rfl ?_
  refine gm_iconst (v := 1) dX11_takesKind_5 (by decide) ?_
  refine gm_icmp_ne_f dX11_takesKind_6 ⟨42, by decide⟩ c2 ?_
  refine gm_aload_n dX11_takesKind_9 rfl ?_
  refine gm_getR (own := RX11) (q := 1) rfl dX11_takesKind_10 lfX11_19 sM_0 rfl ?_
  refine gm_iconst (v := 1) dX11_takesKind_13 (by decide) ?_
  refine gm_iald (j := 1) (x := (S 1 1)) dX11_takesKind_14 sM_1 ⟨by decide, by decide⟩ rfl ?_
  refine gm_if_eq_f dX11_takesKind_15 ⟨38, by decide⟩ c3 ?_
  refine gm_aload_n dX11_takesKind_18 rfl ?_
  refine gm_getR (own := RX11) (q := 1) rfl dX11_takesKind_19 lfX11_19 sM_0 rfl ?_
  refine gm_iconst (v := 1) dX11_takesKind_22 (by decide) ?_
  refine gm_iald (j := 1) (x := (S 1 1)) dX11_takesKind_23 sM_1 ⟨by decide, by decide⟩ rfl ?_
  refine gm_iconst (v := 2) dX11_takesKind_24 (by decide) ?_
  refine gm_icmp_eq_f dX11_takesKind_25 ⟨38, by decide⟩ c4 ?_
  refine gm_aload_n dX11_takesKind_28 rfl ?_
  refine gm_getR (own := RX11) (q := 1) rfl dX11_takesKind_29 lfX11_19 sM_0 rfl ?_
  refine gm_iconst (v := 1) dX11_takesKind_32 (by decide) ?_
  refine gm_iald (j := 1) (x := (S 1 1)) dX11_takesKind_33 sM_1 ⟨by decide, by decide⟩ rfl ?_
  refine gm_iconst (v := 4) dX11_takesKind_34 (by decide) ?_
  refine gm_icmp_ne_f dX11_takesKind_35 ⟨42, by decide⟩ c5 ?_
  refine gm_iconst (v := 1) dX11_takesKind_38 (by decide) ?_
  refine gm_goto (tgt := 43) dX11_takesKind_39 (by decide) ?_
  exact gm_zret dX11_takesKind_43 rfl gm_fit_1
/-- X11_takesKind 0 [1f 6f 15f 25f 35t] -> ret  -/
theorem PX11_takesKind_2 {a1 : Int32} {a2 : Int32} {S : gm_Mem} (c1 : a2 = 0) (c2 : a1 = 1) (c3 : ¬ (S 1 1) = 0) (c4 : ¬ (S 1 1) = 2) (c5 : ¬ (S 1 1) = 4) : gm_run gM 0 YX11_takesKind 0 [some (.ref 0), some (.int a1), some (.int a2)] [] S (some (.int 0)) S := by
  refine gm_iload_n dX11_takesKind_0 rfl ?_
  refine gm_if_ne_f dX11_takesKind_1 ⟨44, by decide⟩ c1 ?_
  refine gm_iload_n dX11_takesKind_4 rfl ?_
  refine gm_iconst (v := 1) dX11_takesKind_5 (by decide) ?_
  refine gm_icmp_ne_f dX11_takesKind_6 ⟨42, by decide⟩ c2 ?_
  refine gm_aload_n dX11_takesKind_9 rfl ?_
  refine gm_getR (own := RX11) (q := 1) rfl dX11_takesKind_10 lfX11_19 sM_0 rfl ?_
  refine gm_iconst (v := 1) dX11_takesKind_13 (by decide) ?_
  refine gm_iald (j := 1) (x := (S 1 1)) dX11_takesKind_14 sM_1 ⟨by decide, by decide⟩ rfl ?_
  refine gm_if_eq_f dX11_takesKind_15 ⟨38, by decide⟩ c3 ?_
  refine gm_aload_n dX11_takesKind_18 rfl ?_
  refine gm_getR (own := RX11) (q := 1) rfl dX11_takesKind_19 lfX11_19 sM_0 rfl ?_
  refine gm_iconst (v := 1) dX11_takesKind_22 (by decide) ?_
  refine gm_iald (j := 1) (x := (S 1 1)) dX11_takesKind_23 sM_1 ⟨by decide, by decide⟩ rfl ?_
  refine gm_iconst (v := 2) dX11_takesKind_24 (by decide) ?_
  refine gm_icmp_eq_f dX11_takesKind_25 ⟨38, by decide⟩ c4 ?_
  refine gm_aload_n dX11_takesKind_28 rfl ?_
  refine gm_getR (own := RX11) (q := 1) rfl dX11_takesKind_29 lfX11_19 sM_0 rfl ?_
  refine gm_iconst (v := 1) dX11_takesKind_32 (by decide) ?_
  refine gm_iald (j := 1) (x := (S 1 1)) dX11_takesKind_33 sM_1 ⟨by decide, by decide⟩ rfl ?_
  refine gm_iconst (v := 4) dX11_takesKind_34 (by decide) ?_
  refine gm_icmp_ne_t (tgt := 42) dX11_takesKind_35 (by decide) c5 ?_
  refine gm_iconst (v := 0) dX11_takesKind_42 (by decide) ?_
  exact gm_zret dX11_takesKind_43 rfl gm_fit_0
/-- X11_takesKind 0 [1f 6f 15f 25t] -> ret  -/
theorem PX11_takesKind_3 {a1 : Int32} {a2 : Int32} {S : gm_Mem} (c1 : a2 = 0) (c2 : a1 = 1) (c3 : ¬ (S 1 1) = 0) (c4 : (S 1 1) = 2) : gm_run gM 0 YX11_takesKind 0 [some (.ref 0), some (.int a1), some (.int a2)] [] S (some (.int 1)) S := by
  refine gm_iload_n dX11_takesKind_0 rfl ?_
  refine gm_if_ne_f dX11_takesKind_1 ⟨44, by decide⟩ c1 ?_
  refine gm_iload_n dX11_takesKind_4 rfl ?_
  refine gm_iconst (v := 1) dX11_takesKind_5 (by decide) ?_
  refine gm_icmp_ne_f dX11_takesKind_6 ⟨42, by decide⟩ c2 ?_
  refine gm_aload_n dX11_takesKind_9 rfl ?_
  refine gm_getR (own := RX11) (q := 1) rfl dX11_takesKind_10 lfX11_19 sM_0 rfl ?_
  refine gm_iconst (v := 1) dX11_takesKind_13 (by decide) ?_
  refine gm_iald (j := 1) (x := (S 1 1)) dX11_takesKind_14 sM_1 ⟨by decide, by decide⟩ rfl ?_
  refine gm_if_eq_f dX11_takesKind_15 ⟨38, by decide⟩ c3 ?_
  refine gm_aload_n dX11_takesKind_18 rfl ?_
  refine gm_getR (own := RX11) (q := 1) rfl dX11_takesKind_19 lfX11_19 sM_0 rfl ?_
  refine gm_iconst (v := 1) dX11_takesKind_22 (by decide) ?_
  refine gm_iald (j := 1) (x := (S 1 1)) dX11_takesKind_23 sM_1 ⟨by decide, by decide⟩ rfl ?_
  refine gm_iconst (v := 2) dX11_takesKind_24 (by decide) ?_
  refine gm_icmp_eq_t (tgt := 38) dX11_takesKind_25 (by decide) c4 ?_
  refine gm_iconst (v := 1) dX11_takesKind_38 (by decide) ?_
  refine gm_goto (tgt := 43) dX11_takesKind_39 (by decide) ?_
  exact gm_zret dX11_takesKind_43 rfl gm_fit_1
/-- X11_takesKind 0 [1f 6f 15t] -> ret  -/
theorem PX11_takesKind_4 {a1 : Int32} {a2 : Int32} {S : gm_Mem} (c1 : a2 = 0) (c2 : a1 = 1) (c3 : (S 1 1) = 0) : gm_run gM 0 YX11_takesKind 0 [some (.ref 0), some (.int a1), some (.int a2)] [] S (some (.int 1)) S := by
  refine gm_iload_n dX11_takesKind_0 rfl ?_
  refine gm_if_ne_f dX11_takesKind_1 ⟨44, by decide⟩ c1 ?_
  refine gm_iload_n dX11_takesKind_4 rfl ?_
  refine gm_iconst (v := 1) dX11_takesKind_5 (by decide) ?_
  refine gm_icmp_ne_f dX11_takesKind_6 ⟨42, by decide⟩ c2 ?_
  refine gm_aload_n dX11_takesKind_9 rfl ?_
  refine gm_getR (own := RX11) (q := 1) rfl dX11_takesKind_10 lfX11_19 sM_0 rfl ?_
  refine gm_iconst (v := 1) dX11_takesKind_13 (by decide) ?_
  refine gm_iald (j := 1) (x := (S 1 1)) dX11_takesKind_14 sM_1 ⟨by decide, by decide⟩ rfl ?_
  refine gm_if_eq_t (tgt := 38) dX11_takesKind_15 (by decide) c3 ?_
  refine gm_iconst (v := 1) dX11_takesKind_38 (by decide) ?_
  refine gm_goto (tgt := 43) dX11_takesKind_39 (by decide) ?_
  exact gm_zret dX11_takesKind_43 rfl gm_fit_1
/-- X11_takesKind 0 [1f 6t] -> ret  -/
theorem PX11_takesKind_5 {a1 : Int32} {a2 : Int32} {S : gm_Mem} (c1 : a2 = 0) (c2 : ¬ a1 = 1) : gm_run gM 0 YX11_takesKind 0 [some (.ref 0), some (.int a1), some (.int a2)] [] S (some (.int 0)) S := by
  refine gm_iload_n dX11_takesKind_0 rfl ?_
  refine gm_if_ne_f dX11_takesKind_1 ⟨44, by decide⟩ c1 ?_
  refine gm_iload_n dX11_takesKind_4 rfl ?_
  refine gm_iconst (v := 1) dX11_takesKind_5 (by decide) ?_
  refine gm_icmp_ne_t (tgt := 42) dX11_takesKind_6 (by decide) c2 ?_
  refine gm_iconst (v := 0) dX11_takesKind_42 (by decide) ?_
  exact gm_zret dX11_takesKind_43 rfl gm_fit_0
/-- X11_takesKind 0 [1t 46f 51f 55f 65f] -> ret  -/
theorem PX11_takesKind_6 {a1 : Int32} {a2 : Int32} {S : gm_Mem} (c1 : ¬ a2 = 0) (c2 : ¬ a2 = 1) (c3 : a2 = 2) (c4 : a1 = 0) (c5 : (S 1 0) = 1) : gm_run gM 0 YX11_takesKind 0 [some (.ref 0), some (.int a1), some (.int a2)] [] S (some (.int 1)) S := by
  refine gm_iload_n dX11_takesKind_0 rfl ?_
  refine gm_if_ne_t (tgt := 44) dX11_takesKind_1 (by decide) c1 ?_
  refine gm_iload_n dX11_takesKind_44 rfl ?_
  refine gm_iconst (v := 1) dX11_takesKind_45 (by decide) ?_
  refine gm_icmp_eq_f dX11_takesKind_46 ⟨54, by decide⟩ c2 ?_
  refine gm_iload_n dX11_takesKind_49 rfl ?_
  refine gm_iconst (v := 2) dX11_takesKind_50 (by decide) ?_
  refine gm_icmp_ne_f dX11_takesKind_51 ⟨74, by decide⟩ c3 ?_
  refine gm_iload_n dX11_takesKind_54 rfl ?_
  refine gm_if_ne_f dX11_takesKind_55 ⟨72, by decide⟩ c4 ?_
  refine gm_aload_n dX11_takesKind_58 rfl ?_
  refine gm_getR (own := RX11) (q := 1) rfl dX11_takesKind_59 lfX11_19 sM_0 rfl ?_
  refine gm_iconst (v := 0) dX11_takesKind_62 (by decide) ?_
  refine gm_iald (j := 0) (x := (S 1 0)) dX11_takesKind_63 sM_1 ⟨by decide, by decide⟩ rfl ?_
  refine gm_iconst (v := 1) dX11_takesKind_64 (by decide) ?_
  refine gm_icmp_ne_f dX11_takesKind_65 ⟨72, by decide⟩ c5 ?_
  refine gm_iconst (v := 1) dX11_takesKind_68 (by decide) ?_
  refine gm_goto (tgt := 73) dX11_takesKind_69 (by decide) ?_
  exact gm_zret dX11_takesKind_73 rfl gm_fit_1
/-- X11_takesKind 0 [1t 46f 51f 55f 65t] -> ret  -/
theorem PX11_takesKind_7 {a1 : Int32} {a2 : Int32} {S : gm_Mem} (c1 : ¬ a2 = 0) (c2 : ¬ a2 = 1) (c3 : a2 = 2) (c4 : a1 = 0) (c5 : ¬ (S 1 0) = 1) : gm_run gM 0 YX11_takesKind 0 [some (.ref 0), some (.int a1), some (.int a2)] [] S (some (.int 0)) S := by
  refine gm_iload_n dX11_takesKind_0 rfl ?_
  refine gm_if_ne_t (tgt := 44) dX11_takesKind_1 (by decide) c1 ?_
  refine gm_iload_n dX11_takesKind_44 rfl ?_
  refine gm_iconst (v := 1) dX11_takesKind_45 (by decide) ?_
  refine gm_icmp_eq_f dX11_takesKind_46 ⟨54, by decide⟩ c2 ?_
  refine gm_iload_n dX11_takesKind_49 rfl ?_
  refine gm_iconst (v := 2) dX11_takesKind_50 (by decide) ?_
  refine gm_icmp_ne_f dX11_takesKind_51 ⟨74, by decide⟩ c3 ?_
  refine gm_iload_n dX11_takesKind_54 rfl ?_
  refine gm_if_ne_f dX11_takesKind_55 ⟨72, by decide⟩ c4 ?_
  refine gm_aload_n dX11_takesKind_58 rfl ?_
  refine gm_getR (own := RX11) (q := 1) rfl dX11_takesKind_59 lfX11_19 sM_0 rfl ?_
  refine gm_iconst (v := 0) dX11_takesKind_62 (by decide) ?_
  refine gm_iald (j := 0) (x := (S 1 0)) dX11_takesKind_63 sM_1 ⟨by decide, by decide⟩ rfl ?_
  refine gm_iconst (v := 1) dX11_takesKind_64 (by decide) ?_
  refine gm_icmp_ne_t (tgt := 72) dX11_takesKind_65 (by decide) c5 ?_
  refine gm_iconst (v := 0) dX11_takesKind_72 (by decide) ?_
  exact gm_zret dX11_takesKind_73 rfl gm_fit_0
/-- X11_takesKind 0 [1t 46f 51f 55t] -> ret  -/
theorem PX11_takesKind_8 {a1 : Int32} {a2 : Int32} {S : gm_Mem} (c1 : ¬ a2 = 0) (c2 : ¬ a2 = 1) (c3 : a2 = 2) (c4 : ¬ a1 = 0) : gm_run gM 0 YX11_takesKind 0 [some (.ref 0), some (.int a1), some (.int a2)] [] S (some (.int 0)) S := by
  refine gm_iload_n dX11_takesKind_0 rfl ?_
  refine gm_if_ne_t (tgt := 44) dX11_takesKind_1 (by decide) c1 ?_
  refine gm_iload_n dX11_takesKind_44 rfl ?_
  refine gm_iconst (v := 1) dX11_takesKind_45 (by decide) ?_
  refine gm_icmp_eq_f dX11_takesKind_46 ⟨54, by decide⟩ c2 ?_
  refine gm_iload_n dX11_takesKind_49 rfl ?_
  refine gm_iconst (v := 2) dX11_takesKind_50 (by decide) ?_
  refine gm_icmp_ne_f dX11_takesKind_51 ⟨74, by decide⟩ c3 ?_
  refine gm_iload_n dX11_takesKind_54 rfl ?_
  refine gm_if_ne_t (tgt := 72) dX11_takesKind_55 (by decide) c4 ?_
  refine gm_iconst (v := 0) dX11_takesKind_72 (by decide) ?_
  exact gm_zret dX11_takesKind_73 rfl gm_fit_0
/-- X11_takesKind 0 [1t 46f 51t 77f 81f 91f] -> ret  -/
theorem PX11_takesKind_9 {a1 : Int32} {a2 : Int32} {S : gm_Mem} (c1 : ¬ a2 = 0) (c2 : ¬ a2 = 1) (c3 : ¬ a2 = 2) (c4 : a2 = 6) (c5 : a1 = 0) (c6 : (S 1 0) = 3) : gm_run gM 0 YX11_takesKind 0 [some (.ref 0), some (.int a1), some (.int a2)] [] S (some (.int 1)) S := by
  refine gm_iload_n dX11_takesKind_0 rfl ?_
  refine gm_if_ne_t (tgt := 44) dX11_takesKind_1 (by decide) c1 ?_
  refine gm_iload_n dX11_takesKind_44 rfl ?_
  refine gm_iconst (v := 1) dX11_takesKind_45 (by decide) ?_
  refine gm_icmp_eq_f dX11_takesKind_46 ⟨54, by decide⟩ c2 ?_
  refine gm_iload_n dX11_takesKind_49 rfl ?_
  refine gm_iconst (v := 2) dX11_takesKind_50 (by decide) ?_
  refine gm_icmp_ne_t (tgt := 74) dX11_takesKind_51 (by decide) c3 ?_
  refine gm_iload_n dX11_takesKind_74 rfl ?_
  refine gm_bipush (v := 6) dX11_takesKind_75 (by decide) ?_
  refine gm_icmp_ne_f dX11_takesKind_77 ⟨100, by decide⟩ c4 ?_
  refine gm_iload_n dX11_takesKind_80 rfl ?_
  refine gm_if_ne_f dX11_takesKind_81 ⟨98, by decide⟩ c5 ?_
  refine gm_aload_n dX11_takesKind_84 rfl ?_
  refine gm_getR (own := RX11) (q := 1) rfl dX11_takesKind_85 lfX11_19 sM_0 rfl ?_
  refine gm_iconst (v := 0) dX11_takesKind_88 (by decide) ?_
  refine gm_iald (j := 0) (x := (S 1 0)) dX11_takesKind_89 sM_1 ⟨by decide, by decide⟩ rfl ?_
  refine gm_iconst (v := 3) dX11_takesKind_90 (by decide) ?_
  refine gm_icmp_ne_f dX11_takesKind_91 ⟨98, by decide⟩ c6 ?_
  refine gm_iconst (v := 1) dX11_takesKind_94 (by decide) ?_
  refine gm_goto (tgt := 99) dX11_takesKind_95 (by decide) ?_
  exact gm_zret dX11_takesKind_99 rfl gm_fit_1
/-- X11_takesKind 0 [1t 46f 51t 77f 81f 91t] -> ret  -/
theorem PX11_takesKind_10 {a1 : Int32} {a2 : Int32} {S : gm_Mem} (c1 : ¬ a2 = 0) (c2 : ¬ a2 = 1) (c3 : ¬ a2 = 2) (c4 : a2 = 6) (c5 : a1 = 0) (c6 : ¬ (S 1 0) = 3) : gm_run gM 0 YX11_takesKind 0 [some (.ref 0), some (.int a1), some (.int a2)] [] S (some (.int 0)) S := by
  refine gm_iload_n dX11_takesKind_0 rfl ?_
  refine gm_if_ne_t (tgt := 44) dX11_takesKind_1 (by decide) c1 ?_
  refine gm_iload_n dX11_takesKind_44 rfl ?_
  refine gm_iconst (v := 1) dX11_takesKind_45 (by decide) ?_
  refine gm_icmp_eq_f dX11_takesKind_46 ⟨54, by decide⟩ c2 ?_
  refine gm_iload_n dX11_takesKind_49 rfl ?_
  refine gm_iconst (v := 2) dX11_takesKind_50 (by decide) ?_
  refine gm_icmp_ne_t (tgt := 74) dX11_takesKind_51 (by decide) c3 ?_
  refine gm_iload_n dX11_takesKind_74 rfl ?_
  refine gm_bipush (v := 6) dX11_takesKind_75 (by decide) ?_
  refine gm_icmp_ne_f dX11_takesKind_77 ⟨100, by decide⟩ c4 ?_
  refine gm_iload_n dX11_takesKind_80 rfl ?_
  refine gm_if_ne_f dX11_takesKind_81 ⟨98, by decide⟩ c5 ?_
  refine gm_aload_n dX11_takesKind_84 rfl ?_
  refine gm_getR (own := RX11) (q := 1) rfl dX11_takesKind_85 lfX11_19 sM_0 rfl ?_
  refine gm_iconst (v := 0) dX11_takesKind_88 (by decide) ?_
  refine gm_iald (j := 0) (x := (S 1 0)) dX11_takesKind_89 sM_1 ⟨by decide, by decide⟩ rfl ?_
  refine gm_iconst (v := 3) dX11_takesKind_90 (by decide) ?_
  refine gm_icmp_ne_t (tgt := 98) dX11_takesKind_91 (by decide) c6 ?_
  refine gm_iconst (v := 0) dX11_takesKind_98 (by decide) ?_
  exact gm_zret dX11_takesKind_99 rfl gm_fit_0
/-- X11_takesKind 0 [1t 46f 51t 77f 81t] -> ret  -/
theorem PX11_takesKind_11 {a1 : Int32} {a2 : Int32} {S : gm_Mem} (c1 : ¬ a2 = 0) (c2 : ¬ a2 = 1) (c3 : ¬ a2 = 2) (c4 : a2 = 6) (c5 : ¬ a1 = 0) : gm_run gM 0 YX11_takesKind 0 [some (.ref 0), some (.int a1), some (.int a2)] [] S (some (.int 0)) S := by
  refine gm_iload_n dX11_takesKind_0 rfl ?_
  refine gm_if_ne_t (tgt := 44) dX11_takesKind_1 (by decide) c1 ?_
  refine gm_iload_n dX11_takesKind_44 rfl ?_
  refine gm_iconst (v := 1) dX11_takesKind_45 (by decide) ?_
  refine gm_icmp_eq_f dX11_takesKind_46 ⟨54, by decide⟩ c2 ?_
  refine gm_iload_n dX11_takesKind_49 rfl ?_
  refine gm_iconst (v := 2) dX11_takesKind_50 (by decide) ?_
  refine gm_icmp_ne_t (tgt := 74) dX11_takesKind_51 (by decide) c3 ?_
  refine gm_iload_n dX11_takesKind_74 rfl ?_
  refine gm_bipush (v := 6) dX11_takesKind_75 (by decide) ?_
  refine gm_icmp_ne_f dX11_takesKind_77 ⟨100, by decide⟩ c4 ?_
  refine gm_iload_n dX11_takesKind_80 rfl ?_
  refine gm_if_ne_t (tgt := 98) dX11_takesKind_81 (by decide) c5 ?_
  refine gm_iconst (v := 0) dX11_takesKind_98 (by decide) ?_
  exact gm_zret dX11_takesKind_99 rfl gm_fit_0
/-- X11_takesKind 0 [1t 46f 51t 77t 107f 117f 127f] -> ret  -/
theorem PX11_takesKind_12 {a1 : Int32} {a2 : Int32} {S : gm_Mem} {j5 : Nat} (c1 : ¬ a2 = 0) (c2 : ¬ a2 = 1) (c3 : ¬ a2 = 2) (c4 : ¬ a2 = 6) (ij5 : gm_ix a1 j5 2) (c6 : ¬ (S 1 j5) = 3) (c7 : ¬ (S 1 j5) = 2) (c8 : (S 1 j5) = 4) : gm_run gM 0 YX11_takesKind 0 [some (.ref 0), some (.int a1), some (.int a2)] [] S (some (.int 1)) S := by
  refine gm_iload_n dX11_takesKind_0 rfl ?_
  refine gm_if_ne_t (tgt := 44) dX11_takesKind_1 (by decide) c1 ?_
  refine gm_iload_n dX11_takesKind_44 rfl ?_
  refine gm_iconst (v := 1) dX11_takesKind_45 (by decide) ?_
  refine gm_icmp_eq_f dX11_takesKind_46 ⟨54, by decide⟩ c2 ?_
  refine gm_iload_n dX11_takesKind_49 rfl ?_
  refine gm_iconst (v := 2) dX11_takesKind_50 (by decide) ?_
  refine gm_icmp_ne_t (tgt := 74) dX11_takesKind_51 (by decide) c3 ?_
  refine gm_iload_n dX11_takesKind_74 rfl ?_
  refine gm_bipush (v := 6) dX11_takesKind_75 (by decide) ?_
  refine gm_icmp_ne_t (tgt := 100) dX11_takesKind_77 (by decide) c4 ?_
  refine gm_aload_n dX11_takesKind_100 rfl ?_
  refine gm_getR (own := RX11) (q := 1) rfl dX11_takesKind_101 lfX11_19 sM_0 rfl ?_
  refine gm_iload_n dX11_takesKind_104 rfl ?_
  refine gm_iald (j := j5) (x := (S 1 j5)) dX11_takesKind_105 sM_1 ij5 rfl ?_
  refine gm_iconst (v := 3) dX11_takesKind_106 (by decide) ?_
  refine gm_icmp_eq_f dX11_takesKind_107 ⟨130, by decide⟩ c6 ?_
  refine gm_aload_n dX11_takesKind_110 rfl ?_
  refine gm_getR (own := RX11) (q := 1) rfl dX11_takesKind_111 lfX11_19 sM_0 rfl ?_
  refine gm_iload_n dX11_takesKind_114 rfl ?_
  refine gm_iald (j := j5) (x := (S 1 j5)) dX11_takesKind_115 sM_1 ij5 rfl ?_
  refine gm_iconst (v := 2) dX11_takesKind_116 (by decide) ?_
  refine gm_icmp_eq_f dX11_takesKind_117 ⟨130, by decide⟩ c7 ?_
  refine gm_aload_n dX11_takesKind_120 rfl ?_
  refine gm_getR (own := RX11) (q := 1) rfl dX11_takesKind_121 lfX11_19 sM_0 rfl ?_
  refine gm_iload_n dX11_takesKind_124 rfl ?_
  refine gm_iald (j := j5) (x := (S 1 j5)) dX11_takesKind_125 sM_1 ij5 rfl ?_
  refine gm_iconst (v := 4) dX11_takesKind_126 (by decide) ?_
  refine gm_icmp_ne_f dX11_takesKind_127 ⟨134, by decide⟩ c8 ?_
  refine gm_iconst (v := 1) dX11_takesKind_130 (by decide) ?_
  refine gm_goto (tgt := 135) dX11_takesKind_131 (by decide) ?_
  exact gm_zret dX11_takesKind_135 rfl gm_fit_1
/-- X11_takesKind 0 [1t 46f 51t 77t 107f 117f 127t] -> ret  -/
theorem PX11_takesKind_13 {a1 : Int32} {a2 : Int32} {S : gm_Mem} {j5 : Nat} (c1 : ¬ a2 = 0) (c2 : ¬ a2 = 1) (c3 : ¬ a2 = 2) (c4 : ¬ a2 = 6) (ij5 : gm_ix a1 j5 2) (c6 : ¬ (S 1 j5) = 3) (c7 : ¬ (S 1 j5) = 2) (c8 : ¬ (S 1 j5) = 4) : gm_run gM 0 YX11_takesKind 0 [some (.ref 0), some (.int a1), some (.int a2)] [] S (some (.int 0)) S := by
  refine gm_iload_n dX11_takesKind_0 rfl ?_
  refine gm_if_ne_t (tgt := 44) dX11_takesKind_1 (by decide) c1 ?_
  refine gm_iload_n dX11_takesKind_44 rfl ?_
  refine gm_iconst (v := 1) dX11_takesKind_45 (by decide) ?_
  refine gm_icmp_eq_f dX11_takesKind_46 ⟨54, by decide⟩ c2 ?_
  refine gm_iload_n dX11_takesKind_49 rfl ?_
  refine gm_iconst (v := 2) dX11_takesKind_50 (by decide) ?_
  refine gm_icmp_ne_t (tgt := 74) dX11_takesKind_51 (by decide) c3 ?_
  refine gm_iload_n dX11_takesKind_74 rfl ?_
  refine gm_bipush (v := 6) dX11_takesKind_75 (by decide) ?_
  refine gm_icmp_ne_t (tgt := 100) dX11_takesKind_77 (by decide) c4 ?_
  refine gm_aload_n dX11_takesKind_100 rfl ?_
  refine gm_getR (own := RX11) (q := 1) rfl dX11_takesKind_101 lfX11_19 sM_0 rfl ?_
  refine gm_iload_n dX11_takesKind_104 rfl ?_
  refine gm_iald (j := j5) (x := (S 1 j5)) dX11_takesKind_105 sM_1 ij5 rfl ?_
  refine gm_iconst (v := 3) dX11_takesKind_106 (by decide) ?_
  refine gm_icmp_eq_f dX11_takesKind_107 ⟨130, by decide⟩ c6 ?_
  refine gm_aload_n dX11_takesKind_110 rfl ?_
  refine gm_getR (own := RX11) (q := 1) rfl dX11_takesKind_111 lfX11_19 sM_0 rfl ?_
  refine gm_iload_n dX11_takesKind_114 rfl ?_
  refine gm_iald (j := j5) (x := (S 1 j5)) dX11_takesKind_115 sM_1 ij5 rfl ?_
  refine gm_iconst (v := 2) dX11_takesKind_116 (by decide) ?_
  refine gm_icmp_eq_f dX11_takesKind_117 ⟨130, by decide⟩ c7 ?_
  refine gm_aload_n dX11_takesKind_120 rfl ?_
  refine gm_getR (own := RX11) (q := 1) rfl dX11_takesKind_121 lfX11_19 sM_0 rfl ?_
  refine gm_iload_n dX11_takesKind_124 rfl ?_
  refine gm_iald (j := j5) (x := (S 1 j5)) dX11_takesKind_125 sM_1 ij5 rfl ?_
  refine gm_iconst (v := 4) dX11_takesKind_126 (by decide) ?_
  refine gm_icmp_ne_t (tgt := 134) dX11_takesKind_127 (by decide) c8 ?_
  refine gm_iconst (v := 0) dX11_takesKind_134 (by decide) ?_
  exact gm_zret dX11_takesKind_135 rfl gm_fit_0
/-- X11_takesKind 0 [1t 46f 51t 77t 107f 117t] -> ret  -/
theorem PX11_takesKind_14 {a1 : Int32} {a2 : Int32} {S : gm_Mem} {j5 : Nat} (c1 : ¬ a2 = 0) (c2 : ¬ a2 = 1) (c3 : ¬ a2 = 2) (c4 : ¬ a2 = 6) (ij5 : gm_ix a1 j5 2) (c6 : ¬ (S 1 j5) = 3) (c7 : (S 1 j5) = 2) : gm_run gM 0 YX11_takesKind 0 [some (.ref 0), some (.int a1), some (.int a2)] [] S (some (.int 1)) S := by
  refine gm_iload_n dX11_takesKind_0 rfl ?_
  refine gm_if_ne_t (tgt := 44) dX11_takesKind_1 (by decide) c1 ?_
  refine gm_iload_n dX11_takesKind_44 rfl ?_
  refine gm_iconst (v := 1) dX11_takesKind_45 (by decide) ?_
  refine gm_icmp_eq_f dX11_takesKind_46 ⟨54, by decide⟩ c2 ?_
  refine gm_iload_n dX11_takesKind_49 rfl ?_
  refine gm_iconst (v := 2) dX11_takesKind_50 (by decide) ?_
  refine gm_icmp_ne_t (tgt := 74) dX11_takesKind_51 (by decide) c3 ?_
  refine gm_iload_n dX11_takesKind_74 rfl ?_
  refine gm_bipush (v := 6) dX11_takesKind_75 (by decide) ?_
  refine gm_icmp_ne_t (tgt := 100) dX11_takesKind_77 (by decide) c4 ?_
  refine gm_aload_n dX11_takesKind_100 rfl ?_
  refine gm_getR (own := RX11) (q := 1) rfl dX11_takesKind_101 lfX11_19 sM_0 rfl ?_
  refine gm_iload_n dX11_takesKind_104 rfl ?_
  refine gm_iald (j := j5) (x := (S 1 j5)) dX11_takesKind_105 sM_1 ij5 rfl ?_
  refine gm_iconst (v := 3) dX11_takesKind_106 (by decide) ?_
  refine gm_icmp_eq_f dX11_takesKind_107 ⟨130, by decide⟩ c6 ?_
  refine gm_aload_n dX11_takesKind_110 rfl ?_
  refine gm_getR (own := RX11) (q := 1) rfl dX11_takesKind_111 lfX11_19 sM_0 rfl ?_
  refine gm_iload_n dX11_takesKind_114 rfl ?_
  refine gm_iald (j := j5) (x := (S 1 j5)) dX11_takesKind_115 sM_1 ij5 rfl ?_
  refine gm_iconst (v := 2) dX11_takesKind_116 (by decide) ?_
  refine gm_icmp_eq_t (tgt := 130) dX11_takesKind_117 (by decide) c7 ?_
  refine gm_iconst (v := 1) dX11_takesKind_130 (by decide) ?_
  refine gm_goto (tgt := 135) dX11_takesKind_131 (by decide) ?_
  exact gm_zret dX11_takesKind_135 rfl gm_fit_1
/-- X11_takesKind 0 [1t 46f 51t 77t 107t] -> ret  -/
theorem PX11_takesKind_15 {a1 : Int32} {a2 : Int32} {S : gm_Mem} {j5 : Nat} (c1 : ¬ a2 = 0) (c2 : ¬ a2 = 1) (c3 : ¬ a2 = 2) (c4 : ¬ a2 = 6) (ij5 : gm_ix a1 j5 2) (c6 : (S 1 j5) = 3) : gm_run gM 0 YX11_takesKind 0 [some (.ref 0), some (.int a1), some (.int a2)] [] S (some (.int 1)) S := by
  refine gm_iload_n dX11_takesKind_0 rfl ?_
  refine gm_if_ne_t (tgt := 44) dX11_takesKind_1 (by decide) c1 ?_
  refine gm_iload_n dX11_takesKind_44 rfl ?_
  refine gm_iconst (v := 1) dX11_takesKind_45 (by decide) ?_
  refine gm_icmp_eq_f dX11_takesKind_46 ⟨54, by decide⟩ c2 ?_
  refine gm_iload_n dX11_takesKind_49 rfl ?_
  refine gm_iconst (v := 2) dX11_takesKind_50 (by decide) ?_
  refine gm_icmp_ne_t (tgt := 74) dX11_takesKind_51 (by decide) c3 ?_
  refine gm_iload_n dX11_takesKind_74 rfl ?_
  refine gm_bipush (v := 6) dX11_takesKind_75 (by decide) ?_
  refine gm_icmp_ne_t (tgt := 100) dX11_takesKind_77 (by decide) c4 ?_
  refine gm_aload_n dX11_takesKind_100 rfl ?_
  refine gm_getR (own := RX11) (q := 1) rfl dX11_takesKind_101 lfX11_19 sM_0 rfl ?_
  refine gm_iload_n dX11_takesKind_104 rfl ?_
  refine gm_iald (j := j5) (x := (S 1 j5)) dX11_takesKind_105 sM_1 ij5 rfl ?_
  refine gm_iconst (v := 3) dX11_takesKind_106 (by decide) ?_
  refine gm_icmp_eq_t (tgt := 130) dX11_takesKind_107 (by decide) c6 ?_
  refine gm_iconst (v := 1) dX11_takesKind_130 (by decide) ?_
  refine gm_goto (tgt := 135) dX11_takesKind_131 (by decide) ?_
  exact gm_zret dX11_takesKind_135 rfl gm_fit_1
/-- X11_takesKind 0 [1t 46t 55f 65f] -> ret  -/
theorem PX11_takesKind_16 {a1 : Int32} {a2 : Int32} {S : gm_Mem} (c1 : ¬ a2 = 0) (c2 : a2 = 1) (c3 : a1 = 0) (c4 : (S 1 0) = 1) : gm_run gM 0 YX11_takesKind 0 [some (.ref 0), some (.int a1), some (.int a2)] [] S (some (.int 1)) S := by
  refine gm_iload_n dX11_takesKind_0 rfl ?_
  refine gm_if_ne_t (tgt := 44) dX11_takesKind_1 (by decide) c1 ?_
  refine gm_iload_n dX11_takesKind_44 rfl ?_
  refine gm_iconst (v := 1) dX11_takesKind_45 (by decide) ?_
  refine gm_icmp_eq_t (tgt := 54) dX11_takesKind_46 (by decide) c2 ?_
  refine gm_iload_n dX11_takesKind_54 rfl ?_
  refine gm_if_ne_f dX11_takesKind_55 ⟨72, by decide⟩ c3 ?_
  refine gm_aload_n dX11_takesKind_58 rfl ?_
  refine gm_getR (own := RX11) (q := 1) rfl dX11_takesKind_59 lfX11_19 sM_0 rfl ?_
  refine gm_iconst (v := 0) dX11_takesKind_62 (by decide) ?_
  refine gm_iald (j := 0) (x := (S 1 0)) dX11_takesKind_63 sM_1 ⟨by decide, by decide⟩ rfl ?_
  refine gm_iconst (v := 1) dX11_takesKind_64 (by decide) ?_
  refine gm_icmp_ne_f dX11_takesKind_65 ⟨72, by decide⟩ c4 ?_
  refine gm_iconst (v := 1) dX11_takesKind_68 (by decide) ?_
  refine gm_goto (tgt := 73) dX11_takesKind_69 (by decide) ?_
  exact gm_zret dX11_takesKind_73 rfl gm_fit_1
/-- X11_takesKind 0 [1t 46t 55f 65t] -> ret  -/
theorem PX11_takesKind_17 {a1 : Int32} {a2 : Int32} {S : gm_Mem} (c1 : ¬ a2 = 0) (c2 : a2 = 1) (c3 : a1 = 0) (c4 : ¬ (S 1 0) = 1) : gm_run gM 0 YX11_takesKind 0 [some (.ref 0), some (.int a1), some (.int a2)] [] S (some (.int 0)) S := by
  refine gm_iload_n dX11_takesKind_0 rfl ?_
  refine gm_if_ne_t (tgt := 44) dX11_takesKind_1 (by decide) c1 ?_
  refine gm_iload_n dX11_takesKind_44 rfl ?_
  refine gm_iconst (v := 1) dX11_takesKind_45 (by decide) ?_
  refine gm_icmp_eq_t (tgt := 54) dX11_takesKind_46 (by decide) c2 ?_
  refine gm_iload_n dX11_takesKind_54 rfl ?_
  refine gm_if_ne_f dX11_takesKind_55 ⟨72, by decide⟩ c3 ?_
  refine gm_aload_n dX11_takesKind_58 rfl ?_
  refine gm_getR (own := RX11) (q := 1) rfl dX11_takesKind_59 lfX11_19 sM_0 rfl ?_
  refine gm_iconst (v := 0) dX11_takesKind_62 (by decide) ?_
  refine gm_iald (j := 0) (x := (S 1 0)) dX11_takesKind_63 sM_1 ⟨by decide, by decide⟩ rfl ?_
  refine gm_iconst (v := 1) dX11_takesKind_64 (by decide) ?_
  refine gm_icmp_ne_t (tgt := 72) dX11_takesKind_65 (by decide) c4 ?_
  refine gm_iconst (v := 0) dX11_takesKind_72 (by decide) ?_
  exact gm_zret dX11_takesKind_73 rfl gm_fit_0
/-- X11_takesKind 0 [1t 46t 55t] -> ret  -/
theorem PX11_takesKind_18 {a1 : Int32} {a2 : Int32} {S : gm_Mem} (c1 : ¬ a2 = 0) (c2 : a2 = 1) (c3 : ¬ a1 = 0) : gm_run gM 0 YX11_takesKind 0 [some (.ref 0), some (.int a1), some (.int a2)] [] S (some (.int 0)) S := by
  refine gm_iload_n dX11_takesKind_0 rfl ?_
  refine gm_if_ne_t (tgt := 44) dX11_takesKind_1 (by decide) c1 ?_
  refine gm_iload_n dX11_takesKind_44 rfl ?_
  refine gm_iconst (v := 1) dX11_takesKind_45 (by decide) ?_
  refine gm_icmp_eq_t (tgt := 54) dX11_takesKind_46 (by decide) c2 ?_
  refine gm_iload_n dX11_takesKind_54 rfl ?_
  refine gm_if_ne_t (tgt := 72) dX11_takesKind_55 (by decide) c3 ?_
  refine gm_iconst (v := 0) dX11_takesKind_72 (by decide) ?_
  exact gm_zret dX11_takesKind_73 rfl gm_fit_0
/-- X11_isTicket 0 [11f 20f 38f] -> ret  -/
theorem PX11_isTicket_1 {a1 : Int32} {S : gm_Mem} {r1 : Int32} {j4 : Nat} (h2 : gm_run gM 0 YX11_isBetween 0 [some (.int a1), some (.int 0), some (.int ((S 0 38) - 1))] [] S (some (.int r1)) S) (c3 : ¬ r1 = 0) (ij4 : gm_ix a1 j4 16) (c5 : (S 28 j4) = 0) (c6 : ¬ (S 0 2) < ((S 0 4) - (S 27 j4))) : gm_run gM 1 YX11_isTicket 0 [some (.ref 0), some (.int a1)] [] S (some (.int 1)) S := by
  refine gm_iload_n dX11_isTicket_0 rfl ?_
  refine gm_iconst (v := 0) dX11_isTicket_1 (by decide) ?_
  refine gm_aload_n dX11_isTicket_2 rfl ?_
  refine gm_getI (own := RX11) (x := (S 0 38)) rfl dX11_isTicket_3 lfX11_223 sM_0 rfl rfl ?_
  refine gm_iconst (v := 1) dX11_isTicket_6 (by decide) ?_
  refine gm_isub dX11_isTicket_7 rfl ?_
  refine gm_callS (r1 := (some (.int r1))) (own := RX11) rfl dX11_isTicket_8 llX11_137 msX11_isBetween [.int a1, .int 0, .int ((S 0 38) - 1)] [] rfl rfl (Nat.le_of_ble_eq_true rfl) (by decide) rfl h2 rfl ?_
  refine gm_if_eq_f dX11_isTicket_11 ⟨45, by decide⟩ c3 ?_
  refine gm_aload_n dX11_isTicket_14 rfl ?_
  refine gm_getR (own := RX11) (q := 28) rfl dX11_isTicket_15 lfX11_107 sM_0 rfl ?_
  refine gm_iload_n dX11_isTicket_18 rfl ?_
  refine gm_iald (j := j4) (x := (S 28 j4)) dX11_isTicket_19 sM_28 ij4 rfl ?_
  refine gm_if_ne_f dX11_isTicket_20 ⟨45, by decide⟩ c5 ?_
  refine gm_aload_n dX11_isTicket_23 rfl ?_
  refine gm_getI (own := RX11) (x := (S 0 4)) rfl dX11_isTicket_24 lfX11_179 sM_0 rfl rfl ?_
  refine gm_aload_n dX11_isTicket_27 rfl ?_
  refine gm_getR (own := RX11) (q := 27) rfl dX11_isTicket_28 lfX11_104 sM_0 rfl ?_
  refine gm_iload_n dX11_isTicket_31 rfl ?_
  refine gm_iald (j := j4) (x := (S 27 j4)) dX11_isTicket_32 sM_27 ij4 rfl ?_
  refine gm_isub dX11_isTicket_33 rfl ?_
  refine gm_aload_n dX11_isTicket_34 rfl ?_
  refine gm_getI (own := RX11) (x := (S 0 2)) rfl dX11_isTicket_35 lfX11_16 sM_0 rfl rfl ?_
  refine gm_icmp_gt_f dX11_isTicket_38 ⟨45, by decide⟩ c6 ?_
  refine gm_iconst (v := 1) dX11_isTicket_41 (by decide) ?_
  refine gm_goto (tgt := 46) dX11_isTicket_42 (by decide) ?_
  exact gm_zret dX11_isTicket_46 rfl gm_fit_1
/-- X11_isTicket 0 [11f 20f 38t] -> ret  -/
theorem PX11_isTicket_2 {a1 : Int32} {S : gm_Mem} {r1 : Int32} {j4 : Nat} (h2 : gm_run gM 0 YX11_isBetween 0 [some (.int a1), some (.int 0), some (.int ((S 0 38) - 1))] [] S (some (.int r1)) S) (c3 : ¬ r1 = 0) (ij4 : gm_ix a1 j4 16) (c5 : (S 28 j4) = 0) (c6 : (S 0 2) < ((S 0 4) - (S 27 j4))) : gm_run gM 1 YX11_isTicket 0 [some (.ref 0), some (.int a1)] [] S (some (.int 0)) S := by
  refine gm_iload_n dX11_isTicket_0 rfl ?_
  refine gm_iconst (v := 0) dX11_isTicket_1 (by decide) ?_
  refine gm_aload_n dX11_isTicket_2 rfl ?_
  refine gm_getI (own := RX11) (x := (S 0 38)) rfl dX11_isTicket_3 lfX11_223 sM_0 rfl rfl ?_
  refine gm_iconst (v := 1) dX11_isTicket_6 (by decide) ?_
  refine gm_isub dX11_isTicket_7 rfl ?_
  refine gm_callS (r1 := (some (.int r1))) (own := RX11) rfl dX11_isTicket_8 llX11_137 msX11_isBetween [.int a1, .int 0, .int ((S 0 38) - 1)] [] rfl rfl (Nat.le_of_ble_eq_true rfl) (by decide) rfl h2 rfl ?_
  refine gm_if_eq_f dX11_isTicket_11 ⟨45, by decide⟩ c3 ?_
  refine gm_aload_n dX11_isTicket_14 rfl ?_
  refine gm_getR (own := RX11) (q := 28) rfl dX11_isTicket_15 lfX11_107 sM_0 rfl ?_
  refine gm_iload_n dX11_isTicket_18 rfl ?_
  refine gm_iald (j := j4) (x := (S 28 j4)) dX11_isTicket_19 sM_28 ij4 rfl ?_
  refine gm_if_ne_f dX11_isTicket_20 ⟨45, by decide⟩ c5 ?_
  refine gm_aload_n dX11_isTicket_23 rfl ?_
  refine gm_getI (own := RX11) (x := (S 0 4)) rfl dX11_isTicket_24 lfX11_179 sM_0 rfl rfl ?_
  refine gm_aload_n dX11_isTicket_27 rfl ?_
  refine gm_getR (own := RX11) (q := 27) rfl dX11_isTicket_28 lfX11_104 sM_0 rfl ?_
  refine gm_iload_n dX11_isTicket_31 rfl ?_
  refine gm_iald (j := j4) (x := (S 27 j4)) dX11_isTicket_32 sM_27 ij4 rfl ?_
  refine gm_isub dX11_isTicket_33 rfl ?_
  refine gm_aload_n dX11_isTicket_34 rfl ?_
  refine gm_getI (own := RX11) (x := (S 0 2)) rfl dX11_isTicket_35 lfX11_16 sM_0 rfl rfl ?_
  refine gm_icmp_gt_t (tgt := 45) dX11_isTicket_38 (by decide) c6 ?_
  refine gm_iconst (v := 0) dX11_isTicket_45 (by decide) ?_
  exact gm_zret dX11_isTicket_46 rfl gm_fit_0
/-- X11_isTicket 0 [11f 20t] -> ret  -/
theorem PX11_isTicket_3 {a1 : Int32} {S : gm_Mem} {r1 : Int32} {j4 : Nat} (h2 : gm_run gM 0 YX11_isBetween 0 [some (.int a1), some (.int 0), some (.int ((S 0 38) - 1))] [] S (some (.int r1)) S) (c3 : ¬ r1 = 0) (ij4 : gm_ix a1 j4 16) (c5 : ¬ (S 28 j4) = 0) : gm_run gM 1 YX11_isTicket 0 [some (.ref 0), some (.int a1)] [] S (some (.int 0)) S := by
  refine gm_iload_n dX11_isTicket_0 rfl ?_
  refine gm_iconst (v := 0) dX11_isTicket_1 (by decide) ?_
  refine gm_aload_n dX11_isTicket_2 rfl ?_
  refine gm_getI (own := RX11) (x := (S 0 38)) rfl dX11_isTicket_3 lfX11_223 sM_0 rfl rfl ?_
  refine gm_iconst (v := 1) dX11_isTicket_6 (by decide) ?_
  refine gm_isub dX11_isTicket_7 rfl ?_
  refine gm_callS (r1 := (some (.int r1))) (own := RX11) rfl dX11_isTicket_8 llX11_137 msX11_isBetween [.int a1, .int 0, .int ((S 0 38) - 1)] [] rfl rfl (Nat.le_of_ble_eq_true rfl) (by decide) rfl h2 rfl ?_
  refine gm_if_eq_f dX11_isTicket_11 ⟨45, by decide⟩ c3 ?_
  refine gm_aload_n dX11_isTicket_14 rfl ?_
  refine gm_getR (own := RX11) (q := 28) rfl dX11_isTicket_15 lfX11_107 sM_0 rfl ?_
  refine gm_iload_n dX11_isTicket_18 rfl ?_
  refine gm_iald (j := j4) (x := (S 28 j4)) dX11_isTicket_19 sM_28 ij4 rfl ?_
  refine gm_if_ne_t (tgt := 45) dX11_isTicket_20 (by decide) c5 ?_
  refine gm_iconst (v := 0) dX11_isTicket_45 (by decide) ?_
  exact gm_zret dX11_isTicket_46 rfl gm_fit_0
/-- X11_isTicket 0 [11t] -> ret  -/
theorem PX11_isTicket_4 {a1 : Int32} {S : gm_Mem} {r1 : Int32} (h2 : gm_run gM 0 YX11_isBetween 0 [some (.int a1), some (.int 0), some (.int ((S 0 38) - 1))] [] S (some (.int r1)) S) (c3 : r1 = 0) : gm_run gM 1 YX11_isTicket 0 [some (.ref 0), some (.int a1)] [] S (some (.int 0)) S := by
  refine gm_iload_n dX11_isTicket_0 rfl ?_
  refine gm_iconst (v := 0) dX11_isTicket_1 (by decide) ?_
  refine gm_aload_n dX11_isTicket_2 rfl ?_
  refine gm_getI (own := RX11) (x := (S 0 38)) rfl dX11_isTicket_3 lfX11_223 sM_0 rfl rfl ?_
  refine gm_iconst (v := 1) dX11_isTicket_6 (by decide) ?_
  refine gm_isub dX11_isTicket_7 rfl ?_
  refine gm_callS (r1 := (some (.int r1))) (own := RX11) rfl dX11_isTicket_8 llX11_137 msX11_isBetween [.int a1, .int 0, .int ((S 0 38) - 1)] [] rfl rfl (Nat.le_of_ble_eq_true rfl) (by decide) rfl h2 rfl ?_
  refine gm_if_eq_t (tgt := 45) dX11_isTicket_11 (by decide) c3 ?_
  refine gm_iconst (v := 0) dX11_isTicket_45 (by decide) ?_
  exact gm_zret dX11_isTicket_46 rfl gm_fit_0
/-- X11_hasOld 0 [6f] -> ret  -/
theorem PX11_hasOld_1 {a1 : Int32} {S : gm_Mem} {j1 : Nat} (ij1 : gm_ix a1 j1 2) (c2 : 0 < (S 12 j1)) : gm_run gM 0 YX11_hasOld 0 [some (.ref 0), some (.int a1)] [] S (some (.int 1)) S := by
  refine gm_aload_n dX11_hasOld_0 rfl ?_
  refine gm_getR (own := RX11) (q := 12) rfl dX11_hasOld_1 lfX11_53 sM_0 rfl ?_
  refine gm_iload_n dX11_hasOld_4 rfl ?_
  refine gm_iald (j := j1) (x := (S 12 j1)) dX11_hasOld_5 sM_12 ij1 rfl ?_
  refine gm_if_le_f dX11_hasOld_6 ⟨13, by decide⟩ c2 ?_
  refine gm_iconst (v := 1) dX11_hasOld_9 (by decide) ?_
  refine gm_goto (tgt := 14) dX11_hasOld_10 (by decide) ?_
  exact gm_zret dX11_hasOld_14 rfl gm_fit_1
/-- X11_hasOld 0 [6t] -> ret  -/
theorem PX11_hasOld_2 {a1 : Int32} {S : gm_Mem} {j1 : Nat} (ij1 : gm_ix a1 j1 2) (c2 : ¬ 0 < (S 12 j1)) : gm_run gM 0 YX11_hasOld 0 [some (.ref 0), some (.int a1)] [] S (some (.int 0)) S := by
  refine gm_aload_n dX11_hasOld_0 rfl ?_
  refine gm_getR (own := RX11) (q := 12) rfl dX11_hasOld_1 lfX11_53 sM_0 rfl ?_
  refine gm_iload_n dX11_hasOld_4 rfl ?_
  refine gm_iald (j := j1) (x := (S 12 j1)) dX11_hasOld_5 sM_12 ij1 rfl ?_
  refine gm_if_le_t (tgt := 13) dX11_hasOld_6 (by decide) c2 ?_
  refine gm_iconst (v := 0) dX11_hasOld_13 (by decide) ?_
  exact gm_zret dX11_hasOld_14 rfl gm_fit_0
/-- X11_isOwnEpoch 0 [18f 26f 38f] -> ret  -/
theorem PX11_isOwnEpoch_1 {a1 : Int32} {a2 : Int32} {S : gm_Mem} {j1 : Nat} {r2 : Int32} {r5 : Int32} (ij1 : gm_ix a1 j1 2) (h3 : gm_run gM 0 YX11_isBetween 0 [some (.int a2), some (.int (S 7 j1)), some (.int ((S 7 j1) + 2))] [] S (some (.int r2)) S) (c4 : r2 = 0) (h6 : gm_run gM 0 YX11_hasOld 0 [some (.ref 0), some (.int a1)] [] S (some (.int r5)) S) (c7 : ¬ r5 = 0) (c8 : a2 = ((S 7 j1) - 1)) : gm_run gM 1 YX11_isOwnEpoch 0 [some (.ref 0), some (.int a1), some (.int a2)] [] S (some (.int 1)) S := by
  refine gm_iload_n dX11_isOwnEpoch_0 rfl ?_
  refine gm_aload_n dX11_isOwnEpoch_1 rfl ?_
  refine gm_getR (own := RX11) (q := 7) rfl dX11_isOwnEpoch_2 lfX11_38 sM_0 rfl ?_
  refine gm_iload_n dX11_isOwnEpoch_5 rfl ?_
  refine gm_iald (j := j1) (x := (S 7 j1)) dX11_isOwnEpoch_6 sM_7 ij1 rfl ?_
  refine gm_aload_n dX11_isOwnEpoch_7 rfl ?_
  refine gm_getR (own := RX11) (q := 7) rfl dX11_isOwnEpoch_8 lfX11_38 sM_0 rfl ?_
  refine gm_iload_n dX11_isOwnEpoch_11 rfl ?_
  refine gm_iald (j := j1) (x := (S 7 j1)) dX11_isOwnEpoch_12 sM_7 ij1 rfl ?_
  refine gm_iconst (v := 2) dX11_isOwnEpoch_13 (by decide) ?_
  refine gm_iadd dX11_isOwnEpoch_14 rfl ?_
  refine gm_callS (r1 := (some (.int r2))) (own := RX11) rfl dX11_isOwnEpoch_15 llX11_137 msX11_isBetween [.int a2, .int (S 7 j1), .int ((S 7 j1) + 2)] [] rfl rfl (Nat.le_of_ble_eq_true rfl) (by decide) rfl h3 rfl ?_
  refine gm_if_ne_f dX11_isOwnEpoch_18 ⟨41, by decide⟩ c4 ?_
  refine gm_aload_n dX11_isOwnEpoch_21 rfl ?_
  refine gm_iload_n dX11_isOwnEpoch_22 rfl ?_
  refine gm_callV (r1 := (some (.int r5))) (own := RX11) rfl dX11_isOwnEpoch_23 llX11_226 mvX11_hasOld sM_0 rfl [.int a1] [] rfl rfl (Nat.le_of_ble_eq_true rfl) (by decide) rfl h6 rfl ?_
  refine gm_if_eq_f dX11_isOwnEpoch_26 ⟨45, by decide⟩ c7 ?_
  refine gm_iload_n dX11_isOwnEpoch_29 rfl ?_
  refine gm_aload_n dX11_isOwnEpoch_30 rfl ?_
  refine gm_getR (own := RX11) (q := 7) rfl dX11_isOwnEpoch_31 lfX11_38 sM_0 rfl ?_
  refine gm_iload_n dX11_isOwnEpoch_34 rfl ?_
  refine gm_iald (j := j1) (x := (S 7 j1)) dX11_isOwnEpoch_35 sM_7 ij1 rfl ?_
  refine gm_iconst (v := 1) dX11_isOwnEpoch_36 (by decide) ?_
  refine gm_isub dX11_isOwnEpoch_37 rfl ?_
  refine gm_icmp_ne_f dX11_isOwnEpoch_38 ⟨45, by decide⟩ c8 ?_
  refine gm_iconst (v := 1) dX11_isOwnEpoch_41 (by decide) ?_
  refine gm_goto (tgt := 46) dX11_isOwnEpoch_42 (by decide) ?_
  exact gm_zret dX11_isOwnEpoch_46 rfl gm_fit_1
/-- X11_isOwnEpoch 0 [18f 26f 38t] -> ret  -/
theorem PX11_isOwnEpoch_2 {a1 : Int32} {a2 : Int32} {S : gm_Mem} {j1 : Nat} {r2 : Int32} {r5 : Int32} (ij1 : gm_ix a1 j1 2) (h3 : gm_run gM 0 YX11_isBetween 0 [some (.int a2), some (.int (S 7 j1)), some (.int ((S 7 j1) + 2))] [] S (some (.int r2)) S) (c4 : r2 = 0) (h6 : gm_run gM 0 YX11_hasOld 0 [some (.ref 0), some (.int a1)] [] S (some (.int r5)) S) (c7 : ¬ r5 = 0) (c8 : ¬ a2 = ((S 7 j1) - 1)) : gm_run gM 1 YX11_isOwnEpoch 0 [some (.ref 0), some (.int a1), some (.int a2)] [] S (some (.int 0)) S := by
  refine gm_iload_n dX11_isOwnEpoch_0 rfl ?_
  refine gm_aload_n dX11_isOwnEpoch_1 rfl ?_
  refine gm_getR (own := RX11) (q := 7) rfl dX11_isOwnEpoch_2 lfX11_38 sM_0 rfl ?_
  refine gm_iload_n dX11_isOwnEpoch_5 rfl ?_
  refine gm_iald (j := j1) (x := (S 7 j1)) dX11_isOwnEpoch_6 sM_7 ij1 rfl ?_
  refine gm_aload_n dX11_isOwnEpoch_7 rfl ?_
  refine gm_getR (own := RX11) (q := 7) rfl dX11_isOwnEpoch_8 lfX11_38 sM_0 rfl ?_
  refine gm_iload_n dX11_isOwnEpoch_11 rfl ?_
  refine gm_iald (j := j1) (x := (S 7 j1)) dX11_isOwnEpoch_12 sM_7 ij1 rfl ?_
  refine gm_iconst (v := 2) dX11_isOwnEpoch_13 (by decide) ?_
  refine gm_iadd dX11_isOwnEpoch_14 rfl ?_
  refine gm_callS (r1 := (some (.int r2))) (own := RX11) rfl dX11_isOwnEpoch_15 llX11_137 msX11_isBetween [.int a2, .int (S 7 j1), .int ((S 7 j1) + 2)] [] rfl rfl (Nat.le_of_ble_eq_true rfl) (by decide) rfl h3 rfl ?_
  refine gm_if_ne_f dX11_isOwnEpoch_18 ⟨41, by decide⟩ c4 ?_
  refine gm_aload_n dX11_isOwnEpoch_21 rfl ?_
  refine gm_iload_n dX11_isOwnEpoch_22 rfl ?_
  refine gm_callV (r1 := (some (.int r5))) (own := RX11) rfl dX11_isOwnEpoch_23 llX11_226 mvX11_hasOld sM_0 rfl [.int a1] [] rfl rfl (Nat.le_of_ble_eq_true rfl) (by decide) rfl h6 rfl ?_
  refine gm_if_eq_f dX11_isOwnEpoch_26 ⟨45, by decide⟩ c7 ?_
  refine gm_iload_n dX11_isOwnEpoch_29 rfl ?_
  refine gm_aload_n dX11_isOwnEpoch_30 rfl ?_
  refine gm_getR (own := RX11) (q := 7) rfl dX11_isOwnEpoch_31 lfX11_38 sM_0 rfl ?_
  refine gm_iload_n dX11_isOwnEpoch_34 rfl ?_
  refine gm_iald (j := j1) (x := (S 7 j1)) dX11_isOwnEpoch_35 sM_7 ij1 rfl ?_
  refine gm_iconst (v := 1) dX11_isOwnEpoch_36 (by decide) ?_
  refine gm_isub dX11_isOwnEpoch_37 rfl ?_
  refine gm_icmp_ne_t (tgt := 45) dX11_isOwnEpoch_38 (by decide) c8 ?_
  refine gm_iconst (v := 0) dX11_isOwnEpoch_45 (by decide) ?_
  exact gm_zret dX11_isOwnEpoch_46 rfl gm_fit_0
/-- X11_isOwnEpoch 0 [18f 26t] -> ret  -/
theorem PX11_isOwnEpoch_3 {a1 : Int32} {a2 : Int32} {S : gm_Mem} {j1 : Nat} {r2 : Int32} {r5 : Int32} (ij1 : gm_ix a1 j1 2) (h3 : gm_run gM 0 YX11_isBetween 0 [some (.int a2), some (.int (S 7 j1)), some (.int ((S 7 j1) + 2))] [] S (some (.int r2)) S) (c4 : r2 = 0) (h6 : gm_run gM 0 YX11_hasOld 0 [some (.ref 0), some (.int a1)] [] S (some (.int r5)) S) (c7 : r5 = 0) : gm_run gM 1 YX11_isOwnEpoch 0 [some (.ref 0), some (.int a1), some (.int a2)] [] S (some (.int 0)) S := by
  refine gm_iload_n dX11_isOwnEpoch_0 rfl ?_
  refine gm_aload_n dX11_isOwnEpoch_1 rfl ?_
  refine gm_getR (own := RX11) (q := 7) rfl dX11_isOwnEpoch_2 lfX11_38 sM_0 rfl ?_
  refine gm_iload_n dX11_isOwnEpoch_5 rfl ?_
  refine gm_iald (j := j1) (x := (S 7 j1)) dX11_isOwnEpoch_6 sM_7 ij1 rfl ?_
  refine gm_aload_n dX11_isOwnEpoch_7 rfl ?_
  refine gm_getR (own := RX11) (q := 7) rfl dX11_isOwnEpoch_8 lfX11_38 sM_0 rfl ?_
  refine gm_iload_n dX11_isOwnEpoch_11 rfl ?_
  refine gm_iald (j := j1) (x := (S 7 j1)) dX11_isOwnEpoch_12 sM_7 ij1 rfl ?_
  refine gm_iconst (v := 2) dX11_isOwnEpoch_13 (by decide) ?_
  refine gm_iadd dX11_isOwnEpoch_14 rfl ?_
  refine gm_callS (r1 := (some (.int r2))) (own := RX11) rfl dX11_isOwnEpoch_15 llX11_137 msX11_isBetween [.int a2, .int (S 7 j1), .int ((S 7 j1) + 2)] [] rfl rfl (Nat.le_of_ble_eq_true rfl) (by decide) rfl h3 rfl ?_
  refine gm_if_ne_f dX11_isOwnEpoch_18 ⟨41, by decide⟩ c4 ?_
  refine gm_aload_n dX11_isOwnEpoch_21 rfl ?_
  refine gm_iload_n dX11_isOwnEpoch_22 rfl ?_
  refine gm_callV (r1 := (some (.int r5))) (own := RX11) rfl dX11_isOwnEpoch_23 llX11_226 mvX11_hasOld sM_0 rfl [.int a1] [] rfl rfl (Nat.le_of_ble_eq_true rfl) (by decide) rfl h6 rfl ?_
  refine gm_if_eq_t (tgt := 45) dX11_isOwnEpoch_26 (by decide) c7 ?_
  refine gm_iconst (v := 0) dX11_isOwnEpoch_45 (by decide) ?_
  exact gm_zret dX11_isOwnEpoch_46 rfl gm_fit_0
/-- X11_isOwnEpoch 0 [18t] -> ret  -/
theorem PX11_isOwnEpoch_4 {a1 : Int32} {a2 : Int32} {S : gm_Mem} {j1 : Nat} {r2 : Int32} (ij1 : gm_ix a1 j1 2) (h3 : gm_run gM 0 YX11_isBetween 0 [some (.int a2), some (.int (S 7 j1)), some (.int ((S 7 j1) + 2))] [] S (some (.int r2)) S) (c4 : ¬ r2 = 0) : gm_run gM 1 YX11_isOwnEpoch 0 [some (.ref 0), some (.int a1), some (.int a2)] [] S (some (.int 1)) S := by
  refine gm_iload_n dX11_isOwnEpoch_0 rfl ?_
  refine gm_aload_n dX11_isOwnEpoch_1 rfl ?_
  refine gm_getR (own := RX11) (q := 7) rfl dX11_isOwnEpoch_2 lfX11_38 sM_0 rfl ?_
  refine gm_iload_n dX11_isOwnEpoch_5 rfl ?_
  refine gm_iald (j := j1) (x := (S 7 j1)) dX11_isOwnEpoch_6 sM_7 ij1 rfl ?_
  refine gm_aload_n dX11_isOwnEpoch_7 rfl ?_
  refine gm_getR (own := RX11) (q := 7) rfl dX11_isOwnEpoch_8 lfX11_38 sM_0 rfl ?_
  refine gm_iload_n dX11_isOwnEpoch_11 rfl ?_
  refine gm_iald (j := j1) (x := (S 7 j1)) dX11_isOwnEpoch_12 sM_7 ij1 rfl ?_
  refine gm_iconst (v := 2) dX11_isOwnEpoch_13 (by decide) ?_
  refine gm_iadd dX11_isOwnEpoch_14 rfl ?_
  refine gm_callS (r1 := (some (.int r2))) (own := RX11) rfl dX11_isOwnEpoch_15 llX11_137 msX11_isBetween [.int a2, .int (S 7 j1), .int ((S 7 j1) + 2)] [] rfl rfl (Nat.le_of_ble_eq_true rfl) (by decide) rfl h3 rfl ?_
  refine gm_if_ne_t (tgt := 41) dX11_isOwnEpoch_18 (by decide) c4 ?_
  refine gm_iconst (v := 1) dX11_isOwnEpoch_41 (by decide) ?_
  refine gm_goto (tgt := 46) dX11_isOwnEpoch_42 (by decide) ?_
  exact gm_zret dX11_isOwnEpoch_46 rfl gm_fit_1
/-- X11_protectedResult 0 [23f] -> ret  -/
theorem PX11_protectedResult_1 {a1 : Int32} {a2 : Int32} {a3 : Int32} {S : gm_Mem} {r1 : Int32} {r3 : Int32} {r5 : Int32} (h2 : gm_run gM 0 YX11_at 0 [some (.ref 0), some (.int a1), some (.int 3)] [] S (some (.int r1)) S) (h4 : gm_run gM 0 YX11_at 0 [some (.ref 0), some (.int a1), some (.int 4)] [] S (some (.int r3)) S) (h6 : gm_run gM 1 YX11_isOwnEpoch 0 [some (.ref 0), some (.int a2), some (.int r1)] [] S (some (.int r5)) S) (c7 : r5 = 0) : gm_run gM 2 YX11_protectedResult 0 [some (.ref 0), some (.int a1), some (.int a2), some (.int a3), none, none, none, none] [] S (some (.int 3)) S := by
  refine gm_aload_n dX11_protectedResult_0 rfl ?_
  refine gm_iload_n dX11_protectedResult_1 rfl ?_
  refine gm_iconst (v := 3) dX11_protectedResult_2 (by decide) ?_
  refine gm_callV (r1 := (some (.int r1))) (own := RX11) rfl dX11_protectedResult_3 llX11_229 mvX11_at sM_0 rfl [.int a1, .int 3] [] rfl rfl (Nat.le_of_ble_eq_true rfl) (by decide) rfl h2 rfl ?_
  refine gm_istore (L' := [some (.ref 0), some (.int a1), some (.int a2), some (.int a3), some (.int r1), none, none, none]) dX11_protectedResult_6 (by decide) rfl ?_
  refine gm_aload_n dX11_protectedResult_8 rfl ?_
  refine gm_iload_n dX11_protectedResult_9 rfl ?_
  refine gm_iconst (v := 4) dX11_protectedResult_10 (by decide) ?_
  refine gm_callV (r1 := (some (.int r3))) (own := RX11) rfl dX11_protectedResult_11 llX11_229 mvX11_at sM_0 rfl [.int a1, .int 4] [] rfl rfl (Nat.le_of_ble_eq_true rfl) (by decide) rfl h4 rfl ?_
  refine gm_istore (L' := [some (.ref 0), some (.int a1), some (.int a2), some (.int a3), some (.int r1), some (.int r3), none, none]) dX11_protectedResult_14 (by decide) rfl ?_
  refine gm_aload_n dX11_protectedResult_16 rfl ?_
  refine gm_iload_n dX11_protectedResult_17 rfl ?_
  refine gm_iload dX11_protectedResult_18 rfl ?_
  refine gm_callV (r1 := (some (.int r5))) (own := RX11) rfl dX11_protectedResult_20 llX11_243 mvX11_isOwnEpoch sM_0 rfl [.int a2, .int r1] [] rfl rfl (Nat.le_of_ble_eq_true rfl) (by decide) rfl h6 rfl ?_
  refine gm_if_ne_f dX11_protectedResult_23 ⟨28, by decide⟩ c7 ?_
  refine gm_iconst (v := 3) dX11_protectedResult_26 (by decide) ?_
  exact gm_iret dX11_protectedResult_27 rfl
/-- X11_protectedResult 0 [23t 72f] -> ret  -/
theorem PX11_protectedResult_2 {a1 : Int32} {a2 : Int32} {a3 : Int32} {S : gm_Mem} {r1 : Int32} {r3 : Int32} {r5 : Int32} {j8 : Nat} {r9 : Int32} {r11 : Int32} {r13 : Int32} {r15 : Int32} {r17 : Int32} (h2 : gm_run gM 0 YX11_at 0 [some (.ref 0), some (.int a1), some (.int 3)] [] S (some (.int r1)) S) (h4 : gm_run gM 0 YX11_at 0 [some (.ref 0), some (.int a1), some (.int 4)] [] S (some (.int r3)) S) (h6 : gm_run gM 1 YX11_isOwnEpoch 0 [some (.ref 0), some (.int a2), some (.int r1)] [] S (some (.int r5)) S) (c7 : ¬ r5 = 0) (ij8 : gm_ix a2 j8 2) (h10 : gm_run gM 0 YX11_at 0 [some (.ref 0), some (.int a1), some (.int 5)] [] S (some (.int r9)) S) (h12 : gm_run gM 0 YX11_at 0 [some (.ref 0), some (.int a1), some (.int 6)] [] S (some (.int r11)) S) (h14 : gm_run gM 0 YX11_at 0 [some (.ref 0), some (.int a1), some (.int 7)] [] S (some (.int r13)) S) (h16 : gm_run gM 1 YX11_tagOf 0 [some (.int (S 4 j8)), some (.int (1 - a2)), some (.int r1), some (.int r3), some (.int a3), some (.int r9), some (.int r11), some (.int r13), none] [] S (some (.int r15)) S) (h18 : gm_run gM 0 YX11_at 0 [some (.ref 0), some (.int a1), some (.int 8)] [] S (some (.int r17)) S) (c19 : ¬ r15 = r17) : gm_run gM 2 YX11_protectedResult 0 [some (.ref 0), some (.int a1), some (.int a2), some (.int a3), none, none, none, none] [] S (some (.int 4)) S := by
  refine gm_aload_n dX11_protectedResult_0 rfl ?_
  refine gm_iload_n dX11_protectedResult_1 rfl ?_
  refine gm_iconst (v := 3) dX11_protectedResult_2 (by decide) ?_
  refine gm_callV (r1 := (some (.int r1))) (own := RX11) rfl dX11_protectedResult_3 llX11_229 mvX11_at sM_0 rfl [.int a1, .int 3] [] rfl rfl (Nat.le_of_ble_eq_true rfl) (by decide) rfl h2 rfl ?_
  refine gm_istore (L' := [some (.ref 0), some (.int a1), some (.int a2), some (.int a3), some (.int r1), none, none, none]) dX11_protectedResult_6 (by decide) rfl ?_
  refine gm_aload_n dX11_protectedResult_8 rfl ?_
  refine gm_iload_n dX11_protectedResult_9 rfl ?_
  refine gm_iconst (v := 4) dX11_protectedResult_10 (by decide) ?_
  refine gm_callV (r1 := (some (.int r3))) (own := RX11) rfl dX11_protectedResult_11 llX11_229 mvX11_at sM_0 rfl [.int a1, .int 4] [] rfl rfl (Nat.le_of_ble_eq_true rfl) (by decide) rfl h4 rfl ?_
  refine gm_istore (L' := [some (.ref 0), some (.int a1), some (.int a2), some (.int a3), some (.int r1), some (.int r3), none, none]) dX11_protectedResult_14 (by decide) rfl ?_
  refine gm_aload_n dX11_protectedResult_16 rfl ?_
  refine gm_iload_n dX11_protectedResult_17 rfl ?_
  refine gm_iload dX11_protectedResult_18 rfl ?_
  refine gm_callV (r1 := (some (.int r5))) (own := RX11) rfl dX11_protectedResult_20 llX11_243 mvX11_isOwnEpoch sM_0 rfl [.int a2, .int r1] [] rfl rfl (Nat.le_of_ble_eq_true rfl) (by decide) rfl h6 rfl ?_
  refine gm_if_ne_t (tgt := 28) dX11_protectedResult_23 (by decide) c7 ?_
  refine gm_aload_n dX11_protectedResult_28 rfl ?_
  refine gm_getR (own := RX11) (q := 4) rfl dX11_protectedResult_29 lfX11_29 sM_0 rfl ?_
  refine gm_iload_n dX11_protectedResult_32 rfl ?_
  refine gm_iald (j := j8) (x := (S 4 j8)) dX11_protectedResult_33 sM_4 ij8 rfl ?_
  refine gm_iconst (v := 1) dX11_protectedResult_34 (by decide) ?_
  refine gm_iload_n dX11_protectedResult_35 rfl ?_
  refine gm_isub dX11_protectedResult_36 rfl ?_
  refine gm_iload dX11_protectedResult_37 rfl ?_
  refine gm_iload dX11_protectedResult_39 rfl ?_
  refine gm_iload_n dX11_protectedResult_41 rfl ?_
  refine gm_aload_n dX11_protectedResult_42 rfl ?_
  refine gm_iload_n dX11_protectedResult_43 rfl ?_
  refine gm_iconst (v := 5) dX11_protectedResult_44 (by decide) ?_
  refine gm_callV (r1 := (some (.int r9))) (own := RX11) rfl dX11_protectedResult_45 llX11_229 mvX11_at sM_0 rfl [.int a1, .int 5] [.int a3, .int r3, .int r1, .int (1 - a2), .int (S 4 j8)] rfl rfl (Nat.le_of_ble_eq_true rfl) (by decide) rfl h10 rfl ?_
  refine gm_aload_n dX11_protectedResult_48 rfl ?_
  refine gm_iload_n dX11_protectedResult_49 rfl ?_
  refine gm_bipush (v := 6) dX11_protectedResult_50 (by decide) ?_
  refine gm_callV (r1 := (some (.int r11))) (own := RX11) rfl dX11_protectedResult_52 llX11_229 mvX11_at sM_0 rfl [.int a1, .int 6] [.int r9, .int a3, .int r3, .int r1, .int (1 - a2), .int (S 4 j8)] rfl rfl (Nat.le_of_ble_eq_true rfl) (by decide) rfl h12 rfl ?_
  refine gm_aload_n dX11_protectedResult_55 rfl ?_
  refine gm_iload_n dX11_protectedResult_56 rfl ?_
  refine gm_bipush (v := 7) dX11_protectedResult_57 (by decide) ?_
  refine gm_callV (r1 := (some (.int r13))) (own := RX11) rfl dX11_protectedResult_59 llX11_229 mvX11_at sM_0 rfl [.int a1, .int 7] [.int r11, .int r9, .int a3, .int r3, .int r1, .int (1 - a2), .int (S 4 j8)] rfl rfl (Nat.le_of_ble_eq_true rfl) (by decide) rfl h14 rfl ?_
  refine gm_callS (r1 := (some (.int r15))) (own := RX11) rfl dX11_protectedResult_62 llX11_171 msX11_tagOf [.int (S 4 j8), .int (1 - a2), .int r1, .int r3, .int a3, .int r9, .int r11, .int r13] [] rfl rfl (Nat.le_of_ble_eq_true rfl) (by decide) rfl h16 rfl ?_
  refine gm_aload_n dX11_protectedResult_65 rfl ?_
  refine gm_iload_n dX11_protectedResult_66 rfl ?_
  refine gm_bipush (v := 8) dX11_protectedResult_67 (by decide) ?_
  refine gm_callV (r1 := (some (.int r17))) (own := RX11) rfl dX11_protectedResult_69 llX11_229 mvX11_at sM_0 rfl [.int a1, .int 8] [.int r15] rfl rfl (Nat.le_of_ble_eq_true rfl) (by decide) rfl h18 rfl ?_
  refine gm_icmp_eq_f dX11_protectedResult_72 ⟨77, by decide⟩ c19 ?_
  refine gm_iconst (v := 4) dX11_protectedResult_75 (by decide) ?_
  exact gm_iret dX11_protectedResult_76 rfl
/-- X11_protectedResult 0 [23t 72t 85f] -> cut 118 -/
theorem PX11_protectedResult_3 {a1 : Int32} {a2 : Int32} {a3 : Int32} {S : gm_Mem} {r1 : Int32} {r3 : Int32} {r5 : Int32} {j8 : Nat} {r9 : Int32} {r11 : Int32} {r13 : Int32} {r15 : Int32} {r17 : Int32} {r : Option Value} {S2 : gm_Mem} (h2 : gm_run gM 0 YX11_at 0 [some (.ref 0), some (.int a1), some (.int 3)] [] S (some (.int r1)) S) (h4 : gm_run gM 0 YX11_at 0 [some (.ref 0), some (.int a1), some (.int 4)] [] S (some (.int r3)) S) (h6 : gm_run gM 1 YX11_isOwnEpoch 0 [some (.ref 0), some (.int a2), some (.int r1)] [] S (some (.int r5)) S) (c7 : ¬ r5 = 0) (ij8 : gm_ix a2 j8 2) (h10 : gm_run gM 0 YX11_at 0 [some (.ref 0), some (.int a1), some (.int 5)] [] S (some (.int r9)) S) (h12 : gm_run gM 0 YX11_at 0 [some (.ref 0), some (.int a1), some (.int 6)] [] S (some (.int r11)) S) (h14 : gm_run gM 0 YX11_at 0 [some (.ref 0), some (.int a1), some (.int 7)] [] S (some (.int r13)) S) (h16 : gm_run gM 1 YX11_tagOf 0 [some (.int (S 4 j8)), some (.int (1 - a2)), some (.int r1), some (.int r3), some (.int a3), some (.int r9), some (.int r11), some (.int r13), none] [] S (some (.int r15)) S) (h18 : gm_run gM 0 YX11_at 0 [some (.ref 0), some (.int a1), some (.int 8)] [] S (some (.int r17)) S) (c19 : r15 = r17) (c20 : r1 = (S 7 j8)) (K : gm_run gM 2 YX11_protectedResult 118 [some (.ref 0), some (.int a1), some (.int a2), some (.int a3), some (.int r1), some (.int r3), none, none] [.int (S 8 j8)] S r S2) : gm_run gM 2 YX11_protectedResult 0 [some (.ref 0), some (.int a1), some (.int a2), some (.int a3), none, none, none, none] [] S r S2 := by
  refine gm_aload_n dX11_protectedResult_0 rfl ?_
  refine gm_iload_n dX11_protectedResult_1 rfl ?_
  refine gm_iconst (v := 3) dX11_protectedResult_2 (by decide) ?_
  refine gm_callV (r1 := (some (.int r1))) (own := RX11) rfl dX11_protectedResult_3 llX11_229 mvX11_at sM_0 rfl [.int a1, .int 3] [] rfl rfl (Nat.le_of_ble_eq_true rfl) (by decide) rfl h2 rfl ?_
  refine gm_istore (L' := [some (.ref 0), some (.int a1), some (.int a2), some (.int a3), some (.int r1), none, none, none]) dX11_protectedResult_6 (by decide) rfl ?_
  refine gm_aload_n dX11_protectedResult_8 rfl ?_
  refine gm_iload_n dX11_protectedResult_9 rfl ?_
  refine gm_iconst (v := 4) dX11_protectedResult_10 (by decide) ?_
  refine gm_callV (r1 := (some (.int r3))) (own := RX11) rfl dX11_protectedResult_11 llX11_229 mvX11_at sM_0 rfl [.int a1, .int 4] [] rfl rfl (Nat.le_of_ble_eq_true rfl) (by decide) rfl h4 rfl ?_
  refine gm_istore (L' := [some (.ref 0), some (.int a1), some (.int a2), some (.int a3), some (.int r1), some (.int r3), none, none]) dX11_protectedResult_14 (by decide) rfl ?_
  refine gm_aload_n dX11_protectedResult_16 rfl ?_
  refine gm_iload_n dX11_protectedResult_17 rfl ?_
  refine gm_iload dX11_protectedResult_18 rfl ?_
  refine gm_callV (r1 := (some (.int r5))) (own := RX11) rfl dX11_protectedResult_20 llX11_243 mvX11_isOwnEpoch sM_0 rfl [.int a2, .int r1] [] rfl rfl (Nat.le_of_ble_eq_true rfl) (by decide) rfl h6 rfl ?_
  refine gm_if_ne_t (tgt := 28) dX11_protectedResult_23 (by decide) c7 ?_
  refine gm_aload_n dX11_protectedResult_28 rfl ?_
  refine gm_getR (own := RX11) (q := 4) rfl dX11_protectedResult_29 lfX11_29 sM_0 rfl ?_
  refine gm_iload_n dX11_protectedResult_32 rfl ?_
  refine gm_iald (j := j8) (x := (S 4 j8)) dX11_protectedResult_33 sM_4 ij8 rfl ?_
  refine gm_iconst (v := 1) dX11_protectedResult_34 (by decide) ?_
  refine gm_iload_n dX11_protectedResult_35 rfl ?_
  refine gm_isub dX11_protectedResult_36 rfl ?_
  refine gm_iload dX11_protectedResult_37 rfl ?_
  refine gm_iload dX11_protectedResult_39 rfl ?_
  refine gm_iload_n dX11_protectedResult_41 rfl ?_
  refine gm_aload_n dX11_protectedResult_42 rfl ?_
  refine gm_iload_n dX11_protectedResult_43 rfl ?_
  refine gm_iconst (v := 5) dX11_protectedResult_44 (by decide) ?_
  refine gm_callV (r1 := (some (.int r9))) (own := RX11) rfl dX11_protectedResult_45 llX11_229 mvX11_at sM_0 rfl [.int a1, .int 5] [.int a3, .int r3, .int r1, .int (1 - a2), .int (S 4 j8)] rfl rfl (Nat.le_of_ble_eq_true rfl) (by decide) rfl h10 rfl ?_
  refine gm_aload_n dX11_protectedResult_48 rfl ?_
  refine gm_iload_n dX11_protectedResult_49 rfl ?_
  refine gm_bipush (v := 6) dX11_protectedResult_50 (by decide) ?_
  refine gm_callV (r1 := (some (.int r11))) (own := RX11) rfl dX11_protectedResult_52 llX11_229 mvX11_at sM_0 rfl [.int a1, .int 6] [.int r9, .int a3, .int r3, .int r1, .int (1 - a2), .int (S 4 j8)] rfl rfl (Nat.le_of_ble_eq_true rfl) (by decide) rfl h12 rfl ?_
  refine gm_aload_n dX11_protectedResult_55 rfl ?_
  refine gm_iload_n dX11_protectedResult_56 rfl ?_
  refine gm_bipush (v := 7) dX11_protectedResult_57 (by decide) ?_
  refine gm_callV (r1 := (some (.int r13))) (own := RX11) rfl dX11_protectedResult_59 llX11_229 mvX11_at sM_0 rfl [.int a1, .int 7] [.int r11, .int r9, .int a3, .int r3, .int r1, .int (1 - a2), .int (S 4 j8)] rfl rfl (Nat.le_of_ble_eq_true rfl) (by decide) rfl h14 rfl ?_
  refine gm_callS (r1 := (some (.int r15))) (own := RX11) rfl dX11_protectedResult_62 llX11_171 msX11_tagOf [.int (S 4 j8), .int (1 - a2), .int r1, .int r3, .int a3, .int r9, .int r11, .int r13] [] rfl rfl (Nat.le_of_ble_eq_true rfl) (by decide) rfl h16 rfl ?_
  refine gm_aload_n dX11_protectedResult_65 rfl ?_
  refine gm_iload_n dX11_protectedResult_66 rfl ?_
  refine gm_bipush (v := 8) dX11_protectedResult_67 (by decide) ?_
  refine gm_callV (r1 := (some (.int r17))) (own := RX11) rfl dX11_protectedResult_69 llX11_229 mvX11_at sM_0 rfl [.int a1, .int 8] [.int r15] rfl rfl (Nat.le_of_ble_eq_true rfl) (by decide) rfl h18 rfl ?_
  refine gm_icmp_eq_t (tgt := 77) dX11_protectedResult_72 (by decide) c19 ?_
  refine gm_iload dX11_protectedResult_77 rfl ?_
  refine gm_aload_n dX11_protectedResult_79 rfl ?_
  refine gm_getR (own := RX11) (q := 7) rfl dX11_protectedResult_80 lfX11_38 sM_0 rfl ?_
  refine gm_iload_n dX11_protectedResult_83 rfl ?_
  refine gm_iald (j := j8) (x := (S 7 j8)) dX11_protectedResult_84 sM_7 ij8 rfl ?_
  refine gm_icmp_ne_f dX11_protectedResult_85 ⟨97, by decide⟩ c20 ?_
  refine gm_aload_n dX11_protectedResult_88 rfl ?_
  refine gm_getR (own := RX11) (q := 8) rfl dX11_protectedResult_89 lfX11_41 sM_0 rfl ?_
  refine gm_iload_n dX11_protectedResult_92 rfl ?_
  refine gm_iald (j := j8) (x := (S 8 j8)) dX11_protectedResult_93 sM_8 ij8 rfl ?_
  refine gm_goto (tgt := 118) dX11_protectedResult_94 (by decide) ?_
  exact K
/-- X11_protectedResult 0 [23t 72t 85t 105f] -> cut 118 -/
theorem PX11_protectedResult_4 {a1 : Int32} {a2 : Int32} {a3 : Int32} {S : gm_Mem} {r1 : Int32} {r3 : Int32} {r5 : Int32} {j8 : Nat} {r9 : Int32} {r11 : Int32} {r13 : Int32} {r15 : Int32} {r17 : Int32} {r : Option Value} {S2 : gm_Mem} (h2 : gm_run gM 0 YX11_at 0 [some (.ref 0), some (.int a1), some (.int 3)] [] S (some (.int r1)) S) (h4 : gm_run gM 0 YX11_at 0 [some (.ref 0), some (.int a1), some (.int 4)] [] S (some (.int r3)) S) (h6 : gm_run gM 1 YX11_isOwnEpoch 0 [some (.ref 0), some (.int a2), some (.int r1)] [] S (some (.int r5)) S) (c7 : ¬ r5 = 0) (ij8 : gm_ix a2 j8 2) (h10 : gm_run gM 0 YX11_at 0 [some (.ref 0), some (.int a1), some (.int 5)] [] S (some (.int r9)) S) (h12 : gm_run gM 0 YX11_at 0 [some (.ref 0), some (.int a1), some (.int 6)] [] S (some (.int r11)) S) (h14 : gm_run gM 0 YX11_at 0 [some (.ref 0), some (.int a1), some (.int 7)] [] S (some (.int r13)) S) (h16 : gm_run gM 1 YX11_tagOf 0 [some (.int (S 4 j8)), some (.int (1 - a2)), some (.int r1), some (.int r3), some (.int a3), some (.int r9), some (.int r11), some (.int r13), none] [] S (some (.int r15)) S) (h18 : gm_run gM 0 YX11_at 0 [some (.ref 0), some (.int a1), some (.int 8)] [] S (some (.int r17)) S) (c19 : r15 = r17) (c20 : ¬ r1 = (S 7 j8)) (c21 : r1 < (S 7 j8)) (K : gm_run gM 2 YX11_protectedResult 118 [some (.ref 0), some (.int a1), some (.int a2), some (.int a3), some (.int r1), some (.int r3), none, none] [.int (S 10 j8)] S r S2) : gm_run gM 2 YX11_protectedResult 0 [some (.ref 0), some (.int a1), some (.int a2), some (.int a3), none, none, none, none] [] S r S2 := by
  refine gm_aload_n dX11_protectedResult_0 rfl ?_
  refine gm_iload_n dX11_protectedResult_1 rfl ?_
  refine gm_iconst (v := 3) dX11_protectedResult_2 (by decide) ?_
  refine gm_callV (r1 := (some (.int r1))) (own := RX11) rfl dX11_protectedResult_3 llX11_229 mvX11_at sM_0 rfl [.int a1, .int 3] [] rfl rfl (Nat.le_of_ble_eq_true rfl) (by decide) rfl h2 rfl ?_
  refine gm_istore (L' := [some (.ref 0), some (.int a1), some (.int a2), some (.int a3), some (.int r1), none, none, none]) dX11_protectedResult_6 (by decide) rfl ?_
  refine gm_aload_n dX11_protectedResult_8 rfl ?_
  refine gm_iload_n dX11_protectedResult_9 rfl ?_
  refine gm_iconst (v := 4) dX11_protectedResult_10 (by decide) ?_
  refine gm_callV (r1 := (some (.int r3))) (own := RX11) rfl dX11_protectedResult_11 llX11_229 mvX11_at sM_0 rfl [.int a1, .int 4] [] rfl rfl (Nat.le_of_ble_eq_true rfl) (by decide) rfl h4 rfl ?_
  refine gm_istore (L' := [some (.ref 0), some (.int a1), some (.int a2), some (.int a3), some (.int r1), some (.int r3), none, none]) dX11_protectedResult_14 (by decide) rfl ?_
  refine gm_aload_n dX11_protectedResult_16 rfl ?_
  refine gm_iload_n dX11_protectedResult_17 rfl ?_
  refine gm_iload dX11_protectedResult_18 rfl ?_
  refine gm_callV (r1 := (some (.int r5))) (own := RX11) rfl dX11_protectedResult_20 llX11_243 mvX11_isOwnEpoch sM_0 rfl [.int a2, .int r1] [] rfl rfl (Nat.le_of_ble_eq_true rfl) (by decide) rfl h6 rfl ?_
  refine gm_if_ne_t (tgt := 28) dX11_protectedResult_23 (by decide) c7 ?_
  refine gm_aload_n dX11_protectedResult_28 rfl ?_
  refine gm_getR (own := RX11) (q := 4) rfl dX11_protectedResult_29 lfX11_29 sM_0 rfl ?_
  refine gm_iload_n dX11_protectedResult_32 rfl ?_
  refine gm_iald (j := j8) (x := (S 4 j8)) dX11_protectedResult_33 sM_4 ij8 rfl ?_
  refine gm_iconst (v := 1) dX11_protectedResult_34 (by decide) ?_
  refine gm_iload_n dX11_protectedResult_35 rfl ?_
  refine gm_isub dX11_protectedResult_36 rfl ?_
  refine gm_iload dX11_protectedResult_37 rfl ?_
  refine gm_iload dX11_protectedResult_39 rfl ?_
  refine gm_iload_n dX11_protectedResult_41 rfl ?_
  refine gm_aload_n dX11_protectedResult_42 rfl ?_
  refine gm_iload_n dX11_protectedResult_43 rfl ?_
  refine gm_iconst (v := 5) dX11_protectedResult_44 (by decide) ?_
  refine gm_callV (r1 := (some (.int r9))) (own := RX11) rfl dX11_protectedResult_45 llX11_229 mvX11_at sM_0 rfl [.int a1, .int 5] [.int a3, .int r3, .int r1, .int (1 - a2), .int (S 4 j8)] rfl rfl (Nat.le_of_ble_eq_true rfl) (by decide) rfl h10 rfl ?_
  refine gm_aload_n dX11_protectedResult_48 rfl ?_
  refine gm_iload_n dX11_protectedResult_49 rfl ?_
  refine gm_bipush (v := 6) dX11_protectedResult_50 (by decide) ?_
  refine gm_callV (r1 := (some (.int r11))) (own := RX11) rfl dX11_protectedResult_52 llX11_229 mvX11_at sM_0 rfl [.int a1, .int 6] [.int r9, .int a3, .int r3, .int r1, .int (1 - a2), .int (S 4 j8)] rfl rfl (Nat.le_of_ble_eq_true rfl) (by decide) rfl h12 rfl ?_
  refine gm_aload_n dX11_protectedResult_55 rfl ?_
  refine gm_iload_n dX11_protectedResult_56 rfl ?_
  refine gm_bipush (v := 7) dX11_protectedResult_57 (by decide) ?_
  refine gm_callV (r1 := (some (.int r13))) (own := RX11) rfl dX11_protectedResult_59 llX11_229 mvX11_at sM_0 rfl [.int a1, .int 7] [.int r11, .int r9, .int a3, .int r3, .int r1, .int (1 - a2), .int (S 4 j8)] rfl rfl (Nat.le_of_ble_eq_true rfl) (by decide) rfl h14 rfl ?_
  refine gm_callS (r1 := (some (.int r15))) (own := RX11) rfl dX11_protectedResult_62 llX11_171 msX11_tagOf [.int (S 4 j8), .int (1 - a2), .int r1, .int r3, .int a3, .int r9, .int r11, .int r13] [] rfl rfl (Nat.le_of_ble_eq_true rfl) (by decide) rfl h16 rfl ?_
  refine gm_aload_n dX11_protectedResult_65 rfl ?_
  refine gm_iload_n dX11_protectedResult_66 rfl ?_
  refine gm_bipush (v := 8) dX11_protectedResult_67 (by decide) ?_
  refine gm_callV (r1 := (some (.int r17))) (own := RX11) rfl dX11_protectedResult_69 llX11_229 mvX11_at sM_0 rfl [.int a1, .int 8] [.int r15] rfl rfl (Nat.le_of_ble_eq_true rfl) (by decide) rfl h18 rfl ?_
  refine gm_icmp_eq_t (tgt := 77) dX11_protectedResult_72 (by decide) c19 ?_
  refine gm_iload dX11_protectedResult_77 rfl ?_
  refine gm_aload_n dX11_protectedResult_79 rfl ?_
  refine gm_getR (own := RX11) (q := 7) rfl dX11_protectedResult_80 lfX11_38 sM_0 rfl ?_
  refine gm_iload_n dX11_protectedResult_83 rfl ?_
  refine gm_iald (j := j8) (x := (S 7 j8)) dX11_protectedResult_84 sM_7 ij8 rfl ?_
  refine gm_icmp_ne_t (tgt := 97) dX11_protectedResult_85 (by decide) c20 ?_
  refine gm_iload dX11_protectedResult_97 rfl ?_
  refine gm_aload_n dX11_protectedResult_99 rfl ?_
  refine gm_getR (own := RX11) (q := 7) rfl dX11_protectedResult_100 lfX11_38 sM_0 rfl ?_
  refine gm_iload_n dX11_protectedResult_103 rfl ?_
  refine gm_iald (j := j8) (x := (S 7 j8)) dX11_protectedResult_104 sM_7 ij8 rfl ?_
  refine gm_icmp_ge_f dX11_protectedResult_105 ⟨117, by decide⟩ c21 ?_
  refine gm_aload_n dX11_protectedResult_108 rfl ?_
  refine gm_getR (own := RX11) (q := 10) rfl dX11_protectedResult_109 lfX11_47 sM_0 rfl ?_
  refine gm_iload_n dX11_protectedResult_112 rfl ?_
  refine gm_iald (j := j8) (x := (S 10 j8)) dX11_protectedResult_113 sM_10 ij8 rfl ?_
  refine gm_goto (tgt := 118) dX11_protectedResult_114 (by decide) ?_
  exact K
/-- X11_protectedResult 0 [23t 72t 85t 105t] -> cut 118 -/
theorem PX11_protectedResult_5 {a1 : Int32} {a2 : Int32} {a3 : Int32} {S : gm_Mem} {r1 : Int32} {r3 : Int32} {r5 : Int32} {j8 : Nat} {r9 : Int32} {r11 : Int32} {r13 : Int32} {r15 : Int32} {r17 : Int32} {r : Option Value} {S2 : gm_Mem} (h2 : gm_run gM 0 YX11_at 0 [some (.ref 0), some (.int a1), some (.int 3)] [] S (some (.int r1)) S) (h4 : gm_run gM 0 YX11_at 0 [some (.ref 0), some (.int a1), some (.int 4)] [] S (some (.int r3)) S) (h6 : gm_run gM 1 YX11_isOwnEpoch 0 [some (.ref 0), some (.int a2), some (.int r1)] [] S (some (.int r5)) S) (c7 : ¬ r5 = 0) (ij8 : gm_ix a2 j8 2) (h10 : gm_run gM 0 YX11_at 0 [some (.ref 0), some (.int a1), some (.int 5)] [] S (some (.int r9)) S) (h12 : gm_run gM 0 YX11_at 0 [some (.ref 0), some (.int a1), some (.int 6)] [] S (some (.int r11)) S) (h14 : gm_run gM 0 YX11_at 0 [some (.ref 0), some (.int a1), some (.int 7)] [] S (some (.int r13)) S) (h16 : gm_run gM 1 YX11_tagOf 0 [some (.int (S 4 j8)), some (.int (1 - a2)), some (.int r1), some (.int r3), some (.int a3), some (.int r9), some (.int r11), some (.int r13), none] [] S (some (.int r15)) S) (h18 : gm_run gM 0 YX11_at 0 [some (.ref 0), some (.int a1), some (.int 8)] [] S (some (.int r17)) S) (c19 : r15 = r17) (c20 : ¬ r1 = (S 7 j8)) (c21 : ¬ r1 < (S 7 j8)) (K : gm_run gM 2 YX11_protectedResult 118 [some (.ref 0), some (.int a1), some (.int a2), some (.int a3), some (.int r1), some (.int r3), none, none] [.int (-1)] S r S2) : gm_run gM 2 YX11_protectedResult 0 [some (.ref 0), some (.int a1), some (.int a2), some (.int a3), none, none, none, none] [] S r S2 := by
  refine gm_aload_n dX11_protectedResult_0 rfl ?_
  refine gm_iload_n dX11_protectedResult_1 rfl ?_
  refine gm_iconst (v := 3) dX11_protectedResult_2 (by decide) ?_
  refine gm_callV (r1 := (some (.int r1))) (own := RX11) rfl dX11_protectedResult_3 llX11_229 mvX11_at sM_0 rfl [.int a1, .int 3] [] rfl rfl (Nat.le_of_ble_eq_true rfl) (by decide) rfl h2 rfl ?_
  refine gm_istore (L' := [some (.ref 0), some (.int a1), some (.int a2), some (.int a3), some (.int r1), none, none, none]) dX11_protectedResult_6 (by decide) rfl ?_
  refine gm_aload_n dX11_protectedResult_8 rfl ?_
  refine gm_iload_n dX11_protectedResult_9 rfl ?_
  refine gm_iconst (v := 4) dX11_protectedResult_10 (by decide) ?_
  refine gm_callV (r1 := (some (.int r3))) (own := RX11) rfl dX11_protectedResult_11 llX11_229 mvX11_at sM_0 rfl [.int a1, .int 4] [] rfl rfl (Nat.le_of_ble_eq_true rfl) (by decide) rfl h4 rfl ?_
  refine gm_istore (L' := [some (.ref 0), some (.int a1), some (.int a2), some (.int a3), some (.int r1), some (.int r3), none, none]) dX11_protectedResult_14 (by decide) rfl ?_
  refine gm_aload_n dX11_protectedResult_16 rfl ?_
  refine gm_iload_n dX11_protectedResult_17 rfl ?_
  refine gm_iload dX11_protectedResult_18 rfl ?_
  refine gm_callV (r1 := (some (.int r5))) (own := RX11) rfl dX11_protectedResult_20 llX11_243 mvX11_isOwnEpoch sM_0 rfl [.int a2, .int r1] [] rfl rfl (Nat.le_of_ble_eq_true rfl) (by decide) rfl h6 rfl ?_
  refine gm_if_ne_t (tgt := 28) dX11_protectedResult_23 (by decide) c7 ?_
  refine gm_aload_n dX11_protectedResult_28 rfl ?_
  refine gm_getR (own := RX11) (q := 4) rfl dX11_protectedResult_29 lfX11_29 sM_0 rfl ?_
  refine gm_iload_n dX11_protectedResult_32 rfl ?_
  refine gm_iald (j := j8) (x := (S 4 j8)) dX11_protectedResult_33 sM_4 ij8 rfl ?_
  refine gm_iconst (v := 1) dX11_protectedResult_34 (by decide) ?_
  refine gm_iload_n dX11_protectedResult_35 rfl ?_
  refine gm_isub dX11_protectedResult_36 rfl ?_
  refine gm_iload dX11_protectedResult_37 rfl ?_
  refine gm_iload dX11_protectedResult_39 rfl ?_
  refine gm_iload_n dX11_protectedResult_41 rfl ?_
  refine gm_aload_n dX11_protectedResult_42 rfl ?_
  refine gm_iload_n dX11_protectedResult_43 rfl ?_
  refine gm_iconst (v := 5) dX11_protectedResult_44 (by decide) ?_
  refine gm_callV (r1 := (some (.int r9))) (own := RX11) rfl dX11_protectedResult_45 llX11_229 mvX11_at sM_0 rfl [.int a1, .int 5] [.int a3, .int r3, .int r1, .int (1 - a2), .int (S 4 j8)] rfl rfl (Nat.le_of_ble_eq_true rfl) (by decide) rfl h10 rfl ?_
  refine gm_aload_n dX11_protectedResult_48 rfl ?_
  refine gm_iload_n dX11_protectedResult_49 rfl ?_
  refine gm_bipush (v := 6) dX11_protectedResult_50 (by decide) ?_
  refine gm_callV (r1 := (some (.int r11))) (own := RX11) rfl dX11_protectedResult_52 llX11_229 mvX11_at sM_0 rfl [.int a1, .int 6] [.int r9, .int a3, .int r3, .int r1, .int (1 - a2), .int (S 4 j8)] rfl rfl (Nat.le_of_ble_eq_true rfl) (by decide) rfl h12 rfl ?_
  refine gm_aload_n dX11_protectedResult_55 rfl ?_
  refine gm_iload_n dX11_protectedResult_56 rfl ?_
  refine gm_bipush (v := 7) dX11_protectedResult_57 (by decide) ?_
  refine gm_callV (r1 := (some (.int r13))) (own := RX11) rfl dX11_protectedResult_59 llX11_229 mvX11_at sM_0 rfl [.int a1, .int 7] [.int r11, .int r9, .int a3, .int r3, .int r1, .int (1 - a2), .int (S 4 j8)] rfl rfl (Nat.le_of_ble_eq_true rfl) (by decide) rfl h14 rfl ?_
  refine gm_callS (r1 := (some (.int r15))) (own := RX11) rfl dX11_protectedResult_62 llX11_171 msX11_tagOf [.int (S 4 j8), .int (1 - a2), .int r1, .int r3, .int a3, .int r9, .int r11, .int r13] [] rfl rfl (Nat.le_of_ble_eq_true rfl) (by decide) rfl h16 rfl ?_
  refine gm_aload_n dX11_protectedResult_65 rfl ?_
  refine gm_iload_n dX11_protectedResult_66 rfl ?_
  refine gm_bipush (v := 8) dX11_protectedResult_67 (by decide) ?_
  refine gm_callV (r1 := (some (.int r17))) (own := RX11) rfl dX11_protectedResult_69 llX11_229 mvX11_at sM_0 rfl [.int a1, .int 8] [.int r15] rfl rfl (Nat.le_of_ble_eq_true rfl) (by decide) rfl h18 rfl ?_
  refine gm_icmp_eq_t (tgt := 77) dX11_protectedResult_72 (by decide) c19 ?_
  refine gm_iload dX11_protectedResult_77 rfl ?_
  refine gm_aload_n dX11_protectedResult_79 rfl ?_
  refine gm_getR (own := RX11) (q := 7) rfl dX11_protectedResult_80 lfX11_38 sM_0 rfl ?_
  refine gm_iload_n dX11_protectedResult_83 rfl ?_
  refine gm_iald (j := j8) (x := (S 7 j8)) dX11_protectedResult_84 sM_7 ij8 rfl ?_
  refine gm_icmp_ne_t (tgt := 97) dX11_protectedResult_85 (by decide) c20 ?_
  refine gm_iload dX11_protectedResult_97 rfl ?_
  refine gm_aload_n dX11_protectedResult_99 rfl ?_
  refine gm_getR (own := RX11) (q := 7) rfl dX11_protectedResult_100 lfX11_38 sM_0 rfl ?_
  refine gm_iload_n dX11_protectedResult_103 rfl ?_
  refine gm_iald (j := j8) (x := (S 7 j8)) dX11_protectedResult_104 sM_7 ij8 rfl ?_
  refine gm_icmp_ge_t (tgt := 117) dX11_protectedResult_105 (by decide) c21 ?_
  refine gm_iconst (v := (-1)) dX11_protectedResult_117 (by decide) ?_
  exact K
/-- X11_protectedResult 118 [128f] -> cut 146 -/
theorem PX11_protectedResult_6 {x1 : Int32} {x2 : Int32} {x3 : Int32} {x4 : Int32} {x5 : Int32} {s0 : Int32} {S : gm_Mem} {j1 : Nat} {r : Option Value} {S2 : gm_Mem} (ij1 : gm_ix x2 j1 2) (c2 : x4 = (S 7 j1)) (K : gm_run gM 2 YX11_protectedResult 146 [some (.ref 0), some (.int x1), some (.int x2), some (.int x3), some (.int x4), some (.int x5), some (.int s0), none] [.int (S 9 j1)] S r S2) : gm_run gM 2 YX11_protectedResult 118 [some (.ref 0), some (.int x1), some (.int x2), some (.int x3), some (.int x4), some (.int x5), none, none] [.int s0] S r S2 := by
  refine gm_istore (L' := [some (.ref 0), some (.int x1), some (.int x2), some (.int x3), some (.int x4), some (.int x5), some (.int s0), none]) dX11_protectedResult_118 (by decide) rfl ?_
  refine gm_iload dX11_protectedResult_120 rfl ?_
  refine gm_aload_n dX11_protectedResult_122 rfl ?_
  refine gm_getR (own := RX11) (q := 7) rfl dX11_protectedResult_123 lfX11_38 sM_0 rfl ?_
  refine gm_iload_n dX11_protectedResult_126 rfl ?_
  refine gm_iald (j := j1) (x := (S 7 j1)) dX11_protectedResult_127 sM_7 ij1 rfl ?_
  refine gm_icmp_ne_f dX11_protectedResult_128 ⟨140, by decide⟩ c2 ?_
  refine gm_aload_n dX11_protectedResult_131 rfl ?_
  refine gm_getR (own := RX11) (q := 9) rfl dX11_protectedResult_132 lfX11_44 sM_0 rfl ?_
  refine gm_iload_n dX11_protectedResult_135 rfl ?_
  refine gm_iald (j := j1) (x := (S 9 j1)) dX11_protectedResult_136 sM_9 ij1 rfl ?_
  refine gm_goto (tgt := 146) dX11_protectedResult_137 (by decide) ?_
  exact K
/-- X11_protectedResult 118 [128t] -> cut 146 -/
theorem PX11_protectedResult_7 {x1 : Int32} {x2 : Int32} {x3 : Int32} {x4 : Int32} {x5 : Int32} {s0 : Int32} {S : gm_Mem} {j1 : Nat} {r : Option Value} {S2 : gm_Mem} (ij1 : gm_ix x2 j1 2) (c2 : ¬ x4 = (S 7 j1)) (K : gm_run gM 2 YX11_protectedResult 146 [some (.ref 0), some (.int x1), some (.int x2), some (.int x3), some (.int x4), some (.int x5), some (.int s0), none] [.int (S 11 j1)] S r S2) : gm_run gM 2 YX11_protectedResult 118 [some (.ref 0), some (.int x1), some (.int x2), some (.int x3), some (.int x4), some (.int x5), none, none] [.int s0] S r S2 := by
  refine gm_istore (L' := [some (.ref 0), some (.int x1), some (.int x2), some (.int x3), some (.int x4), some (.int x5), some (.int s0), none]) dX11_protectedResult_118 (by decide) rfl ?_
  refine gm_iload dX11_protectedResult_120 rfl ?_
  refine gm_aload_n dX11_protectedResult_122 rfl ?_
  refine gm_getR (own := RX11) (q := 7) rfl dX11_protectedResult_123 lfX11_38 sM_0 rfl ?_
  refine gm_iload_n dX11_protectedResult_126 rfl ?_
  refine gm_iald (j := j1) (x := (S 7 j1)) dX11_protectedResult_127 sM_7 ij1 rfl ?_
  refine gm_icmp_ne_t (tgt := 140) dX11_protectedResult_128 (by decide) c2 ?_
  refine gm_aload_n dX11_protectedResult_140 rfl ?_
  refine gm_getR (own := RX11) (q := 11) rfl dX11_protectedResult_141 lfX11_50 sM_0 rfl ?_
  refine gm_iload_n dX11_protectedResult_144 rfl ?_
  refine gm_iald (j := j1) (x := (S 11 j1)) dX11_protectedResult_145 sM_11 ij1 rfl ?_
  exact K
/-- X11_protectedResult 146 [150f 160f] -> ret  -/
theorem PX11_protectedResult_8 {x1 : Int32} {x2 : Int32} {x3 : Int32} {x4 : Int32} {x5 : Int32} {x6 : Int32} {s0 : Int32} {S : gm_Mem} (c1 : ¬ x6 < 0) (c2 : x5 < (x6 - 7)) : gm_run gM 2 YX11_protectedResult 146 [some (.ref 0), some (.int x1), some (.int x2), some (.int x3), some (.int x4), some (.int x5), some (.int x6), none] [.int s0] S (some (.int 5)) S := by
  refine gm_istore (L' := [some (.ref 0), some (.int x1), some (.int x2), some (.int x3), some (.int x4), some (.int x5), some (.int x6), some (.int s0)]) dX11_protectedResult_146 (by decide) rfl ?_
  refine gm_iload dX11_protectedResult_148 rfl ?_
  refine gm_if_lt_f dX11_protectedResult_150 ⟨165, by decide⟩ c1 ?_
  refine gm_iload dX11_protectedResult_153 rfl ?_
  refine gm_iload dX11_protectedResult_155 rfl ?_
  refine gm_bipush (v := 7) dX11_protectedResult_157 (by decide) ?_
  refine gm_isub dX11_protectedResult_159 rfl ?_
  refine gm_icmp_ge_f dX11_protectedResult_160 ⟨165, by decide⟩ c2 ?_
  refine gm_iconst (v := 5) dX11_protectedResult_163 (by decide) ?_
  exact gm_iret dX11_protectedResult_164 rfl
/-- X11_protectedResult 146 [150f 160t] -> cut 165 -/
theorem PX11_protectedResult_9 {x1 : Int32} {x2 : Int32} {x3 : Int32} {x4 : Int32} {x5 : Int32} {x6 : Int32} {s0 : Int32} {S : gm_Mem} {r : Option Value} {S2 : gm_Mem} (c1 : ¬ x6 < 0) (c2 : ¬ x5 < (x6 - 7)) (K : gm_run gM 2 YX11_protectedResult 165 [some (.ref 0), some (.int x1), some (.int x2), some (.int x3), some (.int x4), some (.int x5), some (.int x6), some (.int s0)] [] S r S2) : gm_run gM 2 YX11_protectedResult 146 [some (.ref 0), some (.int x1), some (.int x2), some (.int x3), some (.int x4), some (.int x5), some (.int x6), none] [.int s0] S r S2 := by
  refine gm_istore (L' := [some (.ref 0), some (.int x1), some (.int x2), some (.int x3), some (.int x4), some (.int x5), some (.int x6), some (.int s0)]) dX11_protectedResult_146 (by decide) rfl ?_
  refine gm_iload dX11_protectedResult_148 rfl ?_
  refine gm_if_lt_f dX11_protectedResult_150 ⟨165, by decide⟩ c1 ?_
  refine gm_iload dX11_protectedResult_153 rfl ?_
  refine gm_iload dX11_protectedResult_155 rfl ?_
  refine gm_bipush (v := 7) dX11_protectedResult_157 (by decide) ?_
  refine gm_isub dX11_protectedResult_159 rfl ?_
  refine gm_icmp_ge_t (tgt := 165) dX11_protectedResult_160 (by decide) c2 ?_
  exact K
/-- X11_protectedResult 146 [150t] -> cut 165 -/
theorem PX11_protectedResult_10 {x1 : Int32} {x2 : Int32} {x3 : Int32} {x4 : Int32} {x5 : Int32} {x6 : Int32} {s0 : Int32} {S : gm_Mem} {r : Option Value} {S2 : gm_Mem} (c1 : x6 < 0) (K : gm_run gM 2 YX11_protectedResult 165 [some (.ref 0), some (.int x1), some (.int x2), some (.int x3), some (.int x4), some (.int x5), some (.int x6), some (.int s0)] [] S r S2) : gm_run gM 2 YX11_protectedResult 146 [some (.ref 0), some (.int x1), some (.int x2), some (.int x3), some (.int x4), some (.int x5), some (.int x6), none] [.int s0] S r S2 := by
  refine gm_istore (L' := [some (.ref 0), some (.int x1), some (.int x2), some (.int x3), some (.int x4), some (.int x5), some (.int x6), some (.int s0)]) dX11_protectedResult_146 (by decide) rfl ?_
  refine gm_iload dX11_protectedResult_148 rfl ?_
  refine gm_if_lt_t (tgt := 165) dX11_protectedResult_150 (by decide) c1 ?_
  exact K
/-- X11_protectedResult 165 [167f 174f 188f] -> ret  -/
theorem PX11_protectedResult_11 {x1 : Int32} {x2 : Int32} {x3 : Int32} {x4 : Int32} {x5 : Int32} {x6 : Int32} {x7 : Int32} {S : gm_Mem} (c1 : ¬ x6 < 0) (c2 : ¬ x6 < x5) (c3 : ((x7 >>> ((x6 - x5) &&& 31)) &&& 1) = 1) : gm_run gM 2 YX11_protectedResult 165 [some (.ref 0), some (.int x1), some (.int x2), some (.int x3), some (.int x4), some (.int x5), some (.int x6), some (.int x7)] [] S (some (.int 6)) S := by
  refine gm_iload dX11_protectedResult_165 rfl ?_
  refine gm_if_lt_f dX11_protectedResult_167 ⟨194, by decide⟩ c1 ?_
  refine gm_iload dX11_protectedResult_170 rfl ?_
  refine gm_iload dX11_protectedResult_172 rfl ?_
  refine gm_icmp_gt_f dX11_protectedResult_174 ⟨194, by decide⟩ c2 ?_
  refine gm_iload dX11_protectedResult_177 rfl ?_
  refine gm_iload dX11_protectedResult_179 rfl ?_
  refine gm_iload dX11_protectedResult_181 rfl ?_
  refine gm_isub dX11_protectedResult_183 rfl ?_
  refine gm_ishr dX11_protectedResult_184 rfl ?_
  refine gm_iconst (v := 1) dX11_protectedResult_185 (by decide) ?_
  refine gm_iand dX11_protectedResult_186 rfl ?_
  refine gm_iconst (v := 1) dX11_protectedResult_187 (by decide) ?_
  refine gm_icmp_ne_f dX11_protectedResult_188 ⟨194, by decide⟩ c3 ?_
  refine gm_bipush (v := 6) dX11_protectedResult_191 (by decide) ?_
  exact gm_iret dX11_protectedResult_193 rfl
/-- X11_protectedResult 165 [167f 174f 188t] -> cut 194 -/
theorem PX11_protectedResult_12 {x1 : Int32} {x2 : Int32} {x3 : Int32} {x4 : Int32} {x5 : Int32} {x6 : Int32} {x7 : Int32} {S : gm_Mem} {r : Option Value} {S2 : gm_Mem} (c1 : ¬ x6 < 0) (c2 : ¬ x6 < x5) (c3 : ¬ ((x7 >>> ((x6 - x5) &&& 31)) &&& 1) = 1) (K : gm_run gM 2 YX11_protectedResult 194 [some (.ref 0), some (.int x1), some (.int x2), some (.int x3), some (.int x4), some (.int x5), some (.int x6), some (.int x7)] [] S r S2) : gm_run gM 2 YX11_protectedResult 165 [some (.ref 0), some (.int x1), some (.int x2), some (.int x3), some (.int x4), some (.int x5), some (.int x6), some (.int x7)] [] S r S2 := by
  refine gm_iload dX11_protectedResult_165 rfl ?_
  refine gm_if_lt_f dX11_protectedResult_167 ⟨194, by decide⟩ c1 ?_
  refine gm_iload dX11_protectedResult_170 rfl ?_
  refine gm_iload dX11_protectedResult_172 rfl ?_
  refine gm_icmp_gt_f dX11_protectedResult_174 ⟨194, by decide⟩ c2 ?_
  refine gm_iload dX11_protectedResult_177 rfl ?_
  refine gm_iload dX11_protectedResult_179 rfl ?_
  refine gm_iload dX11_protectedResult_181 rfl ?_
  refine gm_isub dX11_protectedResult_183 rfl ?_
  refine gm_ishr dX11_protectedResult_184 rfl ?_
  refine gm_iconst (v := 1) dX11_protectedResult_185 (by decide) ?_
  refine gm_iand dX11_protectedResult_186 rfl ?_
  refine gm_iconst (v := 1) dX11_protectedResult_187 (by decide) ?_
  refine gm_icmp_ne_t (tgt := 194) dX11_protectedResult_188 (by decide) c3 ?_
  exact K
/-- X11_protectedResult 165 [167f 174t] -> cut 194 -/
theorem PX11_protectedResult_13 {x1 : Int32} {x2 : Int32} {x3 : Int32} {x4 : Int32} {x5 : Int32} {x6 : Int32} {x7 : Int32} {S : gm_Mem} {r : Option Value} {S2 : gm_Mem} (c1 : ¬ x6 < 0) (c2 : x6 < x5) (K : gm_run gM 2 YX11_protectedResult 194 [some (.ref 0), some (.int x1), some (.int x2), some (.int x3), some (.int x4), some (.int x5), some (.int x6), some (.int x7)] [] S r S2) : gm_run gM 2 YX11_protectedResult 165 [some (.ref 0), some (.int x1), some (.int x2), some (.int x3), some (.int x4), some (.int x5), some (.int x6), some (.int x7)] [] S r S2 := by
  refine gm_iload dX11_protectedResult_165 rfl ?_
  refine gm_if_lt_f dX11_protectedResult_167 ⟨194, by decide⟩ c1 ?_
  refine gm_iload dX11_protectedResult_170 rfl ?_
  refine gm_iload dX11_protectedResult_172 rfl ?_
  refine gm_icmp_gt_t (tgt := 194) dX11_protectedResult_174 (by decide) c2 ?_
  exact K
/-- X11_protectedResult 165 [167t] -> cut 194 -/
theorem PX11_protectedResult_14 {x1 : Int32} {x2 : Int32} {x3 : Int32} {x4 : Int32} {x5 : Int32} {x6 : Int32} {x7 : Int32} {S : gm_Mem} {r : Option Value} {S2 : gm_Mem} (c1 : x6 < 0) (K : gm_run gM 2 YX11_protectedResult 194 [some (.ref 0), some (.int x1), some (.int x2), some (.int x3), some (.int x4), some (.int x5), some (.int x6), some (.int x7)] [] S r S2) : gm_run gM 2 YX11_protectedResult 165 [some (.ref 0), some (.int x1), some (.int x2), some (.int x3), some (.int x4), some (.int x5), some (.int x6), some (.int x7)] [] S r S2 := by
  refine gm_iload dX11_protectedResult_165 rfl ?_
  refine gm_if_lt_t (tgt := 194) dX11_protectedResult_167 (by decide) c1 ?_
  exact K
/-- X11_protectedResult 194 [196f 202f] -> cut 205 -/
theorem PX11_protectedResult_15 {x1 : Int32} {x2 : Int32} {x3 : Int32} {x4 : Int32} {x5 : Int32} {x6 : Int32} {x7 : Int32} {S : gm_Mem} {r : Option Value} {S2 : gm_Mem} (c1 : ¬ x3 = 4) (c2 : x3 = 7) (K : gm_run gM 2 YX11_protectedResult 205 [some (.ref 0), some (.int x1), some (.int x2), some (.int x3), some (.int x4), some (.int x5), some (.int x6), some (.int x7)] [] S r S2) : gm_run gM 2 YX11_protectedResult 194 [some (.ref 0), some (.int x1), some (.int x2), some (.int x3), some (.int x4), some (.int x5), some (.int x6), some (.int x7)] [] S r S2 := by
  refine gm_iload_n dX11_protectedResult_194 rfl ?_
  refine gm_iconst (v := 4) dX11_protectedResult_195 (by decide) ?_
  refine gm_icmp_eq_f dX11_protectedResult_196 ⟨205, by decide⟩ c1 ?_
  refine gm_iload_n dX11_protectedResult_199 rfl ?_
  refine gm_bipush (v := 7) dX11_protectedResult_200 (by decide) ?_
  refine gm_icmp_ne_f dX11_protectedResult_202 ⟨234, by decide⟩ c2 ?_
  exact K
/-- X11_protectedResult 194 [196f 202t] -> cut 234 -/
theorem PX11_protectedResult_16 {x1 : Int32} {x2 : Int32} {x3 : Int32} {x4 : Int32} {x5 : Int32} {x6 : Int32} {x7 : Int32} {S : gm_Mem} {r : Option Value} {S2 : gm_Mem} (c1 : ¬ x3 = 4) (c2 : ¬ x3 = 7) (K : gm_run gM 2 YX11_protectedResult 234 [some (.ref 0), some (.int x1), some (.int x2), some (.int x3), some (.int x4), some (.int x5), some (.int x6), some (.int x7)] [] S r S2) : gm_run gM 2 YX11_protectedResult 194 [some (.ref 0), some (.int x1), some (.int x2), some (.int x3), some (.int x4), some (.int x5), some (.int x6), some (.int x7)] [] S r S2 := by
  refine gm_iload_n dX11_protectedResult_194 rfl ?_
  refine gm_iconst (v := 4) dX11_protectedResult_195 (by decide) ?_
  refine gm_icmp_eq_f dX11_protectedResult_196 ⟨205, by decide⟩ c1 ?_
  refine gm_iload_n dX11_protectedResult_199 rfl ?_
  refine gm_bipush (v := 7) dX11_protectedResult_200 (by decide) ?_
  refine gm_icmp_ne_t (tgt := 234) dX11_protectedResult_202 (by decide) c2 ?_
  exact K
/-- X11_protectedResult 194 [196t] -> cut 205 -/
theorem PX11_protectedResult_17 {x1 : Int32} {x2 : Int32} {x3 : Int32} {x4 : Int32} {x5 : Int32} {x6 : Int32} {x7 : Int32} {S : gm_Mem} {r : Option Value} {S2 : gm_Mem} (c1 : x3 = 4) (K : gm_run gM 2 YX11_protectedResult 205 [some (.ref 0), some (.int x1), some (.int x2), some (.int x3), some (.int x4), some (.int x5), some (.int x6), some (.int x7)] [] S r S2) : gm_run gM 2 YX11_protectedResult 194 [some (.ref 0), some (.int x1), some (.int x2), some (.int x3), some (.int x4), some (.int x5), some (.int x6), some (.int x7)] [] S r S2 := by
  refine gm_iload_n dX11_protectedResult_194 rfl ?_
  refine gm_iconst (v := 4) dX11_protectedResult_195 (by decide) ?_
  refine gm_icmp_eq_t (tgt := 205) dX11_protectedResult_196 (by decide) c1 ?_
  exact K
/-- X11_protectedResult 205 [211f 226f] -> ret  -/
theorem PX11_protectedResult_18 {x1 : Int32} {x2 : Int32} {x3 : Int32} {x4 : Int32} {x5 : Int32} {x6 : Int32} {x7 : Int32} {S : gm_Mem} {j1 : Nat} {r3 : Int32} (ij1 : gm_ix x2 j1 2) (c2 : ¬ (S 16 j1) < 0) (h4 : gm_run gM 0 YX11_at 0 [some (.ref 0), some (.int x1), some (.int 5)] [] S (some (.int r3)) S) (c5 : (S 16 j1) < r3) : gm_run gM 2 YX11_protectedResult 205 [some (.ref 0), some (.int x1), some (.int x2), some (.int x3), some (.int x4), some (.int x5), some (.int x6), some (.int x7)] [] S (some (.int 7)) S := by
  refine gm_aload_n dX11_protectedResult_205 rfl ?_
  refine gm_getR (own := RX11) (q := 16) rfl dX11_protectedResult_206 lfX11_65 sM_0 rfl ?_
  refine gm_iload_n dX11_protectedResult_209 rfl ?_
  refine gm_iald (j := j1) (x := (S 16 j1)) dX11_protectedResult_210 sM_16 ij1 rfl ?_
  refine gm_if_lt_f dX11_protectedResult_211 ⟨234, by decide⟩ c2 ?_
  refine gm_aload_n dX11_protectedResult_214 rfl ?_
  refine gm_iload_n dX11_protectedResult_215 rfl ?_
  refine gm_iconst (v := 5) dX11_protectedResult_216 (by decide) ?_
  refine gm_callV (r1 := (some (.int r3))) (own := RX11) rfl dX11_protectedResult_217 llX11_229 mvX11_at sM_0 rfl [.int x1, .int 5] [] rfl rfl (Nat.le_of_ble_eq_true rfl) (by decide) rfl h4 rfl ?_
  refine gm_aload_n dX11_protectedResult_220 rfl ?_
  refine gm_getR (own := RX11) (q := 16) rfl dX11_protectedResult_221 lfX11_65 sM_0 rfl ?_
  refine gm_iload_n dX11_protectedResult_224 rfl ?_
  refine gm_iald (j := j1) (x := (S 16 j1)) dX11_protectedResult_225 sM_16 ij1 rfl ?_
  refine gm_icmp_le_f dX11_protectedResult_226 ⟨234, by decide⟩ c5 ?_
  refine gm_bipush (v := 7) dX11_protectedResult_229 (by decide) ?_
  refine gm_goto (tgt := 235) dX11_protectedResult_231 (by decide) ?_
  exact gm_iret dX11_protectedResult_235 rfl
/-- X11_protectedResult 205 [211f 226t] -> cut 234 -/
theorem PX11_protectedResult_19 {x1 : Int32} {x2 : Int32} {x3 : Int32} {x4 : Int32} {x5 : Int32} {x6 : Int32} {x7 : Int32} {S : gm_Mem} {j1 : Nat} {r3 : Int32} {r : Option Value} {S2 : gm_Mem} (ij1 : gm_ix x2 j1 2) (c2 : ¬ (S 16 j1) < 0) (h4 : gm_run gM 0 YX11_at 0 [some (.ref 0), some (.int x1), some (.int 5)] [] S (some (.int r3)) S) (c5 : ¬ (S 16 j1) < r3) (K : gm_run gM 2 YX11_protectedResult 234 [some (.ref 0), some (.int x1), some (.int x2), some (.int x3), some (.int x4), some (.int x5), some (.int x6), some (.int x7)] [] S r S2) : gm_run gM 2 YX11_protectedResult 205 [some (.ref 0), some (.int x1), some (.int x2), some (.int x3), some (.int x4), some (.int x5), some (.int x6), some (.int x7)] [] S r S2 := by
  refine gm_aload_n dX11_protectedResult_205 rfl ?_
  refine gm_getR (own := RX11) (q := 16) rfl dX11_protectedResult_206 lfX11_65 sM_0 rfl ?_
  refine gm_iload_n dX11_protectedResult_209 rfl ?_
  refine gm_iald (j := j1) (x := (S 16 j1)) dX11_protectedResult_210 sM_16 ij1 rfl ?_
  refine gm_if_lt_f dX11_protectedResult_211 ⟨234, by decide⟩ c2 ?_
  refine gm_aload_n dX11_protectedResult_214 rfl ?_
  refine gm_iload_n dX11_protectedResult_215 rfl ?_
  refine gm_iconst (v := 5) dX11_protectedResult_216 (by decide) ?_
  refine gm_callV (r1 := (some (.int r3))) (own := RX11) rfl dX11_protectedResult_217 llX11_229 mvX11_at sM_0 rfl [.int x1, .int 5] [] rfl rfl (Nat.le_of_ble_eq_true rfl) (by decide) rfl h4 rfl ?_
  refine gm_aload_n dX11_protectedResult_220 rfl ?_
  refine gm_getR (own := RX11) (q := 16) rfl dX11_protectedResult_221 lfX11_65 sM_0 rfl ?_
  refine gm_iload_n dX11_protectedResult_224 rfl ?_
  refine gm_iald (j := j1) (x := (S 16 j1)) dX11_protectedResult_225 sM_16 ij1 rfl ?_
  refine gm_icmp_le_t (tgt := 234) dX11_protectedResult_226 (by decide) c5 ?_
  exact K
/-- X11_protectedResult 205 [211t] -> cut 234 -/
theorem PX11_protectedResult_20 {x1 : Int32} {x2 : Int32} {x3 : Int32} {x4 : Int32} {x5 : Int32} {x6 : Int32} {x7 : Int32} {S : gm_Mem} {j1 : Nat} {r : Option Value} {S2 : gm_Mem} (ij1 : gm_ix x2 j1 2) (c2 : (S 16 j1) < 0) (K : gm_run gM 2 YX11_protectedResult 234 [some (.ref 0), some (.int x1), some (.int x2), some (.int x3), some (.int x4), some (.int x5), some (.int x6), some (.int x7)] [] S r S2) : gm_run gM 2 YX11_protectedResult 205 [some (.ref 0), some (.int x1), some (.int x2), some (.int x3), some (.int x4), some (.int x5), some (.int x6), some (.int x7)] [] S r S2 := by
  refine gm_aload_n dX11_protectedResult_205 rfl ?_
  refine gm_getR (own := RX11) (q := 16) rfl dX11_protectedResult_206 lfX11_65 sM_0 rfl ?_
  refine gm_iload_n dX11_protectedResult_209 rfl ?_
  refine gm_iald (j := j1) (x := (S 16 j1)) dX11_protectedResult_210 sM_16 ij1 rfl ?_
  refine gm_if_lt_t (tgt := 234) dX11_protectedResult_211 (by decide) c2 ?_
  exact K
/-- X11_protectedResult 234 [] -> ret  -/
theorem PX11_protectedResult_21 {x1 : Int32} {x2 : Int32} {x3 : Int32} {x4 : Int32} {x5 : Int32} {x6 : Int32} {x7 : Int32} {S : gm_Mem}  : gm_run gM 2 YX11_protectedResult 234 [some (.ref 0), some (.int x1), some (.int x2), some (.int x3), some (.int x4), some (.int x5), some (.int x6), some (.int x7)] [] S (some (.int 0)) S := by
  refine gm_iconst (v := 0) dX11_protectedResult_234 (by decide) ?_
  exact gm_iret dX11_protectedResult_235 rfl
/-- X11_resultOf 0 [22f] -> ret  -/
theorem PX11_resultOf_1 {a1 : Int32} {S : gm_Mem} {r1 : Int32} {r3 : Int32} {r5 : Int32} (h2 : gm_run gM 0 YX11_at 0 [some (.ref 0), some (.int a1), some (.int 0)] [] S (some (.int r1)) S) (h4 : gm_run gM 0 YX11_at 0 [some (.ref 0), some (.int a1), some (.int 1)] [] S (some (.int r3)) S) (h6 : gm_run gM 0 YX11_takesKind 0 [some (.ref 0), some (.int (1 - r1)), some (.int r3)] [] S (some (.int r5)) S) (c7 : r5 = 0) : gm_run gM 3 YX11_resultOf 0 [some (.ref 0), some (.int a1), none, none] [] S (some (.int 1)) S := by
  refine gm_iconst (v := 1) dX11_resultOf_0 (by decide) ?_
  refine gm_aload_n dX11_resultOf_1 rfl ?_
  refine gm_iload_n dX11_resultOf_2 rfl ?_
  refine gm_iconst (v := 0) dX11_resultOf_3 (by decide) ?_
  refine gm_callV (r1 := (some (.int r1))) (own := RX11) rfl dX11_resultOf_4 llX11_229 mvX11_at sM_0 rfl [.int a1, .int 0] [.int 1] rfl rfl (Nat.le_of_ble_eq_true rfl) (by decide) rfl h2 rfl ?_
  refine gm_isub dX11_resultOf_7 rfl ?_
  refine gm_istore_n (L' := [some (.ref 0), some (.int a1), some (.int (1 - r1)), none]) dX11_resultOf_8 (by decide) rfl ?_
  refine gm_aload_n dX11_resultOf_9 rfl ?_
  refine gm_iload_n dX11_resultOf_10 rfl ?_
  refine gm_iconst (v := 1) dX11_resultOf_11 (by decide) ?_
  refine gm_callV (r1 := (some (.int r3))) (own := RX11) rfl dX11_resultOf_12 llX11_229 mvX11_at sM_0 rfl [.int a1, .int 1] [] rfl rfl (Nat.le_of_ble_eq_true rfl) (by decide) rfl h4 rfl ?_
  refine gm_istore_n (L' := [some (.ref 0), some (.int a1), some (.int (1 - r1)), some (.int r3)]) dX11_resultOf_15 (by decide) rfl ?_
  refine gm_aload_n dX11_resultOf_16 rfl ?_
  refine gm_iload_n dX11_resultOf_17 rfl ?_
  refine gm_iload_n dX11_resultOf_18 rfl ?_
  refine gm_callV (r1 := (some (.int r5))) (own := RX11) rfl dX11_resultOf_19 llX11_232 mvX11_takesKind sM_0 rfl [.int (1 - r1), .int r3] [] rfl rfl (Nat.le_of_ble_eq_true rfl) (by decide) rfl h6 rfl ?_
  refine gm_if_ne_f dX11_resultOf_22 ⟨27, by decide⟩ c7 ?_
  refine gm_iconst (v := 1) dX11_resultOf_25 (by decide) ?_
  exact gm_iret dX11_resultOf_26 rfl
/-- X11_resultOf 0 [22t 28f 43f] -> ret  -/
theorem PX11_resultOf_2 {a1 : Int32} {S : gm_Mem} {r1 : Int32} {r3 : Int32} {r5 : Int32} {r9 : Int32} {j11 : Nat} (h2 : gm_run gM 0 YX11_at 0 [some (.ref 0), some (.int a1), some (.int 0)] [] S (some (.int r1)) S) (h4 : gm_run gM 0 YX11_at 0 [some (.ref 0), some (.int a1), some (.int 1)] [] S (some (.int r3)) S) (h6 : gm_run gM 0 YX11_takesKind 0 [some (.ref 0), some (.int (1 - r1)), some (.int r3)] [] S (some (.int r5)) S) (c7 : ¬ r5 = 0) (c8 : ¬ r3 = 0) (h10 : gm_run gM 0 YX11_at 0 [some (.ref 0), some (.int a1), some (.int 2)] [] S (some (.int r9)) S) (ij11 : gm_ix (1 - r1) j11 2) (c12 : ¬ r9 = (S 2 j11)) : gm_run gM 3 YX11_resultOf 0 [some (.ref 0), some (.int a1), none, none] [] S (some (.int 2)) S := by
  refine gm_iconst (v := 1) dX11_resultOf_0 (by decide) ?_
  refine gm_aload_n dX11_resultOf_1 rfl ?_
  refine gm_iload_n dX11_resultOf_2 rfl ?_
  refine gm_iconst (v := 0) dX11_resultOf_3 (by decide) ?_
  refine gm_callV (r1 := (some (.int r1))) (own := RX11) rfl dX11_resultOf_4 llX11_229 mvX11_at sM_0 rfl [.int a1, .int 0] [.int 1] rfl rfl (Nat.le_of_ble_eq_true rfl) (by decide) rfl h2 rfl ?_
  refine gm_isub dX11_resultOf_7 rfl ?_
  refine gm_istore_n (L' := [some (.ref 0), some (.int a1), some (.int (1 - r1)), none]) dX11_resultOf_8 (by decide) rfl ?_
  refine gm_aload_n dX11_resultOf_9 rfl ?_
  refine gm_iload_n dX11_resultOf_10 rfl ?_
  refine gm_iconst (v := 1) dX11_resultOf_11 (by decide) ?_
  refine gm_callV (r1 := (some (.int r3))) (own := RX11) rfl dX11_resultOf_12 llX11_229 mvX11_at sM_0 rfl [.int a1, .int 1] [] rfl rfl (Nat.le_of_ble_eq_true rfl) (by decide) rfl h4 rfl ?_
  refine gm_istore_n (L' := [some (.ref 0), some (.int a1), some (.int (1 - r1)), some (.int r3)]) dX11_resultOf_15 (by decide) rfl ?_
  refine gm_aload_n dX11_resultOf_16 rfl ?_
  refine gm_iload_n dX11_resultOf_17 rfl ?_
  refine gm_iload_n dX11_resultOf_18 rfl ?_
  refine gm_callV (r1 := (some (.int r5))) (own := RX11) rfl dX11_resultOf_19 llX11_232 mvX11_takesKind sM_0 rfl [.int (1 - r1), .int r3] [] rfl rfl (Nat.le_of_ble_eq_true rfl) (by decide) rfl h6 rfl ?_
  refine gm_if_ne_t (tgt := 27) dX11_resultOf_22 (by decide) c7 ?_
  refine gm_iload_n dX11_resultOf_27 rfl ?_
  refine gm_if_eq_f dX11_resultOf_28 ⟨48, by decide⟩ c8 ?_
  refine gm_aload_n dX11_resultOf_31 rfl ?_
  refine gm_iload_n dX11_resultOf_32 rfl ?_
  refine gm_iconst (v := 2) dX11_resultOf_33 (by decide) ?_
  refine gm_callV (r1 := (some (.int r9))) (own := RX11) rfl dX11_resultOf_34 llX11_229 mvX11_at sM_0 rfl [.int a1, .int 2] [] rfl rfl (Nat.le_of_ble_eq_true rfl) (by decide) rfl h10 rfl ?_
  refine gm_aload_n dX11_resultOf_37 rfl ?_
  refine gm_getR (own := RX11) (q := 2) rfl dX11_resultOf_38 lfX11_23 sM_0 rfl ?_
  refine gm_iload_n dX11_resultOf_41 rfl ?_
  refine gm_iald (j := j11) (x := (S 2 j11)) dX11_resultOf_42 sM_2 ij11 rfl ?_
  refine gm_icmp_eq_f dX11_resultOf_43 ⟨48, by decide⟩ c12 ?_
  refine gm_iconst (v := 2) dX11_resultOf_46 (by decide) ?_
  exact gm_iret dX11_resultOf_47 rfl
/-- X11_resultOf 0 [22t 28f 43t 82f] -> ret  -/
theorem PX11_resultOf_3 {a1 : Int32} {S : gm_Mem} {r1 : Int32} {r3 : Int32} {r5 : Int32} {r9 : Int32} {j11 : Nat} (h2 : gm_run gM 0 YX11_at 0 [some (.ref 0), some (.int a1), some (.int 0)] [] S (some (.int r1)) S) (h4 : gm_run gM 0 YX11_at 0 [some (.ref 0), some (.int a1), some (.int 1)] [] S (some (.int r3)) S) (h6 : gm_run gM 0 YX11_takesKind 0 [some (.ref 0), some (.int (1 - r1)), some (.int r3)] [] S (some (.int r5)) S) (c7 : ¬ r5 = 0) (c8 : ¬ r3 = 0) (h10 : gm_run gM 0 YX11_at 0 [some (.ref 0), some (.int a1), some (.int 2)] [] S (some (.int r9)) S) (ij11 : gm_ix (1 - r1) j11 2) (c12 : r9 = (S 2 j11)) (c13 : r3 < 3) : gm_run gM 3 YX11_resultOf 0 [some (.ref 0), some (.int a1), none, none] [] S (some (.int 0)) S := by
  refine gm_iconst (v := 1) dX11_resultOf_0 (by decide) ?_
  refine gm_aload_n dX11_resultOf_1 rfl ?_
  refine gm_iload_n dX11_resultOf_2 rfl ?_
  refine gm_iconst (v := 0) dX11_resultOf_3 (by decide) ?_
  refine gm_callV (r1 := (some (.int r1))) (own := RX11) rfl dX11_resultOf_4 llX11_229 mvX11_at sM_0 rfl [.int a1, .int 0] [.int 1] rfl rfl (Nat.le_of_ble_eq_true rfl) (by decide) rfl h2 rfl ?_
  refine gm_isub dX11_resultOf_7 rfl ?_
  refine gm_istore_n (L' := [some (.ref 0), some (.int a1), some (.int (1 - r1)), none]) dX11_resultOf_8 (by decide) rfl ?_
  refine gm_aload_n dX11_resultOf_9 rfl ?_
  refine gm_iload_n dX11_resultOf_10 rfl ?_
  refine gm_iconst (v := 1) dX11_resultOf_11 (by decide) ?_
  refine gm_callV (r1 := (some (.int r3))) (own := RX11) rfl dX11_resultOf_12 llX11_229 mvX11_at sM_0 rfl [.int a1, .int 1] [] rfl rfl (Nat.le_of_ble_eq_true rfl) (by decide) rfl h4 rfl ?_
  refine gm_istore_n (L' := [some (.ref 0), some (.int a1), some (.int (1 - r1)), some (.int r3)]) dX11_resultOf_15 (by decide) rfl ?_
  refine gm_aload_n dX11_resultOf_16 rfl ?_
  refine gm_iload_n dX11_resultOf_17 rfl ?_
  refine gm_iload_n dX11_resultOf_18 rfl ?_
  refine gm_callV (r1 := (some (.int r5))) (own := RX11) rfl dX11_resultOf_19 llX11_232 mvX11_takesKind sM_0 rfl [.int (1 - r1), .int r3] [] rfl rfl (Nat.le_of_ble_eq_true rfl) (by decide) rfl h6 rfl ?_
  refine gm_if_ne_t (tgt := 27) dX11_resultOf_22 (by decide) c7 ?_
  refine gm_iload_n dX11_resultOf_27 rfl ?_
  refine gm_if_eq_f dX11_resultOf_28 ⟨48, by decide⟩ c8 ?_
  refine gm_aload_n dX11_resultOf_31 rfl ?_
  refine gm_iload_n dX11_resultOf_32 rfl ?_
  refine gm_iconst (v := 2) dX11_resultOf_33 (by decide) ?_
  refine gm_callV (r1 := (some (.int r9))) (own := RX11) rfl dX11_resultOf_34 llX11_229 mvX11_at sM_0 rfl [.int a1, .int 2] [] rfl rfl (Nat.le_of_ble_eq_true rfl) (by decide) rfl h10 rfl ?_
  refine gm_aload_n dX11_resultOf_37 rfl ?_
  refine gm_getR (own := RX11) (q := 2) rfl dX11_resultOf_38 lfX11_23 sM_0 rfl ?_
  refine gm_iload_n dX11_resultOf_41 rfl ?_
  refine gm_iald (j := j11) (x := (S 2 j11)) dX11_resultOf_42 sM_2 ij11 rfl ?_
  refine gm_icmp_eq_t (tgt := 48) dX11_resultOf_43 (by decide) c12 ?_
  refine gm_iload_n dX11_resultOf_48 rfl ?_
  refine gm_if_ne_t (tgt := 80) dX11_resultOf_49 (by decide) c8 ?_
  refine gm_iload_n dX11_resultOf_80 rfl ?_
  refine gm_iconst (v := 3) dX11_resultOf_81 (by decide) ?_
  refine gm_icmp_ge_f dX11_resultOf_82 ⟨89, by decide⟩ c13 ?_
  refine gm_iconst (v := 0) dX11_resultOf_85 (by decide) ?_
  refine gm_goto (tgt := 96) dX11_resultOf_86 (by decide) ?_
  exact gm_iret dX11_resultOf_96 rfl
/-- X11_resultOf 0 [22t 28f 43t 82t] -> ret  -/
theorem PX11_resultOf_4 {a1 : Int32} {S : gm_Mem} {r1 : Int32} {r3 : Int32} {r5 : Int32} {r9 : Int32} {j11 : Nat} {r14 : Int32} (h2 : gm_run gM 0 YX11_at 0 [some (.ref 0), some (.int a1), some (.int 0)] [] S (some (.int r1)) S) (h4 : gm_run gM 0 YX11_at 0 [some (.ref 0), some (.int a1), some (.int 1)] [] S (some (.int r3)) S) (h6 : gm_run gM 0 YX11_takesKind 0 [some (.ref 0), some (.int (1 - r1)), some (.int r3)] [] S (some (.int r5)) S) (c7 : ¬ r5 = 0) (c8 : ¬ r3 = 0) (h10 : gm_run gM 0 YX11_at 0 [some (.ref 0), some (.int a1), some (.int 2)] [] S (some (.int r9)) S) (ij11 : gm_ix (1 - r1) j11 2) (c12 : r9 = (S 2 j11)) (c13 : ¬ r3 < 3) (h15 : gm_run gM 2 YX11_protectedResult 0 [some (.ref 0), some (.int a1), some (.int (1 - r1)), some (.int r3), none, none, none, none] [] S (some (.int r14)) S) : gm_run gM 3 YX11_resultOf 0 [some (.ref 0), some (.int a1), none, none] [] S (some (.int r14)) S := by
  refine gm_iconst (v := 1) dX11_resultOf_0 (by decide) ?_
  refine gm_aload_n dX11_resultOf_1 rfl ?_
  refine gm_iload_n dX11_resultOf_2 rfl ?_
  refine gm_iconst (v := 0) dX11_resultOf_3 (by decide) ?_
  refine gm_callV (r1 := (some (.int r1))) (own := RX11) rfl dX11_resultOf_4 llX11_229 mvX11_at sM_0 rfl [.int a1, .int 0] [.int 1] rfl rfl (Nat.le_of_ble_eq_true rfl) (by decide) rfl h2 rfl ?_
  refine gm_isub dX11_resultOf_7 rfl ?_
  refine gm_istore_n (L' := [some (.ref 0), some (.int a1), some (.int (1 - r1)), none]) dX11_resultOf_8 (by decide) rfl ?_
  refine gm_aload_n dX11_resultOf_9 rfl ?_
  refine gm_iload_n dX11_resultOf_10 rfl ?_
  refine gm_iconst (v := 1) dX11_resultOf_11 (by decide) ?_
  refine gm_callV (r1 := (some (.int r3))) (own := RX11) rfl dX11_resultOf_12 llX11_229 mvX11_at sM_0 rfl [.int a1, .int 1] [] rfl rfl (Nat.le_of_ble_eq_true rfl) (by decide) rfl h4 rfl ?_
  refine gm_istore_n (L' := [some (.ref 0), some (.int a1), some (.int (1 - r1)), some (.int r3)]) dX11_resultOf_15 (by decide) rfl ?_
  refine gm_aload_n dX11_resultOf_16 rfl ?_
  refine gm_iload_n dX11_resultOf_17 rfl ?_
  refine gm_iload_n dX11_resultOf_18 rfl ?_
  refine gm_callV (r1 := (some (.int r5))) (own := RX11) rfl dX11_resultOf_19 llX11_232 mvX11_takesKind sM_0 rfl [.int (1 - r1), .int r3] [] rfl rfl (Nat.le_of_ble_eq_true rfl) (by decide) rfl h6 rfl ?_
  refine gm_if_ne_t (tgt := 27) dX11_resultOf_22 (by decide) c7 ?_
  refine gm_iload_n dX11_resultOf_27 rfl ?_
  refine gm_if_eq_f dX11_resultOf_28 ⟨48, by decide⟩ c8 ?_
  refine gm_aload_n dX11_resultOf_31 rfl ?_
  refine gm_iload_n dX11_resultOf_32 rfl ?_
  refine gm_iconst (v := 2) dX11_resultOf_33 (by decide) ?_
  refine gm_callV (r1 := (some (.int r9))) (own := RX11) rfl dX11_resultOf_34 llX11_229 mvX11_at sM_0 rfl [.int a1, .int 2] [] rfl rfl (Nat.le_of_ble_eq_true rfl) (by decide) rfl h10 rfl ?_
  refine gm_aload_n dX11_resultOf_37 rfl ?_
  refine gm_getR (own := RX11) (q := 2) rfl dX11_resultOf_38 lfX11_23 sM_0 rfl ?_
  refine gm_iload_n dX11_resultOf_41 rfl ?_
  refine gm_iald (j := j11) (x := (S 2 j11)) dX11_resultOf_42 sM_2 ij11 rfl ?_
  refine gm_icmp_eq_t (tgt := 48) dX11_resultOf_43 (by decide) c12 ?_
  refine gm_iload_n dX11_resultOf_48 rfl ?_
  refine gm_if_ne_t (tgt := 80) dX11_resultOf_49 (by decide) c8 ?_
  refine gm_iload_n dX11_resultOf_80 rfl ?_
  refine gm_iconst (v := 3) dX11_resultOf_81 (by decide) ?_
  refine gm_icmp_ge_t (tgt := 89) dX11_resultOf_82 (by decide) c13 ?_
  refine gm_aload_n dX11_resultOf_89 rfl ?_
  refine gm_iload_n dX11_resultOf_90 rfl ?_
  refine gm_iload_n dX11_resultOf_91 rfl ?_
  refine gm_iload_n dX11_resultOf_92 rfl ?_
  refine gm_callV (r1 := (some (.int r14))) (own := RX11) rfl dX11_resultOf_93 llX11_239 mvX11_protectedResult sM_0 rfl [.int a1, .int (1 - r1), .int r3] [] rfl rfl (Nat.le_of_ble_eq_true rfl) (by decide) rfl h15 rfl ?_
  exact gm_iret dX11_resultOf_96 rfl
/-- X11_resultOf 0 [22t 28t 60f 74f] -> ret  -/
theorem PX11_resultOf_5 {a1 : Int32} {S : gm_Mem} {r1 : Int32} {r3 : Int32} {r5 : Int32} {r9 : Int32} {r12 : Int32} {r14 : Int32} (h2 : gm_run gM 0 YX11_at 0 [some (.ref 0), some (.int a1), some (.int 0)] [] S (some (.int r1)) S) (h4 : gm_run gM 0 YX11_at 0 [some (.ref 0), some (.int a1), some (.int 1)] [] S (some (.int r3)) S) (h6 : gm_run gM 0 YX11_takesKind 0 [some (.ref 0), some (.int (1 - r1)), some (.int r3)] [] S (some (.int r5)) S) (c7 : ¬ r5 = 0) (c8 : r3 = 0) (h10 : gm_run gM 0 YX11_at 0 [some (.ref 0), some (.int a1), some (.int 6)] [] S (some (.int r9)) S) (c11 : ¬ r9 = (-1)) (h13 : gm_run gM 0 YX11_at 0 [some (.ref 0), some (.int a1), some (.int 6)] [] S (some (.int r12)) S) (h15 : gm_run gM 1 YX11_isTicket 0 [some (.ref 0), some (.int r12)] [] S (some (.int r14)) S) (c16 : r14 = 0) : gm_run gM 3 YX11_resultOf 0 [some (.ref 0), some (.int a1), none, none] [] S (some (.int 8)) S := by
  refine gm_iconst (v := 1) dX11_resultOf_0 (by decide) ?_
  refine gm_aload_n dX11_resultOf_1 rfl ?_
  refine gm_iload_n dX11_resultOf_2 rfl ?_
  refine gm_iconst (v := 0) dX11_resultOf_3 (by decide) ?_
  refine gm_callV (r1 := (some (.int r1))) (own := RX11) rfl dX11_resultOf_4 llX11_229 mvX11_at sM_0 rfl [.int a1, .int 0] [.int 1] rfl rfl (Nat.le_of_ble_eq_true rfl) (by decide) rfl h2 rfl ?_
  refine gm_isub dX11_resultOf_7 rfl ?_
  refine gm_istore_n (L' := [some (.ref 0), some (.int a1), some (.int (1 - r1)), none]) dX11_resultOf_8 (by decide) rfl ?_
  refine gm_aload_n dX11_resultOf_9 rfl ?_
  refine gm_iload_n dX11_resultOf_10 rfl ?_
  refine gm_iconst (v := 1) dX11_resultOf_11 (by decide) ?_
  refine gm_callV (r1 := (some (.int r3))) (own := RX11) rfl dX11_resultOf_12 llX11_229 mvX11_at sM_0 rfl [.int a1, .int 1] [] rfl rfl (Nat.le_of_ble_eq_true rfl) (by decide) rfl h4 rfl ?_
  refine gm_istore_n (L' := [some (.ref 0), some (.int a1), some (.int (1 - r1)), some (.int r3)]) dX11_resultOf_15 (by decide) rfl ?_
  refine gm_aload_n dX11_resultOf_16 rfl ?_
  refine gm_iload_n dX11_resultOf_17 rfl ?_
  refine gm_iload_n dX11_resultOf_18 rfl ?_
  refine gm_callV (r1 := (some (.int r5))) (own := RX11) rfl dX11_resultOf_19 llX11_232 mvX11_takesKind sM_0 rfl [.int (1 - r1), .int r3] [] rfl rfl (Nat.le_of_ble_eq_true rfl) (by decide) rfl h6 rfl ?_
  refine gm_if_ne_t (tgt := 27) dX11_resultOf_22 (by decide) c7 ?_
  refine gm_iload_n dX11_resultOf_27 rfl ?_
  refine gm_if_eq_t (tgt := 48) dX11_resultOf_28 (by decide) c8 ?_
  refine gm_iload_n dX11_resultOf_48 rfl ?_
  refine gm_if_ne_f dX11_resultOf_49 ⟨80, by decide⟩ c8 ?_
  refine gm_aload_n dX11_resultOf_52 rfl ?_
  refine gm_iload_n dX11_resultOf_53 rfl ?_
  refine gm_bipush (v := 6) dX11_resultOf_54 (by decide) ?_
  refine gm_callV (r1 := (some (.int r9))) (own := RX11) rfl dX11_resultOf_56 llX11_229 mvX11_at sM_0 rfl [.int a1, .int 6] [] rfl rfl (Nat.le_of_ble_eq_true rfl) (by decide) rfl h10 rfl ?_
  refine gm_iconst (v := (-1)) dX11_resultOf_59 (by decide) ?_
  refine gm_icmp_eq_f dX11_resultOf_60 ⟨80, by decide⟩ c11 ?_
  refine gm_aload_n dX11_resultOf_63 rfl ?_
  refine gm_aload_n dX11_resultOf_64 rfl ?_
  refine gm_iload_n dX11_resultOf_65 rfl ?_
  refine gm_bipush (v := 6) dX11_resultOf_66 (by decide) ?_
  refine gm_callV (r1 := (some (.int r12))) (own := RX11) rfl dX11_resultOf_68 llX11_229 mvX11_at sM_0 rfl [.int a1, .int 6] [.ref 0] rfl rfl (Nat.le_of_ble_eq_true rfl) (by decide) rfl h13 rfl ?_
  refine gm_callV (r1 := (some (.int r14))) (own := RX11) rfl dX11_resultOf_71 llX11_236 mvX11_isTicket sM_0 rfl [.int r12] [] rfl rfl (Nat.le_of_ble_eq_true rfl) (by decide) rfl h15 rfl ?_
  refine gm_if_ne_f dX11_resultOf_74 ⟨80, by decide⟩ c16 ?_
  refine gm_bipush (v := 8) dX11_resultOf_77 (by decide) ?_
  exact gm_iret dX11_resultOf_79 rfl
/-- X11_resultOf 0 [22t 28t 60f 74t 82f] -> ret  -/
theorem PX11_resultOf_6 {a1 : Int32} {S : gm_Mem} {r1 : Int32} {r3 : Int32} {r5 : Int32} {r9 : Int32} {r12 : Int32} {r14 : Int32} (h2 : gm_run gM 0 YX11_at 0 [some (.ref 0), some (.int a1), some (.int 0)] [] S (some (.int r1)) S) (h4 : gm_run gM 0 YX11_at 0 [some (.ref 0), some (.int a1), some (.int 1)] [] S (some (.int r3)) S) (h6 : gm_run gM 0 YX11_takesKind 0 [some (.ref 0), some (.int (1 - r1)), some (.int r3)] [] S (some (.int r5)) S) (c7 : ¬ r5 = 0) (c8 : r3 = 0) (h10 : gm_run gM 0 YX11_at 0 [some (.ref 0), some (.int a1), some (.int 6)] [] S (some (.int r9)) S) (c11 : ¬ r9 = (-1)) (h13 : gm_run gM 0 YX11_at 0 [some (.ref 0), some (.int a1), some (.int 6)] [] S (some (.int r12)) S) (h15 : gm_run gM 1 YX11_isTicket 0 [some (.ref 0), some (.int r12)] [] S (some (.int r14)) S) (c16 : ¬ r14 = 0) (c17 : r3 < 3) : gm_run gM 3 YX11_resultOf 0 [some (.ref 0), some (.int a1), none, none] [] S (some (.int 0)) S := by
  refine gm_iconst (v := 1) dX11_resultOf_0 (by decide) ?_
  refine gm_aload_n dX11_resultOf_1 rfl ?_
  refine gm_iload_n dX11_resultOf_2 rfl ?_
  refine gm_iconst (v := 0) dX11_resultOf_3 (by decide) ?_
  refine gm_callV (r1 := (some (.int r1))) (own := RX11) rfl dX11_resultOf_4 llX11_229 mvX11_at sM_0 rfl [.int a1, .int 0] [.int 1] rfl rfl (Nat.le_of_ble_eq_true rfl) (by decide) rfl h2 rfl ?_
  refine gm_isub dX11_resultOf_7 rfl ?_
  refine gm_istore_n (L' := [some (.ref 0), some (.int a1), some (.int (1 - r1)), none]) dX11_resultOf_8 (by decide) rfl ?_
  refine gm_aload_n dX11_resultOf_9 rfl ?_
  refine gm_iload_n dX11_resultOf_10 rfl ?_
  refine gm_iconst (v := 1) dX11_resultOf_11 (by decide) ?_
  refine gm_callV (r1 := (some (.int r3))) (own := RX11) rfl dX11_resultOf_12 llX11_229 mvX11_at sM_0 rfl [.int a1, .int 1] [] rfl rfl (Nat.le_of_ble_eq_true rfl) (by decide) rfl h4 rfl ?_
  refine gm_istore_n (L' := [some (.ref 0), some (.int a1), some (.int (1 - r1)), some (.int r3)]) dX11_resultOf_15 (by decide) rfl ?_
  refine gm_aload_n dX11_resultOf_16 rfl ?_
  refine gm_iload_n dX11_resultOf_17 rfl ?_
  refine gm_iload_n dX11_resultOf_18 rfl ?_
  refine gm_callV (r1 := (some (.int r5))) (own := RX11) rfl dX11_resultOf_19 llX11_232 mvX11_takesKind sM_0 rfl [.int (1 - r1), .int r3] [] rfl rfl (Nat.le_of_ble_eq_true rfl) (by decide) rfl h6 rfl ?_
  refine gm_if_ne_t (tgt := 27) dX11_resultOf_22 (by decide) c7 ?_
  refine gm_iload_n dX11_resultOf_27 rfl ?_
  refine gm_if_eq_t (tgt := 48) dX11_resultOf_28 (by decide) c8 ?_
  refine gm_iload_n dX11_resultOf_48 rfl ?_
  refine gm_if_ne_f dX11_resultOf_49 ⟨80, by decide⟩ c8 ?_
  refine gm_aload_n dX11_resultOf_52 rfl ?_
  refine gm_iload_n dX11_resultOf_53 rfl ?_
  refine gm_bipush (v := 6) dX11_resultOf_54 (by decide) ?_
  refine gm_callV (r1 := (some (.int r9))) (own := RX11) rfl dX11_resultOf_56 llX11_229 mvX11_at sM_0 rfl [.int a1, .int 6] [] rfl rfl (Nat.le_of_ble_eq_true rfl) (by decide) rfl h10 rfl ?_
  refine gm_iconst (v := (-1)) dX11_resultOf_59 (by decide) ?_
  refine gm_icmp_eq_f dX11_resultOf_60 ⟨80, by decide⟩ c11 ?_
  refine gm_aload_n dX11_resultOf_63 rfl ?_
  refine gm_aload_n dX11_resultOf_64 rfl ?_
  refine gm_iload_n dX11_resultOf_65 rfl ?_
  refine gm_bipush (v := 6) dX11_resultOf_66 (by decide) ?_
  refine gm_callV (r1 := (some (.int r12))) (own := RX11) rfl dX11_resultOf_68 llX11_229 mvX11_at sM_0 rfl [.int a1, .int 6] [.ref 0] rfl rfl (Nat.le_of_ble_eq_true rfl) (by decide) rfl h13 rfl ?_
  refine gm_callV (r1 := (some (.int r14))) (own := RX11) rfl dX11_resultOf_71 llX11_236 mvX11_isTicket sM_0 rfl [.int r12] [] rfl rfl (Nat.le_of_ble_eq_true rfl) (by decide) rfl h15 rfl ?_
  refine gm_if_ne_t (tgt := 80) dX11_resultOf_74 (by decide) c16 ?_
  refine gm_iload_n dX11_resultOf_80 rfl ?_
  refine gm_iconst (v := 3) dX11_resultOf_81 (by decide) ?_
  refine gm_icmp_ge_f dX11_resultOf_82 ⟨89, by decide⟩ c17 ?_
  refine gm_iconst (v := 0) dX11_resultOf_85 (by decide) ?_
  refine gm_goto (tgt := 96) dX11_resultOf_86 (by decide) ?_
  exact gm_iret dX11_resultOf_96 rfl
/-- X11_resultOf 0 [22t 28t 60f 74t 82t] -> ret  -/
theorem PX11_resultOf_7 {a1 : Int32} {S : gm_Mem} {r1 : Int32} {r3 : Int32} {r5 : Int32} {r9 : Int32} {r12 : Int32} {r14 : Int32} {r18 : Int32} (h2 : gm_run gM 0 YX11_at 0 [some (.ref 0), some (.int a1), some (.int 0)] [] S (some (.int r1)) S) (h4 : gm_run gM 0 YX11_at 0 [some (.ref 0), some (.int a1), some (.int 1)] [] S (some (.int r3)) S) (h6 : gm_run gM 0 YX11_takesKind 0 [some (.ref 0), some (.int (1 - r1)), some (.int r3)] [] S (some (.int r5)) S) (c7 : ¬ r5 = 0) (c8 : r3 = 0) (h10 : gm_run gM 0 YX11_at 0 [some (.ref 0), some (.int a1), some (.int 6)] [] S (some (.int r9)) S) (c11 : ¬ r9 = (-1)) (h13 : gm_run gM 0 YX11_at 0 [some (.ref 0), some (.int a1), some (.int 6)] [] S (some (.int r12)) S) (h15 : gm_run gM 1 YX11_isTicket 0 [some (.ref 0), some (.int r12)] [] S (some (.int r14)) S) (c16 : ¬ r14 = 0) (c17 : ¬ r3 < 3) (h19 : gm_run gM 2 YX11_protectedResult 0 [some (.ref 0), some (.int a1), some (.int (1 - r1)), some (.int r3), none, none, none, none] [] S (some (.int r18)) S) : gm_run gM 3 YX11_resultOf 0 [some (.ref 0), some (.int a1), none, none] [] S (some (.int r18)) S := by
  refine gm_iconst (v := 1) dX11_resultOf_0 (by decide) ?_
  refine gm_aload_n dX11_resultOf_1 rfl ?_
  refine gm_iload_n dX11_resultOf_2 rfl ?_
  refine gm_iconst (v := 0) dX11_resultOf_3 (by decide) ?_
  refine gm_callV (r1 := (some (.int r1))) (own := RX11) rfl dX11_resultOf_4 llX11_229 mvX11_at sM_0 rfl [.int a1, .int 0] [.int 1] rfl rfl (Nat.le_of_ble_eq_true rfl) (by decide) rfl h2 rfl ?_
  refine gm_isub dX11_resultOf_7 rfl ?_
  refine gm_istore_n (L' := [some (.ref 0), some (.int a1), some (.int (1 - r1)), none]) dX11_resultOf_8 (by decide) rfl ?_
  refine gm_aload_n dX11_resultOf_9 rfl ?_
  refine gm_iload_n dX11_resultOf_10 rfl ?_
  refine gm_iconst (v := 1) dX11_resultOf_11 (by decide) ?_
  refine gm_callV (r1 := (some (.int r3))) (own := RX11) rfl dX11_resultOf_12 llX11_229 mvX11_at sM_0 rfl [.int a1, .int 1] [] rfl rfl (Nat.le_of_ble_eq_true rfl) (by decide) rfl h4 rfl ?_
  refine gm_istore_n (L' := [some (.ref 0), some (.int a1), some (.int (1 - r1)), some (.int r3)]) dX11_resultOf_15 (by decide) rfl ?_
  refine gm_aload_n dX11_resultOf_16 rfl ?_
  refine gm_iload_n dX11_resultOf_17 rfl ?_
  refine gm_iload_n dX11_resultOf_18 rfl ?_
  refine gm_callV (r1 := (some (.int r5))) (own := RX11) rfl dX11_resultOf_19 llX11_232 mvX11_takesKind sM_0 rfl [.int (1 - r1), .int r3] [] rfl rfl (Nat.le_of_ble_eq_true rfl) (by decide) rfl h6 rfl ?_
  refine gm_if_ne_t (tgt := 27) dX11_resultOf_22 (by decide) c7 ?_
  refine gm_iload_n dX11_resultOf_27 rfl ?_
  refine gm_if_eq_t (tgt := 48) dX11_resultOf_28 (by decide) c8 ?_
  refine gm_iload_n dX11_resultOf_48 rfl ?_
  refine gm_if_ne_f dX11_resultOf_49 ⟨80, by decide⟩ c8 ?_
  refine gm_aload_n dX11_resultOf_52 rfl ?_
  refine gm_iload_n dX11_resultOf_53 rfl ?_
  refine gm_bipush (v := 6) dX11_resultOf_54 (by decide) ?_
  refine gm_callV (r1 := (some (.int r9))) (own := RX11) rfl dX11_resultOf_56 llX11_229 mvX11_at sM_0 rfl [.int a1, .int 6] [] rfl rfl (Nat.le_of_ble_eq_true rfl) (by decide) rfl h10 rfl ?_
  refine gm_iconst (v := (-1)) dX11_resultOf_59 (by decide) ?_
  refine gm_icmp_eq_f dX11_resultOf_60 ⟨80, by decide⟩ c11 ?_
  refine gm_aload_n dX11_resultOf_63 rfl ?_
  refine gm_aload_n dX11_resultOf_64 rfl ?_
  refine gm_iload_n dX11_resultOf_65 rfl ?_
  refine gm_bipush (v := 6) dX11_resultOf_66 (by decide) ?_
  refine gm_callV (r1 := (some (.int r12))) (own := RX11) rfl dX11_resultOf_68 llX11_229 mvX11_at sM_0 rfl [.int a1, .int 6] [.ref 0] rfl rfl (Nat.le_of_ble_eq_true rfl) (by decide) rfl h13 rfl ?_
  refine gm_callV (r1 := (some (.int r14))) (own := RX11) rfl dX11_resultOf_71 llX11_236 mvX11_isTicket sM_0 rfl [.int r12] [] rfl rfl (Nat.le_of_ble_eq_true rfl) (by decide) rfl h15 rfl ?_
  refine gm_if_ne_t (tgt := 80) dX11_resultOf_74 (by decide) c16 ?_
  refine gm_iload_n dX11_resultOf_80 rfl ?_
  refine gm_iconst (v := 3) dX11_resultOf_81 (by decide) ?_
  refine gm_icmp_ge_t (tgt := 89) dX11_resultOf_82 (by decide) c17 ?_
  refine gm_aload_n dX11_resultOf_89 rfl ?_
  refine gm_iload_n dX11_resultOf_90 rfl ?_
  refine gm_iload_n dX11_resultOf_91 rfl ?_
  refine gm_iload_n dX11_resultOf_92 rfl ?_
  refine gm_callV (r1 := (some (.int r18))) (own := RX11) rfl dX11_resultOf_93 llX11_239 mvX11_protectedResult sM_0 rfl [.int a1, .int (1 - r1), .int r3] [] rfl rfl (Nat.le_of_ble_eq_true rfl) (by decide) rfl h19 rfl ?_
  exact gm_iret dX11_resultOf_96 rfl
/-- X11_resultOf 0 [22t 28t 60t 82f] -> ret  -/
theorem PX11_resultOf_8 {a1 : Int32} {S : gm_Mem} {r1 : Int32} {r3 : Int32} {r5 : Int32} {r9 : Int32} (h2 : gm_run gM 0 YX11_at 0 [some (.ref 0), some (.int a1), some (.int 0)] [] S (some (.int r1)) S) (h4 : gm_run gM 0 YX11_at 0 [some (.ref 0), some (.int a1), some (.int 1)] [] S (some (.int r3)) S) (h6 : gm_run gM 0 YX11_takesKind 0 [some (.ref 0), some (.int (1 - r1)), some (.int r3)] [] S (some (.int r5)) S) (c7 : ¬ r5 = 0) (c8 : r3 = 0) (h10 : gm_run gM 0 YX11_at 0 [some (.ref 0), some (.int a1), some (.int 6)] [] S (some (.int r9)) S) (c11 : r9 = (-1)) (c12 : r3 < 3) : gm_run gM 3 YX11_resultOf 0 [some (.ref 0), some (.int a1), none, none] [] S (some (.int 0)) S := by
  refine gm_iconst (v := 1) dX11_resultOf_0 (by decide) ?_
  refine gm_aload_n dX11_resultOf_1 rfl ?_
  refine gm_iload_n dX11_resultOf_2 rfl ?_
  refine gm_iconst (v := 0) dX11_resultOf_3 (by decide) ?_
  refine gm_callV (r1 := (some (.int r1))) (own := RX11) rfl dX11_resultOf_4 llX11_229 mvX11_at sM_0 rfl [.int a1, .int 0] [.int 1] rfl rfl (Nat.le_of_ble_eq_true rfl) (by decide) rfl h2 rfl ?_
  refine gm_isub dX11_resultOf_7 rfl ?_
  refine gm_istore_n (L' := [some (.ref 0), some (.int a1), some (.int (1 - r1)), none]) dX11_resultOf_8 (by decide) rfl ?_
  refine gm_aload_n dX11_resultOf_9 rfl ?_
  refine gm_iload_n dX11_resultOf_10 rfl ?_
  refine gm_iconst (v := 1) dX11_resultOf_11 (by decide) ?_
  refine gm_callV (r1 := (some (.int r3))) (own := RX11) rfl dX11_resultOf_12 llX11_229 mvX11_at sM_0 rfl [.int a1, .int 1] [] rfl rfl (Nat.le_of_ble_eq_true rfl) (by decide) rfl h4 rfl ?_
  refine gm_istore_n (L' := [some (.ref 0), some (.int a1), some (.int (1 - r1)), some (.int r3)]) dX11_resultOf_15 (by decide) rfl ?_
  refine gm_aload_n dX11_resultOf_16 rfl ?_
  refine gm_iload_n dX11_resultOf_17 rfl ?_
  refine gm_iload_n dX11_resultOf_18 rfl ?_
  refine gm_callV (r1 := (some (.int r5))) (own := RX11) rfl dX11_resultOf_19 llX11_232 mvX11_takesKind sM_0 rfl [.int (1 - r1), .int r3] [] rfl rfl (Nat.le_of_ble_eq_true rfl) (by decide) rfl h6 rfl ?_
  refine gm_if_ne_t (tgt := 27) dX11_resultOf_22 (by decide) c7 ?_
  refine gm_iload_n dX11_resultOf_27 rfl ?_
  refine gm_if_eq_t (tgt := 48) dX11_resultOf_28 (by decide) c8 ?_
  refine gm_iload_n dX11_resultOf_48 rfl ?_
  refine gm_if_ne_f dX11_resultOf_49 ⟨80, by decide⟩ c8 ?_
  refine gm_aload_n dX11_resultOf_52 rfl ?_
  refine gm_iload_n dX11_resultOf_53 rfl ?_
  refine gm_bipush (v := 6) dX11_resultOf_54 (by decide) ?_
  refine gm_callV (r1 := (some (.int r9))) (own := RX11) rfl dX11_resultOf_56 llX11_229 mvX11_at sM_0 rfl [.int a1, .int 6] [] rfl rfl (Nat.le_of_ble_eq_true rfl) (by decide) rfl h10 rfl ?_
  refine gm_iconst (v := (-1)) dX11_resultOf_59 (by decide) ?_
  refine gm_icmp_eq_t (tgt := 80) dX11_resultOf_60 (by decide) c11 ?_
  refine gm_iload_n dX11_resultOf_80 rfl ?_
  refine gm_iconst (v := 3) dX11_resultOf_81 (by decide) ?_
  refine gm_icmp_ge_f dX11_resultOf_82 ⟨89, by decide⟩ c12 ?_
  refine gm_iconst (v := 0) dX11_resultOf_85 (by decide) ?_
  refine gm_goto (tgt := 96) dX11_resultOf_86 (by decide) ?_
  exact gm_iret dX11_resultOf_96 rfl
/-- X11_resultOf 0 [22t 28t 60t 82t] -> ret  -/
theorem PX11_resultOf_9 {a1 : Int32} {S : gm_Mem} {r1 : Int32} {r3 : Int32} {r5 : Int32} {r9 : Int32} {r13 : Int32} (h2 : gm_run gM 0 YX11_at 0 [some (.ref 0), some (.int a1), some (.int 0)] [] S (some (.int r1)) S) (h4 : gm_run gM 0 YX11_at 0 [some (.ref 0), some (.int a1), some (.int 1)] [] S (some (.int r3)) S) (h6 : gm_run gM 0 YX11_takesKind 0 [some (.ref 0), some (.int (1 - r1)), some (.int r3)] [] S (some (.int r5)) S) (c7 : ¬ r5 = 0) (c8 : r3 = 0) (h10 : gm_run gM 0 YX11_at 0 [some (.ref 0), some (.int a1), some (.int 6)] [] S (some (.int r9)) S) (c11 : r9 = (-1)) (c12 : ¬ r3 < 3) (h14 : gm_run gM 2 YX11_protectedResult 0 [some (.ref 0), some (.int a1), some (.int (1 - r1)), some (.int r3), none, none, none, none] [] S (some (.int r13)) S) : gm_run gM 3 YX11_resultOf 0 [some (.ref 0), some (.int a1), none, none] [] S (some (.int r13)) S := by
  refine gm_iconst (v := 1) dX11_resultOf_0 (by decide) ?_
  refine gm_aload_n dX11_resultOf_1 rfl ?_
  refine gm_iload_n dX11_resultOf_2 rfl ?_
  refine gm_iconst (v := 0) dX11_resultOf_3 (by decide) ?_
  refine gm_callV (r1 := (some (.int r1))) (own := RX11) rfl dX11_resultOf_4 llX11_229 mvX11_at sM_0 rfl [.int a1, .int 0] [.int 1] rfl rfl (Nat.le_of_ble_eq_true rfl) (by decide) rfl h2 rfl ?_
  refine gm_isub dX11_resultOf_7 rfl ?_
  refine gm_istore_n (L' := [some (.ref 0), some (.int a1), some (.int (1 - r1)), none]) dX11_resultOf_8 (by decide) rfl ?_
  refine gm_aload_n dX11_resultOf_9 rfl ?_
  refine gm_iload_n dX11_resultOf_10 rfl ?_
  refine gm_iconst (v := 1) dX11_resultOf_11 (by decide) ?_
  refine gm_callV (r1 := (some (.int r3))) (own := RX11) rfl dX11_resultOf_12 llX11_229 mvX11_at sM_0 rfl [.int a1, .int 1] [] rfl rfl (Nat.le_of_ble_eq_true rfl) (by decide) rfl h4 rfl ?_
  refine gm_istore_n (L' := [some (.ref 0), some (.int a1), some (.int (1 - r1)), some (.int r3)]) dX11_resultOf_15 (by decide) rfl ?_
  refine gm_aload_n dX11_resultOf_16 rfl ?_
  refine gm_iload_n dX11_resultOf_17 rfl ?_
  refine gm_iload_n dX11_resultOf_18 rfl ?_
  refine gm_callV (r1 := (some (.int r5))) (own := RX11) rfl dX11_resultOf_19 llX11_232 mvX11_takesKind sM_0 rfl [.int (1 - r1), .int r3] [] rfl rfl (Nat.le_of_ble_eq_true rfl) (by decide) rfl h6 rfl ?_
  refine gm_if_ne_t (tgt := 27) dX11_resultOf_22 (by decide) c7 ?_
  refine gm_iload_n dX11_resultOf_27 rfl ?_
  refine gm_if_eq_t (tgt := 48) dX11_resultOf_28 (by decide) c8 ?_
  refine gm_iload_n dX11_resultOf_48 rfl ?_
  refine gm_if_ne_f dX11_resultOf_49 ⟨80, by decide⟩ c8 ?_
  refine gm_aload_n dX11_resultOf_52 rfl ?_
  refine gm_iload_n dX11_resultOf_53 rfl ?_
  refine gm_bipush (v := 6) dX11_resultOf_54 (by decide) ?_
  refine gm_callV (r1 := (some (.int r9))) (own := RX11) rfl dX11_resultOf_56 llX11_229 mvX11_at sM_0 rfl [.int a1, .int 6] [] rfl rfl (Nat.le_of_ble_eq_true rfl) (by decide) rfl h10 rfl ?_
  refine gm_iconst (v := (-1)) dX11_resultOf_59 (by decide) ?_
  refine gm_icmp_eq_t (tgt := 80) dX11_resultOf_60 (by decide) c11 ?_
  refine gm_iload_n dX11_resultOf_80 rfl ?_
  refine gm_iconst (v := 3) dX11_resultOf_81 (by decide) ?_
  refine gm_icmp_ge_t (tgt := 89) dX11_resultOf_82 (by decide) c12 ?_
  refine gm_aload_n dX11_resultOf_89 rfl ?_
  refine gm_iload_n dX11_resultOf_90 rfl ?_
  refine gm_iload_n dX11_resultOf_91 rfl ?_
  refine gm_iload_n dX11_resultOf_92 rfl ?_
  refine gm_callV (r1 := (some (.int r13))) (own := RX11) rfl dX11_resultOf_93 llX11_239 mvX11_protectedResult sM_0 rfl [.int a1, .int (1 - r1), .int r3] [] rfl rfl (Nat.le_of_ble_eq_true rfl) (by decide) rfl h14 rfl ?_
  exact gm_iret dX11_resultOf_96 rfl
/-- X11_setWith 0 [1f] -> ret  -/
theorem PX11_setWith_1 {a1 : Int32} {a2 : Int32} {a3 : Int32} {S : gm_Mem} (c1 : a1 < 0) : gm_run gM 0 YX11_setWith 0 [some (.int a1), some (.int a2), some (.int a3)] [] S (some (.int 1)) S := by
  refine gm_iload_n dX11_setWith_0 rfl ?_
  refine gm_if_ge_f dX11_setWith_1 ⟨6, by decide⟩ c1 ?_
  refine gm_iconst (v := 1) dX11_setWith_4 (by decide) ?_
  exact gm_iret dX11_setWith_5 rfl
/-- X11_setWith 0 [1t 8f] -> ret  -/
theorem PX11_setWith_2 {a1 : Int32} {a2 : Int32} {a3 : Int32} {S : gm_Mem} (c1 : ¬ a1 < 0) (c2 : ¬ a1 < a3) : gm_run gM 0 YX11_setWith 0 [some (.int a1), some (.int a2), some (.int a3)] [] S (some (.int (a2 ||| (1 <<< ((a1 - a3) &&& 31))))) S := by
  refine gm_iload_n dX11_setWith_0 rfl ?_
  refine gm_if_ge_t (tgt := 6) dX11_setWith_1 (by decide) c1 ?_
  refine gm_iload_n dX11_setWith_6 rfl ?_
  refine gm_iload_n dX11_setWith_7 rfl ?_
  refine gm_icmp_gt_f dX11_setWith_8 ⟨19, by decide⟩ c2 ?_
  refine gm_iload_n dX11_setWith_11 rfl ?_
  refine gm_iconst (v := 1) dX11_setWith_12 (by decide) ?_
  refine gm_iload_n dX11_setWith_13 rfl ?_
  refine gm_iload_n dX11_setWith_14 rfl ?_
  refine gm_isub dX11_setWith_15 rfl ?_
  refine gm_ishl dX11_setWith_16 rfl ?_
  refine gm_ior dX11_setWith_17 rfl ?_
  exact gm_iret dX11_setWith_18 rfl
/-- X11_setWith 0 [1t 8t 24f] -> ret  -/
theorem PX11_setWith_3 {a1 : Int32} {a2 : Int32} {a3 : Int32} {S : gm_Mem} (c1 : ¬ a1 < 0) (c2 : a1 < a3) (c3 : 7 < (a3 - a1)) : gm_run gM 0 YX11_setWith 0 [some (.int a1), some (.int a2), some (.int a3)] [] S (some (.int 1)) S := by
  refine gm_iload_n dX11_setWith_0 rfl ?_
  refine gm_if_ge_t (tgt := 6) dX11_setWith_1 (by decide) c1 ?_
  refine gm_iload_n dX11_setWith_6 rfl ?_
  refine gm_iload_n dX11_setWith_7 rfl ?_
  refine gm_icmp_gt_t (tgt := 19) dX11_setWith_8 (by decide) c2 ?_
  refine gm_iload_n dX11_setWith_19 rfl ?_
  refine gm_iload_n dX11_setWith_20 rfl ?_
  refine gm_isub dX11_setWith_21 rfl ?_
  refine gm_bipush (v := 7) dX11_setWith_22 (by decide) ?_
  refine gm_icmp_le_f dX11_setWith_24 ⟨31, by decide⟩ c3 ?_
  refine gm_iconst (v := 1) dX11_setWith_27 (by decide) ?_
  refine gm_goto (tgt := 42) dX11_setWith_28 (by decide) ?_
  exact gm_iret dX11_setWith_42 rfl
/-- X11_setWith 0 [1t 8t 24t] -> ret  -/
theorem PX11_setWith_4 {a1 : Int32} {a2 : Int32} {a3 : Int32} {S : gm_Mem} (c1 : ¬ a1 < 0) (c2 : a1 < a3) (c3 : ¬ 7 < (a3 - a1)) : gm_run gM 0 YX11_setWith 0 [some (.int a1), some (.int a2), some (.int a3)] [] S (some (.int (((a2 <<< ((a3 - a1) &&& 31)) ||| 1) &&& 255))) S := by
  refine gm_iload_n dX11_setWith_0 rfl ?_
  refine gm_if_ge_t (tgt := 6) dX11_setWith_1 (by decide) c1 ?_
  refine gm_iload_n dX11_setWith_6 rfl ?_
  refine gm_iload_n dX11_setWith_7 rfl ?_
  refine gm_icmp_gt_t (tgt := 19) dX11_setWith_8 (by decide) c2 ?_
  refine gm_iload_n dX11_setWith_19 rfl ?_
  refine gm_iload_n dX11_setWith_20 rfl ?_
  refine gm_isub dX11_setWith_21 rfl ?_
  refine gm_bipush (v := 7) dX11_setWith_22 (by decide) ?_
  refine gm_icmp_le_t (tgt := 31) dX11_setWith_24 (by decide) c3 ?_
  refine gm_iload_n dX11_setWith_31 rfl ?_
  refine gm_iload_n dX11_setWith_32 rfl ?_
  refine gm_iload_n dX11_setWith_33 rfl ?_
  refine gm_isub dX11_setWith_34 rfl ?_
  refine gm_ishl dX11_setWith_35 rfl ?_
  refine gm_iconst (v := 1) dX11_setWith_36 (by decide) ?_
  refine gm_ior dX11_setWith_37 rfl ?_
  refine gm_sipush (v := 255) dX11_setWith_38 (by decide) ?_
  refine gm_iand dX11_setWith_41 rfl ?_
  exact gm_iret dX11_setWith_42 rfl
/-- X11_enters 0 [7f 44f] -> ret  -/
theorem PX11_enters_1 {a1 : Int32} {a2 : Int32} {a3 : Int32} {S : gm_Mem} {j1 : Nat} {r3 : Int32} (ij1 : gm_ix a1 j1 2) (c2 : a2 < (S 7 j1)) (h4 : gm_run gM 0 YX11_setWith 0 [some (.int (S 10 j1)), some (.int (S 11 j1)), some (.int a3)] [] S (some (.int r3)) S) (c5 : (S 10 j1) < a3) : gm_run gM 1 YX11_enters 0 [some (.ref 0), some (.int a1), some (.int a2), some (.int a3)] [] S none (gm_u (gm_u S 11 j1 r3) 10 j1 a3) := by
  refine gm_iload_n dX11_enters_0 rfl ?_
  refine gm_aload_n dX11_enters_1 rfl ?_
  refine gm_getR (own := RX11) (q := 7) rfl dX11_enters_2 lfX11_38 sM_0 rfl ?_
  refine gm_iload_n dX11_enters_5 rfl ?_
  refine gm_iald (j := j1) (x := (S 7 j1)) dX11_enters_6 sM_7 ij1 rfl ?_
  refine gm_icmp_ge_f dX11_enters_7 ⟨59, by decide⟩ c2 ?_
  refine gm_aload_n dX11_enters_10 rfl ?_
  refine gm_getR (own := RX11) (q := 11) rfl dX11_enters_11 lfX11_50 sM_0 rfl ?_
  refine gm_iload_n dX11_enters_14 rfl ?_
  refine gm_aload_n dX11_enters_15 rfl ?_
  refine gm_getR (own := RX11) (q := 10) rfl dX11_enters_16 lfX11_47 sM_0 rfl ?_
  refine gm_iload_n dX11_enters_19 rfl ?_
  refine gm_iald (j := j1) (x := (S 10 j1)) dX11_enters_20 sM_10 ij1 rfl ?_
  refine gm_aload_n dX11_enters_21 rfl ?_
  refine gm_getR (own := RX11) (q := 11) rfl dX11_enters_22 lfX11_50 sM_0 rfl ?_
  refine gm_iload_n dX11_enters_25 rfl ?_
  refine gm_iald (j := j1) (x := (S 11 j1)) dX11_enters_26 sM_11 ij1 rfl ?_
  refine gm_iload_n dX11_enters_27 rfl ?_
  refine gm_callS (r1 := (some (.int r3))) (own := RX11) rfl dX11_enters_28 llX11_246 msX11_setWith [.int (S 10 j1), .int (S 11 j1), .int a3] [.int a1, .ref 11] rfl rfl (Nat.le_of_ble_eq_true rfl) (by decide) rfl h4 rfl ?_
  refine gm_iast (j := j1) dX11_enters_31 sM_11 ij1 ?_
  refine gm_aload_n dX11_enters_32 rfl ?_
  refine gm_getR (own := RX11) (q := 10) rfl dX11_enters_33 lfX11_47 sM_0 rfl ?_
  refine gm_iload_n dX11_enters_36 rfl ?_
  refine gm_iload_n dX11_enters_37 rfl ?_
  refine gm_aload_n dX11_enters_38 rfl ?_
  refine gm_getR (own := RX11) (q := 10) rfl dX11_enters_39 lfX11_47 sM_0 rfl ?_
  refine gm_iload_n dX11_enters_42 rfl ?_
  refine gm_iald (j := j1) (x := (S 10 j1)) dX11_enters_43 sM_10 ij1 (gm_rp (by omega)) ?_
  refine gm_icmp_le_f dX11_enters_44 ⟨51, by decide⟩ c5 ?_
  refine gm_iload_n dX11_enters_47 rfl ?_
  refine gm_goto (tgt := 57) dX11_enters_48 (by decide) ?_
  refine gm_iast (j := j1) dX11_enters_57 sM_10 ij1 ?_
  exact gm_vret dX11_enters_58 rfl
/-- X11_enters 0 [7f 44t] -> ret  -/
theorem PX11_enters_2 {a1 : Int32} {a2 : Int32} {a3 : Int32} {S : gm_Mem} {j1 : Nat} {r3 : Int32} (ij1 : gm_ix a1 j1 2) (c2 : a2 < (S 7 j1)) (h4 : gm_run gM 0 YX11_setWith 0 [some (.int (S 10 j1)), some (.int (S 11 j1)), some (.int a3)] [] S (some (.int r3)) S) (c5 : ¬ (S 10 j1) < a3) : gm_run gM 1 YX11_enters 0 [some (.ref 0), some (.int a1), some (.int a2), some (.int a3)] [] S none (gm_u (gm_u S 11 j1 r3) 10 j1 (S 10 j1)) := by
  refine gm_iload_n dX11_enters_0 rfl ?_
  refine gm_aload_n dX11_enters_1 rfl ?_
  refine gm_getR (own := RX11) (q := 7) rfl dX11_enters_2 lfX11_38 sM_0 rfl ?_
  refine gm_iload_n dX11_enters_5 rfl ?_
  refine gm_iald (j := j1) (x := (S 7 j1)) dX11_enters_6 sM_7 ij1 rfl ?_
  refine gm_icmp_ge_f dX11_enters_7 ⟨59, by decide⟩ c2 ?_
  refine gm_aload_n dX11_enters_10 rfl ?_
  refine gm_getR (own := RX11) (q := 11) rfl dX11_enters_11 lfX11_50 sM_0 rfl ?_
  refine gm_iload_n dX11_enters_14 rfl ?_
  refine gm_aload_n dX11_enters_15 rfl ?_
  refine gm_getR (own := RX11) (q := 10) rfl dX11_enters_16 lfX11_47 sM_0 rfl ?_
  refine gm_iload_n dX11_enters_19 rfl ?_
  refine gm_iald (j := j1) (x := (S 10 j1)) dX11_enters_20 sM_10 ij1 rfl ?_
  refine gm_aload_n dX11_enters_21 rfl ?_
  refine gm_getR (own := RX11) (q := 11) rfl dX11_enters_22 lfX11_50 sM_0 rfl ?_
  refine gm_iload_n dX11_enters_25 rfl ?_
  refine gm_iald (j := j1) (x := (S 11 j1)) dX11_enters_26 sM_11 ij1 rfl ?_
  refine gm_iload_n dX11_enters_27 rfl ?_
  refine gm_callS (r1 := (some (.int r3))) (own := RX11) rfl dX11_enters_28 llX11_246 msX11_setWith [.int (S 10 j1), .int (S 11 j1), .int a3] [.int a1, .ref 11] rfl rfl (Nat.le_of_ble_eq_true rfl) (by decide) rfl h4 rfl ?_
  refine gm_iast (j := j1) dX11_enters_31 sM_11 ij1 ?_
  refine gm_aload_n dX11_enters_32 rfl ?_
  refine gm_getR (own := RX11) (q := 10) rfl dX11_enters_33 lfX11_47 sM_0 rfl ?_
  refine gm_iload_n dX11_enters_36 rfl ?_
  refine gm_iload_n dX11_enters_37 rfl ?_
  refine gm_aload_n dX11_enters_38 rfl ?_
  refine gm_getR (own := RX11) (q := 10) rfl dX11_enters_39 lfX11_47 sM_0 rfl ?_
  refine gm_iload_n dX11_enters_42 rfl ?_
  refine gm_iald (j := j1) (x := (S 10 j1)) dX11_enters_43 sM_10 ij1 (gm_rp (by omega)) ?_
  refine gm_icmp_le_t (tgt := 51) dX11_enters_44 (by decide) c5 ?_
  refine gm_aload_n dX11_enters_51 rfl ?_
  refine gm_getR (own := RX11) (q := 10) rfl dX11_enters_52 lfX11_47 sM_0 rfl ?_
  refine gm_iload_n dX11_enters_55 rfl ?_
  refine gm_iald (j := j1) (x := (S 10 j1)) dX11_enters_56 sM_10 ij1 (gm_rp (by omega)) ?_
  refine gm_iast (j := j1) dX11_enters_57 sM_10 ij1 ?_
  exact gm_vret dX11_enters_58 rfl
/-- X11_enters 0 [7t 66f 83f 186f] -> ret  -/
theorem PX11_enters_3 {a1 : Int32} {a2 : Int32} {a3 : Int32} {S : gm_Mem} {j1 : Nat} {r5 : Int32} (ij1 : gm_ix a1 j1 2) (c2 : ¬ a2 < (S 7 j1)) (c3 : (S 7 j1) < a2) (c4 : a2 = ((S 7 j1) + 1)) (h6 : gm_run gM 0 YX11_setWith 0 [some (.int (-1)), some (.int (S 9 j1)), some (.int a3)] [] (gm_u (gm_u (gm_u (gm_u (gm_u S 12 j1 4) 10 j1 (S 8 j1)) 11 j1 (S 9 j1)) 7 j1 a2) 8 j1 (-1)) (some (.int r5)) (gm_u (gm_u (gm_u (gm_u (gm_u S 12 j1 4) 10 j1 (S 8 j1)) 11 j1 (S 9 j1)) 7 j1 a2) 8 j1 (-1))) (c7 : (-1) < a3) : gm_run gM 1 YX11_enters 0 [some (.ref 0), some (.int a1), some (.int a2), some (.int a3)] [] S none (gm_u (gm_u (gm_u (gm_u (gm_u (gm_u (gm_u S 12 j1 4) 10 j1 (S 8 j1)) 11 j1 (S 9 j1)) 7 j1 a2) 8 j1 (-1)) 9 j1 r5) 8 j1 a3) := by
  refine gm_iload_n dX11_enters_0 rfl ?_
  refine gm_aload_n dX11_enters_1 rfl ?_
  refine gm_getR (own := RX11) (q := 7) rfl dX11_enters_2 lfX11_38 sM_0 rfl ?_
  refine gm_iload_n dX11_enters_5 rfl ?_
  refine gm_iald (j := j1) (x := (S 7 j1)) dX11_enters_6 sM_7 ij1 rfl ?_
  refine gm_icmp_ge_t (tgt := 59) dX11_enters_7 (by decide) c2 ?_
  refine gm_iload_n dX11_enters_59 rfl ?_
  refine gm_aload_n dX11_enters_60 rfl ?_
  refine gm_getR (own := RX11) (q := 7) rfl dX11_enters_61 lfX11_38 sM_0 rfl ?_
  refine gm_iload_n dX11_enters_64 rfl ?_
  refine gm_iald (j := j1) (x := (S 7 j1)) dX11_enters_65 sM_7 ij1 rfl ?_
  refine gm_icmp_le_f dX11_enters_66 ⟨133, by decide⟩ c3 ?_
  refine gm_aload_n dX11_enters_69 rfl ?_
  refine gm_getR (own := RX11) (q := 12) rfl dX11_enters_70 lfX11_53 sM_0 rfl ?_
  refine gm_iload_n dX11_enters_73 rfl ?_
  refine gm_iload_n dX11_enters_74 rfl ?_
  refine gm_aload_n dX11_enters_75 rfl ?_
  refine gm_getR (own := RX11) (q := 7) rfl dX11_enters_76 lfX11_38 sM_0 rfl ?_
  refine gm_iload_n dX11_enters_79 rfl ?_
  refine gm_iald (j := j1) (x := (S 7 j1)) dX11_enters_80 sM_7 ij1 rfl ?_
  refine gm_iconst (v := 1) dX11_enters_81 (by decide) ?_
  refine gm_iadd dX11_enters_82 rfl ?_
  refine gm_icmp_ne_f dX11_enters_83 ⟨90, by decide⟩ c4 ?_
  refine gm_iconst (v := 4) dX11_enters_86 (by decide) ?_
  refine gm_goto (tgt := 91) dX11_enters_87 (by decide) ?_
  refine gm_iast (j := j1) dX11_enters_91 sM_12 ij1 ?_
  refine gm_aload_n dX11_enters_92 rfl ?_
  refine gm_getR (own := RX11) (q := 10) rfl dX11_enters_93 lfX11_47 sM_0 rfl ?_
  refine gm_iload_n dX11_enters_96 rfl ?_
  refine gm_aload_n dX11_enters_97 rfl ?_
  refine gm_getR (own := RX11) (q := 8) rfl dX11_enters_98 lfX11_41 sM_0 rfl ?_
  refine gm_iload_n dX11_enters_101 rfl ?_
  refine gm_iald (j := j1) (x := (S 8 j1)) dX11_enters_102 sM_8 ij1 (gm_rp (by omega)) ?_
  refine gm_iast (j := j1) dX11_enters_103 sM_10 ij1 ?_
  refine gm_aload_n dX11_enters_104 rfl ?_
  refine gm_getR (own := RX11) (q := 11) rfl dX11_enters_105 lfX11_50 sM_0 rfl ?_
  refine gm_iload_n dX11_enters_108 rfl ?_
  refine gm_aload_n dX11_enters_109 rfl ?_
  refine gm_getR (own := RX11) (q := 9) rfl dX11_enters_110 lfX11_44 sM_0 rfl ?_
  refine gm_iload_n dX11_enters_113 rfl ?_
  refine gm_iald (j := j1) (x := (S 9 j1)) dX11_enters_114 sM_9 ij1 ((gm_rp (by omega)).trans (gm_rp (by omega))) ?_
  refine gm_iast (j := j1) dX11_enters_115 sM_11 ij1 ?_
  refine gm_aload_n dX11_enters_116 rfl ?_
  refine gm_getR (own := RX11) (q := 7) rfl dX11_enters_117 lfX11_38 sM_0 rfl ?_
  refine gm_iload_n dX11_enters_120 rfl ?_
  refine gm_iload_n dX11_enters_121 rfl ?_
  refine gm_iast (j := j1) dX11_enters_122 sM_7 ij1 ?_
  refine gm_aload_n dX11_enters_123 rfl ?_
  refine gm_getR (own := RX11) (q := 8) rfl dX11_enters_124 lfX11_41 sM_0 rfl ?_
  refine gm_iload_n dX11_enters_127 rfl ?_
  refine gm_iconst (v := (-1)) dX11_enters_128 (by decide) ?_
  refine gm_iast (j := j1) dX11_enters_129 sM_8 ij1 ?_
  refine gm_goto (tgt := 152) dX11_enters_130 (by decide) ?_
  refine gm_aload_n dX11_enters_152 rfl ?_
  refine gm_getR (own := RX11) (q := 9) rfl dX11_enters_153 lfX11_44 sM_0 rfl ?_
  refine gm_iload_n dX11_enters_156 rfl ?_
  refine gm_aload_n dX11_enters_157 rfl ?_
  refine gm_getR (own := RX11) (q := 8) rfl dX11_enters_158 lfX11_41 sM_0 rfl ?_
  refine gm_iload_n dX11_enters_161 rfl ?_
  refine gm_iald (j := j1) (x := (-1)) dX11_enters_162 sM_8 ij1 (gm_rS _ _ _ _) ?_
  refine gm_aload_n dX11_enters_163 rfl ?_
  refine gm_getR (own := RX11) (q := 9) rfl dX11_enters_164 lfX11_44 sM_0 rfl ?_
  refine gm_iload_n dX11_enters_167 rfl ?_
  refine gm_iald (j := j1) (x := (S 9 j1)) dX11_enters_168 sM_9 ij1 ((gm_rp (by omega)).trans ((gm_rp (by omega)).trans ((gm_rp (by omega)).trans ((gm_rp (by omega)).trans (gm_rp (by omega)))))) ?_
  refine gm_iload_n dX11_enters_169 rfl ?_
  refine gm_callS (r1 := (some (.int r5))) (own := RX11) rfl dX11_enters_170 llX11_246 msX11_setWith [.int (-1), .int (S 9 j1), .int a3] [.int a1, .ref 9] rfl rfl (Nat.le_of_ble_eq_true rfl) (by decide) rfl h6 rfl ?_
  refine gm_iast (j := j1) dX11_enters_173 sM_9 ij1 ?_
  refine gm_aload_n dX11_enters_174 rfl ?_
  refine gm_getR (own := RX11) (q := 8) rfl dX11_enters_175 lfX11_41 sM_0 rfl ?_
  refine gm_iload_n dX11_enters_178 rfl ?_
  refine gm_iload_n dX11_enters_179 rfl ?_
  refine gm_aload_n dX11_enters_180 rfl ?_
  refine gm_getR (own := RX11) (q := 8) rfl dX11_enters_181 lfX11_41 sM_0 rfl ?_
  refine gm_iload_n dX11_enters_184 rfl ?_
  refine gm_iald (j := j1) (x := (-1)) dX11_enters_185 sM_8 ij1 ((gm_rp (by omega)).trans (gm_rS _ _ _ _)) ?_
  refine gm_icmp_le_f dX11_enters_186 ⟨193, by decide⟩ c7 ?_
  refine gm_iload_n dX11_enters_189 rfl ?_
  refine gm_goto (tgt := 199) dX11_enters_190 (by decide) ?_
  refine gm_iast (j := j1) dX11_enters_199 sM_8 ij1 ?_
  exact gm_vret dX11_enters_200 rfl
/-- X11_enters 0 [7t 66f 83f 186t] -> ret  -/
theorem PX11_enters_4 {a1 : Int32} {a2 : Int32} {a3 : Int32} {S : gm_Mem} {j1 : Nat} {r5 : Int32} (ij1 : gm_ix a1 j1 2) (c2 : ¬ a2 < (S 7 j1)) (c3 : (S 7 j1) < a2) (c4 : a2 = ((S 7 j1) + 1)) (h6 : gm_run gM 0 YX11_setWith 0 [some (.int (-1)), some (.int (S 9 j1)), some (.int a3)] [] (gm_u (gm_u (gm_u (gm_u (gm_u S 12 j1 4) 10 j1 (S 8 j1)) 11 j1 (S 9 j1)) 7 j1 a2) 8 j1 (-1)) (some (.int r5)) (gm_u (gm_u (gm_u (gm_u (gm_u S 12 j1 4) 10 j1 (S 8 j1)) 11 j1 (S 9 j1)) 7 j1 a2) 8 j1 (-1))) (c7 : ¬ (-1) < a3) : gm_run gM 1 YX11_enters 0 [some (.ref 0), some (.int a1), some (.int a2), some (.int a3)] [] S none (gm_u (gm_u (gm_u (gm_u (gm_u (gm_u (gm_u S 12 j1 4) 10 j1 (S 8 j1)) 11 j1 (S 9 j1)) 7 j1 a2) 8 j1 (-1)) 9 j1 r5) 8 j1 (-1)) := by
  refine gm_iload_n dX11_enters_0 rfl ?_
  refine gm_aload_n dX11_enters_1 rfl ?_
  refine gm_getR (own := RX11) (q := 7) rfl dX11_enters_2 lfX11_38 sM_0 rfl ?_
  refine gm_iload_n dX11_enters_5 rfl ?_
  refine gm_iald (j := j1) (x := (S 7 j1)) dX11_enters_6 sM_7 ij1 rfl ?_
  refine gm_icmp_ge_t (tgt := 59) dX11_enters_7 (by decide) c2 ?_
  refine gm_iload_n dX11_enters_59 rfl ?_
  refine gm_aload_n dX11_enters_60 rfl ?_
  refine gm_getR (own := RX11) (q := 7) rfl dX11_enters_61 lfX11_38 sM_0 rfl ?_
  refine gm_iload_n dX11_enters_64 rfl ?_
  refine gm_iald (j := j1) (x := (S 7 j1)) dX11_enters_65 sM_7 ij1 rfl ?_
  refine gm_icmp_le_f dX11_enters_66 ⟨133, by decide⟩ c3 ?_
  refine gm_aload_n dX11_enters_69 rfl ?_
  refine gm_getR (own := RX11) (q := 12) rfl dX11_enters_70 lfX11_53 sM_0 rfl ?_
  refine gm_iload_n dX11_enters_73 rfl ?_
  refine gm_iload_n dX11_enters_74 rfl ?_
  refine gm_aload_n dX11_enters_75 rfl ?_
  refine gm_getR (own := RX11) (q := 7) rfl dX11_enters_76 lfX11_38 sM_0 rfl ?_
  refine gm_iload_n dX11_enters_79 rfl ?_
  refine gm_iald (j := j1) (x := (S 7 j1)) dX11_enters_80 sM_7 ij1 rfl ?_
  refine gm_iconst (v := 1) dX11_enters_81 (by decide) ?_
  refine gm_iadd dX11_enters_82 rfl ?_
  refine gm_icmp_ne_f dX11_enters_83 ⟨90, by decide⟩ c4 ?_
  refine gm_iconst (v := 4) dX11_enters_86 (by decide) ?_
  refine gm_goto (tgt := 91) dX11_enters_87 (by decide) ?_
  refine gm_iast (j := j1) dX11_enters_91 sM_12 ij1 ?_
  refine gm_aload_n dX11_enters_92 rfl ?_
  refine gm_getR (own := RX11) (q := 10) rfl dX11_enters_93 lfX11_47 sM_0 rfl ?_
  refine gm_iload_n dX11_enters_96 rfl ?_
  refine gm_aload_n dX11_enters_97 rfl ?_
  refine gm_getR (own := RX11) (q := 8) rfl dX11_enters_98 lfX11_41 sM_0 rfl ?_
  refine gm_iload_n dX11_enters_101 rfl ?_
  refine gm_iald (j := j1) (x := (S 8 j1)) dX11_enters_102 sM_8 ij1 (gm_rp (by omega)) ?_
  refine gm_iast (j := j1) dX11_enters_103 sM_10 ij1 ?_
  refine gm_aload_n dX11_enters_104 rfl ?_
  refine gm_getR (own := RX11) (q := 11) rfl dX11_enters_105 lfX11_50 sM_0 rfl ?_
  refine gm_iload_n dX11_enters_108 rfl ?_
  refine gm_aload_n dX11_enters_109 rfl ?_
  refine gm_getR (own := RX11) (q := 9) rfl dX11_enters_110 lfX11_44 sM_0 rfl ?_
  refine gm_iload_n dX11_enters_113 rfl ?_
  refine gm_iald (j := j1) (x := (S 9 j1)) dX11_enters_114 sM_9 ij1 ((gm_rp (by omega)).trans (gm_rp (by omega))) ?_
  refine gm_iast (j := j1) dX11_enters_115 sM_11 ij1 ?_
  refine gm_aload_n dX11_enters_116 rfl ?_
  refine gm_getR (own := RX11) (q := 7) rfl dX11_enters_117 lfX11_38 sM_0 rfl ?_
  refine gm_iload_n dX11_enters_120 rfl ?_
  refine gm_iload_n dX11_enters_121 rfl ?_
  refine gm_iast (j := j1) dX11_enters_122 sM_7 ij1 ?_
  refine gm_aload_n dX11_enters_123 rfl ?_
  refine gm_getR (own := RX11) (q := 8) rfl dX11_enters_124 lfX11_41 sM_0 rfl ?_
  refine gm_iload_n dX11_enters_127 rfl ?_
  refine gm_iconst (v := (-1)) dX11_enters_128 (by decide) ?_
  refine gm_iast (j := j1) dX11_enters_129 sM_8 ij1 ?_
  refine gm_goto (tgt := 152) dX11_enters_130 (by decide) ?_
  refine gm_aload_n dX11_enters_152 rfl ?_
  refine gm_getR (own := RX11) (q := 9) rfl dX11_enters_153 lfX11_44 sM_0 rfl ?_
  refine gm_iload_n dX11_enters_156 rfl ?_
  refine gm_aload_n dX11_enters_157 rfl ?_
  refine gm_getR (own := RX11) (q := 8) rfl dX11_enters_158 lfX11_41 sM_0 rfl ?_
  refine gm_iload_n dX11_enters_161 rfl ?_
  refine gm_iald (j := j1) (x := (-1)) dX11_enters_162 sM_8 ij1 (gm_rS _ _ _ _) ?_
  refine gm_aload_n dX11_enters_163 rfl ?_
  refine gm_getR (own := RX11) (q := 9) rfl dX11_enters_164 lfX11_44 sM_0 rfl ?_
  refine gm_iload_n dX11_enters_167 rfl ?_
  refine gm_iald (j := j1) (x := (S 9 j1)) dX11_enters_168 sM_9 ij1 ((gm_rp (by omega)).trans ((gm_rp (by omega)).trans ((gm_rp (by omega)).trans ((gm_rp (by omega)).trans (gm_rp (by omega)))))) ?_
  refine gm_iload_n dX11_enters_169 rfl ?_
  refine gm_callS (r1 := (some (.int r5))) (own := RX11) rfl dX11_enters_170 llX11_246 msX11_setWith [.int (-1), .int (S 9 j1), .int a3] [.int a1, .ref 9] rfl rfl (Nat.le_of_ble_eq_true rfl) (by decide) rfl h6 rfl ?_
  refine gm_iast (j := j1) dX11_enters_173 sM_9 ij1 ?_
  refine gm_aload_n dX11_enters_174 rfl ?_
  refine gm_getR (own := RX11) (q := 8) rfl dX11_enters_175 lfX11_41 sM_0 rfl ?_
  refine gm_iload_n dX11_enters_178 rfl ?_
  refine gm_iload_n dX11_enters_179 rfl ?_
  refine gm_aload_n dX11_enters_180 rfl ?_
  refine gm_getR (own := RX11) (q := 8) rfl dX11_enters_181 lfX11_41 sM_0 rfl ?_
  refine gm_iload_n dX11_enters_184 rfl ?_
  refine gm_iald (j := j1) (x := (-1)) dX11_enters_185 sM_8 ij1 ((gm_rp (by omega)).trans (gm_rS _ _ _ _)) ?_
  refine gm_icmp_le_t (tgt := 193) dX11_enters_186 (by decide) c7 ?_
  refine gm_aload_n dX11_enters_193 rfl ?_
  refine gm_getR (own := RX11) (q := 8) rfl dX11_enters_194 lfX11_41 sM_0 rfl ?_
  refine gm_iload_n dX11_enters_197 rfl ?_
  refine gm_iald (j := j1) (x := (-1)) dX11_enters_198 sM_8 ij1 ((gm_rp (by omega)).trans (gm_rS _ _ _ _)) ?_
  refine gm_iast (j := j1) dX11_enters_199 sM_8 ij1 ?_
  exact gm_vret dX11_enters_200 rfl
/-- X11_enters 0 [7t 66f 83t 186f] -> ret  -/
theorem PX11_enters_5 {a1 : Int32} {a2 : Int32} {a3 : Int32} {S : gm_Mem} {j1 : Nat} {r5 : Int32} (ij1 : gm_ix a1 j1 2) (c2 : ¬ a2 < (S 7 j1)) (c3 : (S 7 j1) < a2) (c4 : ¬ a2 = ((S 7 j1) + 1)) (h6 : gm_run gM 0 YX11_setWith 0 [some (.int (-1)), some (.int (S 9 j1)), some (.int a3)] [] (gm_u (gm_u (gm_u (gm_u (gm_u S 12 j1 0) 10 j1 (S 8 j1)) 11 j1 (S 9 j1)) 7 j1 a2) 8 j1 (-1)) (some (.int r5)) (gm_u (gm_u (gm_u (gm_u (gm_u S 12 j1 0) 10 j1 (S 8 j1)) 11 j1 (S 9 j1)) 7 j1 a2) 8 j1 (-1))) (c7 : (-1) < a3) : gm_run gM 1 YX11_enters 0 [some (.ref 0), some (.int a1), some (.int a2), some (.int a3)] [] S none (gm_u (gm_u (gm_u (gm_u (gm_u (gm_u (gm_u S 12 j1 0) 10 j1 (S 8 j1)) 11 j1 (S 9 j1)) 7 j1 a2) 8 j1 (-1)) 9 j1 r5) 8 j1 a3) := by
  refine gm_iload_n dX11_enters_0 rfl ?_
  refine gm_aload_n dX11_enters_1 rfl ?_
  refine gm_getR (own := RX11) (q := 7) rfl dX11_enters_2 lfX11_38 sM_0 rfl ?_
  refine gm_iload_n dX11_enters_5 rfl ?_
  refine gm_iald (j := j1) (x := (S 7 j1)) dX11_enters_6 sM_7 ij1 rfl ?_
  refine gm_icmp_ge_t (tgt := 59) dX11_enters_7 (by decide) c2 ?_
  refine gm_iload_n dX11_enters_59 rfl ?_
  refine gm_aload_n dX11_enters_60 rfl ?_
  refine gm_getR (own := RX11) (q := 7) rfl dX11_enters_61 lfX11_38 sM_0 rfl ?_
  refine gm_iload_n dX11_enters_64 rfl ?_
  refine gm_iald (j := j1) (x := (S 7 j1)) dX11_enters_65 sM_7 ij1 rfl ?_
  refine gm_icmp_le_f dX11_enters_66 ⟨133, by decide⟩ c3 ?_
  refine gm_aload_n dX11_enters_69 rfl ?_
  refine gm_getR (own := RX11) (q := 12) rfl dX11_enters_70 lfX11_53 sM_0 rfl ?_
  refine gm_iload_n dX11_enters_73 rfl ?_
  refine gm_iload_n dX11_enters_74 rfl ?_
  refine gm_aload_n dX11_enters_75 rfl ?_
  refine gm_getR (own := RX11) (q := 7) rfl dX11_enters_76 lfX11_38 sM_0 rfl ?_
  refine gm_iload_n dX11_enters_79 rfl ?_
  refine gm_iald (j := j1) (x := (S 7 j1)) dX11_enters_80 sM_7 ij1 rfl ?_
  refine gm_iconst (v := 1) dX11_enters_81 (by decide) ?_
  refine gm_iadd dX11_enters_82 rfl ?_
  refine gm_icmp_ne_t (tgt := 90) dX11_enters_83 (by decide) c4 ?_
  refine gm_iconst (v := 0) dX11_enters_90 (by decide) ?_
  refine gm_iast (j := j1) dX11_enters_91 sM_12 ij1 ?_
  refine gm_aload_n dX11_enters_92 rfl ?_
  refine gm_getR (own := RX11) (q := 10) rfl dX11_enters_93 lfX11_47 sM_0 rfl ?_
  refine gm_iload_n dX11_enters_96 rfl ?_
  refine gm_aload_n dX11_enters_97 rfl ?_
  refine gm_getR (own := RX11) (q := 8) rfl dX11_enters_98 lfX11_41 sM_0 rfl ?_
  refine gm_iload_n dX11_enters_101 rfl ?_
  refine gm_iald (j := j1) (x := (S 8 j1)) dX11_enters_102 sM_8 ij1 (gm_rp (by omega)) ?_
  refine gm_iast (j := j1) dX11_enters_103 sM_10 ij1 ?_
  refine gm_aload_n dX11_enters_104 rfl ?_
  refine gm_getR (own := RX11) (q := 11) rfl dX11_enters_105 lfX11_50 sM_0 rfl ?_
  refine gm_iload_n dX11_enters_108 rfl ?_
  refine gm_aload_n dX11_enters_109 rfl ?_
  refine gm_getR (own := RX11) (q := 9) rfl dX11_enters_110 lfX11_44 sM_0 rfl ?_
  refine gm_iload_n dX11_enters_113 rfl ?_
  refine gm_iald (j := j1) (x := (S 9 j1)) dX11_enters_114 sM_9 ij1 ((gm_rp (by omega)).trans (gm_rp (by omega))) ?_
  refine gm_iast (j := j1) dX11_enters_115 sM_11 ij1 ?_
  refine gm_aload_n dX11_enters_116 rfl ?_
  refine gm_getR (own := RX11) (q := 7) rfl dX11_enters_117 lfX11_38 sM_0 rfl ?_
  refine gm_iload_n dX11_enters_120 rfl ?_
  refine gm_iload_n dX11_enters_121 rfl ?_
  refine gm_iast (j := j1) dX11_enters_122 sM_7 ij1 ?_
  refine gm_aload_n dX11_enters_123 rfl ?_
  refine gm_getR (own := RX11) (q := 8) rfl dX11_enters_124 lfX11_41 sM_0 rfl ?_
  refine gm_iload_n dX11_enters_127 rfl ?_
  refine gm_iconst (v := (-1)) dX11_enters_128 (by decide) ?_
  refine gm_iast (j := j1) dX11_enters_129 sM_8 ij1 ?_
  refine gm_goto (tgt := 152) dX11_enters_130 (by decide) ?_
  refine gm_aload_n dX11_enters_152 rfl ?_
  refine gm_getR (own := RX11) (q := 9) rfl dX11_enters_153 lfX11_44 sM_0 rfl ?_
  refine gm_iload_n dX11_enters_156 rfl ?_
  refine gm_aload_n dX11_enters_157 rfl ?_
  refine gm_getR (own := RX11) (q := 8) rfl dX11_enters_158 lfX11_41 sM_0 rfl ?_
  refine gm_iload_n dX11_enters_161 rfl ?_
  refine gm_iald (j := j1) (x := (-1)) dX11_enters_162 sM_8 ij1 (gm_rS _ _ _ _) ?_
  refine gm_aload_n dX11_enters_163 rfl ?_
  refine gm_getR (own := RX11) (q := 9) rfl dX11_enters_164 lfX11_44 sM_0 rfl ?_
  refine gm_iload_n dX11_enters_167 rfl ?_
  refine gm_iald (j := j1) (x := (S 9 j1)) dX11_enters_168 sM_9 ij1 ((gm_rp (by omega)).trans ((gm_rp (by omega)).trans ((gm_rp (by omega)).trans ((gm_rp (by omega)).trans (gm_rp (by omega)))))) ?_
  refine gm_iload_n dX11_enters_169 rfl ?_
  refine gm_callS (r1 := (some (.int r5))) (own := RX11) rfl dX11_enters_170 llX11_246 msX11_setWith [.int (-1), .int (S 9 j1), .int a3] [.int a1, .ref 9] rfl rfl (Nat.le_of_ble_eq_true rfl) (by decide) rfl h6 rfl ?_
  refine gm_iast (j := j1) dX11_enters_173 sM_9 ij1 ?_
  refine gm_aload_n dX11_enters_174 rfl ?_
  refine gm_getR (own := RX11) (q := 8) rfl dX11_enters_175 lfX11_41 sM_0 rfl ?_
  refine gm_iload_n dX11_enters_178 rfl ?_
  refine gm_iload_n dX11_enters_179 rfl ?_
  refine gm_aload_n dX11_enters_180 rfl ?_
  refine gm_getR (own := RX11) (q := 8) rfl dX11_enters_181 lfX11_41 sM_0 rfl ?_
  refine gm_iload_n dX11_enters_184 rfl ?_
  refine gm_iald (j := j1) (x := (-1)) dX11_enters_185 sM_8 ij1 ((gm_rp (by omega)).trans (gm_rS _ _ _ _)) ?_
  refine gm_icmp_le_f dX11_enters_186 ⟨193, by decide⟩ c7 ?_
  refine gm_iload_n dX11_enters_189 rfl ?_
  refine gm_goto (tgt := 199) dX11_enters_190 (by decide) ?_
  refine gm_iast (j := j1) dX11_enters_199 sM_8 ij1 ?_
  exact gm_vret dX11_enters_200 rfl
/-- X11_enters 0 [7t 66f 83t 186t] -> ret  -/
theorem PX11_enters_6 {a1 : Int32} {a2 : Int32} {a3 : Int32} {S : gm_Mem} {j1 : Nat} {r5 : Int32} (ij1 : gm_ix a1 j1 2) (c2 : ¬ a2 < (S 7 j1)) (c3 : (S 7 j1) < a2) (c4 : ¬ a2 = ((S 7 j1) + 1)) (h6 : gm_run gM 0 YX11_setWith 0 [some (.int (-1)), some (.int (S 9 j1)), some (.int a3)] [] (gm_u (gm_u (gm_u (gm_u (gm_u S 12 j1 0) 10 j1 (S 8 j1)) 11 j1 (S 9 j1)) 7 j1 a2) 8 j1 (-1)) (some (.int r5)) (gm_u (gm_u (gm_u (gm_u (gm_u S 12 j1 0) 10 j1 (S 8 j1)) 11 j1 (S 9 j1)) 7 j1 a2) 8 j1 (-1))) (c7 : ¬ (-1) < a3) : gm_run gM 1 YX11_enters 0 [some (.ref 0), some (.int a1), some (.int a2), some (.int a3)] [] S none (gm_u (gm_u (gm_u (gm_u (gm_u (gm_u (gm_u S 12 j1 0) 10 j1 (S 8 j1)) 11 j1 (S 9 j1)) 7 j1 a2) 8 j1 (-1)) 9 j1 r5) 8 j1 (-1)) := by
  refine gm_iload_n dX11_enters_0 rfl ?_
  refine gm_aload_n dX11_enters_1 rfl ?_
  refine gm_getR (own := RX11) (q := 7) rfl dX11_enters_2 lfX11_38 sM_0 rfl ?_
  refine gm_iload_n dX11_enters_5 rfl ?_
  refine gm_iald (j := j1) (x := (S 7 j1)) dX11_enters_6 sM_7 ij1 rfl ?_
  refine gm_icmp_ge_t (tgt := 59) dX11_enters_7 (by decide) c2 ?_
  refine gm_iload_n dX11_enters_59 rfl ?_
  refine gm_aload_n dX11_enters_60 rfl ?_
  refine gm_getR (own := RX11) (q := 7) rfl dX11_enters_61 lfX11_38 sM_0 rfl ?_
  refine gm_iload_n dX11_enters_64 rfl ?_
  refine gm_iald (j := j1) (x := (S 7 j1)) dX11_enters_65 sM_7 ij1 rfl ?_
  refine gm_icmp_le_f dX11_enters_66 ⟨133, by decide⟩ c3 ?_
  refine gm_aload_n dX11_enters_69 rfl ?_
  refine gm_getR (own := RX11) (q := 12) rfl dX11_enters_70 lfX11_53 sM_0 rfl ?_
  refine gm_iload_n dX11_enters_73 rfl ?_
  refine gm_iload_n dX11_enters_74 rfl ?_
  refine gm_aload_n dX11_enters_75 rfl ?_
  refine gm_getR (own := RX11) (q := 7) rfl dX11_enters_76 lfX11_38 sM_0 rfl ?_
  refine gm_iload_n dX11_enters_79 rfl ?_
  refine gm_iald (j := j1) (x := (S 7 j1)) dX11_enters_80 sM_7 ij1 rfl ?_
  refine gm_iconst (v := 1) dX11_enters_81 (by decide) ?_
  refine gm_iadd dX11_enters_82 rfl ?_
  refine gm_icmp_ne_t (tgt := 90) dX11_enters_83 (by decide) c4 ?_
  refine gm_iconst (v := 0) dX11_enters_90 (by decide) ?_
  refine gm_iast (j := j1) dX11_enters_91 sM_12 ij1 ?_
  refine gm_aload_n dX11_enters_92 rfl ?_
  refine gm_getR (own := RX11) (q := 10) rfl dX11_enters_93 lfX11_47 sM_0 rfl ?_
  refine gm_iload_n dX11_enters_96 rfl ?_
  refine gm_aload_n dX11_enters_97 rfl ?_
  refine gm_getR (own := RX11) (q := 8) rfl dX11_enters_98 lfX11_41 sM_0 rfl ?_
  refine gm_iload_n dX11_enters_101 rfl ?_
  refine gm_iald (j := j1) (x := (S 8 j1)) dX11_enters_102 sM_8 ij1 (gm_rp (by omega)) ?_
  refine gm_iast (j := j1) dX11_enters_103 sM_10 ij1 ?_
  refine gm_aload_n dX11_enters_104 rfl ?_
  refine gm_getR (own := RX11) (q := 11) rfl dX11_enters_105 lfX11_50 sM_0 rfl ?_
  refine gm_iload_n dX11_enters_108 rfl ?_
  refine gm_aload_n dX11_enters_109 rfl ?_
  refine gm_getR (own := RX11) (q := 9) rfl dX11_enters_110 lfX11_44 sM_0 rfl ?_
  refine gm_iload_n dX11_enters_113 rfl ?_
  refine gm_iald (j := j1) (x := (S 9 j1)) dX11_enters_114 sM_9 ij1 ((gm_rp (by omega)).trans (gm_rp (by omega))) ?_
  refine gm_iast (j := j1) dX11_enters_115 sM_11 ij1 ?_
  refine gm_aload_n dX11_enters_116 rfl ?_
  refine gm_getR (own := RX11) (q := 7) rfl dX11_enters_117 lfX11_38 sM_0 rfl ?_
  refine gm_iload_n dX11_enters_120 rfl ?_
  refine gm_iload_n dX11_enters_121 rfl ?_
  refine gm_iast (j := j1) dX11_enters_122 sM_7 ij1 ?_
  refine gm_aload_n dX11_enters_123 rfl ?_
  refine gm_getR (own := RX11) (q := 8) rfl dX11_enters_124 lfX11_41 sM_0 rfl ?_
  refine gm_iload_n dX11_enters_127 rfl ?_
  refine gm_iconst (v := (-1)) dX11_enters_128 (by decide) ?_
  refine gm_iast (j := j1) dX11_enters_129 sM_8 ij1 ?_
  refine gm_goto (tgt := 152) dX11_enters_130 (by decide) ?_
  refine gm_aload_n dX11_enters_152 rfl ?_
  refine gm_getR (own := RX11) (q := 9) rfl dX11_enters_153 lfX11_44 sM_0 rfl ?_
  refine gm_iload_n dX11_enters_156 rfl ?_
  refine gm_aload_n dX11_enters_157 rfl ?_
  refine gm_getR (own := RX11) (q := 8) rfl dX11_enters_158 lfX11_41 sM_0 rfl ?_
  refine gm_iload_n dX11_enters_161 rfl ?_
  refine gm_iald (j := j1) (x := (-1)) dX11_enters_162 sM_8 ij1 (gm_rS _ _ _ _) ?_
  refine gm_aload_n dX11_enters_163 rfl ?_
  refine gm_getR (own := RX11) (q := 9) rfl dX11_enters_164 lfX11_44 sM_0 rfl ?_
  refine gm_iload_n dX11_enters_167 rfl ?_
  refine gm_iald (j := j1) (x := (S 9 j1)) dX11_enters_168 sM_9 ij1 ((gm_rp (by omega)).trans ((gm_rp (by omega)).trans ((gm_rp (by omega)).trans ((gm_rp (by omega)).trans (gm_rp (by omega)))))) ?_
  refine gm_iload_n dX11_enters_169 rfl ?_
  refine gm_callS (r1 := (some (.int r5))) (own := RX11) rfl dX11_enters_170 llX11_246 msX11_setWith [.int (-1), .int (S 9 j1), .int a3] [.int a1, .ref 9] rfl rfl (Nat.le_of_ble_eq_true rfl) (by decide) rfl h6 rfl ?_
  refine gm_iast (j := j1) dX11_enters_173 sM_9 ij1 ?_
  refine gm_aload_n dX11_enters_174 rfl ?_
  refine gm_getR (own := RX11) (q := 8) rfl dX11_enters_175 lfX11_41 sM_0 rfl ?_
  refine gm_iload_n dX11_enters_178 rfl ?_
  refine gm_iload_n dX11_enters_179 rfl ?_
  refine gm_aload_n dX11_enters_180 rfl ?_
  refine gm_getR (own := RX11) (q := 8) rfl dX11_enters_181 lfX11_41 sM_0 rfl ?_
  refine gm_iload_n dX11_enters_184 rfl ?_
  refine gm_iald (j := j1) (x := (-1)) dX11_enters_185 sM_8 ij1 ((gm_rp (by omega)).trans (gm_rS _ _ _ _)) ?_
  refine gm_icmp_le_t (tgt := 193) dX11_enters_186 (by decide) c7 ?_
  refine gm_aload_n dX11_enters_193 rfl ?_
  refine gm_getR (own := RX11) (q := 8) rfl dX11_enters_194 lfX11_41 sM_0 rfl ?_
  refine gm_iload_n dX11_enters_197 rfl ?_
  refine gm_iald (j := j1) (x := (-1)) dX11_enters_198 sM_8 ij1 ((gm_rp (by omega)).trans (gm_rS _ _ _ _)) ?_
  refine gm_iast (j := j1) dX11_enters_199 sM_8 ij1 ?_
  exact gm_vret dX11_enters_200 rfl
/-- X11_enters 0 [7t 66t 139f 186f] -> ret  -/
theorem PX11_enters_7 {a1 : Int32} {a2 : Int32} {a3 : Int32} {S : gm_Mem} {j1 : Nat} {r5 : Int32} (ij1 : gm_ix a1 j1 2) (c2 : ¬ a2 < (S 7 j1)) (c3 : ¬ (S 7 j1) < a2) (c4 : 0 < (S 12 j1)) (h6 : gm_run gM 0 YX11_setWith 0 [some (.int (S 8 j1)), some (.int (S 9 j1)), some (.int a3)] [] (gm_u S 12 j1 ((S 12 j1) - 1)) (some (.int r5)) (gm_u S 12 j1 ((S 12 j1) - 1))) (c7 : (S 8 j1) < a3) : gm_run gM 1 YX11_enters 0 [some (.ref 0), some (.int a1), some (.int a2), some (.int a3)] [] S none (gm_u (gm_u (gm_u S 12 j1 ((S 12 j1) - 1)) 9 j1 r5) 8 j1 a3) := by
  refine gm_iload_n dX11_enters_0 rfl ?_
  refine gm_aload_n dX11_enters_1 rfl ?_
  refine gm_getR (own := RX11) (q := 7) rfl dX11_enters_2 lfX11_38 sM_0 rfl ?_
  refine gm_iload_n dX11_enters_5 rfl ?_
  refine gm_iald (j := j1) (x := (S 7 j1)) dX11_enters_6 sM_7 ij1 rfl ?_
  refine gm_icmp_ge_t (tgt := 59) dX11_enters_7 (by decide) c2 ?_
  refine gm_iload_n dX11_enters_59 rfl ?_
  refine gm_aload_n dX11_enters_60 rfl ?_
  refine gm_getR (own := RX11) (q := 7) rfl dX11_enters_61 lfX11_38 sM_0 rfl ?_
  refine gm_iload_n dX11_enters_64 rfl ?_
  refine gm_iald (j := j1) (x := (S 7 j1)) dX11_enters_65 sM_7 ij1 rfl ?_
  refine gm_icmp_le_t (tgt := 133) dX11_enters_66 (by decide) c3 ?_
  refine gm_aload_n dX11_enters_133 rfl ?_
  refine gm_getR (own := RX11) (q := 12) rfl dX11_enters_134 lfX11_53 sM_0 rfl ?_
  refine gm_iload_n dX11_enters_137 rfl ?_
  refine gm_iald (j := j1) (x := (S 12 j1)) dX11_enters_138 sM_12 ij1 rfl ?_
  refine gm_if_le_f dX11_enters_139 ⟨152, by decide⟩ c4 ?_
  refine gm_aload_n dX11_enters_142 rfl ?_
  refine gm_getR (own := RX11) (q := 12) rfl dX11_enters_143 lfX11_53 sM_0 rfl ?_
  refine gm_iload_n dX11_enters_146 rfl ?_
  refine gm_dup2 dX11_enters_147 ?_
  refine gm_iald (j := j1) (x := (S 12 j1)) dX11_enters_148 sM_12 ij1 rfl ?_
  refine gm_iconst (v := 1) dX11_enters_149 (by decide) ?_
  refine gm_isub dX11_enters_150 rfl ?_
  refine gm_iast (j := j1) dX11_enters_151 sM_12 ij1 ?_
  refine gm_aload_n dX11_enters_152 rfl ?_
  refine gm_getR (own := RX11) (q := 9) rfl dX11_enters_153 lfX11_44 sM_0 rfl ?_
  refine gm_iload_n dX11_enters_156 rfl ?_
  refine gm_aload_n dX11_enters_157 rfl ?_
  refine gm_getR (own := RX11) (q := 8) rfl dX11_enters_158 lfX11_41 sM_0 rfl ?_
  refine gm_iload_n dX11_enters_161 rfl ?_
  refine gm_iald (j := j1) (x := (S 8 j1)) dX11_enters_162 sM_8 ij1 (gm_rp (by omega)) ?_
  refine gm_aload_n dX11_enters_163 rfl ?_
  refine gm_getR (own := RX11) (q := 9) rfl dX11_enters_164 lfX11_44 sM_0 rfl ?_
  refine gm_iload_n dX11_enters_167 rfl ?_
  refine gm_iald (j := j1) (x := (S 9 j1)) dX11_enters_168 sM_9 ij1 (gm_rp (by omega)) ?_
  refine gm_iload_n dX11_enters_169 rfl ?_
  refine gm_callS (r1 := (some (.int r5))) (own := RX11) rfl dX11_enters_170 llX11_246 msX11_setWith [.int (S 8 j1), .int (S 9 j1), .int a3] [.int a1, .ref 9] rfl rfl (Nat.le_of_ble_eq_true rfl) (by decide) rfl h6 rfl ?_
  refine gm_iast (j := j1) dX11_enters_173 sM_9 ij1 ?_
  refine gm_aload_n dX11_enters_174 rfl ?_
  refine gm_getR (own := RX11) (q := 8) rfl dX11_enters_175 lfX11_41 sM_0 rfl ?_
  refine gm_iload_n dX11_enters_178 rfl ?_
  refine gm_iload_n dX11_enters_179 rfl ?_
  refine gm_aload_n dX11_enters_180 rfl ?_
  refine gm_getR (own := RX11) (q := 8) rfl dX11_enters_181 lfX11_41 sM_0 rfl ?_
  refine gm_iload_n dX11_enters_184 rfl ?_
  refine gm_iald (j := j1) (x := (S 8 j1)) dX11_enters_185 sM_8 ij1 ((gm_rp (by omega)).trans (gm_rp (by omega))) ?_
  refine gm_icmp_le_f dX11_enters_186 ⟨193, by decide⟩ c7 ?_
  refine gm_iload_n dX11_enters_189 rfl ?_
  refine gm_goto (tgt := 199) dX11_enters_190 (by decide) ?_
  refine gm_iast (j := j1) dX11_enters_199 sM_8 ij1 ?_
  exact gm_vret dX11_enters_200 rfl
/-- X11_enters 0 [7t 66t 139f 186t] -> ret  -/
theorem PX11_enters_8 {a1 : Int32} {a2 : Int32} {a3 : Int32} {S : gm_Mem} {j1 : Nat} {r5 : Int32} (ij1 : gm_ix a1 j1 2) (c2 : ¬ a2 < (S 7 j1)) (c3 : ¬ (S 7 j1) < a2) (c4 : 0 < (S 12 j1)) (h6 : gm_run gM 0 YX11_setWith 0 [some (.int (S 8 j1)), some (.int (S 9 j1)), some (.int a3)] [] (gm_u S 12 j1 ((S 12 j1) - 1)) (some (.int r5)) (gm_u S 12 j1 ((S 12 j1) - 1))) (c7 : ¬ (S 8 j1) < a3) : gm_run gM 1 YX11_enters 0 [some (.ref 0), some (.int a1), some (.int a2), some (.int a3)] [] S none (gm_u (gm_u (gm_u S 12 j1 ((S 12 j1) - 1)) 9 j1 r5) 8 j1 (S 8 j1)) := by
  refine gm_iload_n dX11_enters_0 rfl ?_
  refine gm_aload_n dX11_enters_1 rfl ?_
  refine gm_getR (own := RX11) (q := 7) rfl dX11_enters_2 lfX11_38 sM_0 rfl ?_
  refine gm_iload_n dX11_enters_5 rfl ?_
  refine gm_iald (j := j1) (x := (S 7 j1)) dX11_enters_6 sM_7 ij1 rfl ?_
  refine gm_icmp_ge_t (tgt := 59) dX11_enters_7 (by decide) c2 ?_
  refine gm_iload_n dX11_enters_59 rfl ?_
  refine gm_aload_n dX11_enters_60 rfl ?_
  refine gm_getR (own := RX11) (q := 7) rfl dX11_enters_61 lfX11_38 sM_0 rfl ?_
  refine gm_iload_n dX11_enters_64 rfl ?_
  refine gm_iald (j := j1) (x := (S 7 j1)) dX11_enters_65 sM_7 ij1 rfl ?_
  refine gm_icmp_le_t (tgt := 133) dX11_enters_66 (by decide) c3 ?_
  refine gm_aload_n dX11_enters_133 rfl ?_
  refine gm_getR (own := RX11) (q := 12) rfl dX11_enters_134 lfX11_53 sM_0 rfl ?_
  refine gm_iload_n dX11_enters_137 rfl ?_
  refine gm_iald (j := j1) (x := (S 12 j1)) dX11_enters_138 sM_12 ij1 rfl ?_
  refine gm_if_le_f dX11_enters_139 ⟨152, by decide⟩ c4 ?_
  refine gm_aload_n dX11_enters_142 rfl ?_
  refine gm_getR (own := RX11) (q := 12) rfl dX11_enters_143 lfX11_53 sM_0 rfl ?_
  refine gm_iload_n dX11_enters_146 rfl ?_
  refine gm_dup2 dX11_enters_147 ?_
  refine gm_iald (j := j1) (x := (S 12 j1)) dX11_enters_148 sM_12 ij1 rfl ?_
  refine gm_iconst (v := 1) dX11_enters_149 (by decide) ?_
  refine gm_isub dX11_enters_150 rfl ?_
  refine gm_iast (j := j1) dX11_enters_151 sM_12 ij1 ?_
  refine gm_aload_n dX11_enters_152 rfl ?_
  refine gm_getR (own := RX11) (q := 9) rfl dX11_enters_153 lfX11_44 sM_0 rfl ?_
  refine gm_iload_n dX11_enters_156 rfl ?_
  refine gm_aload_n dX11_enters_157 rfl ?_
  refine gm_getR (own := RX11) (q := 8) rfl dX11_enters_158 lfX11_41 sM_0 rfl ?_
  refine gm_iload_n dX11_enters_161 rfl ?_
  refine gm_iald (j := j1) (x := (S 8 j1)) dX11_enters_162 sM_8 ij1 (gm_rp (by omega)) ?_
  refine gm_aload_n dX11_enters_163 rfl ?_
  refine gm_getR (own := RX11) (q := 9) rfl dX11_enters_164 lfX11_44 sM_0 rfl ?_
  refine gm_iload_n dX11_enters_167 rfl ?_
  refine gm_iald (j := j1) (x := (S 9 j1)) dX11_enters_168 sM_9 ij1 (gm_rp (by omega)) ?_
  refine gm_iload_n dX11_enters_169 rfl ?_
  refine gm_callS (r1 := (some (.int r5))) (own := RX11) rfl dX11_enters_170 llX11_246 msX11_setWith [.int (S 8 j1), .int (S 9 j1), .int a3] [.int a1, .ref 9] rfl rfl (Nat.le_of_ble_eq_true rfl) (by decide) rfl h6 rfl ?_
  refine gm_iast (j := j1) dX11_enters_173 sM_9 ij1 ?_
  refine gm_aload_n dX11_enters_174 rfl ?_
  refine gm_getR (own := RX11) (q := 8) rfl dX11_enters_175 lfX11_41 sM_0 rfl ?_
  refine gm_iload_n dX11_enters_178 rfl ?_
  refine gm_iload_n dX11_enters_179 rfl ?_
  refine gm_aload_n dX11_enters_180 rfl ?_
  refine gm_getR (own := RX11) (q := 8) rfl dX11_enters_181 lfX11_41 sM_0 rfl ?_
  refine gm_iload_n dX11_enters_184 rfl ?_
  refine gm_iald (j := j1) (x := (S 8 j1)) dX11_enters_185 sM_8 ij1 ((gm_rp (by omega)).trans (gm_rp (by omega))) ?_
  refine gm_icmp_le_t (tgt := 193) dX11_enters_186 (by decide) c7 ?_
  refine gm_aload_n dX11_enters_193 rfl ?_
  refine gm_getR (own := RX11) (q := 8) rfl dX11_enters_194 lfX11_41 sM_0 rfl ?_
  refine gm_iload_n dX11_enters_197 rfl ?_
  refine gm_iald (j := j1) (x := (S 8 j1)) dX11_enters_198 sM_8 ij1 ((gm_rp (by omega)).trans (gm_rp (by omega))) ?_
  refine gm_iast (j := j1) dX11_enters_199 sM_8 ij1 ?_
  exact gm_vret dX11_enters_200 rfl
/-- X11_enters 0 [7t 66t 139t 186f] -> ret  -/
theorem PX11_enters_9 {a1 : Int32} {a2 : Int32} {a3 : Int32} {S : gm_Mem} {j1 : Nat} {r5 : Int32} (ij1 : gm_ix a1 j1 2) (c2 : ¬ a2 < (S 7 j1)) (c3 : ¬ (S 7 j1) < a2) (c4 : ¬ 0 < (S 12 j1)) (h6 : gm_run gM 0 YX11_setWith 0 [some (.int (S 8 j1)), some (.int (S 9 j1)), some (.int a3)] [] S (some (.int r5)) S) (c7 : (S 8 j1) < a3) : gm_run gM 1 YX11_enters 0 [some (.ref 0), some (.int a1), some (.int a2), some (.int a3)] [] S none (gm_u (gm_u S 9 j1 r5) 8 j1 a3) := by
  refine gm_iload_n dX11_enters_0 rfl ?_
  refine gm_aload_n dX11_enters_1 rfl ?_
  refine gm_getR (own := RX11) (q := 7) rfl dX11_enters_2 lfX11_38 sM_0 rfl ?_
  refine gm_iload_n dX11_enters_5 rfl ?_
  refine gm_iald (j := j1) (x := (S 7 j1)) dX11_enters_6 sM_7 ij1 rfl ?_
  refine gm_icmp_ge_t (tgt := 59) dX11_enters_7 (by decide) c2 ?_
  refine gm_iload_n dX11_enters_59 rfl ?_
  refine gm_aload_n dX11_enters_60 rfl ?_
  refine gm_getR (own := RX11) (q := 7) rfl dX11_enters_61 lfX11_38 sM_0 rfl ?_
  refine gm_iload_n dX11_enters_64 rfl ?_
  refine gm_iald (j := j1) (x := (S 7 j1)) dX11_enters_65 sM_7 ij1 rfl ?_
  refine gm_icmp_le_t (tgt := 133) dX11_enters_66 (by decide) c3 ?_
  refine gm_aload_n dX11_enters_133 rfl ?_
  refine gm_getR (own := RX11) (q := 12) rfl dX11_enters_134 lfX11_53 sM_0 rfl ?_
  refine gm_iload_n dX11_enters_137 rfl ?_
  refine gm_iald (j := j1) (x := (S 12 j1)) dX11_enters_138 sM_12 ij1 rfl ?_
  refine gm_if_le_t (tgt := 152) dX11_enters_139 (by decide) c4 ?_
  refine gm_aload_n dX11_enters_152 rfl ?_
  refine gm_getR (own := RX11) (q := 9) rfl dX11_enters_153 lfX11_44 sM_0 rfl ?_
  refine gm_iload_n dX11_enters_156 rfl ?_
  refine gm_aload_n dX11_enters_157 rfl ?_
  refine gm_getR (own := RX11) (q := 8) rfl dX11_enters_158 lfX11_41 sM_0 rfl ?_
  refine gm_iload_n dX11_enters_161 rfl ?_
  refine gm_iald (j := j1) (x := (S 8 j1)) dX11_enters_162 sM_8 ij1 rfl ?_
  refine gm_aload_n dX11_enters_163 rfl ?_
  refine gm_getR (own := RX11) (q := 9) rfl dX11_enters_164 lfX11_44 sM_0 rfl ?_
  refine gm_iload_n dX11_enters_167 rfl ?_
  refine gm_iald (j := j1) (x := (S 9 j1)) dX11_enters_168 sM_9 ij1 rfl ?_
  refine gm_iload_n dX11_enters_169 rfl ?_
  refine gm_callS (r1 := (some (.int r5))) (own := RX11) rfl dX11_enters_170 llX11_246 msX11_setWith [.int (S 8 j1), .int (S 9 j1), .int a3] [.int a1, .ref 9] rfl rfl (Nat.le_of_ble_eq_true rfl) (by decide) rfl h6 rfl ?_
  refine gm_iast (j := j1) dX11_enters_173 sM_9 ij1 ?_
  refine gm_aload_n dX11_enters_174 rfl ?_
  refine gm_getR (own := RX11) (q := 8) rfl dX11_enters_175 lfX11_41 sM_0 rfl ?_
  refine gm_iload_n dX11_enters_178 rfl ?_
  refine gm_iload_n dX11_enters_179 rfl ?_
  refine gm_aload_n dX11_enters_180 rfl ?_
  refine gm_getR (own := RX11) (q := 8) rfl dX11_enters_181 lfX11_41 sM_0 rfl ?_
  refine gm_iload_n dX11_enters_184 rfl ?_
  refine gm_iald (j := j1) (x := (S 8 j1)) dX11_enters_185 sM_8 ij1 (gm_rp (by omega)) ?_
  refine gm_icmp_le_f dX11_enters_186 ⟨193, by decide⟩ c7 ?_
  refine gm_iload_n dX11_enters_189 rfl ?_
  refine gm_goto (tgt := 199) dX11_enters_190 (by decide) ?_
  refine gm_iast (j := j1) dX11_enters_199 sM_8 ij1 ?_
  exact gm_vret dX11_enters_200 rfl
/-- X11_enters 0 [7t 66t 139t 186t] -> ret  -/
theorem PX11_enters_10 {a1 : Int32} {a2 : Int32} {a3 : Int32} {S : gm_Mem} {j1 : Nat} {r5 : Int32} (ij1 : gm_ix a1 j1 2) (c2 : ¬ a2 < (S 7 j1)) (c3 : ¬ (S 7 j1) < a2) (c4 : ¬ 0 < (S 12 j1)) (h6 : gm_run gM 0 YX11_setWith 0 [some (.int (S 8 j1)), some (.int (S 9 j1)), some (.int a3)] [] S (some (.int r5)) S) (c7 : ¬ (S 8 j1) < a3) : gm_run gM 1 YX11_enters 0 [some (.ref 0), some (.int a1), some (.int a2), some (.int a3)] [] S none (gm_u (gm_u S 9 j1 r5) 8 j1 (S 8 j1)) := by
  refine gm_iload_n dX11_enters_0 rfl ?_
  refine gm_aload_n dX11_enters_1 rfl ?_
  refine gm_getR (own := RX11) (q := 7) rfl dX11_enters_2 lfX11_38 sM_0 rfl ?_
  refine gm_iload_n dX11_enters_5 rfl ?_
  refine gm_iald (j := j1) (x := (S 7 j1)) dX11_enters_6 sM_7 ij1 rfl ?_
  refine gm_icmp_ge_t (tgt := 59) dX11_enters_7 (by decide) c2 ?_
  refine gm_iload_n dX11_enters_59 rfl ?_
  refine gm_aload_n dX11_enters_60 rfl ?_
  refine gm_getR (own := RX11) (q := 7) rfl dX11_enters_61 lfX11_38 sM_0 rfl ?_
  refine gm_iload_n dX11_enters_64 rfl ?_
  refine gm_iald (j := j1) (x := (S 7 j1)) dX11_enters_65 sM_7 ij1 rfl ?_
  refine gm_icmp_le_t (tgt := 133) dX11_enters_66 (by decide) c3 ?_
  refine gm_aload_n dX11_enters_133 rfl ?_
  refine gm_getR (own := RX11) (q := 12) rfl dX11_enters_134 lfX11_53 sM_0 rfl ?_
  refine gm_iload_n dX11_enters_137 rfl ?_
  refine gm_iald (j := j1) (x := (S 12 j1)) dX11_enters_138 sM_12 ij1 rfl ?_
  refine gm_if_le_t (tgt := 152) dX11_enters_139 (by decide) c4 ?_
  refine gm_aload_n dX11_enters_152 rfl ?_
  refine gm_getR (own := RX11) (q := 9) rfl dX11_enters_153 lfX11_44 sM_0 rfl ?_
  refine gm_iload_n dX11_enters_156 rfl ?_
  refine gm_aload_n dX11_enters_157 rfl ?_
  refine gm_getR (own := RX11) (q := 8) rfl dX11_enters_158 lfX11_41 sM_0 rfl ?_
  refine gm_iload_n dX11_enters_161 rfl ?_
  refine gm_iald (j := j1) (x := (S 8 j1)) dX11_enters_162 sM_8 ij1 rfl ?_
  refine gm_aload_n dX11_enters_163 rfl ?_
  refine gm_getR (own := RX11) (q := 9) rfl dX11_enters_164 lfX11_44 sM_0 rfl ?_
  refine gm_iload_n dX11_enters_167 rfl ?_
  refine gm_iald (j := j1) (x := (S 9 j1)) dX11_enters_168 sM_9 ij1 rfl ?_
  refine gm_iload_n dX11_enters_169 rfl ?_
  refine gm_callS (r1 := (some (.int r5))) (own := RX11) rfl dX11_enters_170 llX11_246 msX11_setWith [.int (S 8 j1), .int (S 9 j1), .int a3] [.int a1, .ref 9] rfl rfl (Nat.le_of_ble_eq_true rfl) (by decide) rfl h6 rfl ?_
  refine gm_iast (j := j1) dX11_enters_173 sM_9 ij1 ?_
  refine gm_aload_n dX11_enters_174 rfl ?_
  refine gm_getR (own := RX11) (q := 8) rfl dX11_enters_175 lfX11_41 sM_0 rfl ?_
  refine gm_iload_n dX11_enters_178 rfl ?_
  refine gm_iload_n dX11_enters_179 rfl ?_
  refine gm_aload_n dX11_enters_180 rfl ?_
  refine gm_getR (own := RX11) (q := 8) rfl dX11_enters_181 lfX11_41 sM_0 rfl ?_
  refine gm_iload_n dX11_enters_184 rfl ?_
  refine gm_iald (j := j1) (x := (S 8 j1)) dX11_enters_185 sM_8 ij1 (gm_rp (by omega)) ?_
  refine gm_icmp_le_t (tgt := 193) dX11_enters_186 (by decide) c7 ?_
  refine gm_aload_n dX11_enters_193 rfl ?_
  refine gm_getR (own := RX11) (q := 8) rfl dX11_enters_194 lfX11_41 sM_0 rfl ?_
  refine gm_iload_n dX11_enters_197 rfl ?_
  refine gm_iald (j := j1) (x := (S 8 j1)) dX11_enters_198 sM_8 ij1 (gm_rp (by omega)) ?_
  refine gm_iast (j := j1) dX11_enters_199 sM_8 ij1 ?_
  exact gm_vret dX11_enters_200 rfl
/-- X11_acknowledges 0 [] -> cut 2 -/
theorem PX11_acknowledges_1 {a1 : Int32} {a2 : Int32} {S : gm_Mem} {r : Option Value} {S2 : gm_Mem}  (K : gm_run gM 0 YX11_acknowledges 2 [some (.ref 0), some (.int a1), some (.int a2), some (.int 0), none, none] [] S r S2) : gm_run gM 0 YX11_acknowledges 0 [some (.ref 0), some (.int a1), some (.int a2), none, none, none] [] S r S2 := by
  refine gm_iconst (v := 0) dX11_acknowledges_0 (by decide) ?_
  refine gm_istore_n (L' := [some (.ref 0), some (.int a1), some (.int a2), some (.int 0), none, none]) dX11_acknowledges_1 (by decide) rfl ?_
  exact K
/-- X11_acknowledges 2 [9f 24f] -> cut 2 -/
theorem PX11_acknowledges_2 {x1 : Int32} {x2 : Int32} {x3 : Int32} {S : gm_Mem} {j1 : Nat} {j3 : Nat} {r : Option Value} {S2 : gm_Mem} (ij1 : gm_ix x1 j1 2) (c2 : x3 < (S 18 j1)) (ij3 : gm_ix ((16 * x1) + x3) j3 32) (c4 : (S 20 j3) < x2) (K : gm_run gM 0 YX11_acknowledges 2 [some (.ref 0), some (.int x1), some (.int x2), some (.int (x3 + 1)), none, none] [] S r S2) : gm_run gM 0 YX11_acknowledges 2 [some (.ref 0), some (.int x1), some (.int x2), some (.int x3), none, none] [] S r S2 := by
  refine gm_iload_n dX11_acknowledges_2 rfl ?_
  refine gm_aload_n dX11_acknowledges_3 rfl ?_
  refine gm_getR (own := RX11) (q := 18) rfl dX11_acknowledges_4 lfX11_71 sM_0 rfl ?_
  refine gm_iload_n dX11_acknowledges_7 rfl ?_
  refine gm_iald (j := j1) (x := (S 18 j1)) dX11_acknowledges_8 sM_18 ij1 rfl ?_
  refine gm_icmp_ge_f dX11_acknowledges_9 ⟨33, by decide⟩ c2 ?_
  refine gm_aload_n dX11_acknowledges_12 rfl ?_
  refine gm_getR (own := RX11) (q := 20) rfl dX11_acknowledges_13 lfX11_77 sM_0 rfl ?_
  refine gm_bipush (v := 16) dX11_acknowledges_16 (by decide) ?_
  refine gm_iload_n dX11_acknowledges_18 rfl ?_
  refine gm_imul dX11_acknowledges_19 rfl ?_
  refine gm_iload_n dX11_acknowledges_20 rfl ?_
  refine gm_iadd dX11_acknowledges_21 rfl ?_
  refine gm_iald (j := j3) (x := (S 20 j3)) dX11_acknowledges_22 sM_20 ij3 rfl ?_
  refine gm_iload_n dX11_acknowledges_23 rfl ?_
  refine gm_icmp_ge_f dX11_acknowledges_24 ⟨33, by decide⟩ c4 ?_
  refine gm_iinc (L' := [some (.ref 0), some (.int x1), some (.int x2), some (.int (x3 + 1)), none, none]) (v := (x3 + 1)) dX11_acknowledges_27 rfl rfl (by decide) rfl ?_
  refine gm_goto (tgt := 2) dX11_acknowledges_30 (by decide) ?_
  exact K
/-- X11_acknowledges 2 [9f 24t] -> cut 46 -/
theorem PX11_acknowledges_3 {x1 : Int32} {x2 : Int32} {x3 : Int32} {S : gm_Mem} {j1 : Nat} {j3 : Nat} {r : Option Value} {S2 : gm_Mem} (ij1 : gm_ix x1 j1 2) (c2 : x3 < (S 18 j1)) (ij3 : gm_ix ((16 * x1) + x3) j3 32) (c4 : ¬ (S 20 j3) < x2) (K : gm_run gM 0 YX11_acknowledges 46 [some (.ref 0), some (.int x1), some (.int x2), some (.int x3), some (.int 0), none] [] (gm_u S 18 j1 ((S 18 j1) - x3)) r S2) : gm_run gM 0 YX11_acknowledges 2 [some (.ref 0), some (.int x1), some (.int x2), some (.int x3), none, none] [] S r S2 := by
  refine gm_iload_n dX11_acknowledges_2 rfl ?_
  refine gm_aload_n dX11_acknowledges_3 rfl ?_
  refine gm_getR (own := RX11) (q := 18) rfl dX11_acknowledges_4 lfX11_71 sM_0 rfl ?_
  refine gm_iload_n dX11_acknowledges_7 rfl ?_
  refine gm_iald (j := j1) (x := (S 18 j1)) dX11_acknowledges_8 sM_18 ij1 rfl ?_
  refine gm_icmp_ge_f dX11_acknowledges_9 ⟨33, by decide⟩ c2 ?_
  refine gm_aload_n dX11_acknowledges_12 rfl ?_
  refine gm_getR (own := RX11) (q := 20) rfl dX11_acknowledges_13 lfX11_77 sM_0 rfl ?_
  refine gm_bipush (v := 16) dX11_acknowledges_16 (by decide) ?_
  refine gm_iload_n dX11_acknowledges_18 rfl ?_
  refine gm_imul dX11_acknowledges_19 rfl ?_
  refine gm_iload_n dX11_acknowledges_20 rfl ?_
  refine gm_iadd dX11_acknowledges_21 rfl ?_
  refine gm_iald (j := j3) (x := (S 20 j3)) dX11_acknowledges_22 sM_20 ij3 rfl ?_
  refine gm_iload_n dX11_acknowledges_23 rfl ?_
  refine gm_icmp_ge_t (tgt := 33) dX11_acknowledges_24 (by decide) c4 ?_
  refine gm_aload_n dX11_acknowledges_33 rfl ?_
  refine gm_getR (own := RX11) (q := 18) rfl dX11_acknowledges_34 lfX11_71 sM_0 rfl ?_
  refine gm_iload_n dX11_acknowledges_37 rfl ?_
  refine gm_dup2 dX11_acknowledges_38 ?_
  refine gm_iald (j := j1) (x := (S 18 j1)) dX11_acknowledges_39 sM_18 ij1 rfl ?_
  refine gm_iload_n dX11_acknowledges_40 rfl ?_
  refine gm_isub dX11_acknowledges_41 rfl ?_
  refine gm_iast (j := j1) dX11_acknowledges_42 sM_18 ij1 ?_
  refine gm_iconst (v := 0) dX11_acknowledges_43 (by decide) ?_
  refine gm_istore (L' := [some (.ref 0), some (.int x1), some (.int x2), some (.int x3), some (.int 0), none]) dX11_acknowledges_44 (by decide) rfl ?_
  exact K
/-- X11_acknowledges 2 [9t] -> cut 46 -/
theorem PX11_acknowledges_4 {x1 : Int32} {x2 : Int32} {x3 : Int32} {S : gm_Mem} {j1 : Nat} {r : Option Value} {S2 : gm_Mem} (ij1 : gm_ix x1 j1 2) (c2 : ¬ x3 < (S 18 j1)) (K : gm_run gM 0 YX11_acknowledges 46 [some (.ref 0), some (.int x1), some (.int x2), some (.int x3), some (.int 0), none] [] (gm_u S 18 j1 ((S 18 j1) - x3)) r S2) : gm_run gM 0 YX11_acknowledges 2 [some (.ref 0), some (.int x1), some (.int x2), some (.int x3), none, none] [] S r S2 := by
  refine gm_iload_n dX11_acknowledges_2 rfl ?_
  refine gm_aload_n dX11_acknowledges_3 rfl ?_
  refine gm_getR (own := RX11) (q := 18) rfl dX11_acknowledges_4 lfX11_71 sM_0 rfl ?_
  refine gm_iload_n dX11_acknowledges_7 rfl ?_
  refine gm_iald (j := j1) (x := (S 18 j1)) dX11_acknowledges_8 sM_18 ij1 rfl ?_
  refine gm_icmp_ge_t (tgt := 33) dX11_acknowledges_9 (by decide) c2 ?_
  refine gm_aload_n dX11_acknowledges_33 rfl ?_
  refine gm_getR (own := RX11) (q := 18) rfl dX11_acknowledges_34 lfX11_71 sM_0 rfl ?_
  refine gm_iload_n dX11_acknowledges_37 rfl ?_
  refine gm_dup2 dX11_acknowledges_38 ?_
  refine gm_iald (j := j1) (x := (S 18 j1)) dX11_acknowledges_39 sM_18 ij1 rfl ?_
  refine gm_iload_n dX11_acknowledges_40 rfl ?_
  refine gm_isub dX11_acknowledges_41 rfl ?_
  refine gm_iast (j := j1) dX11_acknowledges_42 sM_18 ij1 ?_
  refine gm_iconst (v := 0) dX11_acknowledges_43 (by decide) ?_
  refine gm_istore (L' := [some (.ref 0), some (.int x1), some (.int x2), some (.int x3), some (.int 0), none]) dX11_acknowledges_44 (by decide) rfl ?_
  exact K
/-- X11_acknowledges 46 [54f] -> cut 46 -/
theorem PX11_acknowledges_5 {x1 : Int32} {x2 : Int32} {x3 : Int32} {x4 : Int32} {S : gm_Mem} {j1 : Nat} {j3 : Nat} {j4 : Nat} {r : Option Value} {S2 : gm_Mem} (ij1 : gm_ix x1 j1 2) (c2 : x4 < (S 18 j1)) (ij3 : gm_ix (((16 * x1) + x4) + x3) j3 32) (ij4 : gm_ix ((16 * x1) + x4) j4 32) (K : gm_run gM 0 YX11_acknowledges 46 [some (.ref 0), some (.int x1), some (.int x2), some (.int x3), some (.int (x4 + 1)), none] [] (gm_u (gm_u (gm_u (gm_u S 20 j4 (S 20 j3)) 21 j4 (S 21 j3)) 22 j4 (S 22 j3)) 23 j4 (S 23 j3)) r S2) : gm_run gM 0 YX11_acknowledges 46 [some (.ref 0), some (.int x1), some (.int x2), some (.int x3), some (.int x4), none] [] S r S2 := by
  refine gm_iload dX11_acknowledges_46 rfl ?_
  refine gm_aload_n dX11_acknowledges_48 rfl ?_
  refine gm_getR (own := RX11) (q := 18) rfl dX11_acknowledges_49 lfX11_71 sM_0 rfl ?_
  refine gm_iload_n dX11_acknowledges_52 rfl ?_
  refine gm_iald (j := j1) (x := (S 18 j1)) dX11_acknowledges_53 sM_18 ij1 rfl ?_
  refine gm_icmp_ge_f dX11_acknowledges_54 ⟨136, by decide⟩ c2 ?_
  refine gm_bipush (v := 16) dX11_acknowledges_57 (by decide) ?_
  refine gm_iload_n dX11_acknowledges_59 rfl ?_
  refine gm_imul dX11_acknowledges_60 rfl ?_
  refine gm_iload dX11_acknowledges_61 rfl ?_
  refine gm_iadd dX11_acknowledges_63 rfl ?_
  refine gm_istore (L' := [some (.ref 0), some (.int x1), some (.int x2), some (.int x3), some (.int x4), some (.int ((16 * x1) + x4))]) dX11_acknowledges_64 (by decide) rfl ?_
  refine gm_aload_n dX11_acknowledges_66 rfl ?_
  refine gm_getR (own := RX11) (q := 20) rfl dX11_acknowledges_67 lfX11_77 sM_0 rfl ?_
  refine gm_iload dX11_acknowledges_70 rfl ?_
  refine gm_aload_n dX11_acknowledges_72 rfl ?_
  refine gm_getR (own := RX11) (q := 20) rfl dX11_acknowledges_73 lfX11_77 sM_0 rfl ?_
  refine gm_iload dX11_acknowledges_76 rfl ?_
  refine gm_iload_n dX11_acknowledges_78 rfl ?_
  refine gm_iadd dX11_acknowledges_79 rfl ?_
  refine gm_iald (j := j3) (x := (S 20 j3)) dX11_acknowledges_80 sM_20 ij3 rfl ?_
  refine gm_iast (j := j4) dX11_acknowledges_81 sM_20 ij4 ?_
  refine gm_aload_n dX11_acknowledges_82 rfl ?_
  refine gm_getR (own := RX11) (q := 21) rfl dX11_acknowledges_83 lfX11_80 sM_0 rfl ?_
  refine gm_iload dX11_acknowledges_86 rfl ?_
  refine gm_aload_n dX11_acknowledges_88 rfl ?_
  refine gm_getR (own := RX11) (q := 21) rfl dX11_acknowledges_89 lfX11_80 sM_0 rfl ?_
  refine gm_iload dX11_acknowledges_92 rfl ?_
  refine gm_iload_n dX11_acknowledges_94 rfl ?_
  refine gm_iadd dX11_acknowledges_95 rfl ?_
  refine gm_iald (j := j3) (x := (S 21 j3)) dX11_acknowledges_96 sM_21 ij3 (gm_rp (by omega)) ?_
  refine gm_iast (j := j4) dX11_acknowledges_97 sM_21 ij4 ?_
  refine gm_aload_n dX11_acknowledges_98 rfl ?_
  refine gm_getR (own := RX11) (q := 22) rfl dX11_acknowledges_99 lfX11_83 sM_0 rfl ?_
  refine gm_iload dX11_acknowledges_102 rfl ?_
  refine gm_aload_n dX11_acknowledges_104 rfl ?_
  refine gm_getR (own := RX11) (q := 22) rfl dX11_acknowledges_105 lfX11_83 sM_0 rfl ?_
  refine gm_iload dX11_acknowledges_108 rfl ?_
  refine gm_iload_n dX11_acknowledges_110 rfl ?_
  refine gm_iadd dX11_acknowledges_111 rfl ?_
  refine gm_iald (j := j3) (x := (S 22 j3)) dX11_acknowledges_112 sM_22 ij3 ((gm_rp (by omega)).trans (gm_rp (by omega))) ?_
  refine gm_iast (j := j4) dX11_acknowledges_113 sM_22 ij4 ?_
  refine gm_aload_n dX11_acknowledges_114 rfl ?_
  refine gm_getR (own := RX11) (q := 23) rfl dX11_acknowledges_115 lfX11_86 sM_0 rfl ?_
  refine gm_iload dX11_acknowledges_118 rfl ?_
  refine gm_aload_n dX11_acknowledges_120 rfl ?_
  refine gm_getR (own := RX11) (q := 23) rfl dX11_acknowledges_121 lfX11_86 sM_0 rfl ?_
  refine gm_iload dX11_acknowledges_124 rfl ?_
  refine gm_iload_n dX11_acknowledges_126 rfl ?_
  refine gm_iadd dX11_acknowledges_127 rfl ?_
  refine gm_iald (j := j3) (x := (S 23 j3)) dX11_acknowledges_128 sM_23 ij3 ((gm_rp (by omega)).trans ((gm_rp (by omega)).trans (gm_rp (by omega)))) ?_
  refine gm_iast (j := j4) dX11_acknowledges_129 sM_23 ij4 ?_
  refine gm_iinc (L' := [some (.ref 0), some (.int x1), some (.int x2), some (.int x3), some (.int (x4 + 1)), some (.int ((16 * x1) + x4))]) (v := (x4 + 1)) dX11_acknowledges_130 rfl rfl (by decide) rfl ?_
  refine gm_goto (tgt := 46) dX11_acknowledges_133 (by decide) ?_
  refine gm_forget (L2 := [some (.ref 0), some (.int x1), some (.int x2), some (.int x3), some (.int (x4 + 1)), none]) (by simp [gm_sub]) ?_
  exact K
/-- X11_acknowledges 46 [54t] -> ret  -/
theorem PX11_acknowledges_6 {x1 : Int32} {x2 : Int32} {x3 : Int32} {x4 : Int32} {S : gm_Mem} {j1 : Nat} (ij1 : gm_ix x1 j1 2) (c2 : ¬ x4 < (S 18 j1)) : gm_run gM 0 YX11_acknowledges 46 [some (.ref 0), some (.int x1), some (.int x2), some (.int x3), some (.int x4), none] [] S none S := by
  refine gm_iload dX11_acknowledges_46 rfl ?_
  refine gm_aload_n dX11_acknowledges_48 rfl ?_
  refine gm_getR (own := RX11) (q := 18) rfl dX11_acknowledges_49 lfX11_71 sM_0 rfl ?_
  refine gm_iload_n dX11_acknowledges_52 rfl ?_
  refine gm_iald (j := j1) (x := (S 18 j1)) dX11_acknowledges_53 sM_18 ij1 rfl ?_
  refine gm_icmp_ge_t (tgt := 136) dX11_acknowledges_54 (by decide) c2 ?_
  exact gm_vret dX11_acknowledges_136 rfl
/-- X11_takesExpected 0 [2f] -> ret  -/
theorem PX11_takesExpected_1 {a1 : Int32} {a2 : Int32} {a3 : Int32} {a4 : Int32} {S : gm_Mem} {j2 : Nat} (c1 : ¬ a4 = 0) (ij2 : gm_ix a1 j2 2) : gm_run gM 0 YX11_takesExpected 0 [some (.ref 0), some (.int a1), some (.int a2), some (.int a3), some (.int a4)] [] S none (gm_u (gm_u S 16 j2 a2) 13 j2 ((S 13 j2) + 1)) := by
  refine gm_iload dX11_takesExpected_0 rfl ?_
  refine gm_if_eq_f dX11_takesExpected_2 ⟨15, by decide⟩ c1 ?_
  refine gm_aload_n dX11_takesExpected_5 rfl ?_
  refine gm_getR (own := RX11) (q := 16) rfl dX11_takesExpected_6 lfX11_65 sM_0 rfl ?_
  refine gm_iload_n dX11_takesExpected_9 rfl ?_
  refine gm_iload_n dX11_takesExpected_10 rfl ?_
  refine gm_iast (j := j2) dX11_takesExpected_11 sM_16 ij2 ?_
  refine gm_goto (tgt := 43) dX11_takesExpected_12 (by decide) ?_
  refine gm_aload_n dX11_takesExpected_43 rfl ?_
  refine gm_getR (own := RX11) (q := 13) rfl dX11_takesExpected_44 lfX11_56 sM_0 rfl ?_
  refine gm_iload_n dX11_takesExpected_47 rfl ?_
  refine gm_dup2 dX11_takesExpected_48 ?_
  refine gm_iald (j := j2) (x := (S 13 j2)) dX11_takesExpected_49 sM_13 ij2 (gm_rp (by omega)) ?_
  refine gm_iconst (v := 1) dX11_takesExpected_50 (by decide) ?_
  refine gm_iadd dX11_takesExpected_51 rfl ?_
  refine gm_iast (j := j2) dX11_takesExpected_52 sM_13 ij2 ?_
  exact gm_vret dX11_takesExpected_53 rfl
/-- X11_takesExpected 0 [2t] -> ret  -/
theorem PX11_takesExpected_2 {a1 : Int32} {a2 : Int32} {a3 : Int32} {a4 : Int32} {S : gm_Mem} {j2 : Nat} {j3 : Nat} (c1 : a4 = 0) (ij2 : gm_ix a1 j2 2) (ij3 : gm_ix ((1200 * a1) + (S 17 j2)) j3 2400) : gm_run gM 0 YX11_takesExpected 0 [some (.ref 0), some (.int a1), some (.int a2), some (.int a3), some (.int a4)] [] S none (gm_u (gm_u (gm_u S 19 j3 a3) 17 j2 ((S 17 j2) + 1)) 13 j2 ((S 13 j2) + 1)) := by
  refine gm_iload dX11_takesExpected_0 rfl ?_
  refine gm_if_eq_t (tgt := 15) dX11_takesExpected_2 (by decide) c1 ?_
  refine gm_aload_n dX11_takesExpected_15 rfl ?_
  refine gm_getR (own := RX11) (q := 19) rfl dX11_takesExpected_16 lfX11_74 sM_0 rfl ?_
  refine gm_sipush (v := 1200) dX11_takesExpected_19 (by decide) ?_
  refine gm_iload_n dX11_takesExpected_22 rfl ?_
  refine gm_imul dX11_takesExpected_23 rfl ?_
  refine gm_aload_n dX11_takesExpected_24 rfl ?_
  refine gm_getR (own := RX11) (q := 17) rfl dX11_takesExpected_25 lfX11_68 sM_0 rfl ?_
  refine gm_iload_n dX11_takesExpected_28 rfl ?_
  refine gm_iald (j := j2) (x := (S 17 j2)) dX11_takesExpected_29 sM_17 ij2 rfl ?_
  refine gm_iadd dX11_takesExpected_30 rfl ?_
  refine gm_iload_n dX11_takesExpected_31 rfl ?_
  refine gm_iast (j := j3) dX11_takesExpected_32 sM_19 ij3 ?_
  refine gm_aload_n dX11_takesExpected_33 rfl ?_
  refine gm_getR (own := RX11) (q := 17) rfl dX11_takesExpected_34 lfX11_68 sM_0 rfl ?_
  refine gm_iload_n dX11_takesExpected_37 rfl ?_
  refine gm_dup2 dX11_takesExpected_38 ?_
  refine gm_iald (j := j2) (x := (S 17 j2)) dX11_takesExpected_39 sM_17 ij2 (gm_rp (by omega)) ?_
  refine gm_iconst (v := 1) dX11_takesExpected_40 (by decide) ?_
  refine gm_iadd dX11_takesExpected_41 rfl ?_
  refine gm_iast (j := j2) dX11_takesExpected_42 sM_17 ij2 ?_
  refine gm_aload_n dX11_takesExpected_43 rfl ?_
  refine gm_getR (own := RX11) (q := 13) rfl dX11_takesExpected_44 lfX11_56 sM_0 rfl ?_
  refine gm_iload_n dX11_takesExpected_47 rfl ?_
  refine gm_dup2 dX11_takesExpected_48 ?_
  refine gm_iald (j := j2) (x := (S 13 j2)) dX11_takesExpected_49 sM_13 ij2 ((gm_rp (by omega)).trans (gm_rp (by omega))) ?_
  refine gm_iconst (v := 1) dX11_takesExpected_50 (by decide) ?_
  refine gm_iadd dX11_takesExpected_51 rfl ?_
  refine gm_iast (j := j2) dX11_takesExpected_52 sM_13 ij2 ?_
  exact gm_vret dX11_takesExpected_53 rfl
/-- X11_takes 0 [6f 16f 28f] -> ret  -/
theorem PX11_takes_1 {a1 : Int32} {a2 : Int32} {a3 : Int32} {a4 : Int32} {S : gm_Mem} {j1 : Nat} (ij1 : gm_ix a1 j1 2) (c2 : (S 16 j1) < 0) (c3 : ¬ a2 < (S 13 j1)) (c4 : ¬ a2 < ((S 13 j1) + 4)) : gm_run gM 1 YX11_takes 0 [some (.ref 0), some (.int a1), some (.int a2), some (.int a3), some (.int a4), none] [] S none S := by
  refine gm_aload_n dX11_takes_0 rfl ?_
  refine gm_getR (own := RX11) (q := 16) rfl dX11_takes_1 lfX11_65 sM_0 rfl ?_
  refine gm_iload_n dX11_takes_4 rfl ?_
  refine gm_iald (j := j1) (x := (S 16 j1)) dX11_takes_5 sM_16 ij1 rfl ?_
  refine gm_if_ge_f dX11_takes_6 ⟨31, by decide⟩ c2 ?_
  refine gm_iload_n dX11_takes_9 rfl ?_
  refine gm_aload_n dX11_takes_10 rfl ?_
  refine gm_getR (own := RX11) (q := 13) rfl dX11_takes_11 lfX11_56 sM_0 rfl ?_
  refine gm_iload_n dX11_takes_14 rfl ?_
  refine gm_iald (j := j1) (x := (S 13 j1)) dX11_takes_15 sM_13 ij1 rfl ?_
  refine gm_icmp_lt_f dX11_takes_16 ⟨31, by decide⟩ c3 ?_
  refine gm_iload_n dX11_takes_19 rfl ?_
  refine gm_aload_n dX11_takes_20 rfl ?_
  refine gm_getR (own := RX11) (q := 13) rfl dX11_takes_21 lfX11_56 sM_0 rfl ?_
  refine gm_iload_n dX11_takes_24 rfl ?_
  refine gm_iald (j := j1) (x := (S 13 j1)) dX11_takes_25 sM_13 ij1 rfl ?_
  refine gm_iconst (v := 4) dX11_takes_26 (by decide) ?_
  refine gm_iadd dX11_takes_27 rfl ?_
  refine gm_icmp_lt_f dX11_takes_28 ⟨32, by decide⟩ c4 ?_
  exact gm_vret dX11_takes_31 rfl
/-- X11_takes 0 [6f 16f 28t 48f 59f] -> ret  -/
theorem PX11_takes_2 {a1 : Int32} {a2 : Int32} {a3 : Int32} {a4 : Int32} {S : gm_Mem} {j1 : Nat} {j6 : Nat} (ij1 : gm_ix a1 j1 2) (c2 : (S 16 j1) < 0) (c3 : ¬ a2 < (S 13 j1)) (c4 : a2 < ((S 13 j1) + 4)) (c5 : (S 13 j1) < a2) (ij6 : gm_ix ((4 * a1) + (gm_rem a2 4)) j6 8) (c7 : (S 24 j6) = 1) : gm_run gM 1 YX11_takes 0 [some (.ref 0), some (.int a1), some (.int a2), some (.int a3), some (.int a4), none] [] S none S := by
  refine gm_aload_n dX11_takes_0 rfl ?_
  refine gm_getR (own := RX11) (q := 16) rfl dX11_takes_1 lfX11_65 sM_0 rfl ?_
  refine gm_iload_n dX11_takes_4 rfl ?_
  refine gm_iald (j := j1) (x := (S 16 j1)) dX11_takes_5 sM_16 ij1 rfl ?_
  refine gm_if_ge_f dX11_takes_6 ⟨31, by decide⟩ c2 ?_
  refine gm_iload_n dX11_takes_9 rfl ?_
  refine gm_aload_n dX11_takes_10 rfl ?_
  refine gm_getR (own := RX11) (q := 13) rfl dX11_takes_11 lfX11_56 sM_0 rfl ?_
  refine gm_iload_n dX11_takes_14 rfl ?_
  refine gm_iald (j := j1) (x := (S 13 j1)) dX11_takes_15 sM_13 ij1 rfl ?_
  refine gm_icmp_lt_f dX11_takes_16 ⟨31, by decide⟩ c3 ?_
  refine gm_iload_n dX11_takes_19 rfl ?_
  refine gm_aload_n dX11_takes_20 rfl ?_
  refine gm_getR (own := RX11) (q := 13) rfl dX11_takes_21 lfX11_56 sM_0 rfl ?_
  refine gm_iload_n dX11_takes_24 rfl ?_
  refine gm_iald (j := j1) (x := (S 13 j1)) dX11_takes_25 sM_13 ij1 rfl ?_
  refine gm_iconst (v := 4) dX11_takes_26 (by decide) ?_
  refine gm_iadd dX11_takes_27 rfl ?_
  refine gm_icmp_lt_t (tgt := 32) dX11_takes_28 (by decide) c4 ?_
  refine gm_iconst (v := 4) dX11_takes_32 (by decide) ?_
  refine gm_iload_n dX11_takes_33 rfl ?_
  refine gm_imul dX11_takes_34 rfl ?_
  refine gm_iload_n dX11_takes_35 rfl ?_
  refine gm_iconst (v := 4) dX11_takes_36 (by decide) ?_
  refine gm_irem (v := (gm_rem a2 4)) dX11_takes_37 (by decide) rfl ?_
  refine gm_iadd dX11_takes_38 rfl ?_
  refine gm_istore (L' := [some (.ref 0), some (.int a1), some (.int a2), some (.int a3), some (.int a4), some (.int ((4 * a1) + (gm_rem a2 4)))]) dX11_takes_39 (by decide) rfl ?_
  refine gm_iload_n dX11_takes_41 rfl ?_
  refine gm_aload_n dX11_takes_42 rfl ?_
  refine gm_getR (own := RX11) (q := 13) rfl dX11_takes_43 lfX11_56 sM_0 rfl ?_
  refine gm_iload_n dX11_takes_46 rfl ?_
  refine gm_iald (j := j1) (x := (S 13 j1)) dX11_takes_47 sM_13 ij1 rfl ?_
  refine gm_icmp_le_f dX11_takes_48 ⟨97, by decide⟩ c5 ?_
  refine gm_aload_n dX11_takes_51 rfl ?_
  refine gm_getR (own := RX11) (q := 24) rfl dX11_takes_52 lfX11_89 sM_0 rfl ?_
  refine gm_iload dX11_takes_55 rfl ?_
  refine gm_iald (j := j6) (x := (S 24 j6)) dX11_takes_57 sM_24 ij6 rfl ?_
  refine gm_iconst (v := 1) dX11_takes_58 (by decide) ?_
  refine gm_icmp_ne_f dX11_takes_59 ⟨63, by decide⟩ c7 ?_
  exact gm_vret dX11_takes_62 rfl
/-- X11_takes 0 [6f 16f 28t 48f 59t 87f] -> cut 95 -/
theorem PX11_takes_3 {a1 : Int32} {a2 : Int32} {a3 : Int32} {a4 : Int32} {S : gm_Mem} {j1 : Nat} {j6 : Nat} {r : Option Value} {S2 : gm_Mem} (ij1 : gm_ix a1 j1 2) (c2 : (S 16 j1) < 0) (c3 : ¬ a2 < (S 13 j1)) (c4 : a2 < ((S 13 j1) + 4)) (c5 : (S 13 j1) < a2) (ij6 : gm_ix ((4 * a1) + (gm_rem a2 4)) j6 8) (c7 : ¬ (S 24 j6) = 1) (c8 : ¬ a4 = 0) (K : gm_run gM 1 YX11_takes 95 [some (.ref 0), some (.int a1), some (.int a2), some (.int a3), some (.int a4), some (.int ((4 * a1) + (gm_rem a2 4)))] [.int 1, .int ((4 * a1) + (gm_rem a2 4)), .ref 26] (gm_u (gm_u S 24 j6 1) 25 j6 a3) r S2) : gm_run gM 1 YX11_takes 0 [some (.ref 0), some (.int a1), some (.int a2), some (.int a3), some (.int a4), none] [] S r S2 := by
  refine gm_aload_n dX11_takes_0 rfl ?_
  refine gm_getR (own := RX11) (q := 16) rfl dX11_takes_1 lfX11_65 sM_0 rfl ?_
  refine gm_iload_n dX11_takes_4 rfl ?_
  refine gm_iald (j := j1) (x := (S 16 j1)) dX11_takes_5 sM_16 ij1 rfl ?_
  refine gm_if_ge_f dX11_takes_6 ⟨31, by decide⟩ c2 ?_
  refine gm_iload_n dX11_takes_9 rfl ?_
  refine gm_aload_n dX11_takes_10 rfl ?_
  refine gm_getR (own := RX11) (q := 13) rfl dX11_takes_11 lfX11_56 sM_0 rfl ?_
  refine gm_iload_n dX11_takes_14 rfl ?_
  refine gm_iald (j := j1) (x := (S 13 j1)) dX11_takes_15 sM_13 ij1 rfl ?_
  refine gm_icmp_lt_f dX11_takes_16 ⟨31, by decide⟩ c3 ?_
  refine gm_iload_n dX11_takes_19 rfl ?_
  refine gm_aload_n dX11_takes_20 rfl ?_
  refine gm_getR (own := RX11) (q := 13) rfl dX11_takes_21 lfX11_56 sM_0 rfl ?_
  refine gm_iload_n dX11_takes_24 rfl ?_
  refine gm_iald (j := j1) (x := (S 13 j1)) dX11_takes_25 sM_13 ij1 rfl ?_
  refine gm_iconst (v := 4) dX11_takes_26 (by decide) ?_
  refine gm_iadd dX11_takes_27 rfl ?_
  refine gm_icmp_lt_t (tgt := 32) dX11_takes_28 (by decide) c4 ?_
  refine gm_iconst (v := 4) dX11_takes_32 (by decide) ?_
  refine gm_iload_n dX11_takes_33 rfl ?_
  refine gm_imul dX11_takes_34 rfl ?_
  refine gm_iload_n dX11_takes_35 rfl ?_
  refine gm_iconst (v := 4) dX11_takes_36 (by decide) ?_
  refine gm_irem (v := (gm_rem a2 4)) dX11_takes_37 (by decide) rfl ?_
  refine gm_iadd dX11_takes_38 rfl ?_
  refine gm_istore (L' := [some (.ref 0), some (.int a1), some (.int a2), some (.int a3), some (.int a4), some (.int ((4 * a1) + (gm_rem a2 4)))]) dX11_takes_39 (by decide) rfl ?_
  refine gm_iload_n dX11_takes_41 rfl ?_
  refine gm_aload_n dX11_takes_42 rfl ?_
  refine gm_getR (own := RX11) (q := 13) rfl dX11_takes_43 lfX11_56 sM_0 rfl ?_
  refine gm_iload_n dX11_takes_46 rfl ?_
  refine gm_iald (j := j1) (x := (S 13 j1)) dX11_takes_47 sM_13 ij1 rfl ?_
  refine gm_icmp_le_f dX11_takes_48 ⟨97, by decide⟩ c5 ?_
  refine gm_aload_n dX11_takes_51 rfl ?_
  refine gm_getR (own := RX11) (q := 24) rfl dX11_takes_52 lfX11_89 sM_0 rfl ?_
  refine gm_iload dX11_takes_55 rfl ?_
  refine gm_iald (j := j6) (x := (S 24 j6)) dX11_takes_57 sM_24 ij6 rfl ?_
  refine gm_iconst (v := 1) dX11_takes_58 (by decide) ?_
  refine gm_icmp_ne_t (tgt := 63) dX11_takes_59 (by decide) c7 ?_
  refine gm_aload_n dX11_takes_63 rfl ?_
  refine gm_getR (own := RX11) (q := 24) rfl dX11_takes_64 lfX11_89 sM_0 rfl ?_
  refine gm_iload dX11_takes_67 rfl ?_
  refine gm_iconst (v := 1) dX11_takes_69 (by decide) ?_
  refine gm_iast (j := j6) dX11_takes_70 sM_24 ij6 ?_
  refine gm_aload_n dX11_takes_71 rfl ?_
  refine gm_getR (own := RX11) (q := 25) rfl dX11_takes_72 lfX11_92 sM_0 rfl ?_
  refine gm_iload dX11_takes_75 rfl ?_
  refine gm_iload_n dX11_takes_77 rfl ?_
  refine gm_iast (j := j6) dX11_takes_78 sM_25 ij6 ?_
  refine gm_aload_n dX11_takes_79 rfl ?_
  refine gm_getR (own := RX11) (q := 26) rfl dX11_takes_80 lfX11_95 sM_0 rfl ?_
  refine gm_iload dX11_takes_83 rfl ?_
  refine gm_iload dX11_takes_85 rfl ?_
  refine gm_if_eq_f dX11_takes_87 ⟨94, by decide⟩ c8 ?_
  refine gm_iconst (v := 1) dX11_takes_90 (by decide) ?_
  refine gm_goto (tgt := 95) dX11_takes_91 (by decide) ?_
  exact K
/-- X11_takes 0 [6f 16f 28t 48f 59t 87t] -> cut 95 -/
theorem PX11_takes_4 {a1 : Int32} {a2 : Int32} {a3 : Int32} {a4 : Int32} {S : gm_Mem} {j1 : Nat} {j6 : Nat} {r : Option Value} {S2 : gm_Mem} (ij1 : gm_ix a1 j1 2) (c2 : (S 16 j1) < 0) (c3 : ¬ a2 < (S 13 j1)) (c4 : a2 < ((S 13 j1) + 4)) (c5 : (S 13 j1) < a2) (ij6 : gm_ix ((4 * a1) + (gm_rem a2 4)) j6 8) (c7 : ¬ (S 24 j6) = 1) (c8 : a4 = 0) (K : gm_run gM 1 YX11_takes 95 [some (.ref 0), some (.int a1), some (.int a2), some (.int a3), some (.int a4), some (.int ((4 * a1) + (gm_rem a2 4)))] [.int 0, .int ((4 * a1) + (gm_rem a2 4)), .ref 26] (gm_u (gm_u S 24 j6 1) 25 j6 a3) r S2) : gm_run gM 1 YX11_takes 0 [some (.ref 0), some (.int a1), some (.int a2), some (.int a3), some (.int a4), none] [] S r S2 := by
  refine gm_aload_n dX11_takes_0 rfl ?_
  refine gm_getR (own := RX11) (q := 16) rfl dX11_takes_1 lfX11_65 sM_0 rfl ?_
  refine gm_iload_n dX11_takes_4 rfl ?_
  refine gm_iald (j := j1) (x := (S 16 j1)) dX11_takes_5 sM_16 ij1 rfl ?_
  refine gm_if_ge_f dX11_takes_6 ⟨31, by decide⟩ c2 ?_
  refine gm_iload_n dX11_takes_9 rfl ?_
  refine gm_aload_n dX11_takes_10 rfl ?_
  refine gm_getR (own := RX11) (q := 13) rfl dX11_takes_11 lfX11_56 sM_0 rfl ?_
  refine gm_iload_n dX11_takes_14 rfl ?_
  refine gm_iald (j := j1) (x := (S 13 j1)) dX11_takes_15 sM_13 ij1 rfl ?_
  refine gm_icmp_lt_f dX11_takes_16 ⟨31, by decide⟩ c3 ?_
  refine gm_iload_n dX11_takes_19 rfl ?_
  refine gm_aload_n dX11_takes_20 rfl ?_
  refine gm_getR (own := RX11) (q := 13) rfl dX11_takes_21 lfX11_56 sM_0 rfl ?_
  refine gm_iload_n dX11_takes_24 rfl ?_
  refine gm_iald (j := j1) (x := (S 13 j1)) dX11_takes_25 sM_13 ij1 rfl ?_
  refine gm_iconst (v := 4) dX11_takes_26 (by decide) ?_
  refine gm_iadd dX11_takes_27 rfl ?_
  refine gm_icmp_lt_t (tgt := 32) dX11_takes_28 (by decide) c4 ?_
  refine gm_iconst (v := 4) dX11_takes_32 (by decide) ?_
  refine gm_iload_n dX11_takes_33 rfl ?_
  refine gm_imul dX11_takes_34 rfl ?_
  refine gm_iload_n dX11_takes_35 rfl ?_
  refine gm_iconst (v := 4) dX11_takes_36 (by decide) ?_
  refine gm_irem (v := (gm_rem a2 4)) dX11_takes_37 (by decide) rfl ?_
  refine gm_iadd dX11_takes_38 rfl ?_
  refine gm_istore (L' := [some (.ref 0), some (.int a1), some (.int a2), some (.int a3), some (.int a4), some (.int ((4 * a1) + (gm_rem a2 4)))]) dX11_takes_39 (by decide) rfl ?_
  refine gm_iload_n dX11_takes_41 rfl ?_
  refine gm_aload_n dX11_takes_42 rfl ?_
  refine gm_getR (own := RX11) (q := 13) rfl dX11_takes_43 lfX11_56 sM_0 rfl ?_
  refine gm_iload_n dX11_takes_46 rfl ?_
  refine gm_iald (j := j1) (x := (S 13 j1)) dX11_takes_47 sM_13 ij1 rfl ?_
  refine gm_icmp_le_f dX11_takes_48 ⟨97, by decide⟩ c5 ?_
  refine gm_aload_n dX11_takes_51 rfl ?_
  refine gm_getR (own := RX11) (q := 24) rfl dX11_takes_52 lfX11_89 sM_0 rfl ?_
  refine gm_iload dX11_takes_55 rfl ?_
  refine gm_iald (j := j6) (x := (S 24 j6)) dX11_takes_57 sM_24 ij6 rfl ?_
  refine gm_iconst (v := 1) dX11_takes_58 (by decide) ?_
  refine gm_icmp_ne_t (tgt := 63) dX11_takes_59 (by decide) c7 ?_
  refine gm_aload_n dX11_takes_63 rfl ?_
  refine gm_getR (own := RX11) (q := 24) rfl dX11_takes_64 lfX11_89 sM_0 rfl ?_
  refine gm_iload dX11_takes_67 rfl ?_
  refine gm_iconst (v := 1) dX11_takes_69 (by decide) ?_
  refine gm_iast (j := j6) dX11_takes_70 sM_24 ij6 ?_
  refine gm_aload_n dX11_takes_71 rfl ?_
  refine gm_getR (own := RX11) (q := 25) rfl dX11_takes_72 lfX11_92 sM_0 rfl ?_
  refine gm_iload dX11_takes_75 rfl ?_
  refine gm_iload_n dX11_takes_77 rfl ?_
  refine gm_iast (j := j6) dX11_takes_78 sM_25 ij6 ?_
  refine gm_aload_n dX11_takes_79 rfl ?_
  refine gm_getR (own := RX11) (q := 26) rfl dX11_takes_80 lfX11_95 sM_0 rfl ?_
  refine gm_iload dX11_takes_83 rfl ?_
  refine gm_iload dX11_takes_85 rfl ?_
  refine gm_if_eq_t (tgt := 94) dX11_takes_87 (by decide) c8 ?_
  refine gm_iconst (v := 0) dX11_takes_94 (by decide) ?_
  exact K
/-- X11_takes 0 [6f 16f 28t 48t] -> cut 120 -/
theorem PX11_takes_5 {a1 : Int32} {a2 : Int32} {a3 : Int32} {a4 : Int32} {S : gm_Mem} {j1 : Nat} {T1 : gm_Mem} {r : Option Value} {S2 : gm_Mem} (ij1 : gm_ix a1 j1 2) (c2 : (S 16 j1) < 0) (c3 : ¬ a2 < (S 13 j1)) (c4 : a2 < ((S 13 j1) + 4)) (c5 : ¬ (S 13 j1) < a2) (h6 : gm_run gM 0 YX11_takesExpected 0 [some (.ref 0), some (.int a1), some (.int a2), some (.int a3), some (.int a4)] [] S none T1) (K : gm_run gM 1 YX11_takes 120 [some (.ref 0), some (.int a1), some (.int a2), some (.int a3), some (.int a4), some (.int ((4 * a1) + (gm_rem (T1 13 j1) 4)))] [] T1 r S2) : gm_run gM 1 YX11_takes 0 [some (.ref 0), some (.int a1), some (.int a2), some (.int a3), some (.int a4), none] [] S r S2 := by
  refine gm_aload_n dX11_takes_0 rfl ?_
  refine gm_getR (own := RX11) (q := 16) rfl dX11_takes_1 lfX11_65 sM_0 rfl ?_
  refine gm_iload_n dX11_takes_4 rfl ?_
  refine gm_iald (j := j1) (x := (S 16 j1)) dX11_takes_5 sM_16 ij1 rfl ?_
  refine gm_if_ge_f dX11_takes_6 ⟨31, by decide⟩ c2 ?_
  refine gm_iload_n dX11_takes_9 rfl ?_
  refine gm_aload_n dX11_takes_10 rfl ?_
  refine gm_getR (own := RX11) (q := 13) rfl dX11_takes_11 lfX11_56 sM_0 rfl ?_
  refine gm_iload_n dX11_takes_14 rfl ?_
  refine gm_iald (j := j1) (x := (S 13 j1)) dX11_takes_15 sM_13 ij1 rfl ?_
  refine gm_icmp_lt_f dX11_takes_16 ⟨31, by decide⟩ c3 ?_
  refine gm_iload_n dX11_takes_19 rfl ?_
  refine gm_aload_n dX11_takes_20 rfl ?_
  refine gm_getR (own := RX11) (q := 13) rfl dX11_takes_21 lfX11_56 sM_0 rfl ?_
  refine gm_iload_n dX11_takes_24 rfl ?_
  refine gm_iald (j := j1) (x := (S 13 j1)) dX11_takes_25 sM_13 ij1 rfl ?_
  refine gm_iconst (v := 4) dX11_takes_26 (by decide) ?_
  refine gm_iadd dX11_takes_27 rfl ?_
  refine gm_icmp_lt_t (tgt := 32) dX11_takes_28 (by decide) c4 ?_
  refine gm_iconst (v := 4) dX11_takes_32 (by decide) ?_
  refine gm_iload_n dX11_takes_33 rfl ?_
  refine gm_imul dX11_takes_34 rfl ?_
  refine gm_iload_n dX11_takes_35 rfl ?_
  refine gm_iconst (v := 4) dX11_takes_36 (by decide) ?_
  refine gm_irem (v := (gm_rem a2 4)) dX11_takes_37 (by decide) rfl ?_
  refine gm_iadd dX11_takes_38 rfl ?_
  refine gm_istore (L' := [some (.ref 0), some (.int a1), some (.int a2), some (.int a3), some (.int a4), some (.int ((4 * a1) + (gm_rem a2 4)))]) dX11_takes_39 (by decide) rfl ?_
  refine gm_iload_n dX11_takes_41 rfl ?_
  refine gm_aload_n dX11_takes_42 rfl ?_
  refine gm_getR (own := RX11) (q := 13) rfl dX11_takes_43 lfX11_56 sM_0 rfl ?_
  refine gm_iload_n dX11_takes_46 rfl ?_
  refine gm_iald (j := j1) (x := (S 13 j1)) dX11_takes_47 sM_13 ij1 rfl ?_
  refine gm_icmp_le_t (tgt := 97) dX11_takes_48 (by decide) c5 ?_
  refine gm_aload_n dX11_takes_97 rfl ?_
  refine gm_iload_n dX11_takes_98 rfl ?_
  refine gm_iload_n dX11_takes_99 rfl ?_
  refine gm_iload_n dX11_takes_100 rfl ?_
  refine gm_iload dX11_takes_101 rfl ?_
  refine gm_callV (r1 := none) (own := RX11) rfl dX11_takes_103 llX11_249 mvX11_takesExpected sM_0 rfl [.int a1, .int a2, .int a3, .int a4] [] rfl rfl (Nat.le_of_ble_eq_true rfl) (by decide) rfl h6 rfl ?_
  refine gm_iconst (v := 4) dX11_takes_106 (by decide) ?_
  refine gm_iload_n dX11_takes_107 rfl ?_
  refine gm_imul dX11_takes_108 rfl ?_
  refine gm_aload_n dX11_takes_109 rfl ?_
  refine gm_getR (own := RX11) (q := 13) rfl dX11_takes_110 lfX11_56 sM_0 rfl ?_
  refine gm_iload_n dX11_takes_113 rfl ?_
  refine gm_iald (j := j1) (x := (T1 13 j1)) dX11_takes_114 sM_13 ij1 rfl ?_
  refine gm_iconst (v := 4) dX11_takes_115 (by decide) ?_
  refine gm_irem (v := (gm_rem (T1 13 j1) 4)) dX11_takes_116 (by decide) rfl ?_
  refine gm_iadd dX11_takes_117 rfl ?_
  refine gm_istore (L' := [some (.ref 0), some (.int a1), some (.int a2), some (.int a3), some (.int a4), some (.int ((4 * a1) + (gm_rem (T1 13 j1) 4)))]) dX11_takes_118 (by decide) rfl ?_
  exact K
/-- X11_takes 0 [6f 16t] -> ret  -/
theorem PX11_takes_6 {a1 : Int32} {a2 : Int32} {a3 : Int32} {a4 : Int32} {S : gm_Mem} {j1 : Nat} (ij1 : gm_ix a1 j1 2) (c2 : (S 16 j1) < 0) (c3 : a2 < (S 13 j1)) : gm_run gM 1 YX11_takes 0 [some (.ref 0), some (.int a1), some (.int a2), some (.int a3), some (.int a4), none] [] S none S := by
  refine gm_aload_n dX11_takes_0 rfl ?_
  refine gm_getR (own := RX11) (q := 16) rfl dX11_takes_1 lfX11_65 sM_0 rfl ?_
  refine gm_iload_n dX11_takes_4 rfl ?_
  refine gm_iald (j := j1) (x := (S 16 j1)) dX11_takes_5 sM_16 ij1 rfl ?_
  refine gm_if_ge_f dX11_takes_6 ⟨31, by decide⟩ c2 ?_
  refine gm_iload_n dX11_takes_9 rfl ?_
  refine gm_aload_n dX11_takes_10 rfl ?_
  refine gm_getR (own := RX11) (q := 13) rfl dX11_takes_11 lfX11_56 sM_0 rfl ?_
  refine gm_iload_n dX11_takes_14 rfl ?_
  refine gm_iald (j := j1) (x := (S 13 j1)) dX11_takes_15 sM_13 ij1 rfl ?_
  refine gm_icmp_lt_t (tgt := 31) dX11_takes_16 (by decide) c3 ?_
  exact gm_vret dX11_takes_31 rfl
/-- X11_takes 0 [6t] -> ret  -/
theorem PX11_takes_7 {a1 : Int32} {a2 : Int32} {a3 : Int32} {a4 : Int32} {S : gm_Mem} {j1 : Nat} (ij1 : gm_ix a1 j1 2) (c2 : ¬ (S 16 j1) < 0) : gm_run gM 1 YX11_takes 0 [some (.ref 0), some (.int a1), some (.int a2), some (.int a3), some (.int a4), none] [] S none S := by
  refine gm_aload_n dX11_takes_0 rfl ?_
  refine gm_getR (own := RX11) (q := 16) rfl dX11_takes_1 lfX11_65 sM_0 rfl ?_
  refine gm_iload_n dX11_takes_4 rfl ?_
  refine gm_iald (j := j1) (x := (S 16 j1)) dX11_takes_5 sM_16 ij1 rfl ?_
  refine gm_if_ge_t (tgt := 31) dX11_takes_6 (by decide) c2 ?_
  exact gm_vret dX11_takes_31 rfl
/-- X11_takes 95 [] -> ret  -/
theorem PX11_takes_8 {x1 : Int32} {x2 : Int32} {x3 : Int32} {x4 : Int32} {x5 : Int32} {s0 : Int32} {s1 : Int32} {S : gm_Mem} {j1 : Nat} (ij1 : gm_ix s1 j1 8) : gm_run gM 1 YX11_takes 95 [some (.ref 0), some (.int x1), some (.int x2), some (.int x3), some (.int x4), some (.int x5)] [.int s0, .int s1, .ref 26] S none (gm_u S 26 j1 s0) := by
  refine gm_iast (j := j1) dX11_takes_95 sM_26 ij1 ?_
  exact gm_vret dX11_takes_96 rfl
/-- X11_takes 120 [128f 137f 171f] -> cut 179 -/
theorem PX11_takes_9 {x1 : Int32} {x2 : Int32} {x3 : Int32} {x4 : Int32} {x5 : Int32} {S : gm_Mem} {j1 : Nat} {j3 : Nat} {r : Option Value} {S2 : gm_Mem} (ij1 : gm_ix x5 j1 8) (c2 : (S 24 j1) = 1) (ij3 : gm_ix x1 j3 2) (c4 : (S 16 j3) < 0) (c5 : (S 26 j1) = 1) (K : gm_run gM 1 YX11_takes 179 [some (.ref 0), some (.int x1), some (.int x2), some (.int x3), some (.int x4), some (.int x5)] [.int 1, .int (S 25 j1), .int (S 13 j3), .int x1, .ref 0] (gm_u S 24 j1 0) r S2) : gm_run gM 1 YX11_takes 120 [some (.ref 0), some (.int x1), some (.int x2), some (.int x3), some (.int x4), some (.int x5)] [] S r S2 := by
  refine gm_aload_n dX11_takes_120 rfl ?_
  refine gm_getR (own := RX11) (q := 24) rfl dX11_takes_121 lfX11_89 sM_0 rfl ?_
  refine gm_iload dX11_takes_124 rfl ?_
  refine gm_iald (j := j1) (x := (S 24 j1)) dX11_takes_126 sM_24 ij1 rfl ?_
  refine gm_iconst (v := 1) dX11_takes_127 (by decide) ?_
  refine gm_icmp_ne_f dX11_takes_128 ⟨199, by decide⟩ c2 ?_
  refine gm_aload_n dX11_takes_131 rfl ?_
  refine gm_getR (own := RX11) (q := 16) rfl dX11_takes_132 lfX11_65 sM_0 rfl ?_
  refine gm_iload_n dX11_takes_135 rfl ?_
  refine gm_iald (j := j3) (x := (S 16 j3)) dX11_takes_136 sM_16 ij3 rfl ?_
  refine gm_if_ge_f dX11_takes_137 ⟨199, by decide⟩ c4 ?_
  refine gm_aload_n dX11_takes_140 rfl ?_
  refine gm_getR (own := RX11) (q := 24) rfl dX11_takes_141 lfX11_89 sM_0 rfl ?_
  refine gm_iload dX11_takes_144 rfl ?_
  refine gm_iconst (v := 0) dX11_takes_146 (by decide) ?_
  refine gm_iast (j := j1) dX11_takes_147 sM_24 ij1 ?_
  refine gm_aload_n dX11_takes_148 rfl ?_
  refine gm_iload_n dX11_takes_149 rfl ?_
  refine gm_aload_n dX11_takes_150 rfl ?_
  refine gm_getR (own := RX11) (q := 13) rfl dX11_takes_151 lfX11_56 sM_0 rfl ?_
  refine gm_iload_n dX11_takes_154 rfl ?_
  refine gm_iald (j := j3) (x := (S 13 j3)) dX11_takes_155 sM_13 ij3 (gm_rp (by omega)) ?_
  refine gm_aload_n dX11_takes_156 rfl ?_
  refine gm_getR (own := RX11) (q := 25) rfl dX11_takes_157 lfX11_92 sM_0 rfl ?_
  refine gm_iload dX11_takes_160 rfl ?_
  refine gm_iald (j := j1) (x := (S 25 j1)) dX11_takes_162 sM_25 ij1 (gm_rp (by omega)) ?_
  refine gm_aload_n dX11_takes_163 rfl ?_
  refine gm_getR (own := RX11) (q := 26) rfl dX11_takes_164 lfX11_95 sM_0 rfl ?_
  refine gm_iload dX11_takes_167 rfl ?_
  refine gm_iald (j := j1) (x := (S 26 j1)) dX11_takes_169 sM_26 ij1 (gm_rp (by omega)) ?_
  refine gm_iconst (v := 1) dX11_takes_170 (by decide) ?_
  refine gm_icmp_ne_f dX11_takes_171 ⟨178, by decide⟩ c5 ?_
  refine gm_iconst (v := 1) dX11_takes_174 (by decide) ?_
  refine gm_goto (tgt := 179) dX11_takes_175 (by decide) ?_
  exact K
/-- X11_takes 120 [128f 137f 171t] -> cut 179 -/
theorem PX11_takes_10 {x1 : Int32} {x2 : Int32} {x3 : Int32} {x4 : Int32} {x5 : Int32} {S : gm_Mem} {j1 : Nat} {j3 : Nat} {r : Option Value} {S2 : gm_Mem} (ij1 : gm_ix x5 j1 8) (c2 : (S 24 j1) = 1) (ij3 : gm_ix x1 j3 2) (c4 : (S 16 j3) < 0) (c5 : ¬ (S 26 j1) = 1) (K : gm_run gM 1 YX11_takes 179 [some (.ref 0), some (.int x1), some (.int x2), some (.int x3), some (.int x4), some (.int x5)] [.int 0, .int (S 25 j1), .int (S 13 j3), .int x1, .ref 0] (gm_u S 24 j1 0) r S2) : gm_run gM 1 YX11_takes 120 [some (.ref 0), some (.int x1), some (.int x2), some (.int x3), some (.int x4), some (.int x5)] [] S r S2 := by
  refine gm_aload_n dX11_takes_120 rfl ?_
  refine gm_getR (own := RX11) (q := 24) rfl dX11_takes_121 lfX11_89 sM_0 rfl ?_
  refine gm_iload dX11_takes_124 rfl ?_
  refine gm_iald (j := j1) (x := (S 24 j1)) dX11_takes_126 sM_24 ij1 rfl ?_
  refine gm_iconst (v := 1) dX11_takes_127 (by decide) ?_
  refine gm_icmp_ne_f dX11_takes_128 ⟨199, by decide⟩ c2 ?_
  refine gm_aload_n dX11_takes_131 rfl ?_
  refine gm_getR (own := RX11) (q := 16) rfl dX11_takes_132 lfX11_65 sM_0 rfl ?_
  refine gm_iload_n dX11_takes_135 rfl ?_
  refine gm_iald (j := j3) (x := (S 16 j3)) dX11_takes_136 sM_16 ij3 rfl ?_
  refine gm_if_ge_f dX11_takes_137 ⟨199, by decide⟩ c4 ?_
  refine gm_aload_n dX11_takes_140 rfl ?_
  refine gm_getR (own := RX11) (q := 24) rfl dX11_takes_141 lfX11_89 sM_0 rfl ?_
  refine gm_iload dX11_takes_144 rfl ?_
  refine gm_iconst (v := 0) dX11_takes_146 (by decide) ?_
  refine gm_iast (j := j1) dX11_takes_147 sM_24 ij1 ?_
  refine gm_aload_n dX11_takes_148 rfl ?_
  refine gm_iload_n dX11_takes_149 rfl ?_
  refine gm_aload_n dX11_takes_150 rfl ?_
  refine gm_getR (own := RX11) (q := 13) rfl dX11_takes_151 lfX11_56 sM_0 rfl ?_
  refine gm_iload_n dX11_takes_154 rfl ?_
  refine gm_iald (j := j3) (x := (S 13 j3)) dX11_takes_155 sM_13 ij3 (gm_rp (by omega)) ?_
  refine gm_aload_n dX11_takes_156 rfl ?_
  refine gm_getR (own := RX11) (q := 25) rfl dX11_takes_157 lfX11_92 sM_0 rfl ?_
  refine gm_iload dX11_takes_160 rfl ?_
  refine gm_iald (j := j1) (x := (S 25 j1)) dX11_takes_162 sM_25 ij1 (gm_rp (by omega)) ?_
  refine gm_aload_n dX11_takes_163 rfl ?_
  refine gm_getR (own := RX11) (q := 26) rfl dX11_takes_164 lfX11_95 sM_0 rfl ?_
  refine gm_iload dX11_takes_167 rfl ?_
  refine gm_iald (j := j1) (x := (S 26 j1)) dX11_takes_169 sM_26 ij1 (gm_rp (by omega)) ?_
  refine gm_iconst (v := 1) dX11_takes_170 (by decide) ?_
  refine gm_icmp_ne_t (tgt := 178) dX11_takes_171 (by decide) c5 ?_
  refine gm_iconst (v := 0) dX11_takes_178 (by decide) ?_
  exact K
/-- X11_takes 120 [128f 137t] -> ret  -/
theorem PX11_takes_11 {x1 : Int32} {x2 : Int32} {x3 : Int32} {x4 : Int32} {x5 : Int32} {S : gm_Mem} {j1 : Nat} {j3 : Nat} (ij1 : gm_ix x5 j1 8) (c2 : (S 24 j1) = 1) (ij3 : gm_ix x1 j3 2) (c4 : ¬ (S 16 j3) < 0) : gm_run gM 1 YX11_takes 120 [some (.ref 0), some (.int x1), some (.int x2), some (.int x3), some (.int x4), some (.int x5)] [] S none S := by
  refine gm_aload_n dX11_takes_120 rfl ?_
  refine gm_getR (own := RX11) (q := 24) rfl dX11_takes_121 lfX11_89 sM_0 rfl ?_
  refine gm_iload dX11_takes_124 rfl ?_
  refine gm_iald (j := j1) (x := (S 24 j1)) dX11_takes_126 sM_24 ij1 rfl ?_
  refine gm_iconst (v := 1) dX11_takes_127 (by decide) ?_
  refine gm_icmp_ne_f dX11_takes_128 ⟨199, by decide⟩ c2 ?_
  refine gm_aload_n dX11_takes_131 rfl ?_
  refine gm_getR (own := RX11) (q := 16) rfl dX11_takes_132 lfX11_65 sM_0 rfl ?_
  refine gm_iload_n dX11_takes_135 rfl ?_
  refine gm_iald (j := j3) (x := (S 16 j3)) dX11_takes_136 sM_16 ij3 rfl ?_
  refine gm_if_ge_t (tgt := 199) dX11_takes_137 (by decide) c4 ?_
  exact gm_vret dX11_takes_199 rfl
/-- X11_takes 120 [128t] -> ret  -/
theorem PX11_takes_12 {x1 : Int32} {x2 : Int32} {x3 : Int32} {x4 : Int32} {x5 : Int32} {S : gm_Mem} {j1 : Nat} (ij1 : gm_ix x5 j1 8) (c2 : ¬ (S 24 j1) = 1) : gm_run gM 1 YX11_takes 120 [some (.ref 0), some (.int x1), some (.int x2), some (.int x3), some (.int x4), some (.int x5)] [] S none S := by
  refine gm_aload_n dX11_takes_120 rfl ?_
  refine gm_getR (own := RX11) (q := 24) rfl dX11_takes_121 lfX11_89 sM_0 rfl ?_
  refine gm_iload dX11_takes_124 rfl ?_
  refine gm_iald (j := j1) (x := (S 24 j1)) dX11_takes_126 sM_24 ij1 rfl ?_
  refine gm_iconst (v := 1) dX11_takes_127 (by decide) ?_
  refine gm_icmp_ne_t (tgt := 199) dX11_takes_128 (by decide) c2 ?_
  exact gm_vret dX11_takes_199 rfl
/-- X11_takes 179 [] -> cut 120 -/
theorem PX11_takes_13 {x1 : Int32} {x2 : Int32} {x3 : Int32} {x4 : Int32} {x5 : Int32} {s0 : Int32} {s1 : Int32} {s2 : Int32} {s3 : Int32} {S : gm_Mem} {T1 : gm_Mem} {j2 : Nat} {r : Option Value} {S2 : gm_Mem} (h1 : gm_run gM 0 YX11_takesExpected 0 [some (.ref 0), some (.int s3), some (.int s2), some (.int s1), some (.int s0)] [] S none T1) (ij2 : gm_ix x1 j2 2) (K : gm_run gM 1 YX11_takes 120 [some (.ref 0), some (.int x1), some (.int x2), some (.int x3), some (.int x4), some (.int ((4 * x1) + (gm_rem (T1 13 j2) 4)))] [] T1 r S2) : gm_run gM 1 YX11_takes 179 [some (.ref 0), some (.int x1), some (.int x2), some (.int x3), some (.int x4), some (.int x5)] [.int s0, .int s1, .int s2, .int s3, .ref 0] S r S2 := by
  refine gm_callV (r1 := none) (own := RX11) rfl dX11_takes_179 llX11_249 mvX11_takesExpected sM_0 rfl [.int s3, .int s2, .int s1, .int s0] [] rfl rfl (Nat.le_of_ble_eq_true rfl) (by decide) rfl h1 rfl ?_
  refine gm_iconst (v := 4) dX11_takes_182 (by decide) ?_
  refine gm_iload_n dX11_takes_183 rfl ?_
  refine gm_imul dX11_takes_184 rfl ?_
  refine gm_aload_n dX11_takes_185 rfl ?_
  refine gm_getR (own := RX11) (q := 13) rfl dX11_takes_186 lfX11_56 sM_0 rfl ?_
  refine gm_iload_n dX11_takes_189 rfl ?_
  refine gm_iald (j := j2) (x := (T1 13 j2)) dX11_takes_190 sM_13 ij2 rfl ?_
  refine gm_iconst (v := 4) dX11_takes_191 (by decide) ?_
  refine gm_irem (v := (gm_rem (T1 13 j2) 4)) dX11_takes_192 (by decide) rfl ?_
  refine gm_iadd dX11_takes_193 rfl ?_
  refine gm_istore (L' := [some (.ref 0), some (.int x1), some (.int x2), some (.int x3), some (.int x4), some (.int ((4 * x1) + (gm_rem (T1 13 j2) 4)))]) dX11_takes_194 (by decide) rfl ?_
  refine gm_goto (tgt := 120) dX11_takes_196 (by decide) ?_
  exact K
/-- X11_answersHello 0 [20f] -> ret  -/
theorem PX11_answersHello_1 {S : gm_Mem} {T1 : gm_Mem} {r3 : Int32} {r5 : Int32} {r7 : Int32} {r9 : Int32} {T2 : gm_Mem} {T3 : gm_Mem} {T4 : gm_Mem} {r13 : Int32} (c1 : (S 31 6) = (-1)) (h2 : gm_run gM 1 YX11_beginsStream 0 [some (.ref 0), some (.int 1)] [] (gm_u S 2 1 (S 31 2)) none T1) (h4 : gm_run gM 0 YX11_mix 0 [some (.int (T1 31 2)), some (.int (T1 0 4)), none] [] T1 (some (.int r3)) T1) (h6 : gm_run gM 0 YX11_mix 0 [some (.int (T1 31 5)), some (.int r3), none] [] T1 (some (.int r5)) T1) (h8 : gm_run gM 0 YX11_mix 0 [some (.int (T1 31 5)), some (.int r5), none] [] (gm_u T1 3 1 r5) (some (.int r7)) (gm_u T1 3 1 r5)) (h10 : gm_run gM 0 YX11_mix 0 [some (.int r7), some (.int (T1 2 1)), none] [] (gm_u T1 3 1 r5) (some (.int r9)) (gm_u T1 3 1 r5)) (h11 : gm_run gM 1 YX11_becomes 0 [some (.ref 0), some (.int 1), some (.int 2)] [] (gm_u (gm_u T1 3 1 r5) 4 1 r9) none T2) (h12 : gm_run gM 0 YX11_beginsWindows 0 [some (.ref 0), some (.int 1), none] [] T2 none T3) (h14 : gm_run gM 2 YX11_sendsPlain 0 [some (.ref 0), some (.int 1), some (.int 1), some (.int (T3 2 1)), some (.int (T3 3 1)), some (.int 0)] [] T3 (some (.int r13)) T4) : gm_run gM 3 YX11_answersHello 0 [some (.ref 0)] [] S none T4 := by
  refine gm_aload_n dX11_answersHello_0 rfl ?_
  refine gm_getR (own := RX11) (q := 2) rfl dX11_answersHello_1 lfX11_23 sM_0 rfl ?_
  refine gm_iconst (v := 1) dX11_answersHello_4 (by decide) ?_
  refine gm_aload_n dX11_answersHello_5 rfl ?_
  refine gm_getR (own := RX11) (q := 31) rfl dX11_answersHello_6 lfX11_116 sM_0 rfl ?_
  refine gm_iconst (v := 2) dX11_answersHello_9 (by decide) ?_
  refine gm_iald (j := 2) (x := (S 31 2)) dX11_answersHello_10 sM_31 ⟨by decide, by decide⟩ rfl ?_
  refine gm_iast (j := 1) dX11_answersHello_11 sM_2 ⟨by decide, by decide⟩ ?_
  refine gm_aload_n dX11_answersHello_12 rfl ?_
  refine gm_getR (own := RX11) (q := 31) rfl dX11_answersHello_13 lfX11_116 sM_0 rfl ?_
  refine gm_bipush (v := 6) dX11_answersHello_16 (by decide) ?_
  refine gm_iald (j := 6) (x := (S 31 6)) dX11_answersHello_18 sM_31 ⟨by decide, by decide⟩ (gm_rp (by omega)) ?_
  refine gm_iconst (v := (-1)) dX11_answersHello_19 (by decide) ?_
  refine gm_icmp_ne_f dX11_answersHello_20 ⟨31, by decide⟩ c1 ?_
  refine gm_aload_n dX11_answersHello_23 rfl ?_
  refine gm_iconst (v := 1) dX11_answersHello_24 (by decide) ?_
  refine gm_callV (r1 := none) (own := RX11) rfl dX11_answersHello_25 llX11_198 mvX11_beginsStream sM_0 rfl [.int 1] [] rfl rfl (Nat.le_of_ble_eq_true rfl) (by decide) rfl h2 rfl ?_
  refine gm_goto (tgt := 44) dX11_answersHello_28 (by decide) ?_
  refine gm_aload_n dX11_answersHello_44 rfl ?_
  refine gm_getR (own := RX11) (q := 3) rfl dX11_answersHello_45 lfX11_26 sM_0 rfl ?_
  refine gm_iconst (v := 1) dX11_answersHello_48 (by decide) ?_
  refine gm_aload_n dX11_answersHello_49 rfl ?_
  refine gm_getR (own := RX11) (q := 31) rfl dX11_answersHello_50 lfX11_116 sM_0 rfl ?_
  refine gm_iconst (v := 5) dX11_answersHello_53 (by decide) ?_
  refine gm_iald (j := 5) (x := (T1 31 5)) dX11_answersHello_54 sM_31 ⟨by decide, by decide⟩ rfl ?_
  refine gm_aload_n dX11_answersHello_55 rfl ?_
  refine gm_getR (own := RX11) (q := 31) rfl dX11_answersHello_56 lfX11_116 sM_0 rfl ?_
  refine gm_iconst (v := 2) dX11_answersHello_59 (by decide) ?_
  refine gm_iald (j := 2) (x := (T1 31 2)) dX11_answersHello_60 sM_31 ⟨by decide, by decide⟩ rfl ?_
  refine gm_aload_n dX11_answersHello_61 rfl ?_
  refine gm_getI (own := RX11) (x := (T1 0 4)) rfl dX11_answersHello_62 lfX11_179 sM_0 rfl rfl ?_
  refine gm_callS (r1 := (some (.int r3))) (own := RX11) rfl dX11_answersHello_65 llX11_167 msX11_mix [.int (T1 31 2), .int (T1 0 4)] [.int (T1 31 5), .int 1, .ref 3] rfl rfl (Nat.le_of_ble_eq_true rfl) (by decide) rfl h4 rfl ?_
  refine gm_callS (r1 := (some (.int r5))) (own := RX11) rfl dX11_answersHello_68 llX11_167 msX11_mix [.int (T1 31 5), .int r3] [.int 1, .ref 3] rfl rfl (Nat.le_of_ble_eq_true rfl) (by decide) rfl h6 rfl ?_
  refine gm_iast (j := 1) dX11_answersHello_71 sM_3 ⟨by decide, by decide⟩ ?_
  refine gm_aload_n dX11_answersHello_72 rfl ?_
  refine gm_getR (own := RX11) (q := 4) rfl dX11_answersHello_73 lfX11_29 sM_0 rfl ?_
  refine gm_iconst (v := 1) dX11_answersHello_76 (by decide) ?_
  refine gm_aload_n dX11_answersHello_77 rfl ?_
  refine gm_getR (own := RX11) (q := 31) rfl dX11_answersHello_78 lfX11_116 sM_0 rfl ?_
  refine gm_iconst (v := 5) dX11_answersHello_81 (by decide) ?_
  refine gm_iald (j := 5) (x := (T1 31 5)) dX11_answersHello_82 sM_31 ⟨by decide, by decide⟩ (gm_rp (by omega)) ?_
  refine gm_aload_n dX11_answersHello_83 rfl ?_
  refine gm_getR (own := RX11) (q := 3) rfl dX11_answersHello_84 lfX11_26 sM_0 rfl ?_
  refine gm_iconst (v := 1) dX11_answersHello_87 (by decide) ?_
  refine gm_iald (j := 1) (x := r5) dX11_answersHello_88 sM_3 ⟨by decide, by decide⟩ (gm_rS _ _ _ _) ?_
  refine gm_callS (r1 := (some (.int r7))) (own := RX11) rfl dX11_answersHello_89 llX11_167 msX11_mix [.int (T1 31 5), .int r5] [.int 1, .ref 4] rfl rfl (Nat.le_of_ble_eq_true rfl) (by decide) rfl h8 rfl ?_
  refine gm_aload_n dX11_answersHello_92 rfl ?_
  refine gm_getR (own := RX11) (q := 2) rfl dX11_answersHello_93 lfX11_23 sM_0 rfl ?_
  refine gm_iconst (v := 1) dX11_answersHello_96 (by decide) ?_
  refine gm_iald (j := 1) (x := (T1 2 1)) dX11_answersHello_97 sM_2 ⟨by decide, by decide⟩ (gm_rp (by omega)) ?_
  refine gm_callS (r1 := (some (.int r9))) (own := RX11) rfl dX11_answersHello_98 llX11_167 msX11_mix [.int r7, .int (T1 2 1)] [.int 1, .ref 4] rfl rfl (Nat.le_of_ble_eq_true rfl) (by decide) rfl h10 rfl ?_
  refine gm_iast (j := 1) dX11_answersHello_101 sM_4 ⟨by decide, by decide⟩ ?_
  refine gm_aload_n dX11_answersHello_102 rfl ?_
  refine gm_iconst (v := 1) dX11_answersHello_103 (by decide) ?_
  refine gm_iconst (v := 2) dX11_answersHello_104 (by decide) ?_
  refine gm_callV (r1 := none) (own := RX11) rfl dX11_answersHello_105 llX11_185 mvX11_becomes sM_0 rfl [.int 1, .int 2] [] rfl rfl (Nat.le_of_ble_eq_true rfl) (by decide) rfl h11 rfl ?_
  refine gm_aload_n dX11_answersHello_108 rfl ?_
  refine gm_iconst (v := 1) dX11_answersHello_109 (by decide) ?_
  refine gm_callV (r1 := none) (own := RX11) rfl dX11_answersHello_110 llX11_253 mvX11_beginsWindows sM_0 rfl [.int 1] [] rfl rfl (Nat.le_of_ble_eq_true rfl) (by decide) rfl h12 rfl ?_
  refine gm_aload_n dX11_answersHello_113 rfl ?_
  refine gm_iconst (v := 1) dX11_answersHello_114 (by decide) ?_
  refine gm_iconst (v := 1) dX11_answersHello_115 (by decide) ?_
  refine gm_aload_n dX11_answersHello_116 rfl ?_
  refine gm_getR (own := RX11) (q := 2) rfl dX11_answersHello_117 lfX11_23 sM_0 rfl ?_
  refine gm_iconst (v := 1) dX11_answersHello_120 (by decide) ?_
  refine gm_iald (j := 1) (x := (T3 2 1)) dX11_answersHello_121 sM_2 ⟨by decide, by decide⟩ rfl ?_
  refine gm_aload_n dX11_answersHello_122 rfl ?_
  refine gm_getR (own := RX11) (q := 3) rfl dX11_answersHello_123 lfX11_26 sM_0 rfl ?_
  refine gm_iconst (v := 1) dX11_answersHello_126 (by decide) ?_
  refine gm_iald (j := 1) (x := (T3 3 1)) dX11_answersHello_127 sM_3 ⟨by decide, by decide⟩ rfl ?_
  refine gm_iconst (v := 0) dX11_answersHello_128 (by decide) ?_
  refine gm_callV (r1 := (some (.int r13))) (own := RX11) rfl dX11_answersHello_129 llX11_189 mvX11_sendsPlain sM_0 rfl [.int 1, .int 1, .int (T3 2 1), .int (T3 3 1), .int 0] [] rfl rfl (Nat.le_of_ble_eq_true rfl) (by decide) rfl h14 rfl ?_
  refine gm_pop dX11_answersHello_132 ?_
  exact gm_vret dX11_answersHello_133 rfl
/-- X11_answersHello 0 [20t] -> ret  -/
theorem PX11_answersHello_2 {S : gm_Mem} {j2 : Nat} {r3 : Int32} {r5 : Int32} {r7 : Int32} {r9 : Int32} {T1 : gm_Mem} {T2 : gm_Mem} {T3 : gm_Mem} {r13 : Int32} (c1 : ¬ (S 31 6) = (-1)) (ij2 : gm_ix (S 31 6) j2 16) (h4 : gm_run gM 0 YX11_mix 0 [some (.int (S 31 2)), some (.int (S 0 4)), none] [] (gm_u (gm_u S 2 1 (S 31 2)) 28 j2 1) (some (.int r3)) (gm_u (gm_u S 2 1 (S 31 2)) 28 j2 1)) (h6 : gm_run gM 0 YX11_mix 0 [some (.int (S 31 5)), some (.int r3), none] [] (gm_u (gm_u S 2 1 (S 31 2)) 28 j2 1) (some (.int r5)) (gm_u (gm_u S 2 1 (S 31 2)) 28 j2 1)) (h8 : gm_run gM 0 YX11_mix 0 [some (.int (S 31 5)), some (.int r5), none] [] (gm_u (gm_u (gm_u S 2 1 (S 31 2)) 28 j2 1) 3 1 r5) (some (.int r7)) (gm_u (gm_u (gm_u S 2 1 (S 31 2)) 28 j2 1) 3 1 r5)) (h10 : gm_run gM 0 YX11_mix 0 [some (.int r7), some (.int (S 31 2)), none] [] (gm_u (gm_u (gm_u S 2 1 (S 31 2)) 28 j2 1) 3 1 r5) (some (.int r9)) (gm_u (gm_u (gm_u S 2 1 (S 31 2)) 28 j2 1) 3 1 r5)) (h11 : gm_run gM 1 YX11_becomes 0 [some (.ref 0), some (.int 1), some (.int 2)] [] (gm_u (gm_u (gm_u (gm_u S 2 1 (S 31 2)) 28 j2 1) 3 1 r5) 4 1 r9) none T1) (h12 : gm_run gM 0 YX11_beginsWindows 0 [some (.ref 0), some (.int 1), none] [] T1 none T2) (h14 : gm_run gM 2 YX11_sendsPlain 0 [some (.ref 0), some (.int 1), some (.int 1), some (.int (T2 2 1)), some (.int (T2 3 1)), some (.int 0)] [] T2 (some (.int r13)) T3) : gm_run gM 3 YX11_answersHello 0 [some (.ref 0)] [] S none T3 := by
  refine gm_aload_n dX11_answersHello_0 rfl ?_
  refine gm_getR (own := RX11) (q := 2) rfl dX11_answersHello_1 lfX11_23 sM_0 rfl ?_
  refine gm_iconst (v := 1) dX11_answersHello_4 (by decide) ?_
  refine gm_aload_n dX11_answersHello_5 rfl ?_
  refine gm_getR (own := RX11) (q := 31) rfl dX11_answersHello_6 lfX11_116 sM_0 rfl ?_
  refine gm_iconst (v := 2) dX11_answersHello_9 (by decide) ?_
  refine gm_iald (j := 2) (x := (S 31 2)) dX11_answersHello_10 sM_31 ⟨by decide, by decide⟩ rfl ?_
  refine gm_iast (j := 1) dX11_answersHello_11 sM_2 ⟨by decide, by decide⟩ ?_
  refine gm_aload_n dX11_answersHello_12 rfl ?_
  refine gm_getR (own := RX11) (q := 31) rfl dX11_answersHello_13 lfX11_116 sM_0 rfl ?_
  refine gm_bipush (v := 6) dX11_answersHello_16 (by decide) ?_
  refine gm_iald (j := 6) (x := (S 31 6)) dX11_answersHello_18 sM_31 ⟨by decide, by decide⟩ (gm_rp (by omega)) ?_
  refine gm_iconst (v := (-1)) dX11_answersHello_19 (by decide) ?_
  refine gm_icmp_ne_t (tgt := 31) dX11_answersHello_20 (by decide) c1 ?_
  refine gm_aload_n dX11_answersHello_31 rfl ?_
  refine gm_getR (own := RX11) (q := 28) rfl dX11_answersHello_32 lfX11_107 sM_0 rfl ?_
  refine gm_aload_n dX11_answersHello_35 rfl ?_
  refine gm_getR (own := RX11) (q := 31) rfl dX11_answersHello_36 lfX11_116 sM_0 rfl ?_
  refine gm_bipush (v := 6) dX11_answersHello_39 (by decide) ?_
  refine gm_iald (j := 6) (x := (S 31 6)) dX11_answersHello_41 sM_31 ⟨by decide, by decide⟩ (gm_rp (by omega)) ?_
  refine gm_iconst (v := 1) dX11_answersHello_42 (by decide) ?_
  refine gm_iast (j := j2) dX11_answersHello_43 sM_28 ij2 ?_
  refine gm_aload_n dX11_answersHello_44 rfl ?_
  refine gm_getR (own := RX11) (q := 3) rfl dX11_answersHello_45 lfX11_26 sM_0 rfl ?_
  refine gm_iconst (v := 1) dX11_answersHello_48 (by decide) ?_
  refine gm_aload_n dX11_answersHello_49 rfl ?_
  refine gm_getR (own := RX11) (q := 31) rfl dX11_answersHello_50 lfX11_116 sM_0 rfl ?_
  refine gm_iconst (v := 5) dX11_answersHello_53 (by decide) ?_
  refine gm_iald (j := 5) (x := (S 31 5)) dX11_answersHello_54 sM_31 ⟨by decide, by decide⟩ ((gm_rp (by omega)).trans (gm_rp (by omega))) ?_
  refine gm_aload_n dX11_answersHello_55 rfl ?_
  refine gm_getR (own := RX11) (q := 31) rfl dX11_answersHello_56 lfX11_116 sM_0 rfl ?_
  refine gm_iconst (v := 2) dX11_answersHello_59 (by decide) ?_
  refine gm_iald (j := 2) (x := (S 31 2)) dX11_answersHello_60 sM_31 ⟨by decide, by decide⟩ ((gm_rp (by omega)).trans (gm_rp (by omega))) ?_
  refine gm_aload_n dX11_answersHello_61 rfl ?_
  refine gm_getI (own := RX11) (x := (S 0 4)) rfl dX11_answersHello_62 lfX11_179 sM_0 rfl ((gm_rp (by omega)).trans (gm_rp (by omega))) ?_
  refine gm_callS (r1 := (some (.int r3))) (own := RX11) rfl dX11_answersHello_65 llX11_167 msX11_mix [.int (S 31 2), .int (S 0 4)] [.int (S 31 5), .int 1, .ref 3] rfl rfl (Nat.le_of_ble_eq_true rfl) (by decide) rfl h4 rfl ?_
  refine gm_callS (r1 := (some (.int r5))) (own := RX11) rfl dX11_answersHello_68 llX11_167 msX11_mix [.int (S 31 5), .int r3] [.int 1, .ref 3] rfl rfl (Nat.le_of_ble_eq_true rfl) (by decide) rfl h6 rfl ?_
  refine gm_iast (j := 1) dX11_answersHello_71 sM_3 ⟨by decide, by decide⟩ ?_
  refine gm_aload_n dX11_answersHello_72 rfl ?_
  refine gm_getR (own := RX11) (q := 4) rfl dX11_answersHello_73 lfX11_29 sM_0 rfl ?_
  refine gm_iconst (v := 1) dX11_answersHello_76 (by decide) ?_
  refine gm_aload_n dX11_answersHello_77 rfl ?_
  refine gm_getR (own := RX11) (q := 31) rfl dX11_answersHello_78 lfX11_116 sM_0 rfl ?_
  refine gm_iconst (v := 5) dX11_answersHello_81 (by decide) ?_
  refine gm_iald (j := 5) (x := (S 31 5)) dX11_answersHello_82 sM_31 ⟨by decide, by decide⟩ ((gm_rp (by omega)).trans ((gm_rp (by omega)).trans (gm_rp (by omega)))) ?_
  refine gm_aload_n dX11_answersHello_83 rfl ?_
  refine gm_getR (own := RX11) (q := 3) rfl dX11_answersHello_84 lfX11_26 sM_0 rfl ?_
  refine gm_iconst (v := 1) dX11_answersHello_87 (by decide) ?_
  refine gm_iald (j := 1) (x := r5) dX11_answersHello_88 sM_3 ⟨by decide, by decide⟩ (gm_rS _ _ _ _) ?_
  refine gm_callS (r1 := (some (.int r7))) (own := RX11) rfl dX11_answersHello_89 llX11_167 msX11_mix [.int (S 31 5), .int r5] [.int 1, .ref 4] rfl rfl (Nat.le_of_ble_eq_true rfl) (by decide) rfl h8 rfl ?_
  refine gm_aload_n dX11_answersHello_92 rfl ?_
  refine gm_getR (own := RX11) (q := 2) rfl dX11_answersHello_93 lfX11_23 sM_0 rfl ?_
  refine gm_iconst (v := 1) dX11_answersHello_96 (by decide) ?_
  refine gm_iald (j := 1) (x := (S 31 2)) dX11_answersHello_97 sM_2 ⟨by decide, by decide⟩ ((gm_rp (by omega)).trans ((gm_rp (by omega)).trans (gm_rS _ _ _ _))) ?_
  refine gm_callS (r1 := (some (.int r9))) (own := RX11) rfl dX11_answersHello_98 llX11_167 msX11_mix [.int r7, .int (S 31 2)] [.int 1, .ref 4] rfl rfl (Nat.le_of_ble_eq_true rfl) (by decide) rfl h10 rfl ?_
  refine gm_iast (j := 1) dX11_answersHello_101 sM_4 ⟨by decide, by decide⟩ ?_
  refine gm_aload_n dX11_answersHello_102 rfl ?_
  refine gm_iconst (v := 1) dX11_answersHello_103 (by decide) ?_
  refine gm_iconst (v := 2) dX11_answersHello_104 (by decide) ?_
  refine gm_callV (r1 := none) (own := RX11) rfl dX11_answersHello_105 llX11_185 mvX11_becomes sM_0 rfl [.int 1, .int 2] [] rfl rfl (Nat.le_of_ble_eq_true rfl) (by decide) rfl h11 rfl ?_
  refine gm_aload_n dX11_answersHello_108 rfl ?_
  refine gm_iconst (v := 1) dX11_answersHello_109 (by decide) ?_
  refine gm_callV (r1 := none) (own := RX11) rfl dX11_answersHello_110 llX11_253 mvX11_beginsWindows sM_0 rfl [.int 1] [] rfl rfl (Nat.le_of_ble_eq_true rfl) (by decide) rfl h12 rfl ?_
  refine gm_aload_n dX11_answersHello_113 rfl ?_
  refine gm_iconst (v := 1) dX11_answersHello_114 (by decide) ?_
  refine gm_iconst (v := 1) dX11_answersHello_115 (by decide) ?_
  refine gm_aload_n dX11_answersHello_116 rfl ?_
  refine gm_getR (own := RX11) (q := 2) rfl dX11_answersHello_117 lfX11_23 sM_0 rfl ?_
  refine gm_iconst (v := 1) dX11_answersHello_120 (by decide) ?_
  refine gm_iald (j := 1) (x := (T2 2 1)) dX11_answersHello_121 sM_2 ⟨by decide, by decide⟩ rfl ?_
  refine gm_aload_n dX11_answersHello_122 rfl ?_
  refine gm_getR (own := RX11) (q := 3) rfl dX11_answersHello_123 lfX11_26 sM_0 rfl ?_
  refine gm_iconst (v := 1) dX11_answersHello_126 (by decide) ?_
  refine gm_iald (j := 1) (x := (T2 3 1)) dX11_answersHello_127 sM_3 ⟨by decide, by decide⟩ rfl ?_
  refine gm_iconst (v := 0) dX11_answersHello_128 (by decide) ?_
  refine gm_callV (r1 := (some (.int r13))) (own := RX11) rfl dX11_answersHello_129 llX11_189 mvX11_sendsPlain sM_0 rfl [.int 1, .int 1, .int (T2 2 1), .int (T2 3 1), .int 0] [] rfl rfl (Nat.le_of_ble_eq_true rfl) (by decide) rfl h14 rfl ?_
  refine gm_pop dX11_answersHello_132 ?_
  exact gm_vret dX11_answersHello_133 rfl
/-- X11_hasReply 0 [] -> ret  -/
theorem PX11_hasReply_1 {S : gm_Mem} {T1 : gm_Mem} {r2 : Int32} {r4 : Int32} {T2 : gm_Mem} {T3 : gm_Mem} {r7 : Int32} {T4 : gm_Mem} (h1 : gm_run gM 1 YX11_becomes 0 [some (.ref 0), some (.int 0), some (.int 3)] [] S none T1) (h3 : gm_run gM 0 YX11_mix 0 [some (.int (T1 3 0)), some (.int (T1 31 5)), none] [] T1 (some (.int r2)) T1) (h5 : gm_run gM 0 YX11_mix 0 [some (.int r2), some (.int (T1 2 0)), none] [] T1 (some (.int r4)) T1) (h6 : gm_run gM 0 YX11_beginsWindows 0 [some (.ref 0), some (.int 0), none] [] (gm_u T1 4 0 r4) none T2) (h8 : gm_run gM 2 YX11_sendsProtected 0 [some (.ref 0), some (.int 0), some (.int 3), some (.int 0), some (.int 0)] [] T2 (some (.int r7)) T3) (h9 : gm_run gM 3 YX11_sendsDue 0 [some (.ref 0), some (.int 0), none, none] [] T3 none T4) : gm_run gM 4 YX11_hasReply 0 [some (.ref 0)] [] S none T4 := by
  refine gm_aload_n dX11_hasReply_0 rfl ?_
  refine gm_iconst (v := 0) dX11_hasReply_1 (by decide) ?_
  refine gm_iconst (v := 3) dX11_hasReply_2 (by decide) ?_
  refine gm_callV (r1 := none) (own := RX11) rfl dX11_hasReply_3 llX11_185 mvX11_becomes sM_0 rfl [.int 0, .int 3] [] rfl rfl (Nat.le_of_ble_eq_true rfl) (by decide) rfl h1 rfl ?_
  refine gm_aload_n dX11_hasReply_6 rfl ?_
  refine gm_getR (own := RX11) (q := 4) rfl dX11_hasReply_7 lfX11_29 sM_0 rfl ?_
  refine gm_iconst (v := 0) dX11_hasReply_10 (by decide) ?_
  refine gm_aload_n dX11_hasReply_11 rfl ?_
  refine gm_getR (own := RX11) (q := 3) rfl dX11_hasReply_12 lfX11_26 sM_0 rfl ?_
  refine gm_iconst (v := 0) dX11_hasReply_15 (by decide) ?_
  refine gm_iald (j := 0) (x := (T1 3 0)) dX11_hasReply_16 sM_3 ⟨by decide, by decide⟩ rfl ?_
  refine gm_aload_n dX11_hasReply_17 rfl ?_
  refine gm_getR (own := RX11) (q := 31) rfl dX11_hasReply_18 lfX11_116 sM_0 rfl ?_
  refine gm_iconst (v := 5) dX11_hasReply_21 (by decide) ?_
  refine gm_iald (j := 5) (x := (T1 31 5)) dX11_hasReply_22 sM_31 ⟨by decide, by decide⟩ rfl ?_
  refine gm_callS (r1 := (some (.int r2))) (own := RX11) rfl dX11_hasReply_23 llX11_167 msX11_mix [.int (T1 3 0), .int (T1 31 5)] [.int 0, .ref 4] rfl rfl (Nat.le_of_ble_eq_true rfl) (by decide) rfl h3 rfl ?_
  refine gm_aload_n dX11_hasReply_26 rfl ?_
  refine gm_getR (own := RX11) (q := 2) rfl dX11_hasReply_27 lfX11_23 sM_0 rfl ?_
  refine gm_iconst (v := 0) dX11_hasReply_30 (by decide) ?_
  refine gm_iald (j := 0) (x := (T1 2 0)) dX11_hasReply_31 sM_2 ⟨by decide, by decide⟩ rfl ?_
  refine gm_callS (r1 := (some (.int r4))) (own := RX11) rfl dX11_hasReply_32 llX11_167 msX11_mix [.int r2, .int (T1 2 0)] [.int 0, .ref 4] rfl rfl (Nat.le_of_ble_eq_true rfl) (by decide) rfl h5 rfl ?_
  refine gm_iast (j := 0) dX11_hasReply_35 sM_4 ⟨by decide, by decide⟩ ?_
  refine gm_aload_n dX11_hasReply_36 rfl ?_
  refine gm_iconst (v := 0) dX11_hasReply_37 (by decide) ?_
  refine gm_callV (r1 := none) (own := RX11) rfl dX11_hasReply_38 llX11_253 mvX11_beginsWindows sM_0 rfl [.int 0] [] rfl rfl (Nat.le_of_ble_eq_true rfl) (by decide) rfl h6 rfl ?_
  refine gm_aload_n dX11_hasReply_41 rfl ?_
  refine gm_iconst (v := 0) dX11_hasReply_42 (by decide) ?_
  refine gm_iconst (v := 3) dX11_hasReply_43 (by decide) ?_
  refine gm_iconst (v := 0) dX11_hasReply_44 (by decide) ?_
  refine gm_iconst (v := 0) dX11_hasReply_45 (by decide) ?_
  refine gm_callV (r1 := (some (.int r7))) (own := RX11) rfl dX11_hasReply_46 llX11_175 mvX11_sendsProtected sM_0 rfl [.int 0, .int 3, .int 0, .int 0] [] rfl rfl (Nat.le_of_ble_eq_true rfl) (by decide) rfl h8 rfl ?_
  refine gm_pop dX11_hasReply_49 ?_
  refine gm_aload_n dX11_hasReply_50 rfl ?_
  refine gm_iconst (v := 0) dX11_hasReply_51 (by decide) ?_
  refine gm_callV (r1 := none) (own := RX11) rfl dX11_hasReply_52 llX11_208 mvX11_sendsDue sM_0 rfl [.int 0] [] rfl rfl (Nat.le_of_ble_eq_true rfl) (by decide) rfl h9 rfl ?_
  exact gm_vret dX11_hasReply_55 rfl
/-- X11_issues 0 [12f] -> ret  -/
theorem PX11_issues_1 {S : gm_Mem} {T1 : gm_Mem} (h1 : gm_run gM 1 YX11_becomes 0 [some (.ref 0), some (.int 1), some (.int 3)] [] S none T1) (c2 : (T1 0 38) = 16) : gm_run gM 3 YX11_issues 0 [some (.ref 0)] [] S none T1 := by
  refine gm_aload_n dX11_issues_0 rfl ?_
  refine gm_iconst (v := 1) dX11_issues_1 (by decide) ?_
  refine gm_iconst (v := 3) dX11_issues_2 (by decide) ?_
  refine gm_callV (r1 := none) (own := RX11) rfl dX11_issues_3 llX11_185 mvX11_becomes sM_0 rfl [.int 1, .int 3] [] rfl rfl (Nat.le_of_ble_eq_true rfl) (by decide) rfl h1 rfl ?_
  refine gm_aload_n dX11_issues_6 rfl ?_
  refine gm_getI (own := RX11) (x := (T1 0 38)) rfl dX11_issues_7 lfX11_223 sM_0 rfl rfl ?_
  refine gm_bipush (v := 16) dX11_issues_10 (by decide) ?_
  refine gm_icmp_ne_f dX11_issues_12 ⟨16, by decide⟩ c2 ?_
  exact gm_vret dX11_issues_15 rfl
/-- X11_issues 0 [12t] -> ret  -/
theorem PX11_issues_2 {S : gm_Mem} {T1 : gm_Mem} {j3 : Nat} {T2 : gm_Mem} {r4 : Int32} (h1 : gm_run gM 1 YX11_becomes 0 [some (.ref 0), some (.int 1), some (.int 3)] [] S none T1) (c2 : ¬ (T1 0 38) = 16) (ij3 : gm_ix (T1 0 38) j3 16) (h5 : gm_run gM 2 YX11_sendsProtected 0 [some (.ref 0), some (.int 1), some (.int 6), some (.int (((T1 0 38) + 1) - 1)), some (.int 0)] [] (gm_u (gm_u (gm_u T1 27 j3 (T1 0 4)) 28 j3 0) 0 38 ((T1 0 38) + 1)) (some (.int r4)) T2) : gm_run gM 3 YX11_issues 0 [some (.ref 0)] [] S none T2 := by
  refine gm_aload_n dX11_issues_0 rfl ?_
  refine gm_iconst (v := 1) dX11_issues_1 (by decide) ?_
  refine gm_iconst (v := 3) dX11_issues_2 (by decide) ?_
  refine gm_callV (r1 := none) (own := RX11) rfl dX11_issues_3 llX11_185 mvX11_becomes sM_0 rfl [.int 1, .int 3] [] rfl rfl (Nat.le_of_ble_eq_true rfl) (by decide) rfl h1 rfl ?_
  refine gm_aload_n dX11_issues_6 rfl ?_
  refine gm_getI (own := RX11) (x := (T1 0 38)) rfl dX11_issues_7 lfX11_223 sM_0 rfl rfl ?_
  refine gm_bipush (v := 16) dX11_issues_10 (by decide) ?_
  refine gm_icmp_ne_t (tgt := 16) dX11_issues_12 (by decide) c2 ?_
  refine gm_aload_n dX11_issues_16 rfl ?_
  refine gm_getR (own := RX11) (q := 27) rfl dX11_issues_17 lfX11_104 sM_0 rfl ?_
  refine gm_aload_n dX11_issues_20 rfl ?_
  refine gm_getI (own := RX11) (x := (T1 0 38)) rfl dX11_issues_21 lfX11_223 sM_0 rfl rfl ?_
  refine gm_aload_n dX11_issues_24 rfl ?_
  refine gm_getI (own := RX11) (x := (T1 0 4)) rfl dX11_issues_25 lfX11_179 sM_0 rfl rfl ?_
  refine gm_iast (j := j3) dX11_issues_28 sM_27 ij3 ?_
  refine gm_aload_n dX11_issues_29 rfl ?_
  refine gm_getR (own := RX11) (q := 28) rfl dX11_issues_30 lfX11_107 sM_0 rfl ?_
  refine gm_aload_n dX11_issues_33 rfl ?_
  refine gm_getI (own := RX11) (x := (T1 0 38)) rfl dX11_issues_34 lfX11_223 sM_0 rfl (gm_rp (by omega)) ?_
  refine gm_iconst (v := 0) dX11_issues_37 (by decide) ?_
  refine gm_iast (j := j3) dX11_issues_38 sM_28 ij3 ?_
  refine gm_aload_n dX11_issues_39 rfl ?_
  refine gm_dup dX11_issues_40 ?_
  refine gm_getI (own := RX11) (x := (T1 0 38)) rfl dX11_issues_41 lfX11_223 sM_0 rfl ((gm_rp (by omega)).trans (gm_rp (by omega))) ?_
  refine gm_iconst (v := 1) dX11_issues_44 (by decide) ?_
  refine gm_iadd dX11_issues_45 rfl ?_
  refine gm_put (own := RX11) rfl dX11_issues_46 lfX11_223 sM_0 rfl (gm_fit_int _) ?_
  refine gm_aload_n dX11_issues_49 rfl ?_
  refine gm_iconst (v := 1) dX11_issues_50 (by decide) ?_
  refine gm_bipush (v := 6) dX11_issues_51 (by decide) ?_
  refine gm_aload_n dX11_issues_53 rfl ?_
  refine gm_getI (own := RX11) (x := ((T1 0 38) + 1)) rfl dX11_issues_54 lfX11_223 sM_0 rfl (gm_rS _ _ _ _) ?_
  refine gm_iconst (v := 1) dX11_issues_57 (by decide) ?_
  refine gm_isub dX11_issues_58 rfl ?_
  refine gm_iconst (v := 0) dX11_issues_59 (by decide) ?_
  refine gm_callV (r1 := (some (.int r4))) (own := RX11) rfl dX11_issues_60 llX11_175 mvX11_sendsProtected sM_0 rfl [.int 1, .int 6, .int (((T1 0 38) + 1) - 1), .int 0] [] rfl rfl (Nat.le_of_ble_eq_true rfl) (by decide) rfl h5 rfl ?_
  refine gm_pop dX11_issues_63 ?_
  exact gm_vret dX11_issues_64 rfl
