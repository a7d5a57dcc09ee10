/-- X11_hasProtected 0 [31f] -> cut 38 -/
theorem PX11_hasProtected_1 {a1 : Int32} {S : gm_Mem} {T1 : gm_Mem} {j2 : Nat} {T2 : gm_Mem} {r : Option Value} {S2 : gm_Mem} (h1 : gm_run gM 1 YX11_enters 0 [some (.ref 0), some (.int a1), some (.int (S 31 3)), some (.int (S 31 4))] [] S none T1) (ij2 : gm_ix a1 j2 2) (c3 : (T1 1 j2) = 2) (h4 : gm_run gM 3 YX11_issues 0 [some (.ref 0)] [] T1 none T2) (K : gm_run gM 4 YX11_hasProtected 38 [some (.ref 0), some (.int a1), some (.int (S 31 1)), none] [] T2 r S2) : gm_run gM 4 YX11_hasProtected 0 [some (.ref 0), some (.int a1), none, none] [] S r S2 := by
  refine gm_aload_n dX11_hasProtected_0 rfl ?_
  refine gm_getR (own := RX11) (q := 31) rfl dX11_hasProtected_1 lfX11_116 sM_0 rfl ?_
  refine gm_iconst (v := 1) dX11_hasProtected_4 (by decide) ?_
  refine gm_iald (j := 1) (x := (S 31 1)) dX11_hasProtected_5 sM_31 ⟨by decide, by decide⟩ rfl ?_
  refine gm_istore_n (L' := [some (.ref 0), some (.int a1), some (.int (S 31 1)), none]) dX11_hasProtected_6 (by decide) rfl ?_
  refine gm_aload_n dX11_hasProtected_7 rfl ?_
  refine gm_iload_n dX11_hasProtected_8 rfl ?_
  refine gm_aload_n dX11_hasProtected_9 rfl ?_
  refine gm_getR (own := RX11) (q := 31) rfl dX11_hasProtected_10 lfX11_116 sM_0 rfl ?_
  refine gm_iconst (v := 3) dX11_hasProtected_13 (by decide) ?_
  refine gm_iald (j := 3) (x := (S 31 3)) dX11_hasProtected_14 sM_31 ⟨by decide, by decide⟩ rfl ?_
  refine gm_aload_n dX11_hasProtected_15 rfl ?_
  refine gm_getR (own := RX11) (q := 31) rfl dX11_hasProtected_16 lfX11_116 sM_0 rfl ?_
  refine gm_iconst (v := 4) dX11_hasProtected_19 (by decide) ?_
  refine gm_iald (j := 4) (x := (S 31 4)) dX11_hasProtected_20 sM_31 ⟨by decide, by decide⟩ rfl ?_
  refine gm_callV (r1 := none) (own := RX11) rfl dX11_hasProtected_21 llX11_256 mvX11_enters sM_0 rfl [.int a1, .int (S 31 3), .int (S 31 4)] [] rfl rfl (Nat.le_of_ble_eq_true rfl) (by decide) rfl h1 rfl ?_
  refine gm_aload_n dX11_hasProtected_24 rfl ?_
  refine gm_getR (own := RX11) (q := 1) rfl dX11_hasProtected_25 lfX11_19 sM_0 rfl ?_
  refine gm_iload_n dX11_hasProtected_28 rfl ?_
  refine gm_iald (j := j2) (x := (T1 1 j2)) dX11_hasProtected_29 sM_1 ij2 rfl ?_
  refine gm_iconst (v := 2) dX11_hasProtected_30 (by decide) ?_
  refine gm_icmp_ne_f dX11_hasProtected_31 ⟨38, by decide⟩ c3 ?_
  refine gm_aload_n dX11_hasProtected_34 rfl ?_
  refine gm_callV (r1 := none) (own := RX11) rfl dX11_hasProtected_35 llX11_259 mvX11_issues sM_0 rfl [] [] rfl rfl (Nat.le_of_ble_eq_true rfl) (by decide) rfl h4 rfl ?_
  exact K
/-- X11_hasProtected 0 [31t] -> cut 38 -/
theorem PX11_hasProtected_2 {a1 : Int32} {S : gm_Mem} {T1 : gm_Mem} {j2 : Nat} {r : Option Value} {S2 : gm_Mem} (h1 : gm_run gM 1 YX11_enters 0 [some (.ref 0), some (.int a1), some (.int (S 31 3)), some (.int (S 31 4))] [] S none T1) (ij2 : gm_ix a1 j2 2) (c3 : ¬ (T1 1 j2) = 2) (K : gm_run gM 4 YX11_hasProtected 38 [some (.ref 0), some (.int a1), some (.int (S 31 1)), none] [] T1 r S2) : gm_run gM 4 YX11_hasProtected 0 [some (.ref 0), some (.int a1), none, none] [] S r S2 := by
  refine gm_aload_n dX11_hasProtected_0 rfl ?_
  refine gm_getR (own := RX11) (q := 31) rfl dX11_hasProtected_1 lfX11_116 sM_0 rfl ?_
  refine gm_iconst (v := 1) dX11_hasProtected_4 (by decide) ?_
  refine gm_iald (j := 1) (x := (S 31 1)) dX11_hasProtected_5 sM_31 ⟨by decide, by decide⟩ rfl ?_
  refine gm_istore_n (L' := [some (.ref 0), some (.int a1), some (.int (S 31 1)), none]) dX11_hasProtected_6 (by decide) rfl ?_
  refine gm_aload_n dX11_hasProtected_7 rfl ?_
  refine gm_iload_n dX11_hasProtected_8 rfl ?_
  refine gm_aload_n dX11_hasProtected_9 rfl ?_
  refine gm_getR (own := RX11) (q := 31) rfl dX11_hasProtected_10 lfX11_116 sM_0 rfl ?_
  refine gm_iconst (v := 3) dX11_hasProtected_13 (by decide) ?_
  refine gm_iald (j := 3) (x := (S 31 3)) dX11_hasProtected_14 sM_31 ⟨by decide, by decide⟩ rfl ?_
  refine gm_aload_n dX11_hasProtected_15 rfl ?_
  refine gm_getR (own := RX11) (q := 31) rfl dX11_hasProtected_16 lfX11_116 sM_0 rfl ?_
  refine gm_iconst (v := 4) dX11_hasProtected_19 (by decide) ?_
  refine gm_iald (j := 4) (x := (S 31 4)) dX11_hasProtected_20 sM_31 ⟨by decide, by decide⟩ rfl ?_
  refine gm_callV (r1 := none) (own := RX11) rfl dX11_hasProtected_21 llX11_256 mvX11_enters sM_0 rfl [.int a1, .int (S 31 3), .int (S 31 4)] [] rfl rfl (Nat.le_of_ble_eq_true rfl) (by decide) rfl h1 rfl ?_
  refine gm_aload_n dX11_hasProtected_24 rfl ?_
  refine gm_getR (own := RX11) (q := 1) rfl dX11_hasProtected_25 lfX11_19 sM_0 rfl ?_
  refine gm_iload_n dX11_hasProtected_28 rfl ?_
  refine gm_iald (j := j2) (x := (T1 1 j2)) dX11_hasProtected_29 sM_1 ij2 rfl ?_
  refine gm_iconst (v := 2) dX11_hasProtected_30 (by decide) ?_
  refine gm_icmp_ne_t (tgt := 38) dX11_hasProtected_31 (by decide) c3 ?_
  exact K
/-- X11_hasProtected 38 [53f] -> cut 66 -/
theorem PX11_hasProtected_3 {x1 : Int32} {x2 : Int32} {S : gm_Mem} {T1 : gm_Mem} {r : Option Value} {S2 : gm_Mem} (h1 : gm_run gM 0 YX11_acknowledges 0 [some (.ref 0), some (.int x1), some (.int (S 31 7)), none, none, none] [] S none T1) (c2 : x2 = 6) (K : gm_run gM 4 YX11_hasProtected 66 [some (.ref 0), some (.int x1), some (.int x2), none] [] (gm_u T1 0 35 (T1 31 5)) r S2) : gm_run gM 4 YX11_hasProtected 38 [some (.ref 0), some (.int x1), some (.int x2), none] [] S r S2 := by
  refine gm_aload_n dX11_hasProtected_38 rfl ?_
  refine gm_iload_n dX11_hasProtected_39 rfl ?_
  refine gm_aload_n dX11_hasProtected_40 rfl ?_
  refine gm_getR (own := RX11) (q := 31) rfl dX11_hasProtected_41 lfX11_116 sM_0 rfl ?_
  refine gm_bipush (v := 7) dX11_hasProtected_44 (by decide) ?_
  refine gm_iald (j := 7) (x := (S 31 7)) dX11_hasProtected_46 sM_31 ⟨by decide, by decide⟩ rfl ?_
  refine gm_callV (r1 := none) (own := RX11) rfl dX11_hasProtected_47 llX11_262 mvX11_acknowledges sM_0 rfl [.int x1, .int (S 31 7)] [] rfl rfl (Nat.le_of_ble_eq_true rfl) (by decide) rfl h1 rfl ?_
  refine gm_iload_n dX11_hasProtected_50 rfl ?_
  refine gm_bipush (v := 6) dX11_hasProtected_51 (by decide) ?_
  refine gm_icmp_ne_f dX11_hasProtected_53 ⟨66, by decide⟩ c2 ?_
  refine gm_aload_n dX11_hasProtected_56 rfl ?_
  refine gm_aload_n dX11_hasProtected_57 rfl ?_
  refine gm_getR (own := RX11) (q := 31) rfl dX11_hasProtected_58 lfX11_116 sM_0 rfl ?_
  refine gm_iconst (v := 5) dX11_hasProtected_61 (by decide) ?_
  refine gm_iald (j := 5) (x := (T1 31 5)) dX11_hasProtected_62 sM_31 ⟨by decide, by decide⟩ rfl ?_
  refine gm_put (own := RX11) rfl dX11_hasProtected_63 lfX11_98 sM_0 rfl (gm_fit_int _) ?_
  exact K
/-- X11_hasProtected 38 [53t] -> cut 66 -/
theorem PX11_hasProtected_4 {x1 : Int32} {x2 : Int32} {S : gm_Mem} {T1 : gm_Mem} {r : Option Value} {S2 : gm_Mem} (h1 : gm_run gM 0 YX11_acknowledges 0 [some (.ref 0), some (.int x1), some (.int (S 31 7)), none, none, none] [] S none T1) (c2 : ¬ x2 = 6) (K : gm_run gM 4 YX11_hasProtected 66 [some (.ref 0), some (.int x1), some (.int x2), none] [] T1 r S2) : gm_run gM 4 YX11_hasProtected 38 [some (.ref 0), some (.int x1), some (.int x2), none] [] S r S2 := by
  refine gm_aload_n dX11_hasProtected_38 rfl ?_
  refine gm_iload_n dX11_hasProtected_39 rfl ?_
  refine gm_aload_n dX11_hasProtected_40 rfl ?_
  refine gm_getR (own := RX11) (q := 31) rfl dX11_hasProtected_41 lfX11_116 sM_0 rfl ?_
  refine gm_bipush (v := 7) dX11_hasProtected_44 (by decide) ?_
  refine gm_iald (j := 7) (x := (S 31 7)) dX11_hasProtected_46 sM_31 ⟨by decide, by decide⟩ rfl ?_
  refine gm_callV (r1 := none) (own := RX11) rfl dX11_hasProtected_47 llX11_262 mvX11_acknowledges sM_0 rfl [.int x1, .int (S 31 7)] [] rfl rfl (Nat.le_of_ble_eq_true rfl) (by decide) rfl h1 rfl ?_
  refine gm_iload_n dX11_hasProtected_50 rfl ?_
  refine gm_bipush (v := 6) dX11_hasProtected_51 (by decide) ?_
  refine gm_icmp_ne_t (tgt := 66) dX11_hasProtected_53 (by decide) c2 ?_
  exact K
/-- X11_hasProtected 66 [68f 74f] -> cut 77 -/
theorem PX11_hasProtected_5 {x1 : Int32} {x2 : Int32} {S : gm_Mem} {r : Option Value} {S2 : gm_Mem} (c1 : ¬ x2 = 4) (c2 : x2 = 7) (K : gm_run gM 4 YX11_hasProtected 77 [some (.ref 0), some (.int x1), some (.int x2), none] [] S r S2) : gm_run gM 4 YX11_hasProtected 66 [some (.ref 0), some (.int x1), some (.int x2), none] [] S r S2 := by
  refine gm_iload_n dX11_hasProtected_66 rfl ?_
  refine gm_iconst (v := 4) dX11_hasProtected_67 (by decide) ?_
  refine gm_icmp_eq_f dX11_hasProtected_68 ⟨77, by decide⟩ c1 ?_
  refine gm_iload_n dX11_hasProtected_71 rfl ?_
  refine gm_bipush (v := 7) dX11_hasProtected_72 (by decide) ?_
  refine gm_icmp_ne_f dX11_hasProtected_74 ⟨115, by decide⟩ c2 ?_
  exact K
/-- X11_hasProtected 66 [68f 74t] -> cut 115 -/
theorem PX11_hasProtected_6 {x1 : Int32} {x2 : Int32} {S : gm_Mem} {r : Option Value} {S2 : gm_Mem} (c1 : ¬ x2 = 4) (c2 : ¬ x2 = 7) (K : gm_run gM 4 YX11_hasProtected 115 [some (.ref 0), some (.int x1), some (.int x2), none] [] S r S2) : gm_run gM 4 YX11_hasProtected 66 [some (.ref 0), some (.int x1), some (.int x2), none] [] S r S2 := by
  refine gm_iload_n dX11_hasProtected_66 rfl ?_
  refine gm_iconst (v := 4) dX11_hasProtected_67 (by decide) ?_
  refine gm_icmp_eq_f dX11_hasProtected_68 ⟨77, by decide⟩ c1 ?_
  refine gm_iload_n dX11_hasProtected_71 rfl ?_
  refine gm_bipush (v := 7) dX11_hasProtected_72 (by decide) ?_
  refine gm_icmp_ne_t (tgt := 115) dX11_hasProtected_74 (by decide) c2 ?_
  exact K
/-- X11_hasProtected 66 [68t] -> cut 77 -/
theorem PX11_hasProtected_7 {x1 : Int32} {x2 : Int32} {S : gm_Mem} {r : Option Value} {S2 : gm_Mem} (c1 : x2 = 4) (K : gm_run gM 4 YX11_hasProtected 77 [some (.ref 0), some (.int x1), some (.int x2), none] [] S r S2) : gm_run gM 4 YX11_hasProtected 66 [some (.ref 0), some (.int x1), some (.int x2), none] [] S r S2 := by
  refine gm_iload_n dX11_hasProtected_66 rfl ?_
  refine gm_iconst (v := 4) dX11_hasProtected_67 (by decide) ?_
  refine gm_icmp_eq_t (tgt := 77) dX11_hasProtected_68 (by decide) c1 ?_
  exact K
/-- X11_hasProtected 77 [95f] -> cut 103 -/
theorem PX11_hasProtected_8 {x1 : Int32} {x2 : Int32} {S : gm_Mem} {r : Option Value} {S2 : gm_Mem} (c1 : x2 = 7) (K : gm_run gM 4 YX11_hasProtected 103 [some (.ref 0), some (.int x1), some (.int x2), none] [.int 1, .int (S 31 6), .int (S 31 5), .int x1, .ref 0] S r S2) : gm_run gM 4 YX11_hasProtected 77 [some (.ref 0), some (.int x1), some (.int x2), none] [] S r S2 := by
  refine gm_aload_n dX11_hasProtected_77 rfl ?_
  refine gm_iload_n dX11_hasProtected_78 rfl ?_
  refine gm_aload_n dX11_hasProtected_79 rfl ?_
  refine gm_getR (own := RX11) (q := 31) rfl dX11_hasProtected_80 lfX11_116 sM_0 rfl ?_
  refine gm_iconst (v := 5) dX11_hasProtected_83 (by decide) ?_
  refine gm_iald (j := 5) (x := (S 31 5)) dX11_hasProtected_84 sM_31 ⟨by decide, by decide⟩ rfl ?_
  refine gm_aload_n dX11_hasProtected_85 rfl ?_
  refine gm_getR (own := RX11) (q := 31) rfl dX11_hasProtected_86 lfX11_116 sM_0 rfl ?_
  refine gm_bipush (v := 6) dX11_hasProtected_89 (by decide) ?_
  refine gm_iald (j := 6) (x := (S 31 6)) dX11_hasProtected_91 sM_31 ⟨by decide, by decide⟩ rfl ?_
  refine gm_iload_n dX11_hasProtected_92 rfl ?_
  refine gm_bipush (v := 7) dX11_hasProtected_93 (by decide) ?_
  refine gm_icmp_ne_f dX11_hasProtected_95 ⟨102, by decide⟩ c1 ?_
  refine gm_iconst (v := 1) dX11_hasProtected_98 (by decide) ?_
  refine gm_goto (tgt := 103) dX11_hasProtected_99 (by decide) ?_
  exact K
/-- X11_hasProtected 77 [95t] -> cut 103 -/
theorem PX11_hasProtected_9 {x1 : Int32} {x2 : Int32} {S : gm_Mem} {r : Option Value} {S2 : gm_Mem} (c1 : ¬ x2 = 7) (K : gm_run gM 4 YX11_hasProtected 103 [some (.ref 0), some (.int x1), some (.int x2), none] [.int 0, .int (S 31 6), .int (S 31 5), .int x1, .ref 0] S r S2) : gm_run gM 4 YX11_hasProtected 77 [some (.ref 0), some (.int x1), some (.int x2), none] [] S r S2 := by
  refine gm_aload_n dX11_hasProtected_77 rfl ?_
  refine gm_iload_n dX11_hasProtected_78 rfl ?_
  refine gm_aload_n dX11_hasProtected_79 rfl ?_
  refine gm_getR (own := RX11) (q := 31) rfl dX11_hasProtected_80 lfX11_116 sM_0 rfl ?_
  refine gm_iconst (v := 5) dX11_hasProtected_83 (by decide) ?_
  refine gm_iald (j := 5) (x := (S 31 5)) dX11_hasProtected_84 sM_31 ⟨by decide, by decide⟩ rfl ?_
  refine gm_aload_n dX11_hasProtected_85 rfl ?_
  refine gm_getR (own := RX11) (q := 31) rfl dX11_hasProtected_86 lfX11_116 sM_0 rfl ?_
  refine gm_bipush (v := 6) dX11_hasProtected_89 (by decide) ?_
  refine gm_iald (j := 6) (x := (S 31 6)) dX11_hasProtected_91 sM_31 ⟨by decide, by decide⟩ rfl ?_
  refine gm_iload_n dX11_hasProtected_92 rfl ?_
  refine gm_bipush (v := 7) dX11_hasProtected_93 (by decide) ?_
  refine gm_icmp_ne_t (tgt := 102) dX11_hasProtected_95 (by decide) c1 ?_
  refine gm_iconst (v := 0) dX11_hasProtected_102 (by decide) ?_
  exact K
/-- X11_hasProtected 115 [126f 135f 144f 162f] -> cut 165 -/
theorem PX11_hasProtected_10 {x1 : Int32} {x2 : Int32} {S : gm_Mem} {T1 : gm_Mem} {j2 : Nat} {j6 : Nat} {r : Option Value} {S2 : gm_Mem} (h1 : gm_run gM 3 YX11_sendsDue 0 [some (.ref 0), some (.int x1), none, none] [] S none T1) (ij2 : gm_ix x1 j2 2) (c3 : ¬ (T1 16 j2) < 0) (c4 : ¬ (T1 15 j2) < 0) (c5 : ¬ (T1 18 j2) = 0) (ij6 : gm_ix (16 * x1) j6 32) (c7 : (T1 15 j2) < (T1 20 j6)) (K : gm_run gM 4 YX11_hasProtected 165 [some (.ref 0), some (.int x1), some (.int x2), none] [] T1 r S2) : gm_run gM 4 YX11_hasProtected 115 [some (.ref 0), some (.int x1), some (.int x2), none] [] S r S2 := by
  refine gm_aload_n dX11_hasProtected_115 rfl ?_
  refine gm_iload_n dX11_hasProtected_116 rfl ?_
  refine gm_callV (r1 := none) (own := RX11) rfl dX11_hasProtected_117 llX11_208 mvX11_sendsDue sM_0 rfl [.int x1] [] rfl rfl (Nat.le_of_ble_eq_true rfl) (by decide) rfl h1 rfl ?_
  refine gm_aload_n dX11_hasProtected_120 rfl ?_
  refine gm_getR (own := RX11) (q := 16) rfl dX11_hasProtected_121 lfX11_65 sM_0 rfl ?_
  refine gm_iload_n dX11_hasProtected_124 rfl ?_
  refine gm_iald (j := j2) (x := (T1 16 j2)) dX11_hasProtected_125 sM_16 ij2 rfl ?_
  refine gm_if_lt_f dX11_hasProtected_126 ⟨169, by decide⟩ c3 ?_
  refine gm_aload_n dX11_hasProtected_129 rfl ?_
  refine gm_getR (own := RX11) (q := 15) rfl dX11_hasProtected_130 lfX11_62 sM_0 rfl ?_
  refine gm_iload_n dX11_hasProtected_133 rfl ?_
  refine gm_iald (j := j2) (x := (T1 15 j2)) dX11_hasProtected_134 sM_15 ij2 rfl ?_
  refine gm_if_lt_f dX11_hasProtected_135 ⟨169, by decide⟩ c4 ?_
  refine gm_aload_n dX11_hasProtected_138 rfl ?_
  refine gm_getR (own := RX11) (q := 18) rfl dX11_hasProtected_139 lfX11_71 sM_0 rfl ?_
  refine gm_iload_n dX11_hasProtected_142 rfl ?_
  refine gm_iald (j := j2) (x := (T1 18 j2)) dX11_hasProtected_143 sM_18 ij2 rfl ?_
  refine gm_if_eq_f dX11_hasProtected_144 ⟨165, by decide⟩ c5 ?_
  refine gm_aload_n dX11_hasProtected_147 rfl ?_
  refine gm_getR (own := RX11) (q := 20) rfl dX11_hasProtected_148 lfX11_77 sM_0 rfl ?_
  refine gm_bipush (v := 16) dX11_hasProtected_151 (by decide) ?_
  refine gm_iload_n dX11_hasProtected_153 rfl ?_
  refine gm_imul dX11_hasProtected_154 rfl ?_
  refine gm_iald (j := j6) (x := (T1 20 j6)) dX11_hasProtected_155 sM_20 ij6 rfl ?_
  refine gm_aload_n dX11_hasProtected_156 rfl ?_
  refine gm_getR (own := RX11) (q := 15) rfl dX11_hasProtected_157 lfX11_62 sM_0 rfl ?_
  refine gm_iload_n dX11_hasProtected_160 rfl ?_
  refine gm_iald (j := j2) (x := (T1 15 j2)) dX11_hasProtected_161 sM_15 ij2 rfl ?_
  refine gm_icmp_le_f dX11_hasProtected_162 ⟨169, by decide⟩ c7 ?_
  exact K
/-- X11_hasProtected 115 [126f 135f 144f 162t] -> cut 169 -/
theorem PX11_hasProtected_11 {x1 : Int32} {x2 : Int32} {S : gm_Mem} {T1 : gm_Mem} {j2 : Nat} {j6 : Nat} {r : Option Value} {S2 : gm_Mem} (h1 : gm_run gM 3 YX11_sendsDue 0 [some (.ref 0), some (.int x1), none, none] [] S none T1) (ij2 : gm_ix x1 j2 2) (c3 : ¬ (T1 16 j2) < 0) (c4 : ¬ (T1 15 j2) < 0) (c5 : ¬ (T1 18 j2) = 0) (ij6 : gm_ix (16 * x1) j6 32) (c7 : ¬ (T1 15 j2) < (T1 20 j6)) (K : gm_run gM 4 YX11_hasProtected 169 [some (.ref 0), some (.int x1), some (.int x2), none] [] T1 r S2) : gm_run gM 4 YX11_hasProtected 115 [some (.ref 0), some (.int x1), some (.int x2), none] [] S r S2 := by
  refine gm_aload_n dX11_hasProtected_115 rfl ?_
  refine gm_iload_n dX11_hasProtected_116 rfl ?_
  refine gm_callV (r1 := none) (own := RX11) rfl dX11_hasProtected_117 llX11_208 mvX11_sendsDue sM_0 rfl [.int x1] [] rfl rfl (Nat.le_of_ble_eq_true rfl) (by decide) rfl h1 rfl ?_
  refine gm_aload_n dX11_hasProtected_120 rfl ?_
  refine gm_getR (own := RX11) (q := 16) rfl dX11_hasProtected_121 lfX11_65 sM_0 rfl ?_
  refine gm_iload_n dX11_hasProtected_124 rfl ?_
  refine gm_iald (j := j2) (x := (T1 16 j2)) dX11_hasProtected_125 sM_16 ij2 rfl ?_
  refine gm_if_lt_f dX11_hasProtected_126 ⟨169, by decide⟩ c3 ?_
  refine gm_aload_n dX11_hasProtected_129 rfl ?_
  refine gm_getR (own := RX11) (q := 15) rfl dX11_hasProtected_130 lfX11_62 sM_0 rfl ?_
  refine gm_iload_n dX11_hasProtected_133 rfl ?_
  refine gm_iald (j := j2) (x := (T1 15 j2)) dX11_hasProtected_134 sM_15 ij2 rfl ?_
  refine gm_if_lt_f dX11_hasProtected_135 ⟨169, by decide⟩ c4 ?_
  refine gm_aload_n dX11_hasProtected_138 rfl ?_
  refine gm_getR (own := RX11) (q := 18) rfl dX11_hasProtected_139 lfX11_71 sM_0 rfl ?_
  refine gm_iload_n dX11_hasProtected_142 rfl ?_
  refine gm_iald (j := j2) (x := (T1 18 j2)) dX11_hasProtected_143 sM_18 ij2 rfl ?_
  refine gm_if_eq_f dX11_hasProtected_144 ⟨165, by decide⟩ c5 ?_
  refine gm_aload_n dX11_hasProtected_147 rfl ?_
  refine gm_getR (own := RX11) (q := 20) rfl dX11_hasProtected_148 lfX11_77 sM_0 rfl ?_
  refine gm_bipush (v := 16) dX11_hasProtected_151 (by decide) ?_
  refine gm_iload_n dX11_hasProtected_153 rfl ?_
  refine gm_imul dX11_hasProtected_154 rfl ?_
  refine gm_iald (j := j6) (x := (T1 20 j6)) dX11_hasProtected_155 sM_20 ij6 rfl ?_
  refine gm_aload_n dX11_hasProtected_156 rfl ?_
  refine gm_getR (own := RX11) (q := 15) rfl dX11_hasProtected_157 lfX11_62 sM_0 rfl ?_
  refine gm_iload_n dX11_hasProtected_160 rfl ?_
  refine gm_iald (j := j2) (x := (T1 15 j2)) dX11_hasProtected_161 sM_15 ij2 rfl ?_
  refine gm_icmp_le_t (tgt := 169) dX11_hasProtected_162 (by decide) c7 ?_
  exact K
/-- X11_hasProtected 115 [126f 135f 144t] -> cut 165 -/
theorem PX11_hasProtected_12 {x1 : Int32} {x2 : Int32} {S : gm_Mem} {T1 : gm_Mem} {j2 : Nat} {r : Option Value} {S2 : gm_Mem} (h1 : gm_run gM 3 YX11_sendsDue 0 [some (.ref 0), some (.int x1), none, none] [] S none T1) (ij2 : gm_ix x1 j2 2) (c3 : ¬ (T1 16 j2) < 0) (c4 : ¬ (T1 15 j2) < 0) (c5 : (T1 18 j2) = 0) (K : gm_run gM 4 YX11_hasProtected 165 [some (.ref 0), some (.int x1), some (.int x2), none] [] T1 r S2) : gm_run gM 4 YX11_hasProtected 115 [some (.ref 0), some (.int x1), some (.int x2), none] [] S r S2 := by
  refine gm_aload_n dX11_hasProtected_115 rfl ?_
  refine gm_iload_n dX11_hasProtected_116 rfl ?_
  refine gm_callV (r1 := none) (own := RX11) rfl dX11_hasProtected_117 llX11_208 mvX11_sendsDue sM_0 rfl [.int x1] [] rfl rfl (Nat.le_of_ble_eq_true rfl) (by decide) rfl h1 rfl ?_
  refine gm_aload_n dX11_hasProtected_120 rfl ?_
  refine gm_getR (own := RX11) (q := 16) rfl dX11_hasProtected_121 lfX11_65 sM_0 rfl ?_
  refine gm_iload_n dX11_hasProtected_124 rfl ?_
  refine gm_iald (j := j2) (x := (T1 16 j2)) dX11_hasProtected_125 sM_16 ij2 rfl ?_
  refine gm_if_lt_f dX11_hasProtected_126 ⟨169, by decide⟩ c3 ?_
  refine gm_aload_n dX11_hasProtected_129 rfl ?_
  refine gm_getR (own := RX11) (q := 15) rfl dX11_hasProtected_130 lfX11_62 sM_0 rfl ?_
  refine gm_iload_n dX11_hasProtected_133 rfl ?_
  refine gm_iald (j := j2) (x := (T1 15 j2)) dX11_hasProtected_134 sM_15 ij2 rfl ?_
  refine gm_if_lt_f dX11_hasProtected_135 ⟨169, by decide⟩ c4 ?_
  refine gm_aload_n dX11_hasProtected_138 rfl ?_
  refine gm_getR (own := RX11) (q := 18) rfl dX11_hasProtected_139 lfX11_71 sM_0 rfl ?_
  refine gm_iload_n dX11_hasProtected_142 rfl ?_
  refine gm_iald (j := j2) (x := (T1 18 j2)) dX11_hasProtected_143 sM_18 ij2 rfl ?_
  refine gm_if_eq_t (tgt := 165) dX11_hasProtected_144 (by decide) c5 ?_
  exact K
/-- X11_hasProtected 115 [126f 135t] -> cut 169 -/
theorem PX11_hasProtected_13 {x1 : Int32} {x2 : Int32} {S : gm_Mem} {T1 : gm_Mem} {j2 : Nat} {r : Option Value} {S2 : gm_Mem} (h1 : gm_run gM 3 YX11_sendsDue 0 [some (.ref 0), some (.int x1), none, none] [] S none T1) (ij2 : gm_ix x1 j2 2) (c3 : ¬ (T1 16 j2) < 0) (c4 : (T1 15 j2) < 0) (K : gm_run gM 4 YX11_hasProtected 169 [some (.ref 0), some (.int x1), some (.int x2), none] [] T1 r S2) : gm_run gM 4 YX11_hasProtected 115 [some (.ref 0), some (.int x1), some (.int x2), none] [] S r S2 := by
  refine gm_aload_n dX11_hasProtected_115 rfl ?_
  refine gm_iload_n dX11_hasProtected_116 rfl ?_
  refine gm_callV (r1 := none) (own := RX11) rfl dX11_hasProtected_117 llX11_208 mvX11_sendsDue sM_0 rfl [.int x1] [] rfl rfl (Nat.le_of_ble_eq_true rfl) (by decide) rfl h1 rfl ?_
  refine gm_aload_n dX11_hasProtected_120 rfl ?_
  refine gm_getR (own := RX11) (q := 16) rfl dX11_hasProtected_121 lfX11_65 sM_0 rfl ?_
  refine gm_iload_n dX11_hasProtected_124 rfl ?_
  refine gm_iald (j := j2) (x := (T1 16 j2)) dX11_hasProtected_125 sM_16 ij2 rfl ?_
  refine gm_if_lt_f dX11_hasProtected_126 ⟨169, by decide⟩ c3 ?_
  refine gm_aload_n dX11_hasProtected_129 rfl ?_
  refine gm_getR (own := RX11) (q := 15) rfl dX11_hasProtected_130 lfX11_62 sM_0 rfl ?_
  refine gm_iload_n dX11_hasProtected_133 rfl ?_
  refine gm_iald (j := j2) (x := (T1 15 j2)) dX11_hasProtected_134 sM_15 ij2 rfl ?_
  refine gm_if_lt_t (tgt := 169) dX11_hasProtected_135 (by decide) c4 ?_
  exact K
/-- X11_hasProtected 115 [126t] -> cut 169 -/
theorem PX11_hasProtected_14 {x1 : Int32} {x2 : Int32} {S : gm_Mem} {T1 : gm_Mem} {j2 : Nat} {r : Option Value} {S2 : gm_Mem} (h1 : gm_run gM 3 YX11_sendsDue 0 [some (.ref 0), some (.int x1), none, none] [] S none T1) (ij2 : gm_ix x1 j2 2) (c3 : (T1 16 j2) < 0) (K : gm_run gM 4 YX11_hasProtected 169 [some (.ref 0), some (.int x1), some (.int x2), none] [] T1 r S2) : gm_run gM 4 YX11_hasProtected 115 [some (.ref 0), some (.int x1), some (.int x2), none] [] S r S2 := by
  refine gm_aload_n dX11_hasProtected_115 rfl ?_
  refine gm_iload_n dX11_hasProtected_116 rfl ?_
  refine gm_callV (r1 := none) (own := RX11) rfl dX11_hasProtected_117 llX11_208 mvX11_sendsDue sM_0 rfl [.int x1] [] rfl rfl (Nat.le_of_ble_eq_true rfl) (by decide) rfl h1 rfl ?_
  refine gm_aload_n dX11_hasProtected_120 rfl ?_
  refine gm_getR (own := RX11) (q := 16) rfl dX11_hasProtected_121 lfX11_65 sM_0 rfl ?_
  refine gm_iload_n dX11_hasProtected_124 rfl ?_
  refine gm_iald (j := j2) (x := (T1 16 j2)) dX11_hasProtected_125 sM_16 ij2 rfl ?_
  refine gm_if_lt_t (tgt := 169) dX11_hasProtected_126 (by decide) c3 ?_
  exact K
/-- X11_hasProtected 103 [] -> cut 115 -/
theorem PX11_hasProtected_15 {x1 : Int32} {x2 : Int32} {s0 : Int32} {s1 : Int32} {s2 : Int32} {s3 : Int32} {S : gm_Mem} {T1 : gm_Mem} {T2 : gm_Mem} {r2 : Int32} {r : Option Value} {S2 : gm_Mem} (h1 : gm_run gM 1 YX11_takes 0 [some (.ref 0), some (.int s3), some (.int s2), some (.int s1), some (.int s0), none] [] S none T1) (h3 : gm_run gM 2 YX11_sendsProtected 0 [some (.ref 0), some (.int x1), some (.int 5), some (.int 0), some (.int 0)] [] T1 (some (.int r2)) T2) (K : gm_run gM 4 YX11_hasProtected 115 [some (.ref 0), some (.int x1), some (.int x2), none] [] T2 r S2) : gm_run gM 4 YX11_hasProtected 103 [some (.ref 0), some (.int x1), some (.int x2), none] [.int s0, .int s1, .int s2, .int s3, .ref 0] S r S2 := by
  refine gm_callV (r1 := none) (own := RX11) rfl dX11_hasProtected_103 llX11_265 mvX11_takes sM_0 rfl [.int s3, .int s2, .int s1, .int s0] [] rfl rfl (Nat.le_of_ble_eq_true rfl) (by decide) rfl h1 rfl ?_
  refine gm_aload_n dX11_hasProtected_106 rfl ?_
  refine gm_iload_n dX11_hasProtected_107 rfl ?_
  refine gm_iconst (v := 5) dX11_hasProtected_108 (by decide) ?_
  refine gm_iconst (v := 0) dX11_hasProtected_109 (by decide) ?_
  refine gm_iconst (v := 0) dX11_hasProtected_110 (by decide) ?_
  refine gm_callV (r1 := (some (.int r2))) (own := RX11) rfl dX11_hasProtected_111 llX11_175 mvX11_sendsProtected sM_0 rfl [.int x1, .int 5, .int 0, .int 0] [] rfl rfl (Nat.le_of_ble_eq_true rfl) (by decide) rfl h3 rfl ?_
  refine gm_pop dX11_hasProtected_114 ?_
  exact K
/-- X11_hasProtected 165 [] -> cut 170 -/
theorem PX11_hasProtected_16 {x1 : Int32} {x2 : Int32} {S : gm_Mem} {r : Option Value} {S2 : gm_Mem}  (K : gm_run gM 4 YX11_hasProtected 170 [some (.ref 0), some (.int x1), some (.int x2), none] [.int 1] S r S2) : gm_run gM 4 YX11_hasProtected 165 [some (.ref 0), some (.int x1), some (.int x2), none] [] S r S2 := by
  refine gm_iconst (v := 1) dX11_hasProtected_165 (by decide) ?_
  refine gm_goto (tgt := 170) dX11_hasProtected_166 (by decide) ?_
  exact K
/-- X11_hasProtected 169 [] -> cut 170 -/
theorem PX11_hasProtected_17 {x1 : Int32} {x2 : Int32} {S : gm_Mem} {r : Option Value} {S2 : gm_Mem}  (K : gm_run gM 4 YX11_hasProtected 170 [some (.ref 0), some (.int x1), some (.int x2), none] [.int 0] S r S2) : gm_run gM 4 YX11_hasProtected 169 [some (.ref 0), some (.int x1), some (.int x2), none] [] S r S2 := by
  refine gm_iconst (v := 0) dX11_hasProtected_169 (by decide) ?_
  exact K
/-- X11_hasProtected 170 [178f 182f] -> ret  -/
theorem PX11_hasProtected_18 {x1 : Int32} {x2 : Int32} {s0 : Int32} {S : gm_Mem} {j1 : Nat} {T1 : gm_Mem} (ij1 : gm_ix x1 j1 2) (c2 : (S 1 j1) = 3) (c3 : ¬ s0 = 0) (h4 : gm_run gM 1 YX11_becomes 0 [some (.ref 0), some (.int x1), some (.int 4)] [] S none T1) : gm_run gM 4 YX11_hasProtected 170 [some (.ref 0), some (.int x1), some (.int x2), none] [.int s0] S none T1 := by
  refine gm_istore_n (L' := [some (.ref 0), some (.int x1), some (.int x2), some (.int s0)]) dX11_hasProtected_170 (by decide) rfl ?_
  refine gm_aload_n dX11_hasProtected_171 rfl ?_
  refine gm_getR (own := RX11) (q := 1) rfl dX11_hasProtected_172 lfX11_19 sM_0 rfl ?_
  refine gm_iload_n dX11_hasProtected_175 rfl ?_
  refine gm_iald (j := j1) (x := (S 1 j1)) dX11_hasProtected_176 sM_1 ij1 rfl ?_
  refine gm_iconst (v := 3) dX11_hasProtected_177 (by decide) ?_
  refine gm_icmp_ne_f dX11_hasProtected_178 ⟨191, by decide⟩ c2 ?_
  refine gm_iload_n dX11_hasProtected_181 rfl ?_
  refine gm_if_eq_f dX11_hasProtected_182 ⟨191, by decide⟩ c3 ?_
  refine gm_aload_n dX11_hasProtected_185 rfl ?_
  refine gm_iload_n dX11_hasProtected_186 rfl ?_
  refine gm_iconst (v := 4) dX11_hasProtected_187 (by decide) ?_
  refine gm_callV (r1 := none) (own := RX11) rfl dX11_hasProtected_188 llX11_185 mvX11_becomes sM_0 rfl [.int x1, .int 4] [] rfl rfl (Nat.le_of_ble_eq_true rfl) (by decide) rfl h4 rfl ?_
  exact gm_vret dX11_hasProtected_191 rfl
/-- X11_hasProtected 170 [178f 182t] -> ret  -/
theorem PX11_hasProtected_19 {x1 : Int32} {x2 : Int32} {s0 : Int32} {S : gm_Mem} {j1 : Nat} (ij1 : gm_ix x1 j1 2) (c2 : (S 1 j1) = 3) (c3 : s0 = 0) : gm_run gM 4 YX11_hasProtected 170 [some (.ref 0), some (.int x1), some (.int x2), none] [.int s0] S none S := by
  refine gm_istore_n (L' := [some (.ref 0), some (.int x1), some (.int x2), some (.int s0)]) dX11_hasProtected_170 (by decide) rfl ?_
  refine gm_aload_n dX11_hasProtected_171 rfl ?_
  refine gm_getR (own := RX11) (q := 1) rfl dX11_hasProtected_172 lfX11_19 sM_0 rfl ?_
  refine gm_iload_n dX11_hasProtected_175 rfl ?_
  refine gm_iald (j := j1) (x := (S 1 j1)) dX11_hasProtected_176 sM_1 ij1 rfl ?_
  refine gm_iconst (v := 3) dX11_hasProtected_177 (by decide) ?_
  refine gm_icmp_ne_f dX11_hasProtected_178 ⟨191, by decide⟩ c2 ?_
  refine gm_iload_n dX11_hasProtected_181 rfl ?_
  refine gm_if_eq_t (tgt := 191) dX11_hasProtected_182 (by decide) c3 ?_
  exact gm_vret dX11_hasProtected_191 rfl
/-- X11_hasProtected 170 [178t] -> ret  -/
theorem PX11_hasProtected_20 {x1 : Int32} {x2 : Int32} {s0 : Int32} {S : gm_Mem} {j1 : Nat} (ij1 : gm_ix x1 j1 2) (c2 : ¬ (S 1 j1) = 3) : gm_run gM 4 YX11_hasProtected 170 [some (.ref 0), some (.int x1), some (.int x2), none] [.int s0] S none S := by
  refine gm_istore_n (L' := [some (.ref 0), some (.int x1), some (.int x2), some (.int s0)]) dX11_hasProtected_170 (by decide) rfl ?_
  refine gm_aload_n dX11_hasProtected_171 rfl ?_
  refine gm_getR (own := RX11) (q := 1) rfl dX11_hasProtected_172 lfX11_19 sM_0 rfl ?_
  refine gm_iload_n dX11_hasProtected_175 rfl ?_
  refine gm_iald (j := j1) (x := (S 1 j1)) dX11_hasProtected_176 sM_1 ij1 rfl ?_
  refine gm_iconst (v := 3) dX11_hasProtected_177 (by decide) ?_
  refine gm_icmp_ne_t (tgt := 191) dX11_hasProtected_178 (by decide) c2 ?_
  exact gm_vret dX11_hasProtected_191 rfl
/-- X11_removes 0 [] -> cut 15 -/
theorem PX11_removes_1 {a1 : Int32} {S : gm_Mem} {r : Option Value} {S2 : gm_Mem}  (K : gm_run gM 0 YX11_removes 15 [some (.ref 0), some (.int a1), some (.int (9 * a1))] [] (gm_u S 0 45 ((S 0 45) - 1)) r S2) : gm_run gM 0 YX11_removes 0 [some (.ref 0), some (.int a1), none] [] S r S2 := by
  refine gm_aload_n dX11_removes_0 rfl ?_
  refine gm_dup dX11_removes_1 ?_
  refine gm_getI (own := RX11) (x := (S 0 45)) rfl dX11_removes_2 lfX11_153 sM_0 rfl rfl ?_
  refine gm_iconst (v := 1) dX11_removes_5 (by decide) ?_
  refine gm_isub dX11_removes_6 rfl ?_
  refine gm_put (own := RX11) rfl dX11_removes_7 lfX11_153 sM_0 rfl (gm_fit_int _) ?_
  refine gm_bipush (v := 9) dX11_removes_10 (by decide) ?_
  refine gm_iload_n dX11_removes_12 rfl ?_
  refine gm_imul dX11_removes_13 rfl ?_
  refine gm_istore_n (L' := [some (.ref 0), some (.int a1), some (.int (9 * a1))]) dX11_removes_14 (by decide) rfl ?_
  exact K
/-- X11_removes 15 [23f] -> cut 15 -/
theorem PX11_removes_2 {x1 : Int32} {x2 : Int32} {S : gm_Mem} {j2 : Nat} {j3 : Nat} {r : Option Value} {S2 : gm_Mem} (c1 : x2 < (9 * (S 0 45))) (ij2 : gm_ix (x2 + 9) j2 216) (ij3 : gm_ix x2 j3 216) (K : gm_run gM 0 YX11_removes 15 [some (.ref 0), some (.int x1), some (.int (x2 + 1))] [] (gm_u S 30 j3 (S 30 j2)) r S2) : gm_run gM 0 YX11_removes 15 [some (.ref 0), some (.int x1), some (.int x2)] [] S r S2 := by
  refine gm_iload_n dX11_removes_15 rfl ?_
  refine gm_bipush (v := 9) dX11_removes_16 (by decide) ?_
  refine gm_aload_n dX11_removes_18 rfl ?_
  refine gm_getI (own := RX11) (x := (S 0 45)) rfl dX11_removes_19 lfX11_153 sM_0 rfl rfl ?_
  refine gm_imul dX11_removes_22 rfl ?_
  refine gm_icmp_ge_f dX11_removes_23 ⟨47, by decide⟩ c1 ?_
  refine gm_aload_n dX11_removes_26 rfl ?_
  refine gm_getR (own := RX11) (q := 30) rfl dX11_removes_27 lfX11_113 sM_0 rfl ?_
  refine gm_iload_n dX11_removes_30 rfl ?_
  refine gm_aload_n dX11_removes_31 rfl ?_
  refine gm_getR (own := RX11) (q := 30) rfl dX11_removes_32 lfX11_113 sM_0 rfl ?_
  refine gm_iload_n dX11_removes_35 rfl ?_
  refine gm_bipush (v := 9) dX11_removes_36 (by decide) ?_
  refine gm_iadd dX11_removes_38 rfl ?_
  refine gm_iald (j := j2) (x := (S 30 j2)) dX11_removes_39 sM_30 ij2 rfl ?_
  refine gm_iast (j := j3) dX11_removes_40 sM_30 ij3 ?_
  refine gm_iinc (L' := [some (.ref 0), some (.int x1), some (.int (x2 + 1))]) (v := (x2 + 1)) dX11_removes_41 rfl rfl (by decide) rfl ?_
  refine gm_goto (tgt := 15) dX11_removes_44 (by decide) ?_
  exact K
/-- X11_removes 15 [23t] -> ret  -/
theorem PX11_removes_3 {x1 : Int32} {x2 : Int32} {S : gm_Mem} (c1 : ¬ x2 < (9 * (S 0 45))) : gm_run gM 0 YX11_removes 15 [some (.ref 0), some (.int x1), some (.int x2)] [] S none S := by
  refine gm_iload_n dX11_removes_15 rfl ?_
  refine gm_bipush (v := 9) dX11_removes_16 (by decide) ?_
  refine gm_aload_n dX11_removes_18 rfl ?_
  refine gm_getI (own := RX11) (x := (S 0 45)) rfl dX11_removes_19 lfX11_153 sM_0 rfl rfl ?_
  refine gm_imul dX11_removes_22 rfl ?_
  refine gm_icmp_ge_t (tgt := 47) dX11_removes_23 (by decide) c1 ?_
  exact gm_vret dX11_removes_47 rfl
/-- X11_deliver 0 [5f] -> ret  -/
theorem PX11_deliver_1 {a1 : Int32} {S : gm_Mem} {r1 : Int32} (h2 : gm_run gM 0 YX11_isPacket 0 [some (.ref 0), some (.int a1)] [] S (some (.int r1)) S) (c3 : r1 = 0) : gm_run gM 5 YX11_deliver 0 [some (.ref 0), some (.int a1), none, none] [] S (some (.int (-1000000001))) S := by
  refine gm_aload_n dX11_deliver_0 rfl ?_
  refine gm_iload_n dX11_deliver_1 rfl ?_
  refine gm_callV (r1 := (some (.int r1))) (own := RX11) rfl dX11_deliver_2 llX11_268 mvX11_isPacket sM_0 rfl [.int a1] [] rfl rfl (Nat.le_of_ble_eq_true rfl) (by decide) rfl h2 rfl ?_
  refine gm_if_ne_f dX11_deliver_5 ⟨11, by decide⟩ c3 ?_
  refine gm_ldc (own := RX11) rfl lcX11_204 dX11_deliver_8 ?_
  exact gm_iret dX11_deliver_10 rfl
/-- X11_deliver 0 [5t] -> cut 19 -/
theorem PX11_deliver_2 {a1 : Int32} {S : gm_Mem} {r1 : Int32} {r4 : Int32} {r : Option Value} {S2 : gm_Mem} (h2 : gm_run gM 0 YX11_isPacket 0 [some (.ref 0), some (.int a1)] [] S (some (.int r1)) S) (c3 : ¬ r1 = 0) (h5 : gm_run gM 3 YX11_resultOf 0 [some (.ref 0), some (.int a1), none, none] [] S (some (.int r4)) S) (K : gm_run gM 5 YX11_deliver 19 [some (.ref 0), some (.int a1), some (.int r4), some (.int 0)] [] S r S2) : gm_run gM 5 YX11_deliver 0 [some (.ref 0), some (.int a1), none, none] [] S r S2 := by
  refine gm_aload_n dX11_deliver_0 rfl ?_
  refine gm_iload_n dX11_deliver_1 rfl ?_
  refine gm_callV (r1 := (some (.int r1))) (own := RX11) rfl dX11_deliver_2 llX11_268 mvX11_isPacket sM_0 rfl [.int a1] [] rfl rfl (Nat.le_of_ble_eq_true rfl) (by decide) rfl h2 rfl ?_
  refine gm_if_ne_t (tgt := 11) dX11_deliver_5 (by decide) c3 ?_
  refine gm_aload_n dX11_deliver_11 rfl ?_
  refine gm_iload_n dX11_deliver_12 rfl ?_
  refine gm_callV (r1 := (some (.int r4))) (own := RX11) rfl dX11_deliver_13 llX11_271 mvX11_resultOf sM_0 rfl [.int a1] [] rfl rfl (Nat.le_of_ble_eq_true rfl) (by decide) rfl h5 rfl ?_
  refine gm_istore_n (L' := [some (.ref 0), some (.int a1), some (.int r4), none]) dX11_deliver_16 (by decide) rfl ?_
  refine gm_iconst (v := 0) dX11_deliver_17 (by decide) ?_
  refine gm_istore_n (L' := [some (.ref 0), some (.int a1), some (.int r4), some (.int 0)]) dX11_deliver_18 (by decide) rfl ?_
  exact K
/-- X11_deliver 19 [22f] -> cut 19 -/
theorem PX11_deliver_3 {x1 : Int32} {x2 : Int32} {x3 : Int32} {S : gm_Mem} {r2 : Int32} {j4 : Nat} {r : Option Value} {S2 : gm_Mem} (c1 : x3 < 9) (h3 : gm_run gM 0 YX11_at 0 [some (.ref 0), some (.int x1), some (.int x3)] [] S (some (.int r2)) S) (ij4 : gm_ix x3 j4 9) (K : gm_run gM 5 YX11_deliver 19 [some (.ref 0), some (.int x1), some (.int x2), some (.int (x3 + 1))] [] (gm_u S 31 j4 r2) r S2) : gm_run gM 5 YX11_deliver 19 [some (.ref 0), some (.int x1), some (.int x2), some (.int x3)] [] S r S2 := by
  refine gm_iload_n dX11_deliver_19 rfl ?_
  refine gm_bipush (v := 9) dX11_deliver_20 (by decide) ?_
  refine gm_icmp_ge_f dX11_deliver_22 ⟨43, by decide⟩ c1 ?_
  refine gm_aload_n dX11_deliver_25 rfl ?_
  refine gm_getR (own := RX11) (q := 31) rfl dX11_deliver_26 lfX11_116 sM_0 rfl ?_
  refine gm_iload_n dX11_deliver_29 rfl ?_
  refine gm_aload_n dX11_deliver_30 rfl ?_
  refine gm_iload_n dX11_deliver_31 rfl ?_
  refine gm_iload_n dX11_deliver_32 rfl ?_
  refine gm_callV (r1 := (some (.int r2))) (own := RX11) rfl dX11_deliver_33 llX11_229 mvX11_at sM_0 rfl [.int x1, .int x3] [.int x3, .ref 31] rfl rfl (Nat.le_of_ble_eq_true rfl) (by decide) rfl h3 rfl ?_
  refine gm_iast (j := j4) dX11_deliver_36 sM_31 ij4 ?_
  refine gm_iinc (L' := [some (.ref 0), some (.int x1), some (.int x2), some (.int (x3 + 1))]) (v := (x3 + 1)) dX11_deliver_37 rfl rfl (by decide) rfl ?_
  refine gm_goto (tgt := 19) dX11_deliver_40 (by decide) ?_
  exact K
/-- X11_deliver 19 [22t 97f 116f] -> ret  -/
theorem PX11_deliver_4 {x1 : Int32} {x2 : Int32} {x3 : Int32} {S : gm_Mem} {T1 : gm_Mem} {j3 : Nat} {T2 : gm_Mem} {T3 : gm_Mem} {r6 : Int32} (c1 : ¬ x3 < 9) (h2 : gm_run gM 0 YX11_removes 0 [some (.ref 0), some (.int x1), none] [] S none T1) (ij3 : gm_ix ((9 * (1 - (T1 31 0))) + x2) j3 18) (h4 : gm_run gM 0 YX11_logs 0 [some (.ref 0), some (.int 1), some (.int (T1 31 1)), some (.int x2), none] [] (gm_u (gm_u T1 0 6 ((T1 0 6) + 1)) 32 j3 ((T1 32 j3) + 1)) none T2) (c5 : x2 = 8) (h7 : gm_run gM 2 YX11_sendsPlain 0 [some (.ref 0), some (.int 1), some (.int 2), some (.int (T2 31 2)), some (.int 0), some (.int 0)] [] T2 (some (.int r6)) T3) (c8 : ¬ x2 = 0) : gm_run gM 5 YX11_deliver 19 [some (.ref 0), some (.int x1), some (.int x2), some (.int x3)] [] S (some (.int x2)) T3 := by
  refine gm_iload_n dX11_deliver_19 rfl ?_
  refine gm_bipush (v := 9) dX11_deliver_20 (by decide) ?_
  refine gm_icmp_ge_t (tgt := 43) dX11_deliver_22 (by decide) c1 ?_
  refine gm_aload_n dX11_deliver_43 rfl ?_
  refine gm_iload_n dX11_deliver_44 rfl ?_
  refine gm_callV (r1 := none) (own := RX11) rfl dX11_deliver_45 llX11_274 mvX11_removes sM_0 rfl [.int x1] [] rfl rfl (Nat.le_of_ble_eq_true rfl) (by decide) rfl h2 rfl ?_
  refine gm_iconst (v := 1) dX11_deliver_48 (by decide) ?_
  refine gm_aload_n dX11_deliver_49 rfl ?_
  refine gm_getR (own := RX11) (q := 31) rfl dX11_deliver_50 lfX11_116 sM_0 rfl ?_
  refine gm_iconst (v := 0) dX11_deliver_53 (by decide) ?_
  refine gm_iald (j := 0) (x := (T1 31 0)) dX11_deliver_54 sM_31 ⟨by decide, by decide⟩ rfl ?_
  refine gm_isub dX11_deliver_55 rfl ?_
  refine gm_istore_n (L' := [some (.ref 0), some (.int x1), some (.int x2), some (.int (1 - (T1 31 0)))]) dX11_deliver_56 (by decide) rfl ?_
  refine gm_aload_n dX11_deliver_57 rfl ?_
  refine gm_dup dX11_deliver_58 ?_
  refine gm_getI (own := RX11) (x := (T1 0 6)) rfl dX11_deliver_59 lfX11_277 sM_0 rfl rfl ?_
  refine gm_iconst (v := 1) dX11_deliver_62 (by decide) ?_
  refine gm_iadd dX11_deliver_63 rfl ?_
  refine gm_put (own := RX11) rfl dX11_deliver_64 lfX11_277 sM_0 rfl (gm_fit_int _) ?_
  refine gm_aload_n dX11_deliver_67 rfl ?_
  refine gm_getR (own := RX11) (q := 32) rfl dX11_deliver_68 lfX11_119 sM_0 rfl ?_
  refine gm_bipush (v := 9) dX11_deliver_71 (by decide) ?_
  refine gm_iload_n dX11_deliver_73 rfl ?_
  refine gm_imul dX11_deliver_74 rfl ?_
  refine gm_iload_n dX11_deliver_75 rfl ?_
  refine gm_iadd dX11_deliver_76 rfl ?_
  refine gm_dup2 dX11_deliver_77 ?_
  refine gm_iald (j := j3) (x := (T1 32 j3)) dX11_deliver_78 sM_32 ij3 (gm_rp (by omega)) ?_
  refine gm_iconst (v := 1) dX11_deliver_79 (by decide) ?_
  refine gm_iadd dX11_deliver_80 rfl ?_
  refine gm_iast (j := j3) dX11_deliver_81 sM_32 ij3 ?_
  refine gm_aload_n dX11_deliver_82 rfl ?_
  refine gm_iconst (v := 1) dX11_deliver_83 (by decide) ?_
  refine gm_aload_n dX11_deliver_84 rfl ?_
  refine gm_getR (own := RX11) (q := 31) rfl dX11_deliver_85 lfX11_116 sM_0 rfl ?_
  refine gm_iconst (v := 1) dX11_deliver_88 (by decide) ?_
  refine gm_iald (j := 1) (x := (T1 31 1)) dX11_deliver_89 sM_31 ⟨by decide, by decide⟩ ((gm_rp (by omega)).trans (gm_rp (by omega))) ?_
  refine gm_iload_n dX11_deliver_90 rfl ?_
  refine gm_callV (r1 := none) (own := RX11) rfl dX11_deliver_91 llX11_142 mvX11_logs sM_0 rfl [.int 1, .int (T1 31 1), .int x2] [] rfl rfl (Nat.le_of_ble_eq_true rfl) (by decide) rfl h4 rfl ?_
  refine gm_iload_n dX11_deliver_94 rfl ?_
  refine gm_bipush (v := 8) dX11_deliver_95 (by decide) ?_
  refine gm_icmp_ne_f dX11_deliver_97 ⟨115, by decide⟩ c5 ?_
  refine gm_aload_n dX11_deliver_100 rfl ?_
  refine gm_iconst (v := 1) dX11_deliver_101 (by decide) ?_
  refine gm_iconst (v := 2) dX11_deliver_102 (by decide) ?_
  refine gm_aload_n dX11_deliver_103 rfl ?_
  refine gm_getR (own := RX11) (q := 31) rfl dX11_deliver_104 lfX11_116 sM_0 rfl ?_
  refine gm_iconst (v := 2) dX11_deliver_107 (by decide) ?_
  refine gm_iald (j := 2) (x := (T2 31 2)) dX11_deliver_108 sM_31 ⟨by decide, by decide⟩ rfl ?_
  refine gm_iconst (v := 0) dX11_deliver_109 (by decide) ?_
  refine gm_iconst (v := 0) dX11_deliver_110 (by decide) ?_
  refine gm_callV (r1 := (some (.int r6))) (own := RX11) rfl dX11_deliver_111 llX11_189 mvX11_sendsPlain sM_0 rfl [.int 1, .int 2, .int (T2 31 2), .int 0, .int 0] [] rfl rfl (Nat.le_of_ble_eq_true rfl) (by decide) rfl h7 rfl ?_
  refine gm_pop dX11_deliver_114 ?_
  refine gm_iload_n dX11_deliver_115 rfl ?_
  refine gm_if_eq_f dX11_deliver_116 ⟨121, by decide⟩ c8 ?_
  refine gm_iload_n dX11_deliver_119 rfl ?_
  exact gm_iret dX11_deliver_120 rfl
/-- X11_deliver 19 [22t 97f 116t 127=0] -> ret  -/
theorem PX11_deliver_5 {x1 : Int32} {x2 : Int32} {x3 : Int32} {S : gm_Mem} {T1 : gm_Mem} {j3 : Nat} {T2 : gm_Mem} {T3 : gm_Mem} {r6 : Int32} {T4 : gm_Mem} (c1 : ¬ x3 < 9) (h2 : gm_run gM 0 YX11_removes 0 [some (.ref 0), some (.int x1), none] [] S none T1) (ij3 : gm_ix ((9 * (1 - (T1 31 0))) + x2) j3 18) (h4 : gm_run gM 0 YX11_logs 0 [some (.ref 0), some (.int 1), some (.int (T1 31 1)), some (.int x2), none] [] (gm_u (gm_u T1 0 6 ((T1 0 6) + 1)) 32 j3 ((T1 32 j3) + 1)) none T2) (c5 : x2 = 8) (h7 : gm_run gM 2 YX11_sendsPlain 0 [some (.ref 0), some (.int 1), some (.int 2), some (.int (T2 31 2)), some (.int 0), some (.int 0)] [] T2 (some (.int r6)) T3) (c8 : x2 = 0) (c9 : (T3 31 1) = 0) (h10 : gm_run gM 3 YX11_answersHello 0 [some (.ref 0)] [] T3 none T4) : gm_run gM 5 YX11_deliver 19 [some (.ref 0), some (.int x1), some (.int x2), some (.int x3)] [] S (some (.int 0)) T4 := by
  refine gm_iload_n dX11_deliver_19 rfl ?_
  refine gm_bipush (v := 9) dX11_deliver_20 (by decide) ?_
  refine gm_icmp_ge_t (tgt := 43) dX11_deliver_22 (by decide) c1 ?_
  refine gm_aload_n dX11_deliver_43 rfl ?_
  refine gm_iload_n dX11_deliver_44 rfl ?_
  refine gm_callV (r1 := none) (own := RX11) rfl dX11_deliver_45 llX11_274 mvX11_removes sM_0 rfl [.int x1] [] rfl rfl (Nat.le_of_ble_eq_true rfl) (by decide) rfl h2 rfl ?_
  refine gm_iconst (v := 1) dX11_deliver_48 (by decide) ?_
  refine gm_aload_n dX11_deliver_49 rfl ?_
  refine gm_getR (own := RX11) (q := 31) rfl dX11_deliver_50 lfX11_116 sM_0 rfl ?_
  refine gm_iconst (v := 0) dX11_deliver_53 (by decide) ?_
  refine gm_iald (j := 0) (x := (T1 31 0)) dX11_deliver_54 sM_31 ⟨by decide, by decide⟩ rfl ?_
  refine gm_isub dX11_deliver_55 rfl ?_
  refine gm_istore_n (L' := [some (.ref 0), some (.int x1), some (.int x2), some (.int (1 - (T1 31 0)))]) dX11_deliver_56 (by decide) rfl ?_
  refine gm_aload_n dX11_deliver_57 rfl ?_
  refine gm_dup dX11_deliver_58 ?_
  refine gm_getI (own := RX11) (x := (T1 0 6)) rfl dX11_deliver_59 lfX11_277 sM_0 rfl rfl ?_
  refine gm_iconst (v := 1) dX11_deliver_62 (by decide) ?_
  refine gm_iadd dX11_deliver_63 rfl ?_
  refine gm_put (own := RX11) rfl dX11_deliver_64 lfX11_277 sM_0 rfl (gm_fit_int _) ?_
  refine gm_aload_n dX11_deliver_67 rfl ?_
  refine gm_getR (own := RX11) (q := 32) rfl dX11_deliver_68 lfX11_119 sM_0 rfl ?_
  refine gm_bipush (v := 9) dX11_deliver_71 (by decide) ?_
  refine gm_iload_n dX11_deliver_73 rfl ?_
  refine gm_imul dX11_deliver_74 rfl ?_
  refine gm_iload_n dX11_deliver_75 rfl ?_
  refine gm_iadd dX11_deliver_76 rfl ?_
  refine gm_dup2 dX11_deliver_77 ?_
  refine gm_iald (j := j3) (x := (T1 32 j3)) dX11_deliver_78 sM_32 ij3 (gm_rp (by omega)) ?_
  refine gm_iconst (v := 1) dX11_deliver_79 (by decide) ?_
  refine gm_iadd dX11_deliver_80 rfl ?_
  refine gm_iast (j := j3) dX11_deliver_81 sM_32 ij3 ?_
  refine gm_aload_n dX11_deliver_82 rfl ?_
  refine gm_iconst (v := 1) dX11_deliver_83 (by decide) ?_
  refine gm_aload_n dX11_deliver_84 rfl ?_
  refine gm_getR (own := RX11) (q := 31) rfl dX11_deliver_85 lfX11_116 sM_0 rfl ?_
  refine gm_iconst (v := 1) dX11_deliver_88 (by decide) ?_
  refine gm_iald (j := 1) (x := (T1 31 1)) dX11_deliver_89 sM_31 ⟨by decide, by decide⟩ ((gm_rp (by omega)).trans (gm_rp (by omega))) ?_
  refine gm_iload_n dX11_deliver_90 rfl ?_
  refine gm_callV (r1 := none) (own := RX11) rfl dX11_deliver_91 llX11_142 mvX11_logs sM_0 rfl [.int 1, .int (T1 31 1), .int x2] [] rfl rfl (Nat.le_of_ble_eq_true rfl) (by decide) rfl h4 rfl ?_
  refine gm_iload_n dX11_deliver_94 rfl ?_
  refine gm_bipush (v := 8) dX11_deliver_95 (by decide) ?_
  refine gm_icmp_ne_f dX11_deliver_97 ⟨115, by decide⟩ c5 ?_
  refine gm_aload_n dX11_deliver_100 rfl ?_
  refine gm_iconst (v := 1) dX11_deliver_101 (by decide) ?_
  refine gm_iconst (v := 2) dX11_deliver_102 (by decide) ?_
  refine gm_aload_n dX11_deliver_103 rfl ?_
  refine gm_getR (own := RX11) (q := 31) rfl dX11_deliver_104 lfX11_116 sM_0 rfl ?_
  refine gm_iconst (v := 2) dX11_deliver_107 (by decide) ?_
  refine gm_iald (j := 2) (x := (T2 31 2)) dX11_deliver_108 sM_31 ⟨by decide, by decide⟩ rfl ?_
  refine gm_iconst (v := 0) dX11_deliver_109 (by decide) ?_
  refine gm_iconst (v := 0) dX11_deliver_110 (by decide) ?_
  refine gm_callV (r1 := (some (.int r6))) (own := RX11) rfl dX11_deliver_111 llX11_189 mvX11_sendsPlain sM_0 rfl [.int 1, .int 2, .int (T2 31 2), .int 0, .int 0] [] rfl rfl (Nat.le_of_ble_eq_true rfl) (by decide) rfl h7 rfl ?_
  refine gm_pop dX11_deliver_114 ?_
  refine gm_iload_n dX11_deliver_115 rfl ?_
  refine gm_if_eq_t (tgt := 121) dX11_deliver_116 (by decide) c8 ?_
  refine gm_aload_n dX11_deliver_121 rfl ?_
  refine gm_getR (own := RX11) (q := 31) rfl dX11_deliver_122 lfX11_116 sM_0 rfl ?_
  refine gm_iconst (v := 1) dX11_deliver_125 (by decide) ?_
  refine gm_iald (j := 1) (x := (T3 31 1)) dX11_deliver_126 sM_31 ⟨by decide, by decide⟩ rfl ?_
  refine gm_tabEq (v := 0) (tgt := 152) dX11_deliver_127 c9 (by decide) (by decide) rfl (by decide) ?_
  refine gm_aload_n dX11_deliver_152 rfl ?_
  refine gm_callV (r1 := none) (own := RX11) rfl dX11_deliver_153 llX11_280 mvX11_answersHello sM_0 rfl [] [] rfl rfl (Nat.le_of_ble_eq_true rfl) (by decide) rfl h10 rfl ?_
  refine gm_goto (tgt := 180) dX11_deliver_156 (by decide) ?_
  refine gm_iconst (v := 0) dX11_deliver_180 (by decide) ?_
  exact gm_iret dX11_deliver_181 rfl
/-- X11_deliver 19 [22t 97f 116t 127=1] -> ret  -/
theorem PX11_deliver_6 {x1 : Int32} {x2 : Int32} {x3 : Int32} {S : gm_Mem} {T1 : gm_Mem} {j3 : Nat} {T2 : gm_Mem} {T3 : gm_Mem} {r6 : Int32} {T4 : gm_Mem} (c1 : ¬ x3 < 9) (h2 : gm_run gM 0 YX11_removes 0 [some (.ref 0), some (.int x1), none] [] S none T1) (ij3 : gm_ix ((9 * (1 - (T1 31 0))) + x2) j3 18) (h4 : gm_run gM 0 YX11_logs 0 [some (.ref 0), some (.int 1), some (.int (T1 31 1)), some (.int x2), none] [] (gm_u (gm_u T1 0 6 ((T1 0 6) + 1)) 32 j3 ((T1 32 j3) + 1)) none T2) (c5 : x2 = 8) (h7 : gm_run gM 2 YX11_sendsPlain 0 [some (.ref 0), some (.int 1), some (.int 2), some (.int (T2 31 2)), some (.int 0), some (.int 0)] [] T2 (some (.int r6)) T3) (c8 : x2 = 0) (c9 : (T3 31 1) = 1) (h10 : gm_run gM 4 YX11_hasReply 0 [some (.ref 0)] [] T3 none T4) : gm_run gM 5 YX11_deliver 19 [some (.ref 0), some (.int x1), some (.int x2), some (.int x3)] [] S (some (.int 0)) T4 := by
  refine gm_iload_n dX11_deliver_19 rfl ?_
  refine gm_bipush (v := 9) dX11_deliver_20 (by decide) ?_
  refine gm_icmp_ge_t (tgt := 43) dX11_deliver_22 (by decide) c1 ?_
  refine gm_aload_n dX11_deliver_43 rfl ?_
  refine gm_iload_n dX11_deliver_44 rfl ?_
  refine gm_callV (r1 := none) (own := RX11) rfl dX11_deliver_45 llX11_274 mvX11_removes sM_0 rfl [.int x1] [] rfl rfl (Nat.le_of_ble_eq_true rfl) (by decide) rfl h2 rfl ?_
  refine gm_iconst (v := 1) dX11_deliver_48 (by decide) ?_
  refine gm_aload_n dX11_deliver_49 rfl ?_
  refine gm_getR (own := RX11) (q := 31) rfl dX11_deliver_50 lfX11_116 sM_0 rfl ?_
  refine gm_iconst (v := 0) dX11_deliver_53 (by decide) ?_
  refine gm_iald (j := 0) (x := (T1 31 0)) dX11_deliver_54 sM_31 ⟨by decide, by decide⟩ rfl ?_
  refine gm_isub dX11_deliver_55 rfl ?_
  refine gm_istore_n (L' := [some (.ref 0), some (.int x1), some (.int x2), some (.int (1 - (T1 31 0)))]) dX11_deliver_56 (by decide) rfl ?_
  refine gm_aload_n dX11_deliver_57 rfl ?_
  refine gm_dup dX11_deliver_58 ?_
  refine gm_getI (own := RX11) (x := (T1 0 6)) rfl dX11_deliver_59 lfX11_277 sM_0 rfl rfl ?_
  refine gm_iconst (v := 1) dX11_deliver_62 (by decide) ?_
  refine gm_iadd dX11_deliver_63 rfl ?_
  refine gm_put (own := RX11) rfl dX11_deliver_64 lfX11_277 sM_0 rfl (gm_fit_int _) ?_
  refine gm_aload_n dX11_deliver_67 rfl ?_
  refine gm_getR (own := RX11) (q := 32) rfl dX11_deliver_68 lfX11_119 sM_0 rfl ?_
  refine gm_bipush (v := 9) dX11_deliver_71 (by decide) ?_
  refine gm_iload_n dX11_deliver_73 rfl ?_
  refine gm_imul dX11_deliver_74 rfl ?_
  refine gm_iload_n dX11_deliver_75 rfl ?_
  refine gm_iadd dX11_deliver_76 rfl ?_
  refine gm_dup2 dX11_deliver_77 ?_
  refine gm_iald (j := j3) (x := (T1 32 j3)) dX11_deliver_78 sM_32 ij3 (gm_rp (by omega)) ?_
  refine gm_iconst (v := 1) dX11_deliver_79 (by decide) ?_
  refine gm_iadd dX11_deliver_80 rfl ?_
  refine gm_iast (j := j3) dX11_deliver_81 sM_32 ij3 ?_
  refine gm_aload_n dX11_deliver_82 rfl ?_
  refine gm_iconst (v := 1) dX11_deliver_83 (by decide) ?_
  refine gm_aload_n dX11_deliver_84 rfl ?_
  refine gm_getR (own := RX11) (q := 31) rfl dX11_deliver_85 lfX11_116 sM_0 rfl ?_
  refine gm_iconst (v := 1) dX11_deliver_88 (by decide) ?_
  refine gm_iald (j := 1) (x := (T1 31 1)) dX11_deliver_89 sM_31 ⟨by decide, by decide⟩ ((gm_rp (by omega)).trans (gm_rp (by omega))) ?_
  refine gm_iload_n dX11_deliver_90 rfl ?_
  refine gm_callV (r1 := none) (own := RX11) rfl dX11_deliver_91 llX11_142 mvX11_logs sM_0 rfl [.int 1, .int (T1 31 1), .int x2] [] rfl rfl (Nat.le_of_ble_eq_true rfl) (by decide) rfl h4 rfl ?_
  refine gm_iload_n dX11_deliver_94 rfl ?_
  refine gm_bipush (v := 8) dX11_deliver_95 (by decide) ?_
  refine gm_icmp_ne_f dX11_deliver_97 ⟨115, by decide⟩ c5 ?_
  refine gm_aload_n dX11_deliver_100 rfl ?_
  refine gm_iconst (v := 1) dX11_deliver_101 (by decide) ?_
  refine gm_iconst (v := 2) dX11_deliver_102 (by decide) ?_
  refine gm_aload_n dX11_deliver_103 rfl ?_
  refine gm_getR (own := RX11) (q := 31) rfl dX11_deliver_104 lfX11_116 sM_0 rfl ?_
  refine gm_iconst (v := 2) dX11_deliver_107 (by decide) ?_
  refine gm_iald (j := 2) (x := (T2 31 2)) dX11_deliver_108 sM_31 ⟨by decide, by decide⟩ rfl ?_
  refine gm_iconst (v := 0) dX11_deliver_109 (by decide) ?_
  refine gm_iconst (v := 0) dX11_deliver_110 (by decide) ?_
  refine gm_callV (r1 := (some (.int r6))) (own := RX11) rfl dX11_deliver_111 llX11_189 mvX11_sendsPlain sM_0 rfl [.int 1, .int 2, .int (T2 31 2), .int 0, .int 0] [] rfl rfl (Nat.le_of_ble_eq_true rfl) (by decide) rfl h7 rfl ?_
  refine gm_pop dX11_deliver_114 ?_
  refine gm_iload_n dX11_deliver_115 rfl ?_
  refine gm_if_eq_t (tgt := 121) dX11_deliver_116 (by decide) c8 ?_
  refine gm_aload_n dX11_deliver_121 rfl ?_
  refine gm_getR (own := RX11) (q := 31) rfl dX11_deliver_122 lfX11_116 sM_0 rfl ?_
  refine gm_iconst (v := 1) dX11_deliver_125 (by decide) ?_
  refine gm_iald (j := 1) (x := (T3 31 1)) dX11_deliver_126 sM_31 ⟨by decide, by decide⟩ rfl ?_
  refine gm_tabEq (v := 1) (tgt := 159) dX11_deliver_127 c9 (by decide) (by decide) rfl (by decide) ?_
  refine gm_aload_n dX11_deliver_159 rfl ?_
  refine gm_callV (r1 := none) (own := RX11) rfl dX11_deliver_160 llX11_283 mvX11_hasReply sM_0 rfl [] [] rfl rfl (Nat.le_of_ble_eq_true rfl) (by decide) rfl h10 rfl ?_
  refine gm_goto (tgt := 180) dX11_deliver_163 (by decide) ?_
  refine gm_iconst (v := 0) dX11_deliver_180 (by decide) ?_
  exact gm_iret dX11_deliver_181 rfl
/-- X11_deliver 19 [22t 97f 116t 127=2] -> ret  -/
theorem PX11_deliver_7 {x1 : Int32} {x2 : Int32} {x3 : Int32} {S : gm_Mem} {T1 : gm_Mem} {j3 : Nat} {T2 : gm_Mem} {T3 : gm_Mem} {r6 : Int32} {T4 : gm_Mem} (c1 : ¬ x3 < 9) (h2 : gm_run gM 0 YX11_removes 0 [some (.ref 0), some (.int x1), none] [] S none T1) (ij3 : gm_ix ((9 * (1 - (T1 31 0))) + x2) j3 18) (h4 : gm_run gM 0 YX11_logs 0 [some (.ref 0), some (.int 1), some (.int (T1 31 1)), some (.int x2), none] [] (gm_u (gm_u T1 0 6 ((T1 0 6) + 1)) 32 j3 ((T1 32 j3) + 1)) none T2) (c5 : x2 = 8) (h7 : gm_run gM 2 YX11_sendsPlain 0 [some (.ref 0), some (.int 1), some (.int 2), some (.int (T2 31 2)), some (.int 0), some (.int 0)] [] T2 (some (.int r6)) T3) (c8 : x2 = 0) (c9 : (T3 31 1) = 2) (h10 : gm_run gM 1 YX11_becomes 0 [some (.ref 0), some (.int 0), some (.int 0)] [] T3 none T4) : gm_run gM 5 YX11_deliver 19 [some (.ref 0), some (.int x1), some (.int x2), some (.int x3)] [] S (some (.int 0)) T4 := by
  refine gm_iload_n dX11_deliver_19 rfl ?_
  refine gm_bipush (v := 9) dX11_deliver_20 (by decide) ?_
  refine gm_icmp_ge_t (tgt := 43) dX11_deliver_22 (by decide) c1 ?_
  refine gm_aload_n dX11_deliver_43 rfl ?_
  refine gm_iload_n dX11_deliver_44 rfl ?_
  refine gm_callV (r1 := none) (own := RX11) rfl dX11_deliver_45 llX11_274 mvX11_removes sM_0 rfl [.int x1] [] rfl rfl (Nat.le_of_ble_eq_true rfl) (by decide) rfl h2 rfl ?_
  refine gm_iconst (v := 1) dX11_deliver_48 (by decide) ?_
  refine gm_aload_n dX11_deliver_49 rfl ?_
  refine gm_getR (own := RX11) (q := 31) rfl dX11_deliver_50 lfX11_116 sM_0 rfl ?_
  refine gm_iconst (v := 0) dX11_deliver_53 (by decide) ?_
  refine gm_iald (j := 0) (x := (T1 31 0)) dX11_deliver_54 sM_31 ⟨by decide, by decide⟩ rfl ?_
  refine gm_isub dX11_deliver_55 rfl ?_
  refine gm_istore_n (L' := [some (.ref 0), some (.int x1), some (.int x2), some (.int (1 - (T1 31 0)))]) dX11_deliver_56 (by decide) rfl ?_
  refine gm_aload_n dX11_deliver_57 rfl ?_
  refine gm_dup dX11_deliver_58 ?_
  refine gm_getI (own := RX11) (x := (T1 0 6)) rfl dX11_deliver_59 lfX11_277 sM_0 rfl rfl ?_
  refine gm_iconst (v := 1) dX11_deliver_62 (by decide) ?_
  refine gm_iadd dX11_deliver_63 rfl ?_
  refine gm_put (own := RX11) rfl dX11_deliver_64 lfX11_277 sM_0 rfl (gm_fit_int _) ?_
  refine gm_aload_n dX11_deliver_67 rfl ?_
  refine gm_getR (own := RX11) (q := 32) rfl dX11_deliver_68 lfX11_119 sM_0 rfl ?_
  refine gm_bipush (v := 9) dX11_deliver_71 (by decide) ?_
  refine gm_iload_n dX11_deliver_73 rfl ?_
  refine gm_imul dX11_deliver_74 rfl ?_
  refine gm_iload_n dX11_deliver_75 rfl ?_
  refine gm_iadd dX11_deliver_76 rfl ?_
  refine gm_dup2 dX11_deliver_77 ?_
  refine gm_iald (j := j3) (x := (T1 32 j3)) dX11_deliver_78 sM_32 ij3 (gm_rp (by omega)) ?_
  refine gm_iconst (v := 1) dX11_deliver_79 (by decide) ?_
  refine gm_iadd dX11_deliver_80 rfl ?_
  refine gm_iast (j := j3) dX11_deliver_81 sM_32 ij3 ?_
  refine gm_aload_n dX11_deliver_82 rfl ?_
  refine gm_iconst (v := 1) dX11_deliver_83 (by decide) ?_
  refine gm_aload_n dX11_deliver_84 rfl ?_
  refine gm_getR (own := RX11) (q := 31) rfl dX11_deliver_85 lfX11_116 sM_0 rfl ?_
  refine gm_iconst (v := 1) dX11_deliver_88 (by decide) ?_
  refine gm_iald (j := 1) (x := (T1 31 1)) dX11_deliver_89 sM_31 ⟨by decide, by decide⟩ ((gm_rp (by omega)).trans (gm_rp (by omega))) ?_
  refine gm_iload_n dX11_deliver_90 rfl ?_
  refine gm_callV (r1 := none) (own := RX11) rfl dX11_deliver_91 llX11_142 mvX11_logs sM_0 rfl [.int 1, .int (T1 31 1), .int x2] [] rfl rfl (Nat.le_of_ble_eq_true rfl) (by decide) rfl h4 rfl ?_
  refine gm_iload_n dX11_deliver_94 rfl ?_
  refine gm_bipush (v := 8) dX11_deliver_95 (by decide) ?_
  refine gm_icmp_ne_f dX11_deliver_97 ⟨115, by decide⟩ c5 ?_
  refine gm_aload_n dX11_deliver_100 rfl ?_
  refine gm_iconst (v := 1) dX11_deliver_101 (by decide) ?_
  refine gm_iconst (v := 2) dX11_deliver_102 (by decide) ?_
  refine gm_aload_n dX11_deliver_103 rfl ?_
  refine gm_getR (own := RX11) (q := 31) rfl dX11_deliver_104 lfX11_116 sM_0 rfl ?_
  refine gm_iconst (v := 2) dX11_deliver_107 (by decide) ?_
  refine gm_iald (j := 2) (x := (T2 31 2)) dX11_deliver_108 sM_31 ⟨by decide, by decide⟩ rfl ?_
  refine gm_iconst (v := 0) dX11_deliver_109 (by decide) ?_
  refine gm_iconst (v := 0) dX11_deliver_110 (by decide) ?_
  refine gm_callV (r1 := (some (.int r6))) (own := RX11) rfl dX11_deliver_111 llX11_189 mvX11_sendsPlain sM_0 rfl [.int 1, .int 2, .int (T2 31 2), .int 0, .int 0] [] rfl rfl (Nat.le_of_ble_eq_true rfl) (by decide) rfl h7 rfl ?_
  refine gm_pop dX11_deliver_114 ?_
  refine gm_iload_n dX11_deliver_115 rfl ?_
  refine gm_if_eq_t (tgt := 121) dX11_deliver_116 (by decide) c8 ?_
  refine gm_aload_n dX11_deliver_121 rfl ?_
  refine gm_getR (own := RX11) (q := 31) rfl dX11_deliver_122 lfX11_116 sM_0 rfl ?_
  refine gm_iconst (v := 1) dX11_deliver_125 (by decide) ?_
  refine gm_iald (j := 1) (x := (T3 31 1)) dX11_deliver_126 sM_31 ⟨by decide, by decide⟩ rfl ?_
  refine gm_tabEq (v := 2) (tgt := 166) dX11_deliver_127 c9 (by decide) (by decide) rfl (by decide) ?_
  refine gm_aload_n dX11_deliver_166 rfl ?_
  refine gm_iconst (v := 0) dX11_deliver_167 (by decide) ?_
  refine gm_iconst (v := 0) dX11_deliver_168 (by decide) ?_
  refine gm_callV (r1 := none) (own := RX11) rfl dX11_deliver_169 llX11_185 mvX11_becomes sM_0 rfl [.int 0, .int 0] [] rfl rfl (Nat.le_of_ble_eq_true rfl) (by decide) rfl h10 rfl ?_
  refine gm_goto (tgt := 180) dX11_deliver_172 (by decide) ?_
  refine gm_iconst (v := 0) dX11_deliver_180 (by decide) ?_
  exact gm_iret dX11_deliver_181 rfl
/-- X11_deliver 19 [22t 97f 116t 127out] -> ret  -/
theorem PX11_deliver_8 {x1 : Int32} {x2 : Int32} {x3 : Int32} {S : gm_Mem} {T1 : gm_Mem} {j3 : Nat} {T2 : gm_Mem} {T3 : gm_Mem} {r6 : Int32} {T4 : gm_Mem} (c1 : ¬ x3 < 9) (h2 : gm_run gM 0 YX11_removes 0 [some (.ref 0), some (.int x1), none] [] S none T1) (ij3 : gm_ix ((9 * (1 - (T1 31 0))) + x2) j3 18) (h4 : gm_run gM 0 YX11_logs 0 [some (.ref 0), some (.int 1), some (.int (T1 31 1)), some (.int x2), none] [] (gm_u (gm_u T1 0 6 ((T1 0 6) + 1)) 32 j3 ((T1 32 j3) + 1)) none T2) (c5 : x2 = 8) (h7 : gm_run gM 2 YX11_sendsPlain 0 [some (.ref 0), some (.int 1), some (.int 2), some (.int (T2 31 2)), some (.int 0), some (.int 0)] [] T2 (some (.int r6)) T3) (c8 : x2 = 0) (c9 : (T3 31 1).toInt < 0 ∨ 2 < (T3 31 1).toInt) (h10 : gm_run gM 4 YX11_hasProtected 0 [some (.ref 0), some (.int (1 - (T1 31 0))), none, none] [] T3 none T4) : gm_run gM 5 YX11_deliver 19 [some (.ref 0), some (.int x1), some (.int x2), some (.int x3)] [] S (some (.int 0)) T4 := by
  refine gm_iload_n dX11_deliver_19 rfl ?_
  refine gm_bipush (v := 9) dX11_deliver_20 (by decide) ?_
  refine gm_icmp_ge_t (tgt := 43) dX11_deliver_22 (by decide) c1 ?_
  refine gm_aload_n dX11_deliver_43 rfl ?_
  refine gm_iload_n dX11_deliver_44 rfl ?_
  refine gm_callV (r1 := none) (own := RX11) rfl dX11_deliver_45 llX11_274 mvX11_removes sM_0 rfl [.int x1] [] rfl rfl (Nat.le_of_ble_eq_true rfl) (by decide) rfl h2 rfl ?_
  refine gm_iconst (v := 1) dX11_deliver_48 (by decide) ?_
  refine gm_aload_n dX11_deliver_49 rfl ?_
  refine gm_getR (own := RX11) (q := 31) rfl dX11_deliver_50 lfX11_116 sM_0 rfl ?_
  refine gm_iconst (v := 0) dX11_deliver_53 (by decide) ?_
  refine gm_iald (j := 0) (x := (T1 31 0)) dX11_deliver_54 sM_31 ⟨by decide, by decide⟩ rfl ?_
  refine gm_isub dX11_deliver_55 rfl ?_
  refine gm_istore_n (L' := [some (.ref 0), some (.int x1), some (.int x2), some (.int (1 - (T1 31 0)))]) dX11_deliver_56 (by decide) rfl ?_
  refine gm_aload_n dX11_deliver_57 rfl ?_
  refine gm_dup dX11_deliver_58 ?_
  refine gm_getI (own := RX11) (x := (T1 0 6)) rfl dX11_deliver_59 lfX11_277 sM_0 rfl rfl ?_
  refine gm_iconst (v := 1) dX11_deliver_62 (by decide) ?_
  refine gm_iadd dX11_deliver_63 rfl ?_
  refine gm_put (own := RX11) rfl dX11_deliver_64 lfX11_277 sM_0 rfl (gm_fit_int _) ?_
  refine gm_aload_n dX11_deliver_67 rfl ?_
  refine gm_getR (own := RX11) (q := 32) rfl dX11_deliver_68 lfX11_119 sM_0 rfl ?_
  refine gm_bipush (v := 9) dX11_deliver_71 (by decide) ?_
  refine gm_iload_n dX11_deliver_73 rfl ?_
  refine gm_imul dX11_deliver_74 rfl ?_
  refine gm_iload_n dX11_deliver_75 rfl ?_
  refine gm_iadd dX11_deliver_76 rfl ?_
  refine gm_dup2 dX11_deliver_77 ?_
  refine gm_iald (j := j3) (x := (T1 32 j3)) dX11_deliver_78 sM_32 ij3 (gm_rp (by omega)) ?_
  refine gm_iconst (v := 1) dX11_deliver_79 (by decide) ?_
  refine gm_iadd dX11_deliver_80 rfl ?_
  refine gm_iast (j := j3) dX11_deliver_81 sM_32 ij3 ?_
  refine gm_aload_n dX11_deliver_82 rfl ?_
  refine gm_iconst (v := 1) dX11_deliver_83 (by decide) ?_
  refine gm_aload_n dX11_deliver_84 rfl ?_
  refine gm_getR (own := RX11) (q := 31) rfl dX11_deliver_85 lfX11_116 sM_0 rfl ?_
  refine gm_iconst (v := 1) dX11_deliver_88 (by decide) ?_
  refine gm_iald (j := 1) (x := (T1 31 1)) dX11_deliver_89 sM_31 ⟨by decide, by decide⟩ ((gm_rp (by omega)).trans (gm_rp (by omega))) ?_
  refine gm_iload_n dX11_deliver_90 rfl ?_
  refine gm_callV (r1 := none) (own := RX11) rfl dX11_deliver_91 llX11_142 mvX11_logs sM_0 rfl [.int 1, .int (T1 31 1), .int x2] [] rfl rfl (Nat.le_of_ble_eq_true rfl) (by decide) rfl h4 rfl ?_
  refine gm_iload_n dX11_deliver_94 rfl ?_
  refine gm_bipush (v := 8) dX11_deliver_95 (by decide) ?_
  refine gm_icmp_ne_f dX11_deliver_97 ⟨115, by decide⟩ c5 ?_
  refine gm_aload_n dX11_deliver_100 rfl ?_
  refine gm_iconst (v := 1) dX11_deliver_101 (by decide) ?_
  refine gm_iconst (v := 2) dX11_deliver_102 (by decide) ?_
  refine gm_aload_n dX11_deliver_103 rfl ?_
  refine gm_getR (own := RX11) (q := 31) rfl dX11_deliver_104 lfX11_116 sM_0 rfl ?_
  refine gm_iconst (v := 2) dX11_deliver_107 (by decide) ?_
  refine gm_iald (j := 2) (x := (T2 31 2)) dX11_deliver_108 sM_31 ⟨by decide, by decide⟩ rfl ?_
  refine gm_iconst (v := 0) dX11_deliver_109 (by decide) ?_
  refine gm_iconst (v := 0) dX11_deliver_110 (by decide) ?_
  refine gm_callV (r1 := (some (.int r6))) (own := RX11) rfl dX11_deliver_111 llX11_189 mvX11_sendsPlain sM_0 rfl [.int 1, .int 2, .int (T2 31 2), .int 0, .int 0] [] rfl rfl (Nat.le_of_ble_eq_true rfl) (by decide) rfl h7 rfl ?_
  refine gm_pop dX11_deliver_114 ?_
  refine gm_iload_n dX11_deliver_115 rfl ?_
  refine gm_if_eq_t (tgt := 121) dX11_deliver_116 (by decide) c8 ?_
  refine gm_aload_n dX11_deliver_121 rfl ?_
  refine gm_getR (own := RX11) (q := 31) rfl dX11_deliver_122 lfX11_116 sM_0 rfl ?_
  refine gm_iconst (v := 1) dX11_deliver_125 (by decide) ?_
  refine gm_iald (j := 1) (x := (T3 31 1)) dX11_deliver_126 sM_31 ⟨by decide, by decide⟩ rfl ?_
  refine gm_tabOut (tgt := 175) dX11_deliver_127 c9 (by decide) ?_
  refine gm_aload_n dX11_deliver_175 rfl ?_
  refine gm_iload_n dX11_deliver_176 rfl ?_
  refine gm_callV (r1 := none) (own := RX11) rfl dX11_deliver_177 llX11_286 mvX11_hasProtected sM_0 rfl [.int (1 - (T1 31 0))] [] rfl rfl (Nat.le_of_ble_eq_true rfl) (by decide) rfl h10 rfl ?_
  refine gm_iconst (v := 0) dX11_deliver_180 (by decide) ?_
  exact gm_iret dX11_deliver_181 rfl
/-- X11_deliver 19 [22t 97t 116f] -> ret  -/
theorem PX11_deliver_9 {x1 : Int32} {x2 : Int32} {x3 : Int32} {S : gm_Mem} {T1 : gm_Mem} {j3 : Nat} {T2 : gm_Mem} (c1 : ¬ x3 < 9) (h2 : gm_run gM 0 YX11_removes 0 [some (.ref 0), some (.int x1), none] [] S none T1) (ij3 : gm_ix ((9 * (1 - (T1 31 0))) + x2) j3 18) (h4 : gm_run gM 0 YX11_logs 0 [some (.ref 0), some (.int 1), some (.int (T1 31 1)), some (.int x2), none] [] (gm_u (gm_u T1 0 6 ((T1 0 6) + 1)) 32 j3 ((T1 32 j3) + 1)) none T2) (c5 : ¬ x2 = 8) (c6 : ¬ x2 = 0) : gm_run gM 5 YX11_deliver 19 [some (.ref 0), some (.int x1), some (.int x2), some (.int x3)] [] S (some (.int x2)) T2 := by
  refine gm_iload_n dX11_deliver_19 rfl ?_
  refine gm_bipush (v := 9) dX11_deliver_20 (by decide) ?_
  refine gm_icmp_ge_t (tgt := 43) dX11_deliver_22 (by decide) c1 ?_
  refine gm_aload_n dX11_deliver_43 rfl ?_
  refine gm_iload_n dX11_deliver_44 rfl ?_
  refine gm_callV (r1 := none) (own := RX11) rfl dX11_deliver_45 llX11_274 mvX11_removes sM_0 rfl [.int x1] [] rfl rfl (Nat.le_of_ble_eq_true rfl) (by decide) rfl h2 rfl ?_
  refine gm_iconst (v := 1) dX11_deliver_48 (by decide) ?_
  refine gm_aload_n dX11_deliver_49 rfl ?_
  refine gm_getR (own := RX11) (q := 31) rfl dX11_deliver_50 lfX11_116 sM_0 rfl ?_
  refine gm_iconst (v := 0) dX11_deliver_53 (by decide) ?_
  refine gm_iald (j := 0) (x := (T1 31 0)) dX11_deliver_54 sM_31 ⟨by decide, by decide⟩ rfl ?_
  refine gm_isub dX11_deliver_55 rfl ?_
  refine gm_istore_n (L' := [some (.ref 0), some (.int x1), some (.int x2), some (.int (1 - (T1 31 0)))]) dX11_deliver_56 (by decide) rfl ?_
  refine gm_aload_n dX11_deliver_57 rfl ?_
  refine gm_dup dX11_deliver_58 ?_
  refine gm_getI (own := RX11) (x := (T1 0 6)) rfl dX11_deliver_59 lfX11_277 sM_0 rfl rfl ?_
  refine gm_iconst (v := 1) dX11_deliver_62 (by decide) ?_
  refine gm_iadd dX11_deliver_63 rfl ?_
  refine gm_put (own := RX11) rfl dX11_deliver_64 lfX11_277 sM_0 rfl (gm_fit_int _) ?_
  refine gm_aload_n dX11_deliver_67 rfl ?_
  refine gm_getR (own := RX11) (q := 32) rfl dX11_deliver_68 lfX11_119 sM_0 rfl ?_
  refine gm_bipush (v := 9) dX11_deliver_71 (by decide) ?_
  refine gm_iload_n dX11_deliver_73 rfl ?_
  refine gm_imul dX11_deliver_74 rfl ?_
  refine gm_iload_n dX11_deliver_75 rfl ?_
  refine gm_iadd dX11_deliver_76 rfl ?_
  refine gm_dup2 dX11_deliver_77 ?_
  refine gm_iald (j := j3) (x := (T1 32 j3)) dX11_deliver_78 sM_32 ij3 (gm_rp (by omega)) ?_
  refine gm_iconst (v := 1) dX11_deliver_79 (by decide) ?_
  refine gm_iadd dX11_deliver_80 rfl ?_
  refine gm_iast (j := j3) dX11_deliver_81 sM_32 ij3 ?_
  refine gm_aload_n dX11_deliver_82 rfl ?_
  refine gm_iconst (v := 1) dX11_deliver_83 (by decide) ?_
  refine gm_aload_n dX11_deliver_84 rfl ?_
  refine gm_getR (own := RX11) (q := 31) rfl dX11_deliver_85 lfX11_116 sM_0 rfl ?_
  refine gm_iconst (v := 1) dX11_deliver_88 (by decide) ?_
  refine gm_iald (j := 1) (x := (T1 31 1)) dX11_deliver_89 sM_31 ⟨by decide, by decide⟩ ((gm_rp (by omega)).trans (gm_rp (by omega))) ?_
  refine gm_iload_n dX11_deliver_90 rfl ?_
  refine gm_callV (r1 := none) (own := RX11) rfl dX11_deliver_91 llX11_142 mvX11_logs sM_0 rfl [.int 1, .int (T1 31 1), .int x2] [] rfl rfl (Nat.le_of_ble_eq_true rfl) (by decide) rfl h4 rfl ?_
  refine gm_iload_n dX11_deliver_94 rfl ?_
  refine gm_bipush (v := 8) dX11_deliver_95 (by decide) ?_
  refine gm_icmp_ne_t (tgt := 115) dX11_deliver_97 (by decide) c5 ?_
  refine gm_iload_n dX11_deliver_115 rfl ?_
  refine gm_if_eq_f dX11_deliver_116 ⟨121, by decide⟩ c6 ?_
  refine gm_iload_n dX11_deliver_119 rfl ?_
  exact gm_iret dX11_deliver_120 rfl
/-- X11_deliver 19 [22t 97t 116t 127=0] -> ret  -/
theorem PX11_deliver_10 {x1 : Int32} {x2 : Int32} {x3 : Int32} {S : gm_Mem} {T1 : gm_Mem} {j3 : Nat} {T2 : gm_Mem} {T3 : gm_Mem} (c1 : ¬ x3 < 9) (h2 : gm_run gM 0 YX11_removes 0 [some (.ref 0), some (.int x1), none] [] S none T1) (ij3 : gm_ix ((9 * (1 - (T1 31 0))) + x2) j3 18) (h4 : gm_run gM 0 YX11_logs 0 [some (.ref 0), some (.int 1), some (.int (T1 31 1)), some (.int x2), none] [] (gm_u (gm_u T1 0 6 ((T1 0 6) + 1)) 32 j3 ((T1 32 j3) + 1)) none T2) (c5 : ¬ x2 = 8) (c6 : x2 = 0) (c7 : (T2 31 1) = 0) (h8 : gm_run gM 3 YX11_answersHello 0 [some (.ref 0)] [] T2 none T3) : gm_run gM 5 YX11_deliver 19 [some (.ref 0), some (.int x1), some (.int x2), some (.int x3)] [] S (some (.int 0)) T3 := by
  refine gm_iload_n dX11_deliver_19 rfl ?_
  refine gm_bipush (v := 9) dX11_deliver_20 (by decide) ?_
  refine gm_icmp_ge_t (tgt := 43) dX11_deliver_22 (by decide) c1 ?_
  refine gm_aload_n dX11_deliver_43 rfl ?_
  refine gm_iload_n dX11_deliver_44 rfl ?_
  refine gm_callV (r1 := none) (own := RX11) rfl dX11_deliver_45 llX11_274 mvX11_removes sM_0 rfl [.int x1] [] rfl rfl (Nat.le_of_ble_eq_true rfl) (by decide) rfl h2 rfl ?_
  refine gm_iconst (v := 1) dX11_deliver_48 (by decide) ?_
  refine gm_aload_n dX11_deliver_49 rfl ?_
  refine gm_getR (own := RX11) (q := 31) rfl dX11_deliver_50 lfX11_116 sM_0 rfl ?_
  refine gm_iconst (v := 0) dX11_deliver_53 (by decide) ?_
  refine gm_iald (j := 0) (x := (T1 31 0)) dX11_deliver_54 sM_31 ⟨by decide, by decide⟩ rfl ?_
  refine gm_isub dX11_deliver_55 rfl ?_
  refine gm_istore_n (L' := [some (.ref 0), some (.int x1), some (.int x2), some (.int (1 - (T1 31 0)))]) dX11_deliver_56 (by decide) rfl ?_
  refine gm_aload_n dX11_deliver_57 rfl ?_
  refine gm_dup dX11_deliver_58 ?_
  refine gm_getI (own := RX11) (x := (T1 0 6)) rfl dX11_deliver_59 lfX11_277 sM_0 rfl rfl ?_
  refine gm_iconst (v := 1) dX11_deliver_62 (by decide) ?_
  refine gm_iadd dX11_deliver_63 rfl ?_
  refine gm_put (own := RX11) rfl dX11_deliver_64 lfX11_277 sM_0 rfl (gm_fit_int _) ?_
  refine gm_aload_n dX11_deliver_67 rfl ?_
  refine gm_getR (own := RX11) (q := 32) rfl dX11_deliver_68 lfX11_119 sM_0 rfl ?_
  refine gm_bipush (v := 9) dX11_deliver_71 (by decide) ?_
  refine gm_iload_n dX11_deliver_73 rfl ?_
  refine gm_imul dX11_deliver_74 rfl ?_
  refine gm_iload_n dX11_deliver_75 rfl ?_
  refine gm_iadd dX11_deliver_76 rfl ?_
  refine gm_dup2 dX11_deliver_77 ?_
  refine gm_iald (j := j3) (x := (T1 32 j3)) dX11_deliver_78 sM_32 ij3 (gm_rp (by omega)) ?_
  refine gm_iconst (v := 1) dX11_deliver_79 (by decide) ?_
  refine gm_iadd dX11_deliver_80 rfl ?_
  refine gm_iast (j := j3) dX11_deliver_81 sM_32 ij3 ?_
  refine gm_aload_n dX11_deliver_82 rfl ?_
  refine gm_iconst (v := 1) dX11_deliver_83 (by decide) ?_
  refine gm_aload_n dX11_deliver_84 rfl ?_
  refine gm_getR (own := RX11) (q := 31) rfl dX11_deliver_85 lfX11_116 sM_0 rfl ?_
  refine gm_iconst (v := 1) dX11_deliver_88 (by decide) ?_
  refine gm_iald (j := 1) (x := (T1 31 1)) dX11_deliver_89 sM_31 ⟨by decide, by decide⟩ ((gm_rp (by omega)).trans (gm_rp (by omega))) ?_
  refine gm_iload_n dX11_deliver_90 rfl ?_
  refine gm_callV (r1 := none) (own := RX11) rfl dX11_deliver_91 llX11_142 mvX11_logs sM_0 rfl [.int 1, .int (T1 31 1), .int x2] [] rfl rfl (Nat.le_of_ble_eq_true rfl) (by decide) rfl h4 rfl ?_
  refine gm_iload_n dX11_deliver_94 rfl ?_
  refine gm_bipush (v := 8) dX11_deliver_95 (by decide) ?_
  refine gm_icmp_ne_t (tgt := 115) dX11_deliver_97 (by decide) c5 ?_
  refine gm_iload_n dX11_deliver_115 rfl ?_
  refine gm_if_eq_t (tgt := 121) dX11_deliver_116 (by decide) c6 ?_
  refine gm_aload_n dX11_deliver_121 rfl ?_
  refine gm_getR (own := RX11) (q := 31) rfl dX11_deliver_122 lfX11_116 sM_0 rfl ?_
  refine gm_iconst (v := 1) dX11_deliver_125 (by decide) ?_
  refine gm_iald (j := 1) (x := (T2 31 1)) dX11_deliver_126 sM_31 ⟨by decide, by decide⟩ rfl ?_
  refine gm_tabEq (v := 0) (tgt := 152) dX11_deliver_127 c7 (by decide) (by decide) rfl (by decide) ?_
  refine gm_aload_n dX11_deliver_152 rfl ?_
  refine gm_callV (r1 := none) (own := RX11) rfl dX11_deliver_153 llX11_280 mvX11_answersHello sM_0 rfl [] [] rfl rfl (Nat.le_of_ble_eq_true rfl) (by decide) rfl h8 rfl ?_
  refine gm_goto (tgt := 180) dX11_deliver_156 (by decide) ?_
  refine gm_iconst (v := 0) dX11_deliver_180 (by decide) ?_
  exact gm_iret dX11_deliver_181 rfl
/-- X11_deliver 19 [22t 97t 116t 127=1] -> ret  -/
theorem PX11_deliver_11 {x1 : Int32} {x2 : Int32} {x3 : Int32} {S : gm_Mem} {T1 : gm_Mem} {j3 : Nat} {T2 : gm_Mem} {T3 : gm_Mem} (c1 : ¬ x3 < 9) (h2 : gm_run gM 0 YX11_removes 0 [some (.ref 0), some (.int x1), none] [] S none T1) (ij3 : gm_ix ((9 * (1 - (T1 31 0))) + x2) j3 18) (h4 : gm_run gM 0 YX11_logs 0 [some (.ref 0), some (.int 1), some (.int (T1 31 1)), some (.int x2), none] [] (gm_u (gm_u T1 0 6 ((T1 0 6) + 1)) 32 j3 ((T1 32 j3) + 1)) none T2) (c5 : ¬ x2 = 8) (c6 : x2 = 0) (c7 : (T2 31 1) = 1) (h8 : gm_run gM 4 YX11_hasReply 0 [some (.ref 0)] [] T2 none T3) : gm_run gM 5 YX11_deliver 19 [some (.ref 0), some (.int x1), some (.int x2), some (.int x3)] [] S (some (.int 0)) T3 := by
  refine gm_iload_n dX11_deliver_19 rfl ?_
  refine gm_bipush (v := 9) dX11_deliver_20 (by decide) ?_
  refine gm_icmp_ge_t (tgt := 43) dX11_deliver_22 (by decide) c1 ?_
  refine gm_aload_n dX11_deliver_43 rfl ?_
  refine gm_iload_n dX11_deliver_44 rfl ?_
  refine gm_callV (r1 := none) (own := RX11) rfl dX11_deliver_45 llX11_274 mvX11_removes sM_0 rfl [.int x1] [] rfl rfl (Nat.le_of_ble_eq_true rfl) (by decide) rfl h2 rfl ?_
  refine gm_iconst (v := 1) dX11_deliver_48 (by decide) ?_
  refine gm_aload_n dX11_deliver_49 rfl ?_
  refine gm_getR (own := RX11) (q := 31) rfl dX11_deliver_50 lfX11_116 sM_0 rfl ?_
  refine gm_iconst (v := 0) dX11_deliver_53 (by decide) ?_
  refine gm_iald (j := 0) (x := (T1 31 0)) dX11_deliver_54 sM_31 ⟨by decide, by decide⟩ rfl ?_
  refine gm_isub dX11_deliver_55 rfl ?_
  refine gm_istore_n (L' := [some (.ref 0), some (.int x1), some (.int x2), some (.int (1 - (T1 31 0)))]) dX11_deliver_56 (by decide) rfl ?_
  refine gm_aload_n dX11_deliver_57 rfl ?_
  refine gm_dup dX11_deliver_58 ?_
  refine gm_getI (own := RX11) (x := (T1 0 6)) rfl dX11_deliver_59 lfX11_277 sM_0 rfl rfl ?_
  refine gm_iconst (v := 1) dX11_deliver_62 (by decide) ?_
  refine gm_iadd dX11_deliver_63 rfl ?_
  refine gm_put (own := RX11) rfl dX11_deliver_64 lfX11_277 sM_0 rfl (gm_fit_int _) ?_
  refine gm_aload_n dX11_deliver_67 rfl ?_
  refine gm_getR (own := RX11) (q := 32) rfl dX11_deliver_68 lfX11_119 sM_0 rfl ?_
  refine gm_bipush (v := 9) dX11_deliver_71 (by decide) ?_
  refine gm_iload_n dX11_deliver_73 rfl ?_
  refine gm_imul dX11_deliver_74 rfl ?_
  refine gm_iload_n dX11_deliver_75 rfl ?_
  refine gm_iadd dX11_deliver_76 rfl ?_
  refine gm_dup2 dX11_deliver_77 ?_
  refine gm_iald (j := j3) (x := (T1 32 j3)) dX11_deliver_78 sM_32 ij3 (gm_rp (by omega)) ?_
  refine gm_iconst (v := 1) dX11_deliver_79 (by decide) ?_
  refine gm_iadd dX11_deliver_80 rfl ?_
  refine gm_iast (j := j3) dX11_deliver_81 sM_32 ij3 ?_
  refine gm_aload_n dX11_deliver_82 rfl ?_
  refine gm_iconst (v := 1) dX11_deliver_83 (by decide) ?_
  refine gm_aload_n dX11_deliver_84 rfl ?_
  refine gm_getR (own := RX11) (q := 31) rfl dX11_deliver_85 lfX11_116 sM_0 rfl ?_
  refine gm_iconst (v := 1) dX11_deliver_88 (by decide) ?_
  refine gm_iald (j := 1) (x := (T1 31 1)) dX11_deliver_89 sM_31 ⟨by decide, by decide⟩ ((gm_rp (by omega)).trans (gm_rp (by omega))) ?_
  refine gm_iload_n dX11_deliver_90 rfl ?_
  refine gm_callV (r1 := none) (own := RX11) rfl dX11_deliver_91 llX11_142 mvX11_logs sM_0 rfl [.int 1, .int (T1 31 1), .int x2] [] rfl rfl (Nat.le_of_ble_eq_true rfl) (by decide) rfl h4 rfl ?_
  refine gm_iload_n dX11_deliver_94 rfl ?_
  refine gm_bipush (v := 8) dX11_deliver_95 (by decide) ?_
  refine gm_icmp_ne_t (tgt := 115) dX11_deliver_97 (by decide) c5 ?_
  refine gm_iload_n dX11_deliver_115 rfl ?_
  refine gm_if_eq_t (tgt := 121) dX11_deliver_116 (by decide) c6 ?_
  refine gm_aload_n dX11_deliver_121 rfl ?_
  refine gm_getR (own := RX11) (q := 31) rfl dX11_deliver_122 lfX11_116 sM_0 rfl ?_
  refine gm_iconst (v := 1) dX11_deliver_125 (by decide) ?_
  refine gm_iald (j := 1) (x := (T2 31 1)) dX11_deliver_126 sM_31 ⟨by decide, by decide⟩ rfl ?_
  refine gm_tabEq (v := 1) (tgt := 159) dX11_deliver_127 c7 (by decide) (by decide) rfl (by decide) ?_
  refine gm_aload_n dX11_deliver_159 rfl ?_
  refine gm_callV (r1 := none) (own := RX11) rfl dX11_deliver_160 llX11_283 mvX11_hasReply sM_0 rfl [] [] rfl rfl (Nat.le_of_ble_eq_true rfl) (by decide) rfl h8 rfl ?_
  refine gm_goto (tgt := 180) dX11_deliver_163 (by decide) ?_
  refine gm_iconst (v := 0) dX11_deliver_180 (by decide) ?_
  exact gm_iret dX11_deliver_181 rfl
/-- X11_deliver 19 [22t 97t 116t 127=2] -> ret  -/
theorem PX11_deliver_12 {x1 : Int32} {x2 : Int32} {x3 : Int32} {S : gm_Mem} {T1 : gm_Mem} {j3 : Nat} {T2 : gm_Mem} {T3 : gm_Mem} (c1 : ¬ x3 < 9) (h2 : gm_run gM 0 YX11_removes 0 [some (.ref 0), some (.int x1), none] [] S none T1) (ij3 : gm_ix ((9 * (1 - (T1 31 0))) + x2) j3 18) (h4 : gm_run gM 0 YX11_logs 0 [some (.ref 0), some (.int 1), some (.int (T1 31 1)), some (.int x2), none] [] (gm_u (gm_u T1 0 6 ((T1 0 6) + 1)) 32 j3 ((T1 32 j3) + 1)) none T2) (c5 : ¬ x2 = 8) (c6 : x2 = 0) (c7 : (T2 31 1) = 2) (h8 : gm_run gM 1 YX11_becomes 0 [some (.ref 0), some (.int 0), some (.int 0)] [] T2 none T3) : gm_run gM 5 YX11_deliver 19 [some (.ref 0), some (.int x1), some (.int x2), some (.int x3)] [] S (some (.int 0)) T3 := by
  refine gm_iload_n dX11_deliver_19 rfl ?_
  refine gm_bipush (v := 9) dX11_deliver_20 (by decide) ?_
  refine gm_icmp_ge_t (tgt := 43) dX11_deliver_22 (by decide) c1 ?_
  refine gm_aload_n dX11_deliver_43 rfl ?_
  refine gm_iload_n dX11_deliver_44 rfl ?_
  refine gm_callV (r1 := none) (own := RX11) rfl dX11_deliver_45 llX11_274 mvX11_removes sM_0 rfl [.int x1] [] rfl rfl (Nat.le_of_ble_eq_true rfl) (by decide) rfl h2 rfl ?_
  refine gm_iconst (v := 1) dX11_deliver_48 (by decide) ?_
  refine gm_aload_n dX11_deliver_49 rfl ?_
  refine gm_getR (own := RX11) (q := 31) rfl dX11_deliver_50 lfX11_116 sM_0 rfl ?_
  refine gm_iconst (v := 0) dX11_deliver_53 (by decide) ?_
  refine gm_iald (j := 0) (x := (T1 31 0)) dX11_deliver_54 sM_31 ⟨by decide, by decide⟩ rfl ?_
  refine gm_isub dX11_deliver_55 rfl ?_
  refine gm_istore_n (L' := [some (.ref 0), some (.int x1), some (.int x2), some (.int (1 - (T1 31 0)))]) dX11_deliver_56 (by decide) rfl ?_
  refine gm_aload_n dX11_deliver_57 rfl ?_
  refine gm_dup dX11_deliver_58 ?_
  refine gm_getI (own := RX11) (x := (T1 0 6)) rfl dX11_deliver_59 lfX11_277 sM_0 rfl rfl ?_
  refine gm_iconst (v := 1) dX11_deliver_62 (by decide) ?_
  refine gm_iadd dX11_deliver_63 rfl ?_
  refine gm_put (own := RX11) rfl dX11_deliver_64 lfX11_277 sM_0 rfl (gm_fit_int _) ?_
  refine gm_aload_n dX11_deliver_67 rfl ?_
  refine gm_getR (own := RX11) (q := 32) rfl dX11_deliver_68 lfX11_119 sM_0 rfl ?_
  refine gm_bipush (v := 9) dX11_deliver_71 (by decide) ?_
  refine gm_iload_n dX11_deliver_73 rfl ?_
  refine gm_imul dX11_deliver_74 rfl ?_
  refine gm_iload_n dX11_deliver_75 rfl ?_
  refine gm_iadd dX11_deliver_76 rfl ?_
  refine gm_dup2 dX11_deliver_77 ?_
  refine gm_iald (j := j3) (x := (T1 32 j3)) dX11_deliver_78 sM_32 ij3 (gm_rp (by omega)) ?_
  refine gm_iconst (v := 1) dX11_deliver_79 (by decide) ?_
  refine gm_iadd dX11_deliver_80 rfl ?_
  refine gm_iast (j := j3) dX11_deliver_81 sM_32 ij3 ?_
  refine gm_aload_n dX11_deliver_82 rfl ?_
  refine gm_iconst (v := 1) dX11_deliver_83 (by decide) ?_
  refine gm_aload_n dX11_deliver_84 rfl ?_
  refine gm_getR (own := RX11) (q := 31) rfl dX11_deliver_85 lfX11_116 sM_0 rfl ?_
  refine gm_iconst (v := 1) dX11_deliver_88 (by decide) ?_
  refine gm_iald (j := 1) (x := (T1 31 1)) dX11_deliver_89 sM_31 ⟨by decide, by decide⟩ ((gm_rp (by omega)).trans (gm_rp (by omega))) ?_
  refine gm_iload_n dX11_deliver_90 rfl ?_
  refine gm_callV (r1 := none) (own := RX11) rfl dX11_deliver_91 llX11_142 mvX11_logs sM_0 rfl [.int 1, .int (T1 31 1), .int x2] [] rfl rfl (Nat.le_of_ble_eq_true rfl) (by decide) rfl h4 rfl ?_
  refine gm_iload_n dX11_deliver_94 rfl ?_
  refine gm_bipush (v := 8) dX11_deliver_95 (by decide) ?_
  refine gm_icmp_ne_t (tgt := 115) dX11_deliver_97 (by decide) c5 ?_
  refine gm_iload_n dX11_deliver_115 rfl ?_
  refine gm_if_eq_t (tgt := 121) dX11_deliver_116 (by decide) c6 ?_
  refine gm_aload_n dX11_deliver_121 rfl ?_
  refine gm_getR (own := RX11) (q := 31) rfl dX11_deliver_122 lfX11_116 sM_0 rfl ?_
  refine gm_iconst (v := 1) dX11_deliver_125 (by decide) ?_
  refine gm_iald (j := 1) (x := (T2 31 1)) dX11_deliver_126 sM_31 ⟨by decide, by decide⟩ rfl ?_
  refine gm_tabEq (v := 2) (tgt := 166) dX11_deliver_127 c7 (by decide) (by decide) rfl (by decide) ?_
  refine gm_aload_n dX11_deliver_166 rfl ?_
  refine gm_iconst (v := 0) dX11_deliver_167 (by decide) ?_
  refine gm_iconst (v := 0) dX11_deliver_168 (by decide) ?_
  refine gm_callV (r1 := none) (own := RX11) rfl dX11_deliver_169 llX11_185 mvX11_becomes sM_0 rfl [.int 0, .int 0] [] rfl rfl (Nat.le_of_ble_eq_true rfl) (by decide) rfl h8 rfl ?_
  refine gm_goto (tgt := 180) dX11_deliver_172 (by decide) ?_
  refine gm_iconst (v := 0) dX11_deliver_180 (by decide) ?_
  exact gm_iret dX11_deliver_181 rfl
/-- X11_deliver 19 [22t 97t 116t 127out] -> ret  -/
theorem PX11_deliver_13 {x1 : Int32} {x2 : Int32} {x3 : Int32} {S : gm_Mem} {T1 : gm_Mem} {j3 : Nat} {T2 : gm_Mem} {T3 : gm_Mem} (c1 : ¬ x3 < 9) (h2 : gm_run gM 0 YX11_removes 0 [some (.ref 0), some (.int x1), none] [] S none T1) (ij3 : gm_ix ((9 * (1 - (T1 31 0))) + x2) j3 18) (h4 : gm_run gM 0 YX11_logs 0 [some (.ref 0), some (.int 1), some (.int (T1 31 1)), some (.int x2), none] [] (gm_u (gm_u T1 0 6 ((T1 0 6) + 1)) 32 j3 ((T1 32 j3) + 1)) none T2) (c5 : ¬ x2 = 8) (c6 : x2 = 0) (c7 : (T2 31 1).toInt < 0 ∨ 2 < (T2 31 1).toInt) (h8 : gm_run gM 4 YX11_hasProtected 0 [some (.ref 0), some (.int (1 - (T1 31 0))), none, none] [] T2 none T3) : gm_run gM 5 YX11_deliver 19 [some (.ref 0), some (.int x1), some (.int x2), some (.int x3)] [] S (some (.int 0)) T3 := by
  refine gm_iload_n dX11_deliver_19 rfl ?_
  refine gm_bipush (v := 9) dX11_deliver_20 (by decide) ?_
  refine gm_icmp_ge_t (tgt := 43) dX11_deliver_22 (by decide) c1 ?_
  refine gm_aload_n dX11_deliver_43 rfl ?_
  refine gm_iload_n dX11_deliver_44 rfl ?_
  refine gm_callV (r1 := none) (own := RX11) rfl dX11_deliver_45 llX11_274 mvX11_removes sM_0 rfl [.int x1] [] rfl rfl (Nat.le_of_ble_eq_true rfl) (by decide) rfl h2 rfl ?_
  refine gm_iconst (v := 1) dX11_deliver_48 (by decide) ?_
  refine gm_aload_n dX11_deliver_49 rfl ?_
  refine gm_getR (own := RX11) (q := 31) rfl dX11_deliver_50 lfX11_116 sM_0 rfl ?_
  refine gm_iconst (v := 0) dX11_deliver_53 (by decide) ?_
  refine gm_iald (j := 0) (x := (T1 31 0)) dX11_deliver_54 sM_31 ⟨by decide, by decide⟩ rfl ?_
  refine gm_isub dX11_deliver_55 rfl ?_
  refine gm_istore_n (L' := [some (.ref 0), some (.int x1), some (.int x2), some (.int (1 - (T1 31 0)))]) dX11_deliver_56 (by decide) rfl ?_
  refine gm_aload_n dX11_deliver_57 rfl ?_
  refine gm_dup dX11_deliver_58 ?_
  refine gm_getI (own := RX11) (x := (T1 0 6)) rfl dX11_deliver_59 lfX11_277 sM_0 rfl rfl ?_
  refine gm_iconst (v := 1) dX11_deliver_62 (by decide) ?_
  refine gm_iadd dX11_deliver_63 rfl ?_
  refine gm_put (own := RX11) rfl dX11_deliver_64 lfX11_277 sM_0 rfl (gm_fit_int _) ?_
  refine gm_aload_n dX11_deliver_67 rfl ?_
  refine gm_getR (own := RX11) (q := 32) rfl dX11_deliver_68 lfX11_119 sM_0 rfl ?_
  refine gm_bipush (v := 9) dX11_deliver_71 (by decide) ?_
  refine gm_iload_n dX11_deliver_73 rfl ?_
  refine gm_imul dX11_deliver_74 rfl ?_
  refine gm_iload_n dX11_deliver_75 rfl ?_
  refine gm_iadd dX11_deliver_76 rfl ?_
  refine gm_dup2 dX11_deliver_77 ?_
  refine gm_iald (j := j3) (x := (T1 32 j3)) dX11_deliver_78 sM_32 ij3 (gm_rp (by omega)) ?_
  refine gm_iconst (v := 1) dX11_deliver_79 (by decide) ?_
  refine gm_iadd dX11_deliver_80 rfl ?_
  refine gm_iast (j := j3) dX11_deliver_81 sM_32 ij3 ?_
  refine gm_aload_n dX11_deliver_82 rfl ?_
  refine gm_iconst (v := 1) dX11_deliver_83 (by decide) ?_
  refine gm_aload_n dX11_deliver_84 rfl ?_
  refine gm_getR (own := RX11) (q := 31) rfl dX11_deliver_85 lfX11_116 sM_0 rfl ?_
  refine gm_iconst (v := 1) dX11_deliver_88 (by decide) ?_
  refine gm_iald (j := 1) (x := (T1 31 1)) dX11_deliver_89 sM_31 ⟨by decide, by decide⟩ ((gm_rp (by omega)).trans (gm_rp (by omega))) ?_
  refine gm_iload_n dX11_deliver_90 rfl ?_
  refine gm_callV (r1 := none) (own := RX11) rfl dX11_deliver_91 llX11_142 mvX11_logs sM_0 rfl [.int 1, .int (T1 31 1), .int x2] [] rfl rfl (Nat.le_of_ble_eq_true rfl) (by decide) rfl h4 rfl ?_
  refine gm_iload_n dX11_deliver_94 rfl ?_
  refine gm_bipush (v := 8) dX11_deliver_95 (by decide) ?_
  refine gm_icmp_ne_t (tgt := 115) dX11_deliver_97 (by decide) c5 ?_
  refine gm_iload_n dX11_deliver_115 rfl ?_
  refine gm_if_eq_t (tgt := 121) dX11_deliver_116 (by decide) c6 ?_
  refine gm_aload_n dX11_deliver_121 rfl ?_
  refine gm_getR (own := RX11) (q := 31) rfl dX11_deliver_122 lfX11_116 sM_0 rfl ?_
  refine gm_iconst (v := 1) dX11_deliver_125 (by decide) ?_
  refine gm_iald (j := 1) (x := (T2 31 1)) dX11_deliver_126 sM_31 ⟨by decide, by decide⟩ rfl ?_
  refine gm_tabOut (tgt := 175) dX11_deliver_127 c7 (by decide) ?_
  refine gm_aload_n dX11_deliver_175 rfl ?_
  refine gm_iload_n dX11_deliver_176 rfl ?_
  refine gm_callV (r1 := none) (own := RX11) rfl dX11_deliver_177 llX11_286 mvX11_hasProtected sM_0 rfl [.int (1 - (T1 31 0))] [] rfl rfl (Nat.le_of_ble_eq_true rfl) (by decide) rfl h8 rfl ?_
  refine gm_iconst (v := 0) dX11_deliver_180 (by decide) ?_
  exact gm_iret dX11_deliver_181 rfl
/-- X11_foresee 0 [5f] -> ret  -/
theorem PX11_foresee_1 {a1 : Int32} {S : gm_Mem} {r1 : Int32} {r4 : Int32} (h2 : gm_run gM 0 YX11_isPacket 0 [some (.ref 0), some (.int a1)] [] S (some (.int r1)) S) (c3 : ¬ r1 = 0) (h5 : gm_run gM 3 YX11_resultOf 0 [some (.ref 0), some (.int a1), none, none] [] S (some (.int r4)) S) : gm_run gM 4 YX11_foresee 0 [some (.ref 0), some (.int a1)] [] S (some (.int r4)) S := by
  refine gm_aload_n dX11_foresee_0 rfl ?_
  refine gm_iload_n dX11_foresee_1 rfl ?_
  refine gm_callV (r1 := (some (.int r1))) (own := RX11) rfl dX11_foresee_2 llX11_268 mvX11_isPacket sM_0 rfl [.int a1] [] rfl rfl (Nat.le_of_ble_eq_true rfl) (by decide) rfl h2 rfl ?_
  refine gm_if_eq_f dX11_foresee_5 ⟨16, by decide⟩ c3 ?_
  refine gm_aload_n dX11_foresee_8 rfl ?_
  refine gm_iload_n dX11_foresee_9 rfl ?_
  refine gm_callV (r1 := (some (.int r4))) (own := RX11) rfl dX11_foresee_10 llX11_271 mvX11_resultOf sM_0 rfl [.int a1] [] rfl rfl (Nat.le_of_ble_eq_true rfl) (by decide) rfl h5 rfl ?_
  refine gm_goto (tgt := 18) dX11_foresee_13 (by decide) ?_
  exact gm_iret dX11_foresee_18 rfl
/-- X11_foresee 0 [5t] -> ret  -/
theorem PX11_foresee_2 {a1 : Int32} {S : gm_Mem} {r1 : Int32} (h2 : gm_run gM 0 YX11_isPacket 0 [some (.ref 0), some (.int a1)] [] S (some (.int r1)) S) (c3 : r1 = 0) : gm_run gM 4 YX11_foresee 0 [some (.ref 0), some (.int a1)] [] S (some (.int (-1000000001))) S := by
  refine gm_aload_n dX11_foresee_0 rfl ?_
  refine gm_iload_n dX11_foresee_1 rfl ?_
  refine gm_callV (r1 := (some (.int r1))) (own := RX11) rfl dX11_foresee_2 llX11_268 mvX11_isPacket sM_0 rfl [.int a1] [] rfl rfl (Nat.le_of_ble_eq_true rfl) (by decide) rfl h2 rfl ?_
  refine gm_if_eq_t (tgt := 16) dX11_foresee_5 (by decide) c3 ?_
  refine gm_ldc (own := RX11) rfl lcX11_204 dX11_foresee_16 ?_
  exact gm_iret dX11_foresee_18 rfl
/-- X11_drop 0 [5f] -> ret  -/
theorem PX11_drop_1 {a1 : Int32} {S : gm_Mem} {r1 : Int32} (h2 : gm_run gM 0 YX11_isPacket 0 [some (.ref 0), some (.int a1)] [] S (some (.int r1)) S) (c3 : r1 = 0) : gm_run gM 1 YX11_drop 0 [some (.ref 0), some (.int a1)] [] S (some (.int (-1000000001))) S := by
  refine gm_aload_n dX11_drop_0 rfl ?_
  refine gm_iload_n dX11_drop_1 rfl ?_
  refine gm_callV (r1 := (some (.int r1))) (own := RX11) rfl dX11_drop_2 llX11_268 mvX11_isPacket sM_0 rfl [.int a1] [] rfl rfl (Nat.le_of_ble_eq_true rfl) (by decide) rfl h2 rfl ?_
  refine gm_if_ne_f dX11_drop_5 ⟨11, by decide⟩ c3 ?_
  refine gm_ldc (own := RX11) rfl lcX11_204 dX11_drop_8 ?_
  exact gm_iret dX11_drop_10 rfl
/-- X11_drop 0 [5t] -> ret  -/
theorem PX11_drop_2 {a1 : Int32} {S : gm_Mem} {r1 : Int32} {r4 : Int32} {r6 : Int32} {T1 : gm_Mem} {T2 : gm_Mem} (h2 : gm_run gM 0 YX11_isPacket 0 [some (.ref 0), some (.int a1)] [] S (some (.int r1)) S) (c3 : ¬ r1 = 0) (h5 : gm_run gM 0 YX11_at 0 [some (.ref 0), some (.int a1), some (.int 0)] [] (gm_u S 0 7 ((S 0 7) + 1)) (some (.int r4)) (gm_u S 0 7 ((S 0 7) + 1))) (h7 : gm_run gM 0 YX11_at 0 [some (.ref 0), some (.int a1), some (.int 1)] [] (gm_u S 0 7 ((S 0 7) + 1)) (some (.int r6)) (gm_u S 0 7 ((S 0 7) + 1))) (h8 : gm_run gM 0 YX11_logs 0 [some (.ref 0), some (.int 2), some (.int r4), some (.int r6), none] [] (gm_u S 0 7 ((S 0 7) + 1)) none T1) (h9 : gm_run gM 0 YX11_removes 0 [some (.ref 0), some (.int a1), none] [] T1 none T2) : gm_run gM 1 YX11_drop 0 [some (.ref 0), some (.int a1)] [] S (some (.int (T2 0 45))) T2 := by
  refine gm_aload_n dX11_drop_0 rfl ?_
  refine gm_iload_n dX11_drop_1 rfl ?_
  refine gm_callV (r1 := (some (.int r1))) (own := RX11) rfl dX11_drop_2 llX11_268 mvX11_isPacket sM_0 rfl [.int a1] [] rfl rfl (Nat.le_of_ble_eq_true rfl) (by decide) rfl h2 rfl ?_
  refine gm_if_ne_t (tgt := 11) dX11_drop_5 (by decide) c3 ?_
  refine gm_aload_n dX11_drop_11 rfl ?_
  refine gm_dup dX11_drop_12 ?_
  refine gm_getI (own := RX11) (x := (S 0 7)) rfl dX11_drop_13 lfX11_205 sM_0 rfl rfl ?_
  refine gm_iconst (v := 1) dX11_drop_16 (by decide) ?_
  refine gm_iadd dX11_drop_17 rfl ?_
  refine gm_put (own := RX11) rfl dX11_drop_18 lfX11_205 sM_0 rfl (gm_fit_int _) ?_
  refine gm_aload_n dX11_drop_21 rfl ?_
  refine gm_iconst (v := 2) dX11_drop_22 (by decide) ?_
  refine gm_aload_n dX11_drop_23 rfl ?_
  refine gm_iload_n dX11_drop_24 rfl ?_
  refine gm_iconst (v := 0) dX11_drop_25 (by decide) ?_
  refine gm_callV (r1 := (some (.int r4))) (own := RX11) rfl dX11_drop_26 llX11_229 mvX11_at sM_0 rfl [.int a1, .int 0] [.int 2, .ref 0] rfl rfl (Nat.le_of_ble_eq_true rfl) (by decide) rfl h5 rfl ?_
  refine gm_aload_n dX11_drop_29 rfl ?_
  refine gm_iload_n dX11_drop_30 rfl ?_
  refine gm_iconst (v := 1) dX11_drop_31 (by decide) ?_
  refine gm_callV (r1 := (some (.int r6))) (own := RX11) rfl dX11_drop_32 llX11_229 mvX11_at sM_0 rfl [.int a1, .int 1] [.int r4, .int 2, .ref 0] rfl rfl (Nat.le_of_ble_eq_true rfl) (by decide) rfl h7 rfl ?_
  refine gm_callV (r1 := none) (own := RX11) rfl dX11_drop_35 llX11_142 mvX11_logs sM_0 rfl [.int 2, .int r4, .int r6] [] rfl rfl (Nat.le_of_ble_eq_true rfl) (by decide) rfl h8 rfl ?_
  refine gm_aload_n dX11_drop_38 rfl ?_
  refine gm_iload_n dX11_drop_39 rfl ?_
  refine gm_callV (r1 := none) (own := RX11) rfl dX11_drop_40 llX11_274 mvX11_removes sM_0 rfl [.int a1] [] rfl rfl (Nat.le_of_ble_eq_true rfl) (by decide) rfl h9 rfl ?_
  refine gm_aload_n dX11_drop_43 rfl ?_
  refine gm_getI (own := RX11) (x := (T2 0 45)) rfl dX11_drop_44 lfX11_153 sM_0 rfl rfl ?_
  exact gm_iret dX11_drop_47 rfl
/-- X11_repeat 0 [5f] -> ret  -/
theorem PX11_repeat_1 {a1 : Int32} {S : gm_Mem} {r1 : Int32} (h2 : gm_run gM 0 YX11_isPacket 0 [some (.ref 0), some (.int a1)] [] S (some (.int r1)) S) (c3 : r1 = 0) : gm_run gM 1 YX11_repeat 0 [some (.ref 0), some (.int a1), none] [] S (some (.int (-1000000001))) S := by
  refine gm_aload_n dX11_repeat_0 rfl ?_
  refine gm_iload_n dX11_repeat_1 rfl ?_
  refine gm_callV (r1 := (some (.int r1))) (own := RX11) rfl dX11_repeat_2 llX11_268 mvX11_isPacket sM_0 rfl [.int a1] [] rfl rfl (Nat.le_of_ble_eq_true rfl) (by decide) rfl h2 rfl ?_
  refine gm_if_ne_f dX11_repeat_5 ⟨11, by decide⟩ c3 ?_
  refine gm_ldc (own := RX11) rfl lcX11_204 dX11_repeat_8 ?_
  exact gm_iret dX11_repeat_10 rfl
/-- X11_repeat 0 [5t 15f] -> ret  -/
theorem PX11_repeat_2 {a1 : Int32} {S : gm_Mem} {r1 : Int32} {r4 : Int32} (h2 : gm_run gM 0 YX11_isPacket 0 [some (.ref 0), some (.int a1)] [] S (some (.int r1)) S) (c3 : ¬ r1 = 0) (h5 : gm_run gM 0 YX11_hasRoom 0 [some (.ref 0)] [] S (some (.int r4)) S) (c6 : r4 = 0) : gm_run gM 1 YX11_repeat 0 [some (.ref 0), some (.int a1), none] [] S (some (.int (-1000000003))) S := by
  refine gm_aload_n dX11_repeat_0 rfl ?_
  refine gm_iload_n dX11_repeat_1 rfl ?_
  refine gm_callV (r1 := (some (.int r1))) (own := RX11) rfl dX11_repeat_2 llX11_268 mvX11_isPacket sM_0 rfl [.int a1] [] rfl rfl (Nat.le_of_ble_eq_true rfl) (by decide) rfl h2 rfl ?_
  refine gm_if_ne_t (tgt := 11) dX11_repeat_5 (by decide) c3 ?_
  refine gm_aload_n dX11_repeat_11 rfl ?_
  refine gm_callV (r1 := (some (.int r4))) (own := RX11) rfl dX11_repeat_12 llX11_159 mvX11_hasRoom sM_0 rfl [] [] rfl rfl (Nat.le_of_ble_eq_true rfl) (by decide) rfl h5 rfl ?_
  refine gm_if_ne_f dX11_repeat_15 ⟨21, by decide⟩ c6 ?_
  refine gm_ldc (own := RX11) rfl lcX11_197 dX11_repeat_18 ?_
  exact gm_iret dX11_repeat_20 rfl
/-- X11_repeat 0 [5t 15t] -> cut 23 -/
theorem PX11_repeat_3 {a1 : Int32} {S : gm_Mem} {r1 : Int32} {r4 : Int32} {r : Option Value} {S2 : gm_Mem} (h2 : gm_run gM 0 YX11_isPacket 0 [some (.ref 0), some (.int a1)] [] S (some (.int r1)) S) (c3 : ¬ r1 = 0) (h5 : gm_run gM 0 YX11_hasRoom 0 [some (.ref 0)] [] S (some (.int r4)) S) (c6 : ¬ r4 = 0) (K : gm_run gM 1 YX11_repeat 23 [some (.ref 0), some (.int a1), some (.int 0)] [] S r S2) : gm_run gM 1 YX11_repeat 0 [some (.ref 0), some (.int a1), none] [] S r S2 := by
  refine gm_aload_n dX11_repeat_0 rfl ?_
  refine gm_iload_n dX11_repeat_1 rfl ?_
  refine gm_callV (r1 := (some (.int r1))) (own := RX11) rfl dX11_repeat_2 llX11_268 mvX11_isPacket sM_0 rfl [.int a1] [] rfl rfl (Nat.le_of_ble_eq_true rfl) (by decide) rfl h2 rfl ?_
  refine gm_if_ne_t (tgt := 11) dX11_repeat_5 (by decide) c3 ?_
  refine gm_aload_n dX11_repeat_11 rfl ?_
  refine gm_callV (r1 := (some (.int r4))) (own := RX11) rfl dX11_repeat_12 llX11_159 mvX11_hasRoom sM_0 rfl [] [] rfl rfl (Nat.le_of_ble_eq_true rfl) (by decide) rfl h5 rfl ?_
  refine gm_if_ne_t (tgt := 21) dX11_repeat_15 (by decide) c6 ?_
  refine gm_iconst (v := 0) dX11_repeat_21 (by decide) ?_
  refine gm_istore_n (L' := [some (.ref 0), some (.int a1), some (.int 0)]) dX11_repeat_22 (by decide) rfl ?_
  exact K
/-- X11_repeat 23 [26f] -> cut 23 -/
theorem PX11_repeat_4 {x1 : Int32} {x2 : Int32} {S : gm_Mem} {r2 : Int32} {j4 : Nat} {r : Option Value} {S2 : gm_Mem} (c1 : x2 < 9) (h3 : gm_run gM 0 YX11_at 0 [some (.ref 0), some (.int x1), some (.int x2)] [] S (some (.int r2)) S) (ij4 : gm_ix ((9 * (S 0 45)) + x2) j4 216) (K : gm_run gM 1 YX11_repeat 23 [some (.ref 0), some (.int x1), some (.int (x2 + 1))] [] (gm_u S 30 j4 r2) r S2) : gm_run gM 1 YX11_repeat 23 [some (.ref 0), some (.int x1), some (.int x2)] [] S r S2 := by
  refine gm_iload_n dX11_repeat_23 rfl ?_
  refine gm_bipush (v := 9) dX11_repeat_24 (by decide) ?_
  refine gm_icmp_ge_f dX11_repeat_26 ⟨55, by decide⟩ c1 ?_
  refine gm_aload_n dX11_repeat_29 rfl ?_
  refine gm_getR (own := RX11) (q := 30) rfl dX11_repeat_30 lfX11_113 sM_0 rfl ?_
  refine gm_bipush (v := 9) dX11_repeat_33 (by decide) ?_
  refine gm_aload_n dX11_repeat_35 rfl ?_
  refine gm_getI (own := RX11) (x := (S 0 45)) rfl dX11_repeat_36 lfX11_153 sM_0 rfl rfl ?_
  refine gm_imul dX11_repeat_39 rfl ?_
  refine gm_iload_n dX11_repeat_40 rfl ?_
  refine gm_iadd dX11_repeat_41 rfl ?_
  refine gm_aload_n dX11_repeat_42 rfl ?_
  refine gm_iload_n dX11_repeat_43 rfl ?_
  refine gm_iload_n dX11_repeat_44 rfl ?_
  refine gm_callV (r1 := (some (.int r2))) (own := RX11) rfl dX11_repeat_45 llX11_229 mvX11_at sM_0 rfl [.int x1, .int x2] [.int ((9 * (S 0 45)) + x2), .ref 30] rfl rfl (Nat.le_of_ble_eq_true rfl) (by decide) rfl h3 rfl ?_
  refine gm_iast (j := j4) dX11_repeat_48 sM_30 ij4 ?_
  refine gm_iinc (L' := [some (.ref 0), some (.int x1), some (.int (x2 + 1))]) (v := (x2 + 1)) dX11_repeat_49 rfl rfl (by decide) rfl ?_
  refine gm_goto (tgt := 23) dX11_repeat_52 (by decide) ?_
  exact K
/-- X11_repeat 23 [26t] -> ret  -/
theorem PX11_repeat_5 {x1 : Int32} {x2 : Int32} {S : gm_Mem} (c1 : ¬ x2 < 9) : gm_run gM 1 YX11_repeat 23 [some (.ref 0), some (.int x1), some (.int x2)] [] S (some (.int ((S 0 45) + 1))) (gm_u (gm_u S 0 45 ((S 0 45) + 1)) 0 8 ((S 0 8) + 1)) := by
  refine gm_iload_n dX11_repeat_23 rfl ?_
  refine gm_bipush (v := 9) dX11_repeat_24 (by decide) ?_
  refine gm_icmp_ge_t (tgt := 55) dX11_repeat_26 (by decide) c1 ?_
  refine gm_aload_n dX11_repeat_55 rfl ?_
  refine gm_dup dX11_repeat_56 ?_
  refine gm_getI (own := RX11) (x := (S 0 45)) rfl dX11_repeat_57 lfX11_153 sM_0 rfl rfl ?_
  refine gm_iconst (v := 1) dX11_repeat_60 (by decide) ?_
  refine gm_iadd dX11_repeat_61 rfl ?_
  refine gm_put (own := RX11) rfl dX11_repeat_62 lfX11_153 sM_0 rfl (gm_fit_int _) ?_
  refine gm_aload_n dX11_repeat_65 rfl ?_
  refine gm_dup dX11_repeat_66 ?_
  refine gm_getI (own := RX11) (x := (S 0 8)) rfl dX11_repeat_67 lfX11_289 sM_0 rfl (gm_rk (by decide)) ?_
  refine gm_iconst (v := 1) dX11_repeat_70 (by decide) ?_
  refine gm_iadd dX11_repeat_71 rfl ?_
  refine gm_put (own := RX11) rfl dX11_repeat_72 lfX11_289 sM_0 rfl (gm_fit_int _) ?_
  refine gm_aload_n dX11_repeat_75 rfl ?_
  refine gm_getI (own := RX11) (x := ((S 0 45) + 1)) rfl dX11_repeat_76 lfX11_153 sM_0 rfl ((gm_rk (by decide)).trans (gm_rS _ _ _ _)) ?_
  exact gm_iret dX11_repeat_79 rfl
/-- X11_alter 0 [5f] -> ret  -/
theorem PX11_alter_1 {a1 : Int32} {a2 : Int32} {S : gm_Mem} {r1 : Int32} (h2 : gm_run gM 0 YX11_isPacket 0 [some (.ref 0), some (.int a1)] [] S (some (.int r1)) S) (c3 : r1 = 0) : gm_run gM 1 YX11_alter 0 [some (.ref 0), some (.int a1), some (.int a2)] [] S (some (.int (-1000000001))) S := by
  refine gm_aload_n dX11_alter_0 rfl ?_
  refine gm_iload_n dX11_alter_1 rfl ?_
  refine gm_callV (r1 := (some (.int r1))) (own := RX11) rfl dX11_alter_2 llX11_268 mvX11_isPacket sM_0 rfl [.int a1] [] rfl rfl (Nat.le_of_ble_eq_true rfl) (by decide) rfl h2 rfl ?_
  refine gm_if_ne_f dX11_alter_5 ⟨11, by decide⟩ c3 ?_
  refine gm_ldc (own := RX11) rfl lcX11_204 dX11_alter_8 ?_
  exact gm_iret dX11_alter_10 rfl
/-- X11_alter 0 [5t 19f] -> ret  -/
theorem PX11_alter_2 {a1 : Int32} {a2 : Int32} {S : gm_Mem} {r1 : Int32} {r4 : Int32} (h2 : gm_run gM 0 YX11_isPacket 0 [some (.ref 0), some (.int a1)] [] S (some (.int r1)) S) (c3 : ¬ r1 = 0) (h5 : gm_run gM 0 YX11_isBetween 0 [some (.int a2), some (.int (-99)), some (.int 99)] [] S (some (.int r4)) S) (c6 : r4 = 0) : gm_run gM 1 YX11_alter 0 [some (.ref 0), some (.int a1), some (.int a2)] [] S (some (.int (-1000000002))) S := by
  refine gm_aload_n dX11_alter_0 rfl ?_
  refine gm_iload_n dX11_alter_1 rfl ?_
  refine gm_callV (r1 := (some (.int r1))) (own := RX11) rfl dX11_alter_2 llX11_268 mvX11_isPacket sM_0 rfl [.int a1] [] rfl rfl (Nat.le_of_ble_eq_true rfl) (by decide) rfl h2 rfl ?_
  refine gm_if_ne_t (tgt := 11) dX11_alter_5 (by decide) c3 ?_
  refine gm_iload_n dX11_alter_11 rfl ?_
  refine gm_bipush (v := (-99)) dX11_alter_12 (by decide) ?_
  refine gm_bipush (v := 99) dX11_alter_14 (by decide) ?_
  refine gm_callS (r1 := (some (.int r4))) (own := RX11) rfl dX11_alter_16 llX11_137 msX11_isBetween [.int a2, .int (-99), .int 99] [] rfl rfl (Nat.le_of_ble_eq_true rfl) (by decide) rfl h5 rfl ?_
  refine gm_if_ne_f dX11_alter_19 ⟨25, by decide⟩ c6 ?_
  refine gm_ldc (own := RX11) rfl lcX11_141 dX11_alter_22 ?_
  exact gm_iret dX11_alter_24 rfl
/-- X11_alter 0 [5t 19t] -> ret  -/
theorem PX11_alter_3 {a1 : Int32} {a2 : Int32} {S : gm_Mem} {r1 : Int32} {r4 : Int32} {j7 : Nat} {r8 : Int32} (h2 : gm_run gM 0 YX11_isPacket 0 [some (.ref 0), some (.int a1)] [] S (some (.int r1)) S) (c3 : ¬ r1 = 0) (h5 : gm_run gM 0 YX11_isBetween 0 [some (.int a2), some (.int (-99)), some (.int 99)] [] S (some (.int r4)) S) (c6 : ¬ r4 = 0) (ij7 : gm_ix ((9 * a1) + 6) j7 216) (h9 : gm_run gM 0 YX11_at 0 [some (.ref 0), some (.int a1), some (.int 6)] [] (gm_u S 30 j7 ((S 30 j7) + a2)) (some (.int r8)) (gm_u S 30 j7 ((S 30 j7) + a2))) : gm_run gM 1 YX11_alter 0 [some (.ref 0), some (.int a1), some (.int a2)] [] S (some (.int r8)) (gm_u S 30 j7 ((S 30 j7) + a2)) := by
  refine gm_aload_n dX11_alter_0 rfl ?_
  refine gm_iload_n dX11_alter_1 rfl ?_
  refine gm_callV (r1 := (some (.int r1))) (own := RX11) rfl dX11_alter_2 llX11_268 mvX11_isPacket sM_0 rfl [.int a1] [] rfl rfl (Nat.le_of_ble_eq_true rfl) (by decide) rfl h2 rfl ?_
  refine gm_if_ne_t (tgt := 11) dX11_alter_5 (by decide) c3 ?_
  refine gm_iload_n dX11_alter_11 rfl ?_
  refine gm_bipush (v := (-99)) dX11_alter_12 (by decide) ?_
  refine gm_bipush (v := 99) dX11_alter_14 (by decide) ?_
  refine gm_callS (r1 := (some (.int r4))) (own := RX11) rfl dX11_alter_16 llX11_137 msX11_isBetween [.int a2, .int (-99), .int 99] [] rfl rfl (Nat.le_of_ble_eq_true rfl) (by decide) rfl h5 rfl ?_
  refine gm_if_ne_t (tgt := 25) dX11_alter_19 (by decide) c6 ?_
  refine gm_aload_n dX11_alter_25 rfl ?_
  refine gm_getR (own := RX11) (q := 30) rfl dX11_alter_26 lfX11_113 sM_0 rfl ?_
  refine gm_bipush (v := 9) dX11_alter_29 (by decide) ?_
  refine gm_iload_n dX11_alter_31 rfl ?_
  refine gm_imul dX11_alter_32 rfl ?_
  refine gm_bipush (v := 6) dX11_alter_33 (by decide) ?_
  refine gm_iadd dX11_alter_35 rfl ?_
  refine gm_dup2 dX11_alter_36 ?_
  refine gm_iald (j := j7) (x := (S 30 j7)) dX11_alter_37 sM_30 ij7 rfl ?_
  refine gm_iload_n dX11_alter_38 rfl ?_
  refine gm_iadd dX11_alter_39 rfl ?_
  refine gm_iast (j := j7) dX11_alter_40 sM_30 ij7 ?_
  refine gm_aload_n dX11_alter_41 rfl ?_
  refine gm_iload_n dX11_alter_42 rfl ?_
  refine gm_bipush (v := 6) dX11_alter_43 (by decide) ?_
  refine gm_callV (r1 := (some (.int r8))) (own := RX11) rfl dX11_alter_45 llX11_229 mvX11_at sM_0 rfl [.int a1, .int 6] [] rfl rfl (Nat.le_of_ble_eq_true rfl) (by decide) rfl h9 rfl ?_
  exact gm_iret dX11_alter_48 rfl
/-- X11_ticks 0 [17f 33f 58f] -> cut 71 -/
theorem PX11_ticks_1 {S : gm_Mem} {T1 : gm_Mem} {r3 : Int32} {r : Option Value} {S2 : gm_Mem} (c1 : (S 1 0) = 1) (c2 : ¬ (((S 0 4) + 1) - (S 0 37)) < (S 0 1)) (h4 : gm_run gM 2 YX11_sendsPlain 0 [some (.ref 0), some (.int 0), some (.int 0), some (.int (S 2 0)), some (.int (S 3 0)), some (.int (S 0 36))] [] (gm_u S 0 4 ((S 0 4) + 1)) (some (.int r3)) T1) (c5 : ¬ r3 = 0) (K : gm_run gM 4 YX11_ticks 71 [some (.ref 0), some (.int 0), none, none] [] (gm_u T1 0 37 (T1 0 4)) r S2) : gm_run gM 4 YX11_ticks 0 [some (.ref 0), none, none, none] [] S r S2 := by
  refine gm_aload_n dX11_ticks_0 rfl ?_
  refine gm_dup dX11_ticks_1 ?_
  refine gm_getI (own := RX11) (x := (S 0 4)) rfl dX11_ticks_2 lfX11_179 sM_0 rfl rfl ?_
  refine gm_iconst (v := 1) dX11_ticks_5 (by decide) ?_
  refine gm_iadd dX11_ticks_6 rfl ?_
  refine gm_put (own := RX11) rfl dX11_ticks_7 lfX11_179 sM_0 rfl (gm_fit_int _) ?_
  refine gm_aload_n dX11_ticks_10 rfl ?_
  refine gm_getR (own := RX11) (q := 1) rfl dX11_ticks_11 lfX11_19 sM_0 rfl ?_
  refine gm_iconst (v := 0) dX11_ticks_14 (by decide) ?_
  refine gm_iald (j := 0) (x := (S 1 0)) dX11_ticks_15 sM_1 ⟨by decide, by decide⟩ (gm_rp (by omega)) ?_
  refine gm_iconst (v := 1) dX11_ticks_16 (by decide) ?_
  refine gm_icmp_ne_f dX11_ticks_17 ⟨69, by decide⟩ c1 ?_
  refine gm_aload_n dX11_ticks_20 rfl ?_
  refine gm_getI (own := RX11) (x := ((S 0 4) + 1)) rfl dX11_ticks_21 lfX11_179 sM_0 rfl (gm_rS _ _ _ _) ?_
  refine gm_aload_n dX11_ticks_24 rfl ?_
  refine gm_getI (own := RX11) (x := (S 0 37)) rfl dX11_ticks_25 lfX11_193 sM_0 rfl (gm_rk (by decide)) ?_
  refine gm_isub dX11_ticks_28 rfl ?_
  refine gm_aload_n dX11_ticks_29 rfl ?_
  refine gm_getI (own := RX11) (x := (S 0 1)) rfl dX11_ticks_30 lfX11_13 sM_0 rfl (gm_rk (by decide)) ?_
  refine gm_icmp_lt_f dX11_ticks_33 ⟨69, by decide⟩ c2 ?_
  refine gm_aload_n dX11_ticks_36 rfl ?_
  refine gm_iconst (v := 0) dX11_ticks_37 (by decide) ?_
  refine gm_iconst (v := 0) dX11_ticks_38 (by decide) ?_
  refine gm_aload_n dX11_ticks_39 rfl ?_
  refine gm_getR (own := RX11) (q := 2) rfl dX11_ticks_40 lfX11_23 sM_0 rfl ?_
  refine gm_iconst (v := 0) dX11_ticks_43 (by decide) ?_
  refine gm_iald (j := 0) (x := (S 2 0)) dX11_ticks_44 sM_2 ⟨by decide, by decide⟩ (gm_rp (by omega)) ?_
  refine gm_aload_n dX11_ticks_45 rfl ?_
  refine gm_getR (own := RX11) (q := 3) rfl dX11_ticks_46 lfX11_26 sM_0 rfl ?_
  refine gm_iconst (v := 0) dX11_ticks_49 (by decide) ?_
  refine gm_iald (j := 0) (x := (S 3 0)) dX11_ticks_50 sM_3 ⟨by decide, by decide⟩ (gm_rp (by omega)) ?_
  refine gm_aload_n dX11_ticks_51 rfl ?_
  refine gm_getI (own := RX11) (x := (S 0 36)) rfl dX11_ticks_52 lfX11_101 sM_0 rfl (gm_rk (by decide)) ?_
  refine gm_callV (r1 := (some (.int r3))) (own := RX11) rfl dX11_ticks_55 llX11_189 mvX11_sendsPlain sM_0 rfl [.int 0, .int 0, .int (S 2 0), .int (S 3 0), .int (S 0 36)] [] rfl rfl (Nat.le_of_ble_eq_true rfl) (by decide) rfl h4 rfl ?_
  refine gm_if_eq_f dX11_ticks_58 ⟨69, by decide⟩ c5 ?_
  refine gm_aload_n dX11_ticks_61 rfl ?_
  refine gm_aload_n dX11_ticks_62 rfl ?_
  refine gm_getI (own := RX11) (x := (T1 0 4)) rfl dX11_ticks_63 lfX11_179 sM_0 rfl rfl ?_
  refine gm_put (own := RX11) rfl dX11_ticks_66 lfX11_193 sM_0 rfl (gm_fit_int _) ?_
  refine gm_iconst (v := 0) dX11_ticks_69 (by decide) ?_
  refine gm_istore_n (L' := [some (.ref 0), some (.int 0), none, none]) dX11_ticks_70 (by decide) rfl ?_
  exact K
/-- X11_ticks 0 [17f 33f 58t] -> cut 71 -/
theorem PX11_ticks_2 {S : gm_Mem} {T1 : gm_Mem} {r3 : Int32} {r : Option Value} {S2 : gm_Mem} (c1 : (S 1 0) = 1) (c2 : ¬ (((S 0 4) + 1) - (S 0 37)) < (S 0 1)) (h4 : gm_run gM 2 YX11_sendsPlain 0 [some (.ref 0), some (.int 0), some (.int 0), some (.int (S 2 0)), some (.int (S 3 0)), some (.int (S 0 36))] [] (gm_u S 0 4 ((S 0 4) + 1)) (some (.int r3)) T1) (c5 : r3 = 0) (K : gm_run gM 4 YX11_ticks 71 [some (.ref 0), some (.int 0), none, none] [] T1 r S2) : gm_run gM 4 YX11_ticks 0 [some (.ref 0), none, none, none] [] S r S2 := by
  refine gm_aload_n dX11_ticks_0 rfl ?_
  refine gm_dup dX11_ticks_1 ?_
  refine gm_getI (own := RX11) (x := (S 0 4)) rfl dX11_ticks_2 lfX11_179 sM_0 rfl rfl ?_
  refine gm_iconst (v := 1) dX11_ticks_5 (by decide) ?_
  refine gm_iadd dX11_ticks_6 rfl ?_
  refine gm_put (own := RX11) rfl dX11_ticks_7 lfX11_179 sM_0 rfl (gm_fit_int _) ?_
  refine gm_aload_n dX11_ticks_10 rfl ?_
  refine gm_getR (own := RX11) (q := 1) rfl dX11_ticks_11 lfX11_19 sM_0 rfl ?_
  refine gm_iconst (v := 0) dX11_ticks_14 (by decide) ?_
  refine gm_iald (j := 0) (x := (S 1 0)) dX11_ticks_15 sM_1 ⟨by decide, by decide⟩ (gm_rp (by omega)) ?_
  refine gm_iconst (v := 1) dX11_ticks_16 (by decide) ?_
  refine gm_icmp_ne_f dX11_ticks_17 ⟨69, by decide⟩ c1 ?_
  refine gm_aload_n dX11_ticks_20 rfl ?_
  refine gm_getI (own := RX11) (x := ((S 0 4) + 1)) rfl dX11_ticks_21 lfX11_179 sM_0 rfl (gm_rS _ _ _ _) ?_
  refine gm_aload_n dX11_ticks_24 rfl ?_
  refine gm_getI (own := RX11) (x := (S 0 37)) rfl dX11_ticks_25 lfX11_193 sM_0 rfl (gm_rk (by decide)) ?_
  refine gm_isub dX11_ticks_28 rfl ?_
  refine gm_aload_n dX11_ticks_29 rfl ?_
  refine gm_getI (own := RX11) (x := (S 0 1)) rfl dX11_ticks_30 lfX11_13 sM_0 rfl (gm_rk (by decide)) ?_
  refine gm_icmp_lt_f dX11_ticks_33 ⟨69, by decide⟩ c2 ?_
  refine gm_aload_n dX11_ticks_36 rfl ?_
  refine gm_iconst (v := 0) dX11_ticks_37 (by decide) ?_
  refine gm_iconst (v := 0) dX11_ticks_38 (by decide) ?_
  refine gm_aload_n dX11_ticks_39 rfl ?_
  refine gm_getR (own := RX11) (q := 2) rfl dX11_ticks_40 lfX11_23 sM_0 rfl ?_
  refine gm_iconst (v := 0) dX11_ticks_43 (by decide) ?_
  refine gm_iald (j := 0) (x := (S 2 0)) dX11_ticks_44 sM_2 ⟨by decide, by decide⟩ (gm_rp (by omega)) ?_
  refine gm_aload_n dX11_ticks_45 rfl ?_
  refine gm_getR (own := RX11) (q := 3) rfl dX11_ticks_46 lfX11_26 sM_0 rfl ?_
  refine gm_iconst (v := 0) dX11_ticks_49 (by decide) ?_
  refine gm_iald (j := 0) (x := (S 3 0)) dX11_ticks_50 sM_3 ⟨by decide, by decide⟩ (gm_rp (by omega)) ?_
  refine gm_aload_n dX11_ticks_51 rfl ?_
  refine gm_getI (own := RX11) (x := (S 0 36)) rfl dX11_ticks_52 lfX11_101 sM_0 rfl (gm_rk (by decide)) ?_
  refine gm_callV (r1 := (some (.int r3))) (own := RX11) rfl dX11_ticks_55 llX11_189 mvX11_sendsPlain sM_0 rfl [.int 0, .int 0, .int (S 2 0), .int (S 3 0), .int (S 0 36)] [] rfl rfl (Nat.le_of_ble_eq_true rfl) (by decide) rfl h4 rfl ?_
  refine gm_if_eq_t (tgt := 69) dX11_ticks_58 (by decide) c5 ?_
  refine gm_iconst (v := 0) dX11_ticks_69 (by decide) ?_
  refine gm_istore_n (L' := [some (.ref 0), some (.int 0), none, none]) dX11_ticks_70 (by decide) rfl ?_
  exact K
/-- X11_ticks 0 [17f 33t] -> cut 71 -/
theorem PX11_ticks_3 {S : gm_Mem} {r : Option Value} {S2 : gm_Mem} (c1 : (S 1 0) = 1) (c2 : (((S 0 4) + 1) - (S 0 37)) < (S 0 1)) (K : gm_run gM 4 YX11_ticks 71 [some (.ref 0), some (.int 0), none, none] [] (gm_u S 0 4 ((S 0 4) + 1)) r S2) : gm_run gM 4 YX11_ticks 0 [some (.ref 0), none, none, none] [] S r S2 := by
  refine gm_aload_n dX11_ticks_0 rfl ?_
  refine gm_dup dX11_ticks_1 ?_
  refine gm_getI (own := RX11) (x := (S 0 4)) rfl dX11_ticks_2 lfX11_179 sM_0 rfl rfl ?_
  refine gm_iconst (v := 1) dX11_ticks_5 (by decide) ?_
  refine gm_iadd dX11_ticks_6 rfl ?_
  refine gm_put (own := RX11) rfl dX11_ticks_7 lfX11_179 sM_0 rfl (gm_fit_int _) ?_
  refine gm_aload_n dX11_ticks_10 rfl ?_
  refine gm_getR (own := RX11) (q := 1) rfl dX11_ticks_11 lfX11_19 sM_0 rfl ?_
  refine gm_iconst (v := 0) dX11_ticks_14 (by decide) ?_
  refine gm_iald (j := 0) (x := (S 1 0)) dX11_ticks_15 sM_1 ⟨by decide, by decide⟩ (gm_rp (by omega)) ?_
  refine gm_iconst (v := 1) dX11_ticks_16 (by decide) ?_
  refine gm_icmp_ne_f dX11_ticks_17 ⟨69, by decide⟩ c1 ?_
  refine gm_aload_n dX11_ticks_20 rfl ?_
  refine gm_getI (own := RX11) (x := ((S 0 4) + 1)) rfl dX11_ticks_21 lfX11_179 sM_0 rfl (gm_rS _ _ _ _) ?_
  refine gm_aload_n dX11_ticks_24 rfl ?_
  refine gm_getI (own := RX11) (x := (S 0 37)) rfl dX11_ticks_25 lfX11_193 sM_0 rfl (gm_rk (by decide)) ?_
  refine gm_isub dX11_ticks_28 rfl ?_
  refine gm_aload_n dX11_ticks_29 rfl ?_
  refine gm_getI (own := RX11) (x := (S 0 1)) rfl dX11_ticks_30 lfX11_13 sM_0 rfl (gm_rk (by decide)) ?_
  refine gm_icmp_lt_t (tgt := 69) dX11_ticks_33 (by decide) c2 ?_
  refine gm_iconst (v := 0) dX11_ticks_69 (by decide) ?_
  refine gm_istore_n (L' := [some (.ref 0), some (.int 0), none, none]) dX11_ticks_70 (by decide) rfl ?_
  exact K
/-- X11_ticks 0 [17t] -> cut 71 -/
theorem PX11_ticks_4 {S : gm_Mem} {r : Option Value} {S2 : gm_Mem} (c1 : ¬ (S 1 0) = 1) (K : gm_run gM 4 YX11_ticks 71 [some (.ref 0), some (.int 0), none, none] [] (gm_u S 0 4 ((S 0 4) + 1)) r S2) : gm_run gM 4 YX11_ticks 0 [some (.ref 0), none, none, none] [] S r S2 := by
  refine gm_aload_n dX11_ticks_0 rfl ?_
  refine gm_dup dX11_ticks_1 ?_
  refine gm_getI (own := RX11) (x := (S 0 4)) rfl dX11_ticks_2 lfX11_179 sM_0 rfl rfl ?_
  refine gm_iconst (v := 1) dX11_ticks_5 (by decide) ?_
  refine gm_iadd dX11_ticks_6 rfl ?_
  refine gm_put (own := RX11) rfl dX11_ticks_7 lfX11_179 sM_0 rfl (gm_fit_int _) ?_
  refine gm_aload_n dX11_ticks_10 rfl ?_
  refine gm_getR (own := RX11) (q := 1) rfl dX11_ticks_11 lfX11_19 sM_0 rfl ?_
  refine gm_iconst (v := 0) dX11_ticks_14 (by decide) ?_
  refine gm_iald (j := 0) (x := (S 1 0)) dX11_ticks_15 sM_1 ⟨by decide, by decide⟩ (gm_rp (by omega)) ?_
  refine gm_iconst (v := 1) dX11_ticks_16 (by decide) ?_
  refine gm_icmp_ne_t (tgt := 69) dX11_ticks_17 (by decide) c1 ?_
  refine gm_iconst (v := 0) dX11_ticks_69 (by decide) ?_
  refine gm_istore_n (L' := [some (.ref 0), some (.int 0), none, none]) dX11_ticks_70 (by decide) rfl ?_
  exact K
/-- X11_ticks 71 [73f 83f] -> cut 71 -/
theorem PX11_ticks_5 {x1 : Int32} {S : gm_Mem} {j2 : Nat} {r : Option Value} {S2 : gm_Mem} (c1 : x1 < 2) (ij2 : gm_ix x1 j2 2) (c3 : ¬ (S 1 j2) = 3) (K : gm_run gM 4 YX11_ticks 71 [some (.ref 0), some (.int (x1 + 1)), none, none] [] S r S2) : gm_run gM 4 YX11_ticks 71 [some (.ref 0), some (.int x1), none, none] [] S r S2 := by
  refine gm_iload_n dX11_ticks_71 rfl ?_
  refine gm_iconst (v := 2) dX11_ticks_72 (by decide) ?_
  refine gm_icmp_ge_f dX11_ticks_73 ⟨168, by decide⟩ c1 ?_
  refine gm_aload_n dX11_ticks_76 rfl ?_
  refine gm_getR (own := RX11) (q := 1) rfl dX11_ticks_77 lfX11_19 sM_0 rfl ?_
  refine gm_iload_n dX11_ticks_80 rfl ?_
  refine gm_iald (j := j2) (x := (S 1 j2)) dX11_ticks_81 sM_1 ij2 rfl ?_
  refine gm_iconst (v := 3) dX11_ticks_82 (by decide) ?_
  refine gm_icmp_eq_f dX11_ticks_83 ⟨89, by decide⟩ c3 ?_
  refine gm_goto (tgt := 162) dX11_ticks_86 (by decide) ?_
  refine gm_iinc (L' := [some (.ref 0), some (.int (x1 + 1)), none, none]) (v := (x1 + 1)) dX11_ticks_162 rfl rfl (by decide) rfl ?_
  refine gm_goto (tgt := 71) dX11_ticks_165 (by decide) ?_
  exact K
/-- X11_ticks 71 [73f 83t] -> cut 91 -/
theorem PX11_ticks_6 {x1 : Int32} {S : gm_Mem} {j2 : Nat} {r : Option Value} {S2 : gm_Mem} (c1 : x1 < 2) (ij2 : gm_ix x1 j2 2) (c3 : (S 1 j2) = 3) (K : gm_run gM 4 YX11_ticks 91 [some (.ref 0), some (.int x1), some (.int 0), none] [] S r S2) : gm_run gM 4 YX11_ticks 71 [some (.ref 0), some (.int x1), none, none] [] S r S2 := by
  refine gm_iload_n dX11_ticks_71 rfl ?_
  refine gm_iconst (v := 2) dX11_ticks_72 (by decide) ?_
  refine gm_icmp_ge_f dX11_ticks_73 ⟨168, by decide⟩ c1 ?_
  refine gm_aload_n dX11_ticks_76 rfl ?_
  refine gm_getR (own := RX11) (q := 1) rfl dX11_ticks_77 lfX11_19 sM_0 rfl ?_
  refine gm_iload_n dX11_ticks_80 rfl ?_
  refine gm_iald (j := j2) (x := (S 1 j2)) dX11_ticks_81 sM_1 ij2 rfl ?_
  refine gm_iconst (v := 3) dX11_ticks_82 (by decide) ?_
  refine gm_icmp_eq_t (tgt := 89) dX11_ticks_83 (by decide) c3 ?_
  refine gm_iconst (v := 0) dX11_ticks_89 (by decide) ?_
  refine gm_istore_n (L' := [some (.ref 0), some (.int x1), some (.int 0), none]) dX11_ticks_90 (by decide) rfl ?_
  exact K
/-- X11_ticks 71 [73t] -> ret  -/
theorem PX11_ticks_7 {x1 : Int32} {S : gm_Mem} (c1 : ¬ x1 < 2) : gm_run gM 4 YX11_ticks 71 [some (.ref 0), some (.int x1), none, none] [] S none S := by
  refine gm_iload_n dX11_ticks_71 rfl ?_
  refine gm_iconst (v := 2) dX11_ticks_72 (by decide) ?_
  refine gm_icmp_ge_t (tgt := 168) dX11_ticks_73 (by decide) c1 ?_
  exact gm_vret dX11_ticks_168 rfl
/-- X11_ticks 91 [98f 119f 137f] -> cut 91 -/
theorem PX11_ticks_8 {x1 : Int32} {x2 : Int32} {S : gm_Mem} {j1 : Nat} {j3 : Nat} {r : Option Value} {S2 : gm_Mem} (ij1 : gm_ix x1 j1 2) (c2 : x2 < (S 18 j1)) (ij3 : gm_ix ((16 * x1) + x2) j3 32) (c4 : ¬ (S 23 j3) < 0) (c5 : ¬ ((S 0 4) - (S 23 j3)) < (S 0 1)) (K : gm_run gM 4 YX11_ticks 91 [some (.ref 0), some (.int x1), some (.int (x2 + 1)), none] [] (gm_u S 23 j3 (-1)) r S2) : gm_run gM 4 YX11_ticks 91 [some (.ref 0), some (.int x1), some (.int x2), none] [] S r S2 := by
  refine gm_iload_n dX11_ticks_91 rfl ?_
  refine gm_aload_n dX11_ticks_92 rfl ?_
  refine gm_getR (own := RX11) (q := 18) rfl dX11_ticks_93 lfX11_71 sM_0 rfl ?_
  refine gm_iload_n dX11_ticks_96 rfl ?_
  refine gm_iald (j := j1) (x := (S 18 j1)) dX11_ticks_97 sM_18 ij1 rfl ?_
  refine gm_icmp_ge_f dX11_ticks_98 ⟨157, by decide⟩ c2 ?_
  refine gm_bipush (v := 16) dX11_ticks_101 (by decide) ?_
  refine gm_iload_n dX11_ticks_103 rfl ?_
  refine gm_imul dX11_ticks_104 rfl ?_
  refine gm_iload_n dX11_ticks_105 rfl ?_
  refine gm_iadd dX11_ticks_106 rfl ?_
  refine gm_istore_n (L' := [some (.ref 0), some (.int x1), some (.int x2), some (.int ((16 * x1) + x2))]) dX11_ticks_107 (by decide) rfl ?_
  refine gm_aload_n dX11_ticks_108 rfl ?_
  refine gm_getR (own := RX11) (q := 23) rfl dX11_ticks_109 lfX11_86 sM_0 rfl ?_
  refine gm_iload_n dX11_ticks_112 rfl ?_
  refine gm_aload_n dX11_ticks_113 rfl ?_
  refine gm_getR (own := RX11) (q := 23) rfl dX11_ticks_114 lfX11_86 sM_0 rfl ?_
  refine gm_iload_n dX11_ticks_117 rfl ?_
  refine gm_iald (j := j3) (x := (S 23 j3)) dX11_ticks_118 sM_23 ij3 rfl ?_
  refine gm_if_lt_f dX11_ticks_119 ⟨144, by decide⟩ c4 ?_
  refine gm_aload_n dX11_ticks_122 rfl ?_
  refine gm_getI (own := RX11) (x := (S 0 4)) rfl dX11_ticks_123 lfX11_179 sM_0 rfl rfl ?_
  refine gm_aload_n dX11_ticks_126 rfl ?_
  refine gm_getR (own := RX11) (q := 23) rfl dX11_ticks_127 lfX11_86 sM_0 rfl ?_
  refine gm_iload_n dX11_ticks_130 rfl ?_
  refine gm_iald (j := j3) (x := (S 23 j3)) dX11_ticks_131 sM_23 ij3 rfl ?_
  refine gm_isub dX11_ticks_132 rfl ?_
  refine gm_aload_n dX11_ticks_133 rfl ?_
  refine gm_getI (own := RX11) (x := (S 0 1)) rfl dX11_ticks_134 lfX11_13 sM_0 rfl rfl ?_
  refine gm_icmp_lt_f dX11_ticks_137 ⟨144, by decide⟩ c5 ?_
  refine gm_iconst (v := (-1)) dX11_ticks_140 (by decide) ?_
  refine gm_goto (tgt := 150) dX11_ticks_141 (by decide) ?_
  refine gm_iast (j := j3) dX11_ticks_150 sM_23 ij3 ?_
  refine gm_iinc (L' := [some (.ref 0), some (.int x1), some (.int (x2 + 1)), some (.int ((16 * x1) + x2))]) (v := (x2 + 1)) dX11_ticks_151 rfl rfl (by decide) rfl ?_
  refine gm_goto (tgt := 91) dX11_ticks_154 (by decide) ?_
  refine gm_forget (L2 := [some (.ref 0), some (.int x1), some (.int (x2 + 1)), none]) (by simp [gm_sub]) ?_
  exact K
/-- X11_ticks 91 [98f 119f 137t] -> cut 91 -/
theorem PX11_ticks_9 {x1 : Int32} {x2 : Int32} {S : gm_Mem} {j1 : Nat} {j3 : Nat} {r : Option Value} {S2 : gm_Mem} (ij1 : gm_ix x1 j1 2) (c2 : x2 < (S 18 j1)) (ij3 : gm_ix ((16 * x1) + x2) j3 32) (c4 : ¬ (S 23 j3) < 0) (c5 : ((S 0 4) - (S 23 j3)) < (S 0 1)) (K : gm_run gM 4 YX11_ticks 91 [some (.ref 0), some (.int x1), some (.int (x2 + 1)), none] [] (gm_u S 23 j3 (S 23 j3)) r S2) : gm_run gM 4 YX11_ticks 91 [some (.ref 0), some (.int x1), some (.int x2), none] [] S r S2 := by
  refine gm_iload_n dX11_ticks_91 rfl ?_
  refine gm_aload_n dX11_ticks_92 rfl ?_
  refine gm_getR (own := RX11) (q := 18) rfl dX11_ticks_93 lfX11_71 sM_0 rfl ?_
  refine gm_iload_n dX11_ticks_96 rfl ?_
  refine gm_iald (j := j1) (x := (S 18 j1)) dX11_ticks_97 sM_18 ij1 rfl ?_
  refine gm_icmp_ge_f dX11_ticks_98 ⟨157, by decide⟩ c2 ?_
  refine gm_bipush (v := 16) dX11_ticks_101 (by decide) ?_
  refine gm_iload_n dX11_ticks_103 rfl ?_
  refine gm_imul dX11_ticks_104 rfl ?_
  refine gm_iload_n dX11_ticks_105 rfl ?_
  refine gm_iadd dX11_ticks_106 rfl ?_
  refine gm_istore_n (L' := [some (.ref 0), some (.int x1), some (.int x2), some (.int ((16 * x1) + x2))]) dX11_ticks_107 (by decide) rfl ?_
  refine gm_aload_n dX11_ticks_108 rfl ?_
  refine gm_getR (own := RX11) (q := 23) rfl dX11_ticks_109 lfX11_86 sM_0 rfl ?_
  refine gm_iload_n dX11_ticks_112 rfl ?_
  refine gm_aload_n dX11_ticks_113 rfl ?_
  refine gm_getR (own := RX11) (q := 23) rfl dX11_ticks_114 lfX11_86 sM_0 rfl ?_
  refine gm_iload_n dX11_ticks_117 rfl ?_
  refine gm_iald (j := j3) (x := (S 23 j3)) dX11_ticks_118 sM_23 ij3 rfl ?_
  refine gm_if_lt_f dX11_ticks_119 ⟨144, by decide⟩ c4 ?_
  refine gm_aload_n dX11_ticks_122 rfl ?_
  refine gm_getI (own := RX11) (x := (S 0 4)) rfl dX11_ticks_123 lfX11_179 sM_0 rfl rfl ?_
  refine gm_aload_n dX11_ticks_126 rfl ?_
  refine gm_getR (own := RX11) (q := 23) rfl dX11_ticks_127 lfX11_86 sM_0 rfl ?_
  refine gm_iload_n dX11_ticks_130 rfl ?_
  refine gm_iald (j := j3) (x := (S 23 j3)) dX11_ticks_131 sM_23 ij3 rfl ?_
  refine gm_isub dX11_ticks_132 rfl ?_
  refine gm_aload_n dX11_ticks_133 rfl ?_
  refine gm_getI (own := RX11) (x := (S 0 1)) rfl dX11_ticks_134 lfX11_13 sM_0 rfl rfl ?_
  refine gm_icmp_lt_t (tgt := 144) dX11_ticks_137 (by decide) c5 ?_
  refine gm_aload_n dX11_ticks_144 rfl ?_
  refine gm_getR (own := RX11) (q := 23) rfl dX11_ticks_145 lfX11_86 sM_0 rfl ?_
  refine gm_iload_n dX11_ticks_148 rfl ?_
  refine gm_iald (j := j3) (x := (S 23 j3)) dX11_ticks_149 sM_23 ij3 rfl ?_
  refine gm_iast (j := j3) dX11_ticks_150 sM_23 ij3 ?_
  refine gm_iinc (L' := [some (.ref 0), some (.int x1), some (.int (x2 + 1)), some (.int ((16 * x1) + x2))]) (v := (x2 + 1)) dX11_ticks_151 rfl rfl (by decide) rfl ?_
  refine gm_goto (tgt := 91) dX11_ticks_154 (by decide) ?_
  refine gm_forget (L2 := [some (.ref 0), some (.int x1), some (.int (x2 + 1)), none]) (by simp [gm_sub]) ?_
  exact K
/-- X11_ticks 91 [98f 119t] -> cut 91 -/
theorem PX11_ticks_10 {x1 : Int32} {x2 : Int32} {S : gm_Mem} {j1 : Nat} {j3 : Nat} {r : Option Value} {S2 : gm_Mem} (ij1 : gm_ix x1 j1 2) (c2 : x2 < (S 18 j1)) (ij3 : gm_ix ((16 * x1) + x2) j3 32) (c4 : (S 23 j3) < 0) (K : gm_run gM 4 YX11_ticks 91 [some (.ref 0), some (.int x1), some (.int (x2 + 1)), none] [] (gm_u S 23 j3 (S 23 j3)) r S2) : gm_run gM 4 YX11_ticks 91 [some (.ref 0), some (.int x1), some (.int x2), none] [] S r S2 := by
  refine gm_iload_n dX11_ticks_91 rfl ?_
  refine gm_aload_n dX11_ticks_92 rfl ?_
  refine gm_getR (own := RX11) (q := 18) rfl dX11_ticks_93 lfX11_71 sM_0 rfl ?_
  refine gm_iload_n dX11_ticks_96 rfl ?_
  refine gm_iald (j := j1) (x := (S 18 j1)) dX11_ticks_97 sM_18 ij1 rfl ?_
  refine gm_icmp_ge_f dX11_ticks_98 ⟨157, by decide⟩ c2 ?_
  refine gm_bipush (v := 16) dX11_ticks_101 (by decide) ?_
  refine gm_iload_n dX11_ticks_103 rfl ?_
  refine gm_imul dX11_ticks_104 rfl ?_
  refine gm_iload_n dX11_ticks_105 rfl ?_
  refine gm_iadd dX11_ticks_106 rfl ?_
  refine gm_istore_n (L' := [some (.ref 0), some (.int x1), some (.int x2), some (.int ((16 * x1) + x2))]) dX11_ticks_107 (by decide) rfl ?_
  refine gm_aload_n dX11_ticks_108 rfl ?_
  refine gm_getR (own := RX11) (q := 23) rfl dX11_ticks_109 lfX11_86 sM_0 rfl ?_
  refine gm_iload_n dX11_ticks_112 rfl ?_
  refine gm_aload_n dX11_ticks_113 rfl ?_
  refine gm_getR (own := RX11) (q := 23) rfl dX11_ticks_114 lfX11_86 sM_0 rfl ?_
  refine gm_iload_n dX11_ticks_117 rfl ?_
  refine gm_iald (j := j3) (x := (S 23 j3)) dX11_ticks_118 sM_23 ij3 rfl ?_
  refine gm_if_lt_t (tgt := 144) dX11_ticks_119 (by decide) c4 ?_
  refine gm_aload_n dX11_ticks_144 rfl ?_
  refine gm_getR (own := RX11) (q := 23) rfl dX11_ticks_145 lfX11_86 sM_0 rfl ?_
  refine gm_iload_n dX11_ticks_148 rfl ?_
  refine gm_iald (j := j3) (x := (S 23 j3)) dX11_ticks_149 sM_23 ij3 rfl ?_
  refine gm_iast (j := j3) dX11_ticks_150 sM_23 ij3 ?_
  refine gm_iinc (L' := [some (.ref 0), some (.int x1), some (.int (x2 + 1)), some (.int ((16 * x1) + x2))]) (v := (x2 + 1)) dX11_ticks_151 rfl rfl (by decide) rfl ?_
  refine gm_goto (tgt := 91) dX11_ticks_154 (by decide) ?_
  refine gm_forget (L2 := [some (.ref 0), some (.int x1), some (.int (x2 + 1)), none]) (by simp [gm_sub]) ?_
  exact K
/-- X11_ticks 91 [98t] -> cut 71 -/
theorem PX11_ticks_11 {x1 : Int32} {x2 : Int32} {S : gm_Mem} {j1 : Nat} {T1 : gm_Mem} {r : Option Value} {S2 : gm_Mem} (ij1 : gm_ix x1 j1 2) (c2 : ¬ x2 < (S 18 j1)) (h3 : gm_run gM 3 YX11_sendsDue 0 [some (.ref 0), some (.int x1), none, none] [] S none T1) (K : gm_run gM 4 YX11_ticks 71 [some (.ref 0), some (.int (x1 + 1)), none, none] [] T1 r S2) : gm_run gM 4 YX11_ticks 91 [some (.ref 0), some (.int x1), some (.int x2), none] [] S r S2 := by
  refine gm_iload_n dX11_ticks_91 rfl ?_
  refine gm_aload_n dX11_ticks_92 rfl ?_
  refine gm_getR (own := RX11) (q := 18) rfl dX11_ticks_93 lfX11_71 sM_0 rfl ?_
  refine gm_iload_n dX11_ticks_96 rfl ?_
  refine gm_iald (j := j1) (x := (S 18 j1)) dX11_ticks_97 sM_18 ij1 rfl ?_
  refine gm_icmp_ge_t (tgt := 157) dX11_ticks_98 (by decide) c2 ?_
  refine gm_aload_n dX11_ticks_157 rfl ?_
  refine gm_iload_n dX11_ticks_158 rfl ?_
  refine gm_callV (r1 := none) (own := RX11) rfl dX11_ticks_159 llX11_208 mvX11_sendsDue sM_0 rfl [.int x1] [] rfl rfl (Nat.le_of_ble_eq_true rfl) (by decide) rfl h3 rfl ?_
  refine gm_iinc (L' := [some (.ref 0), some (.int (x1 + 1)), some (.int x2), none]) (v := (x1 + 1)) dX11_ticks_162 rfl rfl (by decide) rfl ?_
  refine gm_goto (tgt := 71) dX11_ticks_165 (by decide) ?_
  refine gm_forget (L2 := [some (.ref 0), some (.int (x1 + 1)), none, none]) (by simp [gm_sub]) ?_
  exact K
/-- X11_tick 0 [7f] -> ret  -/
theorem PX11_tick_1 {a1 : Int32} {S : gm_Mem} {r1 : Int32} (h2 : gm_run gM 0 YX11_isBetween 0 [some (.int a1), some (.int 1), some (.int 50)] [] S (some (.int r1)) S) (c3 : r1 = 0) : gm_run gM 5 YX11_tick 0 [some (.ref 0), some (.int a1), none] [] S (some (.int (-1000000002))) S := by
  refine gm_iload_n dX11_tick_0 rfl ?_
  refine gm_iconst (v := 1) dX11_tick_1 (by decide) ?_
  refine gm_bipush (v := 50) dX11_tick_2 (by decide) ?_
  refine gm_callS (r1 := (some (.int r1))) (own := RX11) rfl dX11_tick_4 llX11_137 msX11_isBetween [.int a1, .int 1, .int 50] [] rfl rfl (Nat.le_of_ble_eq_true rfl) (by decide) rfl h2 rfl ?_
  refine gm_if_ne_f dX11_tick_7 ⟨13, by decide⟩ c3 ?_
  refine gm_ldc (own := RX11) rfl lcX11_141 dX11_tick_10 ?_
  exact gm_iret dX11_tick_12 rfl
/-- X11_tick 0 [7t] -> cut 15 -/
theorem PX11_tick_2 {a1 : Int32} {S : gm_Mem} {r1 : Int32} {r : Option Value} {S2 : gm_Mem} (h2 : gm_run gM 0 YX11_isBetween 0 [some (.int a1), some (.int 1), some (.int 50)] [] S (some (.int r1)) S) (c3 : ¬ r1 = 0) (K : gm_run gM 5 YX11_tick 15 [some (.ref 0), some (.int a1), some (.int 0)] [] S r S2) : gm_run gM 5 YX11_tick 0 [some (.ref 0), some (.int a1), none] [] S r S2 := by
  refine gm_iload_n dX11_tick_0 rfl ?_
  refine gm_iconst (v := 1) dX11_tick_1 (by decide) ?_
  refine gm_bipush (v := 50) dX11_tick_2 (by decide) ?_
  refine gm_callS (r1 := (some (.int r1))) (own := RX11) rfl dX11_tick_4 llX11_137 msX11_isBetween [.int a1, .int 1, .int 50] [] rfl rfl (Nat.le_of_ble_eq_true rfl) (by decide) rfl h2 rfl ?_
  refine gm_if_ne_t (tgt := 13) dX11_tick_7 (by decide) c3 ?_
  refine gm_iconst (v := 0) dX11_tick_13 (by decide) ?_
  refine gm_istore_n (L' := [some (.ref 0), some (.int a1), some (.int 0)]) dX11_tick_14 (by decide) rfl ?_
  exact K
/-- X11_tick 15 [17f] -> cut 15 -/
theorem PX11_tick_3 {x1 : Int32} {x2 : Int32} {S : gm_Mem} {T1 : gm_Mem} {r : Option Value} {S2 : gm_Mem} (c1 : x2 < x1) (h2 : gm_run gM 4 YX11_ticks 0 [some (.ref 0), none, none, none] [] S none T1) (K : gm_run gM 5 YX11_tick 15 [some (.ref 0), some (.int x1), some (.int (x2 + 1))] [] T1 r S2) : gm_run gM 5 YX11_tick 15 [some (.ref 0), some (.int x1), some (.int x2)] [] S r S2 := by
  refine gm_iload_n dX11_tick_15 rfl ?_
  refine gm_iload_n dX11_tick_16 rfl ?_
  refine gm_icmp_ge_f dX11_tick_17 ⟨30, by decide⟩ c1 ?_
  refine gm_aload_n dX11_tick_20 rfl ?_
  refine gm_callV (r1 := none) (own := RX11) rfl dX11_tick_21 llX11_292 mvX11_ticks sM_0 rfl [] [] rfl rfl (Nat.le_of_ble_eq_true rfl) (by decide) rfl h2 rfl ?_
  refine gm_iinc (L' := [some (.ref 0), some (.int x1), some (.int (x2 + 1))]) (v := (x2 + 1)) dX11_tick_24 rfl rfl (by decide) rfl ?_
  refine gm_goto (tgt := 15) dX11_tick_27 (by decide) ?_
  exact K
/-- X11_tick 15 [17t] -> ret  -/
theorem PX11_tick_4 {x1 : Int32} {x2 : Int32} {S : gm_Mem} (c1 : ¬ x2 < x1) : gm_run gM 5 YX11_tick 15 [some (.ref 0), some (.int x1), some (.int x2)] [] S (some (.int (S 0 4))) S := by
  refine gm_iload_n dX11_tick_15 rfl ?_
  refine gm_iload_n dX11_tick_16 rfl ?_
  refine gm_icmp_ge_t (tgt := 30) dX11_tick_17 (by decide) c1 ?_
  refine gm_aload_n dX11_tick_30 rfl ?_
  refine gm_getI (own := RX11) (x := (S 0 4)) rfl dX11_tick_31 lfX11_179 sM_0 rfl rfl ?_
  exact gm_iret dX11_tick_34 rfl
/-- X11_packet 0 [5f] -> ret  -/
theorem PX11_packet_1 {a1 : Int32} {a2 : Int32} {S : gm_Mem} {r1 : Int32} (h2 : gm_run gM 0 YX11_isPacket 0 [some (.ref 0), some (.int a1)] [] S (some (.int r1)) S) (c3 : r1 = 0) : gm_run gM 1 YX11_packet 0 [some (.ref 0), some (.int a1), some (.int a2)] [] S (some (.int (-1000000001))) S := by
  refine gm_aload_n dX11_packet_0 rfl ?_
  refine gm_iload_n dX11_packet_1 rfl ?_
  refine gm_callV (r1 := (some (.int r1))) (own := RX11) rfl dX11_packet_2 llX11_268 mvX11_isPacket sM_0 rfl [.int a1] [] rfl rfl (Nat.le_of_ble_eq_true rfl) (by decide) rfl h2 rfl ?_
  refine gm_if_ne_f dX11_packet_5 ⟨13, by decide⟩ c3 ?_
  refine gm_ldc (own := RX11) rfl lcX11_204 dX11_packet_8 ?_
  refine gm_goto (tgt := 34) dX11_packet_10 (by decide) ?_
  exact gm_iret dX11_packet_34 rfl
/-- X11_packet 0 [5t 20f] -> ret  -/
theorem PX11_packet_2 {a1 : Int32} {a2 : Int32} {S : gm_Mem} {r1 : Int32} {r4 : Int32} {r7 : Int32} (h2 : gm_run gM 0 YX11_isPacket 0 [some (.ref 0), some (.int a1)] [] S (some (.int r1)) S) (c3 : ¬ r1 = 0) (h5 : gm_run gM 0 YX11_isBetween 0 [some (.int a2), some (.int 0), some (.int 8)] [] S (some (.int r4)) S) (c6 : ¬ r4 = 0) (h8 : gm_run gM 0 YX11_at 0 [some (.ref 0), some (.int a1), some (.int a2)] [] S (some (.int r7)) S) : gm_run gM 1 YX11_packet 0 [some (.ref 0), some (.int a1), some (.int a2)] [] S (some (.int r7)) S := by
  refine gm_aload_n dX11_packet_0 rfl ?_
  refine gm_iload_n dX11_packet_1 rfl ?_
  refine gm_callV (r1 := (some (.int r1))) (own := RX11) rfl dX11_packet_2 llX11_268 mvX11_isPacket sM_0 rfl [.int a1] [] rfl rfl (Nat.le_of_ble_eq_true rfl) (by decide) rfl h2 rfl ?_
  refine gm_if_ne_t (tgt := 13) dX11_packet_5 (by decide) c3 ?_
  refine gm_iload_n dX11_packet_13 rfl ?_
  refine gm_iconst (v := 0) dX11_packet_14 (by decide) ?_
  refine gm_bipush (v := 8) dX11_packet_15 (by decide) ?_
  refine gm_callS (r1 := (some (.int r4))) (own := RX11) rfl dX11_packet_17 llX11_137 msX11_isBetween [.int a2, .int 0, .int 8] [] rfl rfl (Nat.le_of_ble_eq_true rfl) (by decide) rfl h5 rfl ?_
  refine gm_if_eq_f dX11_packet_20 ⟨32, by decide⟩ c6 ?_
  refine gm_aload_n dX11_packet_23 rfl ?_
  refine gm_iload_n dX11_packet_24 rfl ?_
  refine gm_iload_n dX11_packet_25 rfl ?_
  refine gm_callV (r1 := (some (.int r7))) (own := RX11) rfl dX11_packet_26 llX11_229 mvX11_at sM_0 rfl [.int a1, .int a2] [] rfl rfl (Nat.le_of_ble_eq_true rfl) (by decide) rfl h8 rfl ?_
  refine gm_goto (tgt := 34) dX11_packet_29 (by decide) ?_
  exact gm_iret dX11_packet_34 rfl
/-- X11_packet 0 [5t 20t] -> ret  -/
theorem PX11_packet_3 {a1 : Int32} {a2 : Int32} {S : gm_Mem} {r1 : Int32} {r4 : Int32} (h2 : gm_run gM 0 YX11_isPacket 0 [some (.ref 0), some (.int a1)] [] S (some (.int r1)) S) (c3 : ¬ r1 = 0) (h5 : gm_run gM 0 YX11_isBetween 0 [some (.int a2), some (.int 0), some (.int 8)] [] S (some (.int r4)) S) (c6 : r4 = 0) : gm_run gM 1 YX11_packet 0 [some (.ref 0), some (.int a1), some (.int a2)] [] S (some (.int (-1000000002))) S := by
  refine gm_aload_n dX11_packet_0 rfl ?_
  refine gm_iload_n dX11_packet_1 rfl ?_
  refine gm_callV (r1 := (some (.int r1))) (own := RX11) rfl dX11_packet_2 llX11_268 mvX11_isPacket sM_0 rfl [.int a1] [] rfl rfl (Nat.le_of_ble_eq_true rfl) (by decide) rfl h2 rfl ?_
  refine gm_if_ne_t (tgt := 13) dX11_packet_5 (by decide) c3 ?_
  refine gm_iload_n dX11_packet_13 rfl ?_
  refine gm_iconst (v := 0) dX11_packet_14 (by decide) ?_
  refine gm_bipush (v := 8) dX11_packet_15 (by decide) ?_
  refine gm_callS (r1 := (some (.int r4))) (own := RX11) rfl dX11_packet_17 llX11_137 msX11_isBetween [.int a2, .int 0, .int 8] [] rfl rfl (Nat.le_of_ble_eq_true rfl) (by decide) rfl h5 rfl ?_
  refine gm_if_eq_t (tgt := 32) dX11_packet_20 (by decide) c6 ?_
  refine gm_ldc (own := RX11) rfl lcX11_141 dX11_packet_32 ?_
  exact gm_iret dX11_packet_34 rfl
/-- X11_waiting 0 [] -> ret  -/
theorem PX11_waiting_1 {a1 : Int32} {S : gm_Mem} {j1 : Nat} {j2 : Nat} {j3 : Nat} {j4 : Nat} (ij1 : gm_ix (4 * a1) j1 8) (ij2 : gm_ix ((4 * a1) + 1) j2 8) (ij3 : gm_ix ((4 * a1) + 2) j3 8) (ij4 : gm_ix ((4 * a1) + 3) j4 8) : gm_run gM 0 YX11_waiting 0 [some (.ref 0), some (.int a1)] [] S (some (.int ((((S 24 j1) + (S 24 j2)) + (S 24 j3)) + (S 24 j4)))) S := by
  refine gm_aload_n dX11_waiting_0 rfl ?_
  refine gm_getR (own := RX11) (q := 24) rfl dX11_waiting_1 lfX11_89 sM_0 rfl ?_
  refine gm_iconst (v := 4) dX11_waiting_4 (by decide) ?_
  refine gm_iload_n dX11_waiting_5 rfl ?_
  refine gm_imul dX11_waiting_6 rfl ?_
  refine gm_iald (j := j1) (x := (S 24 j1)) dX11_waiting_7 sM_24 ij1 rfl ?_
  refine gm_aload_n dX11_waiting_8 rfl ?_
  refine gm_getR (own := RX11) (q := 24) rfl dX11_waiting_9 lfX11_89 sM_0 rfl ?_
  refine gm_iconst (v := 4) dX11_waiting_12 (by decide) ?_
  refine gm_iload_n dX11_waiting_13 rfl ?_
  refine gm_imul dX11_waiting_14 rfl ?_
  refine gm_iconst (v := 1) dX11_waiting_15 (by decide) ?_
  refine gm_iadd dX11_waiting_16 rfl ?_
  refine gm_iald (j := j2) (x := (S 24 j2)) dX11_waiting_17 sM_24 ij2 rfl ?_
  refine gm_iadd dX11_waiting_18 rfl ?_
  refine gm_aload_n dX11_waiting_19 rfl ?_
  refine gm_getR (own := RX11) (q := 24) rfl dX11_waiting_20 lfX11_89 sM_0 rfl ?_
  refine gm_iconst (v := 4) dX11_waiting_23 (by decide) ?_
  refine gm_iload_n dX11_waiting_24 rfl ?_
  refine gm_imul dX11_waiting_25 rfl ?_
  refine gm_iconst (v := 2) dX11_waiting_26 (by decide) ?_
  refine gm_iadd dX11_waiting_27 rfl ?_
  refine gm_iald (j := j3) (x := (S 24 j3)) dX11_waiting_28 sM_24 ij3 rfl ?_
  refine gm_iadd dX11_waiting_29 rfl ?_
  refine gm_aload_n dX11_waiting_30 rfl ?_
  refine gm_getR (own := RX11) (q := 24) rfl dX11_waiting_31 lfX11_89 sM_0 rfl ?_
  refine gm_iconst (v := 4) dX11_waiting_34 (by decide) ?_
  refine gm_iload_n dX11_waiting_35 rfl ?_
  refine gm_imul dX11_waiting_36 rfl ?_
  refine gm_iconst (v := 3) dX11_waiting_37 (by decide) ?_
  refine gm_iadd dX11_waiting_38 rfl ?_
  refine gm_iald (j := j4) (x := (S 24 j4)) dX11_waiting_39 sM_24 ij4 rfl ?_
  refine gm_iadd dX11_waiting_40 rfl ?_
  exact gm_iret dX11_waiting_41 rfl
/-- X11_endpoint 0 [4f] -> ret  -/
theorem PX11_endpoint_1 {a1 : Int32} {a2 : Int32} {S : gm_Mem} {r1 : Int32} (h2 : gm_run gM 0 YX11_isEndpoint 0 [some (.int a1)] [] S (some (.int r1)) S) (c3 : r1 = 0) : gm_run gM 1 YX11_endpoint 0 [some (.ref 0), some (.int a1), some (.int a2)] [] S (some (.int (-1000000002))) S := by
  refine gm_iload_n dX11_endpoint_0 rfl ?_
  refine gm_callS (r1 := (some (.int r1))) (own := RX11) rfl dX11_endpoint_1 llX11_211 msX11_isEndpoint [.int a1] [] rfl rfl (Nat.le_of_ble_eq_true rfl) (by decide) rfl h2 rfl ?_
  refine gm_if_ne_f dX11_endpoint_4 ⟨10, by decide⟩ c3 ?_
  refine gm_ldc (own := RX11) rfl lcX11_141 dX11_endpoint_7 ?_
  exact gm_iret dX11_endpoint_9 rfl
/-- X11_endpoint 0 [4t 11=0] -> ret  -/
theorem PX11_endpoint_2 {a1 : Int32} {a2 : Int32} {S : gm_Mem} {r1 : Int32} {j5 : Nat} (h2 : gm_run gM 0 YX11_isEndpoint 0 [some (.int a1)] [] S (some (.int r1)) S) (c3 : ¬ r1 = 0) (c4 : a2 = 0) (ij5 : gm_ix a1 j5 2) : gm_run gM 1 YX11_endpoint 0 [some (.ref 0), some (.int a1), some (.int a2)] [] S (some (.int (S 1 j5))) S := by
  refine gm_iload_n dX11_endpoint_0 rfl ?_
  refine gm_callS (r1 := (some (.int r1))) (own := RX11) rfl dX11_endpoint_1 llX11_211 msX11_isEndpoint [.int a1] [] rfl rfl (Nat.le_of_ble_eq_true rfl) (by decide) rfl h2 rfl ?_
  refine gm_if_ne_t (tgt := 10) dX11_endpoint_4 (by decide) c3 ?_
  refine gm_iload_n dX11_endpoint_10 rfl ?_
  refine gm_tabEq (v := 0) (tgt := 72) dX11_endpoint_11 c4 (by decide) (by decide) rfl (by decide) ?_
  refine gm_aload_n dX11_endpoint_72 rfl ?_
  refine gm_getR (own := RX11) (q := 1) rfl dX11_endpoint_73 lfX11_19 sM_0 rfl ?_
  refine gm_iload_n dX11_endpoint_76 rfl ?_
  refine gm_iald (j := j5) (x := (S 1 j5)) dX11_endpoint_77 sM_1 ij5 rfl ?_
  exact gm_iret dX11_endpoint_78 rfl
/-- X11_endpoint 0 [4t 11=1] -> ret  -/
theorem PX11_endpoint_3 {a1 : Int32} {a2 : Int32} {S : gm_Mem} {r1 : Int32} {j5 : Nat} (h2 : gm_run gM 0 YX11_isEndpoint 0 [some (.int a1)] [] S (some (.int r1)) S) (c3 : ¬ r1 = 0) (c4 : a2 = 1) (ij5 : gm_ix a1 j5 2) : gm_run gM 1 YX11_endpoint 0 [some (.ref 0), some (.int a1), some (.int a2)] [] S (some (.int (S 2 j5))) S := by
  refine gm_iload_n dX11_endpoint_0 rfl ?_
  refine gm_callS (r1 := (some (.int r1))) (own := RX11) rfl dX11_endpoint_1 llX11_211 msX11_isEndpoint [.int a1] [] rfl rfl (Nat.le_of_ble_eq_true rfl) (by decide) rfl h2 rfl ?_
  refine gm_if_ne_t (tgt := 10) dX11_endpoint_4 (by decide) c3 ?_
  refine gm_iload_n dX11_endpoint_10 rfl ?_
  refine gm_tabEq (v := 1) (tgt := 79) dX11_endpoint_11 c4 (by decide) (by decide) rfl (by decide) ?_
  refine gm_aload_n dX11_endpoint_79 rfl ?_
  refine gm_getR (own := RX11) (q := 2) rfl dX11_endpoint_80 lfX11_23 sM_0 rfl ?_
  refine gm_iload_n dX11_endpoint_83 rfl ?_
  refine gm_iald (j := j5) (x := (S 2 j5)) dX11_endpoint_84 sM_2 ij5 rfl ?_
  exact gm_iret dX11_endpoint_85 rfl
/-- X11_endpoint 0 [4t 11=2] -> ret  -/
theorem PX11_endpoint_4 {a1 : Int32} {a2 : Int32} {S : gm_Mem} {r1 : Int32} {j5 : Nat} (h2 : gm_run gM 0 YX11_isEndpoint 0 [some (.int a1)] [] S (some (.int r1)) S) (c3 : ¬ r1 = 0) (c4 : a2 = 2) (ij5 : gm_ix a1 j5 2) : gm_run gM 1 YX11_endpoint 0 [some (.ref 0), some (.int a1), some (.int a2)] [] S (some (.int (S 5 j5))) S := by
  refine gm_iload_n dX11_endpoint_0 rfl ?_
  refine gm_callS (r1 := (some (.int r1))) (own := RX11) rfl dX11_endpoint_1 llX11_211 msX11_isEndpoint [.int a1] [] rfl rfl (Nat.le_of_ble_eq_true rfl) (by decide) rfl h2 rfl ?_
  refine gm_if_ne_t (tgt := 10) dX11_endpoint_4 (by decide) c3 ?_
  refine gm_iload_n dX11_endpoint_10 rfl ?_
  refine gm_tabEq (v := 2) (tgt := 86) dX11_endpoint_11 c4 (by decide) (by decide) rfl (by decide) ?_
  refine gm_aload_n dX11_endpoint_86 rfl ?_
  refine gm_getR (own := RX11) (q := 5) rfl dX11_endpoint_87 lfX11_32 sM_0 rfl ?_
  refine gm_iload_n dX11_endpoint_90 rfl ?_
  refine gm_iald (j := j5) (x := (S 5 j5)) dX11_endpoint_91 sM_5 ij5 rfl ?_
  exact gm_iret dX11_endpoint_92 rfl
/-- X11_endpoint 0 [4t 11=3] -> ret  -/
theorem PX11_endpoint_5 {a1 : Int32} {a2 : Int32} {S : gm_Mem} {r1 : Int32} {j5 : Nat} (h2 : gm_run gM 0 YX11_isEndpoint 0 [some (.int a1)] [] S (some (.int r1)) S) (c3 : ¬ r1 = 0) (c4 : a2 = 3) (ij5 : gm_ix a1 j5 2) : gm_run gM 1 YX11_endpoint 0 [some (.ref 0), some (.int a1), some (.int a2)] [] S (some (.int (S 6 j5))) S := by
  refine gm_iload_n dX11_endpoint_0 rfl ?_
  refine gm_callS (r1 := (some (.int r1))) (own := RX11) rfl dX11_endpoint_1 llX11_211 msX11_isEndpoint [.int a1] [] rfl rfl (Nat.le_of_ble_eq_true rfl) (by decide) rfl h2 rfl ?_
  refine gm_if_ne_t (tgt := 10) dX11_endpoint_4 (by decide) c3 ?_
  refine gm_iload_n dX11_endpoint_10 rfl ?_
  refine gm_tabEq (v := 3) (tgt := 93) dX11_endpoint_11 c4 (by decide) (by decide) rfl (by decide) ?_
  refine gm_aload_n dX11_endpoint_93 rfl ?_
  refine gm_getR (own := RX11) (q := 6) rfl dX11_endpoint_94 lfX11_35 sM_0 rfl ?_
  refine gm_iload_n dX11_endpoint_97 rfl ?_
  refine gm_iald (j := j5) (x := (S 6 j5)) dX11_endpoint_98 sM_6 ij5 rfl ?_
  exact gm_iret dX11_endpoint_99 rfl
/-- X11_endpoint 0 [4t 11=4] -> ret  -/
theorem PX11_endpoint_6 {a1 : Int32} {a2 : Int32} {S : gm_Mem} {r1 : Int32} {j5 : Nat} (h2 : gm_run gM 0 YX11_isEndpoint 0 [some (.int a1)] [] S (some (.int r1)) S) (c3 : ¬ r1 = 0) (c4 : a2 = 4) (ij5 : gm_ix a1 j5 2) : gm_run gM 1 YX11_endpoint 0 [some (.ref 0), some (.int a1), some (.int a2)] [] S (some (.int (S 7 j5))) S := by
  refine gm_iload_n dX11_endpoint_0 rfl ?_
  refine gm_callS (r1 := (some (.int r1))) (own := RX11) rfl dX11_endpoint_1 llX11_211 msX11_isEndpoint [.int a1] [] rfl rfl (Nat.le_of_ble_eq_true rfl) (by decide) rfl h2 rfl ?_
  refine gm_if_ne_t (tgt := 10) dX11_endpoint_4 (by decide) c3 ?_
  refine gm_iload_n dX11_endpoint_10 rfl ?_
  refine gm_tabEq (v := 4) (tgt := 100) dX11_endpoint_11 c4 (by decide) (by decide) rfl (by decide) ?_
  refine gm_aload_n dX11_endpoint_100 rfl ?_
  refine gm_getR (own := RX11) (q := 7) rfl dX11_endpoint_101 lfX11_38 sM_0 rfl ?_
  refine gm_iload_n dX11_endpoint_104 rfl ?_
  refine gm_iald (j := j5) (x := (S 7 j5)) dX11_endpoint_105 sM_7 ij5 rfl ?_
  exact gm_iret dX11_endpoint_106 rfl
/-- X11_endpoint 0 [4t 11=5] -> ret  -/
theorem PX11_endpoint_7 {a1 : Int32} {a2 : Int32} {S : gm_Mem} {r1 : Int32} {j5 : Nat} (h2 : gm_run gM 0 YX11_isEndpoint 0 [some (.int a1)] [] S (some (.int r1)) S) (c3 : ¬ r1 = 0) (c4 : a2 = 5) (ij5 : gm_ix a1 j5 2) : gm_run gM 1 YX11_endpoint 0 [some (.ref 0), some (.int a1), some (.int a2)] [] S (some (.int (S 18 j5))) S := by
  refine gm_iload_n dX11_endpoint_0 rfl ?_
  refine gm_callS (r1 := (some (.int r1))) (own := RX11) rfl dX11_endpoint_1 llX11_211 msX11_isEndpoint [.int a1] [] rfl rfl (Nat.le_of_ble_eq_true rfl) (by decide) rfl h2 rfl ?_
  refine gm_if_ne_t (tgt := 10) dX11_endpoint_4 (by decide) c3 ?_
  refine gm_iload_n dX11_endpoint_10 rfl ?_
  refine gm_tabEq (v := 5) (tgt := 107) dX11_endpoint_11 c4 (by decide) (by decide) rfl (by decide) ?_
  refine gm_aload_n dX11_endpoint_107 rfl ?_
  refine gm_getR (own := RX11) (q := 18) rfl dX11_endpoint_108 lfX11_71 sM_0 rfl ?_
  refine gm_iload_n dX11_endpoint_111 rfl ?_
  refine gm_iald (j := j5) (x := (S 18 j5)) dX11_endpoint_112 sM_18 ij5 rfl ?_
  exact gm_iret dX11_endpoint_113 rfl
/-- X11_endpoint 0 [4t 11=6] -> ret  -/
theorem PX11_endpoint_8 {a1 : Int32} {a2 : Int32} {S : gm_Mem} {r1 : Int32} {j5 : Nat} (h2 : gm_run gM 0 YX11_isEndpoint 0 [some (.int a1)] [] S (some (.int r1)) S) (c3 : ¬ r1 = 0) (c4 : a2 = 6) (ij5 : gm_ix a1 j5 2) : gm_run gM 1 YX11_endpoint 0 [some (.ref 0), some (.int a1), some (.int a2)] [] S (some (.int (S 13 j5))) S := by
  refine gm_iload_n dX11_endpoint_0 rfl ?_
  refine gm_callS (r1 := (some (.int r1))) (own := RX11) rfl dX11_endpoint_1 llX11_211 msX11_isEndpoint [.int a1] [] rfl rfl (Nat.le_of_ble_eq_true rfl) (by decide) rfl h2 rfl ?_
  refine gm_if_ne_t (tgt := 10) dX11_endpoint_4 (by decide) c3 ?_
  refine gm_iload_n dX11_endpoint_10 rfl ?_
  refine gm_tabEq (v := 6) (tgt := 114) dX11_endpoint_11 c4 (by decide) (by decide) rfl (by decide) ?_
  refine gm_aload_n dX11_endpoint_114 rfl ?_
  refine gm_getR (own := RX11) (q := 13) rfl dX11_endpoint_115 lfX11_56 sM_0 rfl ?_
  refine gm_iload_n dX11_endpoint_118 rfl ?_
  refine gm_iald (j := j5) (x := (S 13 j5)) dX11_endpoint_119 sM_13 ij5 rfl ?_
  exact gm_iret dX11_endpoint_120 rfl
/-- X11_endpoint 0 [4t 11=7] -> ret  -/
theorem PX11_endpoint_9 {a1 : Int32} {a2 : Int32} {S : gm_Mem} {r1 : Int32} {r5 : Int32} (h2 : gm_run gM 0 YX11_isEndpoint 0 [some (.int a1)] [] S (some (.int r1)) S) (c3 : ¬ r1 = 0) (c4 : a2 = 7) (h6 : gm_run gM 0 YX11_waiting 0 [some (.ref 0), some (.int a1)] [] S (some (.int r5)) S) : gm_run gM 1 YX11_endpoint 0 [some (.ref 0), some (.int a1), some (.int a2)] [] S (some (.int r5)) S := by
  refine gm_iload_n dX11_endpoint_0 rfl ?_
  refine gm_callS (r1 := (some (.int r1))) (own := RX11) rfl dX11_endpoint_1 llX11_211 msX11_isEndpoint [.int a1] [] rfl rfl (Nat.le_of_ble_eq_true rfl) (by decide) rfl h2 rfl ?_
  refine gm_if_ne_t (tgt := 10) dX11_endpoint_4 (by decide) c3 ?_
  refine gm_iload_n dX11_endpoint_10 rfl ?_
  refine gm_tabEq (v := 7) (tgt := 121) dX11_endpoint_11 c4 (by decide) (by decide) rfl (by decide) ?_
  refine gm_aload_n dX11_endpoint_121 rfl ?_
  refine gm_iload_n dX11_endpoint_122 rfl ?_
  refine gm_callV (r1 := (some (.int r5))) (own := RX11) rfl dX11_endpoint_123 llX11_295 mvX11_waiting sM_0 rfl [.int a1] [] rfl rfl (Nat.le_of_ble_eq_true rfl) (by decide) rfl h6 rfl ?_
  exact gm_iret dX11_endpoint_126 rfl
/-- X11_endpoint 0 [4t 11=8] -> ret  -/
theorem PX11_endpoint_10 {a1 : Int32} {a2 : Int32} {S : gm_Mem} {r1 : Int32} {j5 : Nat} (h2 : gm_run gM 0 YX11_isEndpoint 0 [some (.int a1)] [] S (some (.int r1)) S) (c3 : ¬ r1 = 0) (c4 : a2 = 8) (ij5 : gm_ix a1 j5 2) : gm_run gM 1 YX11_endpoint 0 [some (.ref 0), some (.int a1), some (.int a2)] [] S (some (.int (S 17 j5))) S := by
  refine gm_iload_n dX11_endpoint_0 rfl ?_
  refine gm_callS (r1 := (some (.int r1))) (own := RX11) rfl dX11_endpoint_1 llX11_211 msX11_isEndpoint [.int a1] [] rfl rfl (Nat.le_of_ble_eq_true rfl) (by decide) rfl h2 rfl ?_
  refine gm_if_ne_t (tgt := 10) dX11_endpoint_4 (by decide) c3 ?_
  refine gm_iload_n dX11_endpoint_10 rfl ?_
  refine gm_tabEq (v := 8) (tgt := 127) dX11_endpoint_11 c4 (by decide) (by decide) rfl (by decide) ?_
  refine gm_aload_n dX11_endpoint_127 rfl ?_
  refine gm_getR (own := RX11) (q := 17) rfl dX11_endpoint_128 lfX11_68 sM_0 rfl ?_
  refine gm_iload_n dX11_endpoint_131 rfl ?_
  refine gm_iald (j := j5) (x := (S 17 j5)) dX11_endpoint_132 sM_17 ij5 rfl ?_
  exact gm_iret dX11_endpoint_133 rfl
/-- X11_endpoint 0 [4t 11=9] -> ret  -/
theorem PX11_endpoint_11 {a1 : Int32} {a2 : Int32} {S : gm_Mem} {r1 : Int32} {j5 : Nat} (h2 : gm_run gM 0 YX11_isEndpoint 0 [some (.int a1)] [] S (some (.int r1)) S) (c3 : ¬ r1 = 0) (c4 : a2 = 9) (ij5 : gm_ix a1 j5 2) : gm_run gM 1 YX11_endpoint 0 [some (.ref 0), some (.int a1), some (.int a2)] [] S (some (.int (S 4 j5))) S := by
  refine gm_iload_n dX11_endpoint_0 rfl ?_
  refine gm_callS (r1 := (some (.int r1))) (own := RX11) rfl dX11_endpoint_1 llX11_211 msX11_isEndpoint [.int a1] [] rfl rfl (Nat.le_of_ble_eq_true rfl) (by decide) rfl h2 rfl ?_
  refine gm_if_ne_t (tgt := 10) dX11_endpoint_4 (by decide) c3 ?_
  refine gm_iload_n dX11_endpoint_10 rfl ?_
  refine gm_tabEq (v := 9) (tgt := 134) dX11_endpoint_11 c4 (by decide) (by decide) rfl (by decide) ?_
  refine gm_aload_n dX11_endpoint_134 rfl ?_
  refine gm_getR (own := RX11) (q := 4) rfl dX11_endpoint_135 lfX11_29 sM_0 rfl ?_
  refine gm_iload_n dX11_endpoint_138 rfl ?_
  refine gm_iald (j := j5) (x := (S 4 j5)) dX11_endpoint_139 sM_4 ij5 rfl ?_
  exact gm_iret dX11_endpoint_140 rfl
/-- X11_endpoint 0 [4t 11=10 146f] -> ret  -/
theorem PX11_endpoint_12 {a1 : Int32} {a2 : Int32} {S : gm_Mem} {r1 : Int32} {r5 : Int32} (h2 : gm_run gM 0 YX11_isEndpoint 0 [some (.int a1)] [] S (some (.int r1)) S) (c3 : ¬ r1 = 0) (c4 : a2 = 10) (h6 : gm_run gM 0 YX11_hasOld 0 [some (.ref 0), some (.int a1)] [] S (some (.int r5)) S) (c7 : ¬ r5 = 0) : gm_run gM 1 YX11_endpoint 0 [some (.ref 0), some (.int a1), some (.int a2)] [] S (some (.int 1)) S := by
  refine gm_iload_n dX11_endpoint_0 rfl ?_
  refine gm_callS (r1 := (some (.int r1))) (own := RX11) rfl dX11_endpoint_1 llX11_211 msX11_isEndpoint [.int a1] [] rfl rfl (Nat.le_of_ble_eq_true rfl) (by decide) rfl h2 rfl ?_
  refine gm_if_ne_t (tgt := 10) dX11_endpoint_4 (by decide) c3 ?_
  refine gm_iload_n dX11_endpoint_10 rfl ?_
  refine gm_tabEq (v := 10) (tgt := 141) dX11_endpoint_11 c4 (by decide) (by decide) rfl (by decide) ?_
  refine gm_aload_n dX11_endpoint_141 rfl ?_
  refine gm_iload_n dX11_endpoint_142 rfl ?_
  refine gm_callV (r1 := (some (.int r5))) (own := RX11) rfl dX11_endpoint_143 llX11_226 mvX11_hasOld sM_0 rfl [.int a1] [] rfl rfl (Nat.le_of_ble_eq_true rfl) (by decide) rfl h6 rfl ?_
  refine gm_if_eq_f dX11_endpoint_146 ⟨153, by decide⟩ c7 ?_
  refine gm_iconst (v := 1) dX11_endpoint_149 (by decide) ?_
  refine gm_goto (tgt := 154) dX11_endpoint_150 (by decide) ?_
  exact gm_iret dX11_endpoint_154 rfl
/-- X11_endpoint 0 [4t 11=10 146t] -> ret  -/
theorem PX11_endpoint_13 {a1 : Int32} {a2 : Int32} {S : gm_Mem} {r1 : Int32} {r5 : Int32} (h2 : gm_run gM 0 YX11_isEndpoint 0 [some (.int a1)] [] S (some (.int r1)) S) (c3 : ¬ r1 = 0) (c4 : a2 = 10) (h6 : gm_run gM 0 YX11_hasOld 0 [some (.ref 0), some (.int a1)] [] S (some (.int r5)) S) (c7 : r5 = 0) : gm_run gM 1 YX11_endpoint 0 [some (.ref 0), some (.int a1), some (.int a2)] [] S (some (.int 0)) S := by
  refine gm_iload_n dX11_endpoint_0 rfl ?_
  refine gm_callS (r1 := (some (.int r1))) (own := RX11) rfl dX11_endpoint_1 llX11_211 msX11_isEndpoint [.int a1] [] rfl rfl (Nat.le_of_ble_eq_true rfl) (by decide) rfl h2 rfl ?_
  refine gm_if_ne_t (tgt := 10) dX11_endpoint_4 (by decide) c3 ?_
  refine gm_iload_n dX11_endpoint_10 rfl ?_
  refine gm_tabEq (v := 10) (tgt := 141) dX11_endpoint_11 c4 (by decide) (by decide) rfl (by decide) ?_
  refine gm_aload_n dX11_endpoint_141 rfl ?_
  refine gm_iload_n dX11_endpoint_142 rfl ?_
  refine gm_callV (r1 := (some (.int r5))) (own := RX11) rfl dX11_endpoint_143 llX11_226 mvX11_hasOld sM_0 rfl [.int a1] [] rfl rfl (Nat.le_of_ble_eq_true rfl) (by decide) rfl h6 rfl ?_
  refine gm_if_eq_t (tgt := 153) dX11_endpoint_146 (by decide) c7 ?_
  refine gm_iconst (v := 0) dX11_endpoint_153 (by decide) ?_
  exact gm_iret dX11_endpoint_154 rfl
/-- X11_endpoint 0 [4t 11=11 156f] -> ret  -/
theorem PX11_endpoint_14 {a1 : Int32} {a2 : Int32} {S : gm_Mem} {r1 : Int32} (h2 : gm_run gM 0 YX11_isEndpoint 0 [some (.int a1)] [] S (some (.int r1)) S) (c3 : ¬ r1 = 0) (c4 : a2 = 11) (c5 : a1 = 0) : gm_run gM 1 YX11_endpoint 0 [some (.ref 0), some (.int a1), some (.int a2)] [] S (some (.int (S 0 35))) S := by
  refine gm_iload_n dX11_endpoint_0 rfl ?_
  refine gm_callS (r1 := (some (.int r1))) (own := RX11) rfl dX11_endpoint_1 llX11_211 msX11_isEndpoint [.int a1] [] rfl rfl (Nat.le_of_ble_eq_true rfl) (by decide) rfl h2 rfl ?_
  refine gm_if_ne_t (tgt := 10) dX11_endpoint_4 (by decide) c3 ?_
  refine gm_iload_n dX11_endpoint_10 rfl ?_
  refine gm_tabEq (v := 11) (tgt := 155) dX11_endpoint_11 c4 (by decide) (by decide) rfl (by decide) ?_
  refine gm_iload_n dX11_endpoint_155 rfl ?_
  refine gm_if_ne_f dX11_endpoint_156 ⟨166, by decide⟩ c5 ?_
  refine gm_aload_n dX11_endpoint_159 rfl ?_
  refine gm_getI (own := RX11) (x := (S 0 35)) rfl dX11_endpoint_160 lfX11_98 sM_0 rfl rfl ?_
  refine gm_goto (tgt := 170) dX11_endpoint_163 (by decide) ?_
  exact gm_iret dX11_endpoint_170 rfl
/-- X11_endpoint 0 [4t 11=11 156t] -> ret  -/
theorem PX11_endpoint_15 {a1 : Int32} {a2 : Int32} {S : gm_Mem} {r1 : Int32} (h2 : gm_run gM 0 YX11_isEndpoint 0 [some (.int a1)] [] S (some (.int r1)) S) (c3 : ¬ r1 = 0) (c4 : a2 = 11) (c5 : ¬ a1 = 0) : gm_run gM 1 YX11_endpoint 0 [some (.ref 0), some (.int a1), some (.int a2)] [] S (some (.int (S 0 38))) S := by
  refine gm_iload_n dX11_endpoint_0 rfl ?_
  refine gm_callS (r1 := (some (.int r1))) (own := RX11) rfl dX11_endpoint_1 llX11_211 msX11_isEndpoint [.int a1] [] rfl rfl (Nat.le_of_ble_eq_true rfl) (by decide) rfl h2 rfl ?_
  refine gm_if_ne_t (tgt := 10) dX11_endpoint_4 (by decide) c3 ?_
  refine gm_iload_n dX11_endpoint_10 rfl ?_
  refine gm_tabEq (v := 11) (tgt := 155) dX11_endpoint_11 c4 (by decide) (by decide) rfl (by decide) ?_
  refine gm_iload_n dX11_endpoint_155 rfl ?_
  refine gm_if_ne_t (tgt := 166) dX11_endpoint_156 (by decide) c5 ?_
  refine gm_aload_n dX11_endpoint_166 rfl ?_
  refine gm_getI (own := RX11) (x := (S 0 38)) rfl dX11_endpoint_167 lfX11_223 sM_0 rfl rfl ?_
  exact gm_iret dX11_endpoint_170 rfl
/-- X11_endpoint 0 [4t 11out] -> ret  -/
theorem PX11_endpoint_16 {a1 : Int32} {a2 : Int32} {S : gm_Mem} {r1 : Int32} (h2 : gm_run gM 0 YX11_isEndpoint 0 [some (.int a1)] [] S (some (.int r1)) S) (c3 : ¬ r1 = 0) (c4 : a2.toInt < 0 ∨ 11 < a2.toInt) : gm_run gM 1 YX11_endpoint 0 [some (.ref 0), some (.int a1), some (.int a2)] [] S (some (.int (-1000000002))) S := by
  refine gm_iload_n dX11_endpoint_0 rfl ?_
  refine gm_callS (r1 := (some (.int r1))) (own := RX11) rfl dX11_endpoint_1 llX11_211 msX11_isEndpoint [.int a1] [] rfl rfl (Nat.le_of_ble_eq_true rfl) (by decide) rfl h2 rfl ?_
  refine gm_if_ne_t (tgt := 10) dX11_endpoint_4 (by decide) c3 ?_
  refine gm_iload_n dX11_endpoint_10 rfl ?_
  refine gm_tabOut (tgt := 171) dX11_endpoint_11 c4 (by decide) ?_
  refine gm_ldc (own := RX11) rfl lcX11_141 dX11_endpoint_171 ?_
  exact gm_iret dX11_endpoint_173 rfl
/-- X11_window 0 [4f 13f] -> ret  -/
theorem PX11_window_1 {a1 : Int32} {a2 : Int32} {S : gm_Mem} {r1 : Int32} {r4 : Int32} (h2 : gm_run gM 0 YX11_isEndpoint 0 [some (.int a1)] [] S (some (.int r1)) S) (c3 : ¬ r1 = 0) (h5 : gm_run gM 0 YX11_isBetween 0 [some (.int a2), some (.int 0), some (.int 1)] [] S (some (.int r4)) S) (c6 : r4 = 0) : gm_run gM 1 YX11_window 0 [some (.ref 0), some (.int a1), some (.int a2), none] [] S (some (.int (-1000000002))) S := by
  refine gm_iload_n dX11_window_0 rfl ?_
  refine gm_callS (r1 := (some (.int r1))) (own := RX11) rfl dX11_window_1 llX11_211 msX11_isEndpoint [.int a1] [] rfl rfl (Nat.le_of_ble_eq_true rfl) (by decide) rfl h2 rfl ?_
  refine gm_if_eq_f dX11_window_4 ⟨16, by decide⟩ c3 ?_
  refine gm_iload_n dX11_window_7 rfl ?_
  refine gm_iconst (v := 0) dX11_window_8 (by decide) ?_
  refine gm_iconst (v := 1) dX11_window_9 (by decide) ?_
  refine gm_callS (r1 := (some (.int r4))) (own := RX11) rfl dX11_window_10 llX11_137 msX11_isBetween [.int a2, .int 0, .int 1] [] rfl rfl (Nat.le_of_ble_eq_true rfl) (by decide) rfl h5 rfl ?_
  refine gm_if_ne_f dX11_window_13 ⟨19, by decide⟩ c6 ?_
  refine gm_ldc (own := RX11) rfl lcX11_141 dX11_window_16 ?_
  exact gm_iret dX11_window_18 rfl
/-- X11_window 0 [4f 13t 21f 29f] -> ret  -/
theorem PX11_window_2 {a1 : Int32} {a2 : Int32} {S : gm_Mem} {r1 : Int32} {r4 : Int32} {r8 : Int32} (h2 : gm_run gM 0 YX11_isEndpoint 0 [some (.int a1)] [] S (some (.int r1)) S) (c3 : ¬ r1 = 0) (h5 : gm_run gM 0 YX11_isBetween 0 [some (.int a2), some (.int 0), some (.int 1)] [] S (some (.int r4)) S) (c6 : ¬ r4 = 0) (c7 : a2 = 1) (h9 : gm_run gM 0 YX11_hasOld 0 [some (.ref 0), some (.int a1)] [] S (some (.int r8)) S) (c10 : r8 = 0) : gm_run gM 1 YX11_window 0 [some (.ref 0), some (.int a1), some (.int a2), none] [] S (some (.int (-1000000001))) S := by
  refine gm_iload_n dX11_window_0 rfl ?_
  refine gm_callS (r1 := (some (.int r1))) (own := RX11) rfl dX11_window_1 llX11_211 msX11_isEndpoint [.int a1] [] rfl rfl (Nat.le_of_ble_eq_true rfl) (by decide) rfl h2 rfl ?_
  refine gm_if_eq_f dX11_window_4 ⟨16, by decide⟩ c3 ?_
  refine gm_iload_n dX11_window_7 rfl ?_
  refine gm_iconst (v := 0) dX11_window_8 (by decide) ?_
  refine gm_iconst (v := 1) dX11_window_9 (by decide) ?_
  refine gm_callS (r1 := (some (.int r4))) (own := RX11) rfl dX11_window_10 llX11_137 msX11_isBetween [.int a2, .int 0, .int 1] [] rfl rfl (Nat.le_of_ble_eq_true rfl) (by decide) rfl h5 rfl ?_
  refine gm_if_ne_t (tgt := 19) dX11_window_13 (by decide) c6 ?_
  refine gm_iload_n dX11_window_19 rfl ?_
  refine gm_iconst (v := 1) dX11_window_20 (by decide) ?_
  refine gm_icmp_ne_f dX11_window_21 ⟨35, by decide⟩ c7 ?_
  refine gm_aload_n dX11_window_24 rfl ?_
  refine gm_iload_n dX11_window_25 rfl ?_
  refine gm_callV (r1 := (some (.int r8))) (own := RX11) rfl dX11_window_26 llX11_226 mvX11_hasOld sM_0 rfl [.int a1] [] rfl rfl (Nat.le_of_ble_eq_true rfl) (by decide) rfl h9 rfl ?_
  refine gm_if_ne_f dX11_window_29 ⟨35, by decide⟩ c10 ?_
  refine gm_ldc (own := RX11) rfl lcX11_204 dX11_window_32 ?_
  exact gm_iret dX11_window_34 rfl
/-- X11_window 0 [4f 13t 21f 29t 36f 56f] -> ret  -/
theorem PX11_window_3 {a1 : Int32} {a2 : Int32} {S : gm_Mem} {r1 : Int32} {r4 : Int32} {r8 : Int32} {j12 : Nat} (h2 : gm_run gM 0 YX11_isEndpoint 0 [some (.int a1)] [] S (some (.int r1)) S) (c3 : ¬ r1 = 0) (h5 : gm_run gM 0 YX11_isBetween 0 [some (.int a2), some (.int 0), some (.int 1)] [] S (some (.int r4)) S) (c6 : ¬ r4 = 0) (c7 : a2 = 1) (h9 : gm_run gM 0 YX11_hasOld 0 [some (.ref 0), some (.int a1)] [] S (some (.int r8)) S) (c10 : ¬ r8 = 0) (c11 : a2 = 0) (ij12 : gm_ix a1 j12 2) (c13 : (S 8 j12) < 0) : gm_run gM 1 YX11_window 0 [some (.ref 0), some (.int a1), some (.int a2), none] [] S (some (.int (-1))) S := by
  refine gm_iload_n dX11_window_0 rfl ?_
  refine gm_callS (r1 := (some (.int r1))) (own := RX11) rfl dX11_window_1 llX11_211 msX11_isEndpoint [.int a1] [] rfl rfl (Nat.le_of_ble_eq_true rfl) (by decide) rfl h2 rfl ?_
  refine gm_if_eq_f dX11_window_4 ⟨16, by decide⟩ c3 ?_
  refine gm_iload_n dX11_window_7 rfl ?_
  refine gm_iconst (v := 0) dX11_window_8 (by decide) ?_
  refine gm_iconst (v := 1) dX11_window_9 (by decide) ?_
  refine gm_callS (r1 := (some (.int r4))) (own := RX11) rfl dX11_window_10 llX11_137 msX11_isBetween [.int a2, .int 0, .int 1] [] rfl rfl (Nat.le_of_ble_eq_true rfl) (by decide) rfl h5 rfl ?_
  refine gm_if_ne_t (tgt := 19) dX11_window_13 (by decide) c6 ?_
  refine gm_iload_n dX11_window_19 rfl ?_
  refine gm_iconst (v := 1) dX11_window_20 (by decide) ?_
  refine gm_icmp_ne_f dX11_window_21 ⟨35, by decide⟩ c7 ?_
  refine gm_aload_n dX11_window_24 rfl ?_
  refine gm_iload_n dX11_window_25 rfl ?_
  refine gm_callV (r1 := (some (.int r8))) (own := RX11) rfl dX11_window_26 llX11_226 mvX11_hasOld sM_0 rfl [.int a1] [] rfl rfl (Nat.le_of_ble_eq_true rfl) (by decide) rfl h9 rfl ?_
  refine gm_if_ne_t (tgt := 35) dX11_window_29 (by decide) c10 ?_
  refine gm_iload_n dX11_window_35 rfl ?_
  refine gm_if_ne_f dX11_window_36 ⟨48, by decide⟩ c11 ?_
  refine gm_aload_n dX11_window_39 rfl ?_
  refine gm_getR (own := RX11) (q := 8) rfl dX11_window_40 lfX11_41 sM_0 rfl ?_
  refine gm_iload_n dX11_window_43 rfl ?_
  refine gm_iald (j := j12) (x := (S 8 j12)) dX11_window_44 sM_8 ij12 rfl ?_
  refine gm_goto (tgt := 54) dX11_window_45 (by decide) ?_
  refine gm_istore_n (L' := [some (.ref 0), some (.int a1), some (.int a2), some (.int (S 8 j12))]) dX11_window_54 (by decide) rfl ?_
  refine gm_iload_n dX11_window_55 rfl ?_
  refine gm_if_ge_f dX11_window_56 ⟨63, by decide⟩ c13 ?_
  refine gm_iconst (v := (-1)) dX11_window_59 (by decide) ?_
  refine gm_goto (tgt := 88) dX11_window_60 (by decide) ?_
  exact gm_iret dX11_window_88 rfl
/-- X11_window 0 [4f 13t 21f 29t 36f 56t] -> ret  -/
theorem PX11_window_4 {a1 : Int32} {a2 : Int32} {S : gm_Mem} {r1 : Int32} {r4 : Int32} {r8 : Int32} {j12 : Nat} (h2 : gm_run gM 0 YX11_isEndpoint 0 [some (.int a1)] [] S (some (.int r1)) S) (c3 : ¬ r1 = 0) (h5 : gm_run gM 0 YX11_isBetween 0 [some (.int a2), some (.int 0), some (.int 1)] [] S (some (.int r4)) S) (c6 : ¬ r4 = 0) (c7 : a2 = 1) (h9 : gm_run gM 0 YX11_hasOld 0 [some (.ref 0), some (.int a1)] [] S (some (.int r8)) S) (c10 : ¬ r8 = 0) (c11 : a2 = 0) (ij12 : gm_ix a1 j12 2) (c13 : ¬ (S 8 j12) < 0) : gm_run gM 1 YX11_window 0 [some (.ref 0), some (.int a1), some (.int a2), none] [] S (some (.int ((256 * (S 8 j12)) + (S 9 j12)))) S := by
  refine gm_iload_n dX11_window_0 rfl ?_
  refine gm_callS (r1 := (some (.int r1))) (own := RX11) rfl dX11_window_1 llX11_211 msX11_isEndpoint [.int a1] [] rfl rfl (Nat.le_of_ble_eq_true rfl) (by decide) rfl h2 rfl ?_
  refine gm_if_eq_f dX11_window_4 ⟨16, by decide⟩ c3 ?_
  refine gm_iload_n dX11_window_7 rfl ?_
  refine gm_iconst (v := 0) dX11_window_8 (by decide) ?_
  refine gm_iconst (v := 1) dX11_window_9 (by decide) ?_
  refine gm_callS (r1 := (some (.int r4))) (own := RX11) rfl dX11_window_10 llX11_137 msX11_isBetween [.int a2, .int 0, .int 1] [] rfl rfl (Nat.le_of_ble_eq_true rfl) (by decide) rfl h5 rfl ?_
  refine gm_if_ne_t (tgt := 19) dX11_window_13 (by decide) c6 ?_
  refine gm_iload_n dX11_window_19 rfl ?_
  refine gm_iconst (v := 1) dX11_window_20 (by decide) ?_
  refine gm_icmp_ne_f dX11_window_21 ⟨35, by decide⟩ c7 ?_
  refine gm_aload_n dX11_window_24 rfl ?_
  refine gm_iload_n dX11_window_25 rfl ?_
  refine gm_callV (r1 := (some (.int r8))) (own := RX11) rfl dX11_window_26 llX11_226 mvX11_hasOld sM_0 rfl [.int a1] [] rfl rfl (Nat.le_of_ble_eq_true rfl) (by decide) rfl h9 rfl ?_
  refine gm_if_ne_t (tgt := 35) dX11_window_29 (by decide) c10 ?_
  refine gm_iload_n dX11_window_35 rfl ?_
  refine gm_if_ne_f dX11_window_36 ⟨48, by decide⟩ c11 ?_
  refine gm_aload_n dX11_window_39 rfl ?_
  refine gm_getR (own := RX11) (q := 8) rfl dX11_window_40 lfX11_41 sM_0 rfl ?_
  refine gm_iload_n dX11_window_43 rfl ?_
  refine gm_iald (j := j12) (x := (S 8 j12)) dX11_window_44 sM_8 ij12 rfl ?_
  refine gm_goto (tgt := 54) dX11_window_45 (by decide) ?_
  refine gm_istore_n (L' := [some (.ref 0), some (.int a1), some (.int a2), some (.int (S 8 j12))]) dX11_window_54 (by decide) rfl ?_
  refine gm_iload_n dX11_window_55 rfl ?_
  refine gm_if_ge_t (tgt := 63) dX11_window_56 (by decide) c13 ?_
  refine gm_sipush (v := 256) dX11_window_63 (by decide) ?_
  refine gm_iload_n dX11_window_66 rfl ?_
  refine gm_imul dX11_window_67 rfl ?_
  refine gm_iload_n dX11_window_68 rfl ?_
  refine gm_if_ne_f dX11_window_69 ⟨81, by decide⟩ c11 ?_
  refine gm_aload_n dX11_window_72 rfl ?_
  refine gm_getR (own := RX11) (q := 9) rfl dX11_window_73 lfX11_44 sM_0 rfl ?_
  refine gm_iload_n dX11_window_76 rfl ?_
  refine gm_iald (j := j12) (x := (S 9 j12)) dX11_window_77 sM_9 ij12 rfl ?_
  refine gm_goto (tgt := 87) dX11_window_78 (by decide) ?_
  refine gm_iadd dX11_window_87 rfl ?_
  exact gm_iret dX11_window_88 rfl
/-- X11_window 0 [4f 13t 21f 29t 36t 56f] -> ret  -/
theorem PX11_window_5 {a1 : Int32} {a2 : Int32} {S : gm_Mem} {r1 : Int32} {r4 : Int32} {r8 : Int32} {j12 : Nat} (h2 : gm_run gM 0 YX11_isEndpoint 0 [some (.int a1)] [] S (some (.int r1)) S) (c3 : ¬ r1 = 0) (h5 : gm_run gM 0 YX11_isBetween 0 [some (.int a2), some (.int 0), some (.int 1)] [] S (some (.int r4)) S) (c6 : ¬ r4 = 0) (c7 : a2 = 1) (h9 : gm_run gM 0 YX11_hasOld 0 [some (.ref 0), some (.int a1)] [] S (some (.int r8)) S) (c10 : ¬ r8 = 0) (c11 : ¬ a2 = 0) (ij12 : gm_ix a1 j12 2) (c13 : (S 10 j12) < 0) : gm_run gM 1 YX11_window 0 [some (.ref 0), some (.int a1), some (.int a2), none] [] S (some (.int (-1))) S := by
  refine gm_iload_n dX11_window_0 rfl ?_
  refine gm_callS (r1 := (some (.int r1))) (own := RX11) rfl dX11_window_1 llX11_211 msX11_isEndpoint [.int a1] [] rfl rfl (Nat.le_of_ble_eq_true rfl) (by decide) rfl h2 rfl ?_
  refine gm_if_eq_f dX11_window_4 ⟨16, by decide⟩ c3 ?_
  refine gm_iload_n dX11_window_7 rfl ?_
  refine gm_iconst (v := 0) dX11_window_8 (by decide) ?_
  refine gm_iconst (v := 1) dX11_window_9 (by decide) ?_
  refine gm_callS (r1 := (some (.int r4))) (own := RX11) rfl dX11_window_10 llX11_137 msX11_isBetween [.int a2, .int 0, .int 1] [] rfl rfl (Nat.le_of_ble_eq_true rfl) (by decide) rfl h5 rfl ?_
  refine gm_if_ne_t (tgt := 19) dX11_window_13 (by decide) c6 ?_
  refine gm_iload_n dX11_window_19 rfl ?_
  refine gm_iconst (v := 1) dX11_window_20 (by decide) ?_
  refine gm_icmp_ne_f dX11_window_21 ⟨35, by decide⟩ c7 ?_
  refine gm_aload_n dX11_window_24 rfl ?_
  refine gm_iload_n dX11_window_25 rfl ?_
  refine gm_callV (r1 := (some (.int r8))) (own := RX11) rfl dX11_window_26 llX11_226 mvX11_hasOld sM_0 rfl [.int a1] [] rfl rfl (Nat.le_of_ble_eq_true rfl) (by decide) rfl h9 rfl ?_
  refine gm_if_ne_t (tgt := 35) dX11_window_29 (by decide) c10 ?_
  refine gm_iload_n dX11_window_35 rfl ?_
  refine gm_if_ne_t (tgt := 48) dX11_window_36 (by decide) c11 ?_
  refine gm_aload_n dX11_window_48 rfl ?_
  refine gm_getR (own := RX11) (q := 10) rfl dX11_window_49 lfX11_47 sM_0 rfl ?_
  refine gm_iload_n dX11_window_52 rfl ?_
  refine gm_iald (j := j12) (x := (S 10 j12)) dX11_window_53 sM_10 ij12 rfl ?_
  refine gm_istore_n (L' := [some (.ref 0), some (.int a1), some (.int a2), some (.int (S 10 j12))]) dX11_window_54 (by decide) rfl ?_
  refine gm_iload_n dX11_window_55 rfl ?_
  refine gm_if_ge_f dX11_window_56 ⟨63, by decide⟩ c13 ?_
  refine gm_iconst (v := (-1)) dX11_window_59 (by decide) ?_
  refine gm_goto (tgt := 88) dX11_window_60 (by decide) ?_
  exact gm_iret dX11_window_88 rfl
/-- X11_window 0 [4f 13t 21f 29t 36t 56t] -> ret  -/
theorem PX11_window_6 {a1 : Int32} {a2 : Int32} {S : gm_Mem} {r1 : Int32} {r4 : Int32} {r8 : Int32} {j12 : Nat} (h2 : gm_run gM 0 YX11_isEndpoint 0 [some (.int a1)] [] S (some (.int r1)) S) (c3 : ¬ r1 = 0) (h5 : gm_run gM 0 YX11_isBetween 0 [some (.int a2), some (.int 0), some (.int 1)] [] S (some (.int r4)) S) (c6 : ¬ r4 = 0) (c7 : a2 = 1) (h9 : gm_run gM 0 YX11_hasOld 0 [some (.ref 0), some (.int a1)] [] S (some (.int r8)) S) (c10 : ¬ r8 = 0) (c11 : ¬ a2 = 0) (ij12 : gm_ix a1 j12 2) (c13 : ¬ (S 10 j12) < 0) : gm_run gM 1 YX11_window 0 [some (.ref 0), some (.int a1), some (.int a2), none] [] S (some (.int ((256 * (S 10 j12)) + (S 11 j12)))) S := by
  refine gm_iload_n dX11_window_0 rfl ?_
  refine gm_callS (r1 := (some (.int r1))) (own := RX11) rfl dX11_window_1 llX11_211 msX11_isEndpoint [.int a1] [] rfl rfl (Nat.le_of_ble_eq_true rfl) (by decide) rfl h2 rfl ?_
  refine gm_if_eq_f dX11_window_4 ⟨16, by decide⟩ c3 ?_
  refine gm_iload_n dX11_window_7 rfl ?_
  refine gm_iconst (v := 0) dX11_window_8 (by decide) ?_
  refine gm_iconst (v := 1) dX11_window_9 (by decide) ?_
  refine gm_callS (r1 := (some (.int r4))) (own := RX11) rfl dX11_window_10 llX11_137 msX11_isBetween [.int a2, .int 0, .int 1] [] rfl rfl (Nat.le_of_ble_eq_true rfl) (by decide) rfl h5 rfl ?_
  refine gm_if_ne_t (tgt := 19) dX11_window_13 (by decide) c6 ?_
  refine gm_iload_n dX11_window_19 rfl ?_
  refine gm_iconst (v := 1) dX11_window_20 (by decide) ?_
  refine gm_icmp_ne_f dX11_window_21 ⟨35, by decide⟩ c7 ?_
  refine gm_aload_n dX11_window_24 rfl ?_
  refine gm_iload_n dX11_window_25 rfl ?_
  refine gm_callV (r1 := (some (.int r8))) (own := RX11) rfl dX11_window_26 llX11_226 mvX11_hasOld sM_0 rfl [.int a1] [] rfl rfl (Nat.le_of_ble_eq_true rfl) (by decide) rfl h9 rfl ?_
  refine gm_if_ne_t (tgt := 35) dX11_window_29 (by decide) c10 ?_
  refine gm_iload_n dX11_window_35 rfl ?_
  refine gm_if_ne_t (tgt := 48) dX11_window_36 (by decide) c11 ?_
  refine gm_aload_n dX11_window_48 rfl ?_
  refine gm_getR (own := RX11) (q := 10) rfl dX11_window_49 lfX11_47 sM_0 rfl ?_
  refine gm_iload_n dX11_window_52 rfl ?_
  refine gm_iald (j := j12) (x := (S 10 j12)) dX11_window_53 sM_10 ij12 rfl ?_
  refine gm_istore_n (L' := [some (.ref 0), some (.int a1), some (.int a2), some (.int (S 10 j12))]) dX11_window_54 (by decide) rfl ?_
  refine gm_iload_n dX11_window_55 rfl ?_
  refine gm_if_ge_t (tgt := 63) dX11_window_56 (by decide) c13 ?_
  refine gm_sipush (v := 256) dX11_window_63 (by decide) ?_
  refine gm_iload_n dX11_window_66 rfl ?_
  refine gm_imul dX11_window_67 rfl ?_
  refine gm_iload_n dX11_window_68 rfl ?_
  refine gm_if_ne_t (tgt := 81) dX11_window_69 (by decide) c11 ?_
  refine gm_aload_n dX11_window_81 rfl ?_
  refine gm_getR (own := RX11) (q := 11) rfl dX11_window_82 lfX11_50 sM_0 rfl ?_
  refine gm_iload_n dX11_window_85 rfl ?_
  refine gm_iald (j := j12) (x := (S 11 j12)) dX11_window_86 sM_11 ij12 rfl ?_
  refine gm_iadd dX11_window_87 rfl ?_
  exact gm_iret dX11_window_88 rfl
/-- X11_window 0 [4f 13t 21t 36f 56f] -> ret  -/
theorem PX11_window_7 {a1 : Int32} {a2 : Int32} {S : gm_Mem} {r1 : Int32} {r4 : Int32} {j9 : Nat} (h2 : gm_run gM 0 YX11_isEndpoint 0 [some (.int a1)] [] S (some (.int r1)) S) (c3 : ¬ r1 = 0) (h5 : gm_run gM 0 YX11_isBetween 0 [some (.int a2), some (.int 0), some (.int 1)] [] S (some (.int r4)) S) (c6 : ¬ r4 = 0) (c7 : ¬ a2 = 1) (c8 : a2 = 0) (ij9 : gm_ix a1 j9 2) (c10 : (S 8 j9) < 0) : gm_run gM 1 YX11_window 0 [some (.ref 0), some (.int a1), some (.int a2), none] [] S (some (.int (-1))) S := by
  refine gm_iload_n dX11_window_0 rfl ?_
  refine gm_callS (r1 := (some (.int r1))) (own := RX11) rfl dX11_window_1 llX11_211 msX11_isEndpoint [.int a1] [] rfl rfl (Nat.le_of_ble_eq_true rfl) (by decide) rfl h2 rfl ?_
  refine gm_if_eq_f dX11_window_4 ⟨16, by decide⟩ c3 ?_
  refine gm_iload_n dX11_window_7 rfl ?_
  refine gm_iconst (v := 0) dX11_window_8 (by decide) ?_
  refine gm_iconst (v := 1) dX11_window_9 (by decide) ?_
  refine gm_callS (r1 := (some (.int r4))) (own := RX11) rfl dX11_window_10 llX11_137 msX11_isBetween [.int a2, .int 0, .int 1] [] rfl rfl (Nat.le_of_ble_eq_true rfl) (by decide) rfl h5 rfl ?_
  refine gm_if_ne_t (tgt := 19) dX11_window_13 (by decide) c6 ?_
  refine gm_iload_n dX11_window_19 rfl ?_
  refine gm_iconst (v := 1) dX11_window_20 (by decide) ?_
  refine gm_icmp_ne_t (tgt := 35) dX11_window_21 (by decide) c7 ?_
  refine gm_iload_n dX11_window_35 rfl ?_
  refine gm_if_ne_f dX11_window_36 ⟨48, by decide⟩ c8 ?_
  refine gm_aload_n dX11_window_39 rfl ?_
  refine gm_getR (own := RX11) (q := 8) rfl dX11_window_40 lfX11_41 sM_0 rfl ?_
  refine gm_iload_n dX11_window_43 rfl ?_
  refine gm_iald (j := j9) (x := (S 8 j9)) dX11_window_44 sM_8 ij9 rfl ?_
  refine gm_goto (tgt := 54) dX11_window_45 (by decide) ?_
  refine gm_istore_n (L' := [some (.ref 0), some (.int a1), some (.int a2), some (.int (S 8 j9))]) dX11_window_54 (by decide) rfl ?_
  refine gm_iload_n dX11_window_55 rfl ?_
  refine gm_if_ge_f dX11_window_56 ⟨63, by decide⟩ c10 ?_
  refine gm_iconst (v := (-1)) dX11_window_59 (by decide) ?_
  refine gm_goto (tgt := 88) dX11_window_60 (by decide) ?_
  exact gm_iret dX11_window_88 rfl
/-- X11_window 0 [4f 13t 21t 36f 56t] -> ret  -/
theorem PX11_window_8 {a1 : Int32} {a2 : Int32} {S : gm_Mem} {r1 : Int32} {r4 : Int32} {j9 : Nat} (h2 : gm_run gM 0 YX11_isEndpoint 0 [some (.int a1)] [] S (some (.int r1)) S) (c3 : ¬ r1 = 0) (h5 : gm_run gM 0 YX11_isBetween 0 [some (.int a2), some (.int 0), some (.int 1)] [] S (some (.int r4)) S) (c6 : ¬ r4 = 0) (c7 : ¬ a2 = 1) (c8 : a2 = 0) (ij9 : gm_ix a1 j9 2) (c10 : ¬ (S 8 j9) < 0) : gm_run gM 1 YX11_window 0 [some (.ref 0), some (.int a1), some (.int a2), none] [] S (some (.int ((256 * (S 8 j9)) + (S 9 j9)))) S := by
  refine gm_iload_n dX11_window_0 rfl ?_
  refine gm_callS (r1 := (some (.int r1))) (own := RX11) rfl dX11_window_1 llX11_211 msX11_isEndpoint [.int a1] [] rfl rfl (Nat.le_of_ble_eq_true rfl) (by decide) rfl h2 rfl ?_
  refine gm_if_eq_f dX11_window_4 ⟨16, by decide⟩ c3 ?_
  refine gm_iload_n dX11_window_7 rfl ?_
  refine gm_iconst (v := 0) dX11_window_8 (by decide) ?_
  refine gm_iconst (v := 1) dX11_window_9 (by decide) ?_
  refine gm_callS (r1 := (some (.int r4))) (own := RX11) rfl dX11_window_10 llX11_137 msX11_isBetween [.int a2, .int 0, .int 1] [] rfl rfl (Nat.le_of_ble_eq_true rfl) (by decide) rfl h5 rfl ?_
  refine gm_if_ne_t (tgt := 19) dX11_window_13 (by decide) c6 ?_
  refine gm_iload_n dX11_window_19 rfl ?_
  refine gm_iconst (v := 1) dX11_window_20 (by decide) ?_
  refine gm_icmp_ne_t (tgt := 35) dX11_window_21 (by decide) c7 ?_
  refine gm_iload_n dX11_window_35 rfl ?_
  refine gm_if_ne_f dX11_window_36 ⟨48, by decide⟩ c8 ?_
  refine gm_aload_n dX11_window_39 rfl ?_
  refine gm_getR (own := RX11) (q := 8) rfl dX11_window_40 lfX11_41 sM_0 rfl ?_
  refine gm_iload_n dX11_window_43 rfl ?_
  refine gm_iald (j := j9) (x := (S 8 j9)) dX11_window_44 sM_8 ij9 rfl ?_
  refine gm_goto (tgt := 54) dX11_window_45 (by decide) ?_
  refine gm_istore_n (L' := [some (.ref 0), some (.int a1), some (.int a2), some (.int (S 8 j9))]) dX11_window_54 (by decide) rfl ?_
  refine gm_iload_n dX11_window_55 rfl ?_
  refine gm_if_ge_t (tgt := 63) dX11_window_56 (by decide) c10 ?_
  refine gm_sipush (v := 256) dX11_window_63 (by decide) ?_
  refine gm_iload_n dX11_window_66 rfl ?_
  refine gm_imul dX11_window_67 rfl ?_
  refine gm_iload_n dX11_window_68 rfl ?_
  refine gm_if_ne_f dX11_window_69 ⟨81, by decide⟩ c8 ?_
  refine gm_aload_n dX11_window_72 rfl ?_
  refine gm_getR (own := RX11) (q := 9) rfl dX11_window_73 lfX11_44 sM_0 rfl ?_
  refine gm_iload_n dX11_window_76 rfl ?_
  refine gm_iald (j := j9) (x := (S 9 j9)) dX11_window_77 sM_9 ij9 rfl ?_
  refine gm_goto (tgt := 87) dX11_window_78 (by decide) ?_
  refine gm_iadd dX11_window_87 rfl ?_
  exact gm_iret dX11_window_88 rfl
/-- X11_window 0 [4f 13t 21t 36t 56f] -> ret  -/
theorem PX11_window_9 {a1 : Int32} {a2 : Int32} {S : gm_Mem} {r1 : Int32} {r4 : Int32} {j9 : Nat} (h2 : gm_run gM 0 YX11_isEndpoint 0 [some (.int a1)] [] S (some (.int r1)) S) (c3 : ¬ r1 = 0) (h5 : gm_run gM 0 YX11_isBetween 0 [some (.int a2), some (.int 0), some (.int 1)] [] S (some (.int r4)) S) (c6 : ¬ r4 = 0) (c7 : ¬ a2 = 1) (c8 : ¬ a2 = 0) (ij9 : gm_ix a1 j9 2) (c10 : (S 10 j9) < 0) : gm_run gM 1 YX11_window 0 [some (.ref 0), some (.int a1), some (.int a2), none] [] S (some (.int (-1))) S := by
  refine gm_iload_n dX11_window_0 rfl ?_
  refine gm_callS (r1 := (some (.int r1))) (own := RX11) rfl dX11_window_1 llX11_211 msX11_isEndpoint [.int a1] [] rfl rfl (Nat.le_of_ble_eq_true rfl) (by decide) rfl h2 rfl ?_
  refine gm_if_eq_f dX11_window_4 ⟨16, by decide⟩ c3 ?_
  refine gm_iload_n dX11_window_7 rfl ?_
  refine gm_iconst (v := 0) dX11_window_8 (by decide) ?_
  refine gm_iconst (v := 1) dX11_window_9 (by decide) ?_
  refine gm_callS (r1 := (some (.int r4))) (own := RX11) rfl dX11_window_10 llX11_137 msX11_isBetween [.int a2, .int 0, .int 1] [] rfl rfl (Nat.le_of_ble_eq_true rfl) (by decide) rfl h5 rfl ?_
  refine gm_if_ne_t (tgt := 19) dX11_window_13 (by decide) c6 ?_
  refine gm_iload_n dX11_window_19 rfl ?_
  refine gm_iconst (v := 1) dX11_window_20 (by decide) ?_
  refine gm_icmp_ne_t (tgt := 35) dX11_window_21 (by decide) c7 ?_
  refine gm_iload_n dX11_window_35 rfl ?_
  refine gm_if_ne_t (tgt := 48) dX11_window_36 (by decide) c8 ?_
  refine gm_aload_n dX11_window_48 rfl ?_
  refine gm_getR (own := RX11) (q := 10) rfl dX11_window_49 lfX11_47 sM_0 rfl ?_
  refine gm_iload_n dX11_window_52 rfl ?_
  refine gm_iald (j := j9) (x := (S 10 j9)) dX11_window_53 sM_10 ij9 rfl ?_
  refine gm_istore_n (L' := [some (.ref 0), some (.int a1), some (.int a2), some (.int (S 10 j9))]) dX11_window_54 (by decide) rfl ?_
  refine gm_iload_n dX11_window_55 rfl ?_
  refine gm_if_ge_f dX11_window_56 ⟨63, by decide⟩ c10 ?_
  refine gm_iconst (v := (-1)) dX11_window_59 (by decide) ?_
  refine gm_goto (tgt := 88) dX11_window_60 (by decide) ?_
  exact gm_iret dX11_window_88 rfl
/-- X11_window 0 [4f 13t 21t 36t 56t] -> ret  -/
theorem PX11_window_10 {a1 : Int32} {a2 : Int32} {S : gm_Mem} {r1 : Int32} {r4 : Int32} {j9 : Nat} (h2 : gm_run gM 0 YX11_isEndpoint 0 [some (.int a1)] [] S (some (.int r1)) S) (c3 : ¬ r1 = 0) (h5 : gm_run gM 0 YX11_isBetween 0 [some (.int a2), some (.int 0), some (.int 1)] [] S (some (.int r4)) S) (c6 : ¬ r4 = 0) (c7 : ¬ a2 = 1) (c8 : ¬ a2 = 0) (ij9 : gm_ix a1 j9 2) (c10 : ¬ (S 10 j9) < 0) : gm_run gM 1 YX11_window 0 [some (.ref 0), some (.int a1), some (.int a2), none] [] S (some (.int ((256 * (S 10 j9)) + (S 11 j9)))) S := by
  refine gm_iload_n dX11_window_0 rfl ?_
  refine gm_callS (r1 := (some (.int r1))) (own := RX11) rfl dX11_window_1 llX11_211 msX11_isEndpoint [.int a1] [] rfl rfl (Nat.le_of_ble_eq_true rfl) (by decide) rfl h2 rfl ?_
  refine gm_if_eq_f dX11_window_4 ⟨16, by decide⟩ c3 ?_
  refine gm_iload_n dX11_window_7 rfl ?_
  refine gm_iconst (v := 0) dX11_window_8 (by decide) ?_
  refine gm_iconst (v := 1) dX11_window_9 (by decide) ?_
  refine gm_callS (r1 := (some (.int r4))) (own := RX11) rfl dX11_window_10 llX11_137 msX11_isBetween [.int a2, .int 0, .int 1] [] rfl rfl (Nat.le_of_ble_eq_true rfl) (by decide) rfl h5 rfl ?_
  refine gm_if_ne_t (tgt := 19) dX11_window_13 (by decide) c6 ?_
  refine gm_iload_n dX11_window_19 rfl ?_
  refine gm_iconst (v := 1) dX11_window_20 (by decide) ?_
  refine gm_icmp_ne_t (tgt := 35) dX11_window_21 (by decide) c7 ?_
  refine gm_iload_n dX11_window_35 rfl ?_
  refine gm_if_ne_t (tgt := 48) dX11_window_36 (by decide) c8 ?_
  refine gm_aload_n dX11_window_48 rfl ?_
  refine gm_getR (own := RX11) (q := 10) rfl dX11_window_49 lfX11_47 sM_0 rfl ?_
  refine gm_iload_n dX11_window_52 rfl ?_
  refine gm_iald (j := j9) (x := (S 10 j9)) dX11_window_53 sM_10 ij9 rfl ?_
  refine gm_istore_n (L' := [some (.ref 0), some (.int a1), some (.int a2), some (.int (S 10 j9))]) dX11_window_54 (by decide) rfl ?_
  refine gm_iload_n dX11_window_55 rfl ?_
  refine gm_if_ge_t (tgt := 63) dX11_window_56 (by decide) c10 ?_
  refine gm_sipush (v := 256) dX11_window_63 (by decide) ?_
  refine gm_iload_n dX11_window_66 rfl ?_
  refine gm_imul dX11_window_67 rfl ?_
  refine gm_iload_n dX11_window_68 rfl ?_
  refine gm_if_ne_t (tgt := 81) dX11_window_69 (by decide) c8 ?_
  refine gm_aload_n dX11_window_81 rfl ?_
  refine gm_getR (own := RX11) (q := 11) rfl dX11_window_82 lfX11_50 sM_0 rfl ?_
  refine gm_iload_n dX11_window_85 rfl ?_
  refine gm_iald (j := j9) (x := (S 11 j9)) dX11_window_86 sM_11 ij9 rfl ?_
  refine gm_iadd dX11_window_87 rfl ?_
  exact gm_iret dX11_window_88 rfl
/-- X11_window 0 [4t] -> ret  -/
theorem PX11_window_11 {a1 : Int32} {a2 : Int32} {S : gm_Mem} {r1 : Int32} (h2 : gm_run gM 0 YX11_isEndpoint 0 [some (.int a1)] [] S (some (.int r1)) S) (c3 : r1 = 0) : gm_run gM 1 YX11_window 0 [some (.ref 0), some (.int a1), some (.int a2), none] [] S (some (.int (-1000000002))) S := by
  refine gm_iload_n dX11_window_0 rfl ?_
  refine gm_callS (r1 := (some (.int r1))) (own := RX11) rfl dX11_window_1 llX11_211 msX11_isEndpoint [.int a1] [] rfl rfl (Nat.le_of_ble_eq_true rfl) (by decide) rfl h2 rfl ?_
  refine gm_if_eq_t (tgt := 16) dX11_window_4 (by decide) c3 ?_
  refine gm_ldc (own := RX11) rfl lcX11_141 dX11_window_16 ?_
  exact gm_iret dX11_window_18 rfl
/-- X11_taken 0 [4f 20f] -> ret  -/
theorem PX11_taken_1 {a1 : Int32} {a2 : Int32} {S : gm_Mem} {r1 : Int32} {j4 : Nat} {r5 : Int32} {j8 : Nat} (h2 : gm_run gM 0 YX11_isEndpoint 0 [some (.int a1)] [] S (some (.int r1)) S) (c3 : ¬ r1 = 0) (ij4 : gm_ix a1 j4 2) (h6 : gm_run gM 0 YX11_isBetween 0 [some (.int a2), some (.int 0), some (.int ((S 17 j4) - 1))] [] S (some (.int r5)) S) (c7 : ¬ r5 = 0) (ij8 : gm_ix ((1200 * a1) + a2) j8 2400) : gm_run gM 1 YX11_taken 0 [some (.ref 0), some (.int a1), some (.int a2)] [] S (some (.int (S 19 j8))) S := by
  refine gm_iload_n dX11_taken_0 rfl ?_
  refine gm_callS (r1 := (some (.int r1))) (own := RX11) rfl dX11_taken_1 llX11_211 msX11_isEndpoint [.int a1] [] rfl rfl (Nat.le_of_ble_eq_true rfl) (by decide) rfl h2 rfl ?_
  refine gm_if_eq_f dX11_taken_4 ⟨38, by decide⟩ c3 ?_
  refine gm_iload_n dX11_taken_7 rfl ?_
  refine gm_iconst (v := 0) dX11_taken_8 (by decide) ?_
  refine gm_aload_n dX11_taken_9 rfl ?_
  refine gm_getR (own := RX11) (q := 17) rfl dX11_taken_10 lfX11_68 sM_0 rfl ?_
  refine gm_iload_n dX11_taken_13 rfl ?_
  refine gm_iald (j := j4) (x := (S 17 j4)) dX11_taken_14 sM_17 ij4 rfl ?_
  refine gm_iconst (v := 1) dX11_taken_15 (by decide) ?_
  refine gm_isub dX11_taken_16 rfl ?_
  refine gm_callS (r1 := (some (.int r5))) (own := RX11) rfl dX11_taken_17 llX11_137 msX11_isBetween [.int a2, .int 0, .int ((S 17 j4) - 1)] [] rfl rfl (Nat.le_of_ble_eq_true rfl) (by decide) rfl h6 rfl ?_
  refine gm_if_eq_f dX11_taken_20 ⟨38, by decide⟩ c7 ?_
  refine gm_aload_n dX11_taken_23 rfl ?_
  refine gm_getR (own := RX11) (q := 19) rfl dX11_taken_24 lfX11_74 sM_0 rfl ?_
  refine gm_sipush (v := 1200) dX11_taken_27 (by decide) ?_
  refine gm_iload_n dX11_taken_30 rfl ?_
  refine gm_imul dX11_taken_31 rfl ?_
  refine gm_iload_n dX11_taken_32 rfl ?_
  refine gm_iadd dX11_taken_33 rfl ?_
  refine gm_iald (j := j8) (x := (S 19 j8)) dX11_taken_34 sM_19 ij8 rfl ?_
  refine gm_goto (tgt := 40) dX11_taken_35 (by decide) ?_
  exact gm_iret dX11_taken_40 rfl
/-- X11_taken 0 [4f 20t] -> ret  -/
theorem PX11_taken_2 {a1 : Int32} {a2 : Int32} {S : gm_Mem} {r1 : Int32} {j4 : Nat} {r5 : Int32} (h2 : gm_run gM 0 YX11_isEndpoint 0 [some (.int a1)] [] S (some (.int r1)) S) (c3 : ¬ r1 = 0) (ij4 : gm_ix a1 j4 2) (h6 : gm_run gM 0 YX11_isBetween 0 [some (.int a2), some (.int 0), some (.int ((S 17 j4) - 1))] [] S (some (.int r5)) S) (c7 : r5 = 0) : gm_run gM 1 YX11_taken 0 [some (.ref 0), some (.int a1), some (.int a2)] [] S (some (.int (-1000000001))) S := by
  refine gm_iload_n dX11_taken_0 rfl ?_
  refine gm_callS (r1 := (some (.int r1))) (own := RX11) rfl dX11_taken_1 llX11_211 msX11_isEndpoint [.int a1] [] rfl rfl (Nat.le_of_ble_eq_true rfl) (by decide) rfl h2 rfl ?_
  refine gm_if_eq_f dX11_taken_4 ⟨38, by decide⟩ c3 ?_
  refine gm_iload_n dX11_taken_7 rfl ?_
  refine gm_iconst (v := 0) dX11_taken_8 (by decide) ?_
  refine gm_aload_n dX11_taken_9 rfl ?_
  refine gm_getR (own := RX11) (q := 17) rfl dX11_taken_10 lfX11_68 sM_0 rfl ?_
  refine gm_iload_n dX11_taken_13 rfl ?_
  refine gm_iald (j := j4) (x := (S 17 j4)) dX11_taken_14 sM_17 ij4 rfl ?_
  refine gm_iconst (v := 1) dX11_taken_15 (by decide) ?_
  refine gm_isub dX11_taken_16 rfl ?_
  refine gm_callS (r1 := (some (.int r5))) (own := RX11) rfl dX11_taken_17 llX11_137 msX11_isBetween [.int a2, .int 0, .int ((S 17 j4) - 1)] [] rfl rfl (Nat.le_of_ble_eq_true rfl) (by decide) rfl h6 rfl ?_
  refine gm_if_eq_t (tgt := 38) dX11_taken_20 (by decide) c7 ?_
  refine gm_ldc (own := RX11) rfl lcX11_204 dX11_taken_38 ?_
  exact gm_iret dX11_taken_40 rfl
/-- X11_taken 0 [4t] -> ret  -/
theorem PX11_taken_3 {a1 : Int32} {a2 : Int32} {S : gm_Mem} {r1 : Int32} (h2 : gm_run gM 0 YX11_isEndpoint 0 [some (.int a1)] [] S (some (.int r1)) S) (c3 : r1 = 0) : gm_run gM 1 YX11_taken 0 [some (.ref 0), some (.int a1), some (.int a2)] [] S (some (.int (-1000000001))) S := by
  refine gm_iload_n dX11_taken_0 rfl ?_
  refine gm_callS (r1 := (some (.int r1))) (own := RX11) rfl dX11_taken_1 llX11_211 msX11_isEndpoint [.int a1] [] rfl rfl (Nat.le_of_ble_eq_true rfl) (by decide) rfl h2 rfl ?_
  refine gm_if_eq_t (tgt := 38) dX11_taken_4 (by decide) c3 ?_
  refine gm_ldc (own := RX11) rfl lcX11_204 dX11_taken_38 ?_
  exact gm_iret dX11_taken_40 rfl
/-- X11_kept 0 [4f 20f] -> ret  -/
theorem PX11_kept_1 {a1 : Int32} {a2 : Int32} {a3 : Int32} {S : gm_Mem} {r1 : Int32} {j4 : Nat} {r5 : Int32} (h2 : gm_run gM 0 YX11_isEndpoint 0 [some (.int a1)] [] S (some (.int r1)) S) (c3 : ¬ r1 = 0) (ij4 : gm_ix a1 j4 2) (h6 : gm_run gM 0 YX11_isBetween 0 [some (.int a2), some (.int 0), some (.int ((S 18 j4) - 1))] [] S (some (.int r5)) S) (c7 : r5 = 0) : gm_run gM 1 YX11_kept 0 [some (.ref 0), some (.int a1), some (.int a2), some (.int a3), none] [] S (some (.int (-1000000001))) S := by
  refine gm_iload_n dX11_kept_0 rfl ?_
  refine gm_callS (r1 := (some (.int r1))) (own := RX11) rfl dX11_kept_1 llX11_211 msX11_isEndpoint [.int a1] [] rfl rfl (Nat.le_of_ble_eq_true rfl) (by decide) rfl h2 rfl ?_
  refine gm_if_eq_f dX11_kept_4 ⟨23, by decide⟩ c3 ?_
  refine gm_iload_n dX11_kept_7 rfl ?_
  refine gm_iconst (v := 0) dX11_kept_8 (by decide) ?_
  refine gm_aload_n dX11_kept_9 rfl ?_
  refine gm_getR (own := RX11) (q := 18) rfl dX11_kept_10 lfX11_71 sM_0 rfl ?_
  refine gm_iload_n dX11_kept_13 rfl ?_
  refine gm_iald (j := j4) (x := (S 18 j4)) dX11_kept_14 sM_18 ij4 rfl ?_
  refine gm_iconst (v := 1) dX11_kept_15 (by decide) ?_
  refine gm_isub dX11_kept_16 rfl ?_
  refine gm_callS (r1 := (some (.int r5))) (own := RX11) rfl dX11_kept_17 llX11_137 msX11_isBetween [.int a2, .int 0, .int ((S 18 j4) - 1)] [] rfl rfl (Nat.le_of_ble_eq_true rfl) (by decide) rfl h6 rfl ?_
  refine gm_if_ne_f dX11_kept_20 ⟨26, by decide⟩ c7 ?_
  refine gm_ldc (own := RX11) rfl lcX11_204 dX11_kept_23 ?_
  exact gm_iret dX11_kept_25 rfl
/-- X11_kept 0 [4f 20t 35=0] -> ret  -/
theorem PX11_kept_2 {a1 : Int32} {a2 : Int32} {a3 : Int32} {S : gm_Mem} {r1 : Int32} {j4 : Nat} {r5 : Int32} {j9 : Nat} (h2 : gm_run gM 0 YX11_isEndpoint 0 [some (.int a1)] [] S (some (.int r1)) S) (c3 : ¬ r1 = 0) (ij4 : gm_ix a1 j4 2) (h6 : gm_run gM 0 YX11_isBetween 0 [some (.int a2), some (.int 0), some (.int ((S 18 j4) - 1))] [] S (some (.int r5)) S) (c7 : ¬ r5 = 0) (c8 : a3 = 0) (ij9 : gm_ix ((16 * a1) + a2) j9 32) : gm_run gM 1 YX11_kept 0 [some (.ref 0), some (.int a1), some (.int a2), some (.int a3), none] [] S (some (.int (S 20 j9))) S := by
  refine gm_iload_n dX11_kept_0 rfl ?_
  refine gm_callS (r1 := (some (.int r1))) (own := RX11) rfl dX11_kept_1 llX11_211 msX11_isEndpoint [.int a1] [] rfl rfl (Nat.le_of_ble_eq_true rfl) (by decide) rfl h2 rfl ?_
  refine gm_if_eq_f dX11_kept_4 ⟨23, by decide⟩ c3 ?_
  refine gm_iload_n dX11_kept_7 rfl ?_
  refine gm_iconst (v := 0) dX11_kept_8 (by decide) ?_
  refine gm_aload_n dX11_kept_9 rfl ?_
  refine gm_getR (own := RX11) (q := 18) rfl dX11_kept_10 lfX11_71 sM_0 rfl ?_
  refine gm_iload_n dX11_kept_13 rfl ?_
  refine gm_iald (j := j4) (x := (S 18 j4)) dX11_kept_14 sM_18 ij4 rfl ?_
  refine gm_iconst (v := 1) dX11_kept_15 (by decide) ?_
  refine gm_isub dX11_kept_16 rfl ?_
  refine gm_callS (r1 := (some (.int r5))) (own := RX11) rfl dX11_kept_17 llX11_137 msX11_isBetween [.int a2, .int 0, .int ((S 18 j4) - 1)] [] rfl rfl (Nat.le_of_ble_eq_true rfl) (by decide) rfl h6 rfl ?_
  refine gm_if_ne_t (tgt := 26) dX11_kept_20 (by decide) c7 ?_
  refine gm_bipush (v := 16) dX11_kept_26 (by decide) ?_
  refine gm_iload_n dX11_kept_28 rfl ?_
  refine gm_imul dX11_kept_29 rfl ?_
  refine gm_iload_n dX11_kept_30 rfl ?_
  refine gm_iadd dX11_kept_31 rfl ?_
  refine gm_istore (L' := [some (.ref 0), some (.int a1), some (.int a2), some (.int a3), some (.int ((16 * a1) + a2))]) dX11_kept_32 (by decide) rfl ?_
  refine gm_iload_n dX11_kept_34 rfl ?_
  refine gm_tabEq (v := 0) (tgt := 64) dX11_kept_35 c8 (by decide) (by decide) rfl (by decide) ?_
  refine gm_aload_n dX11_kept_64 rfl ?_
  refine gm_getR (own := RX11) (q := 20) rfl dX11_kept_65 lfX11_77 sM_0 rfl ?_
  refine gm_iload dX11_kept_68 rfl ?_
  refine gm_iald (j := j9) (x := (S 20 j9)) dX11_kept_70 sM_20 ij9 rfl ?_
  exact gm_iret dX11_kept_71 rfl
/-- X11_kept 0 [4f 20t 35=1] -> ret  -/
theorem PX11_kept_3 {a1 : Int32} {a2 : Int32} {a3 : Int32} {S : gm_Mem} {r1 : Int32} {j4 : Nat} {r5 : Int32} {j9 : Nat} (h2 : gm_run gM 0 YX11_isEndpoint 0 [some (.int a1)] [] S (some (.int r1)) S) (c3 : ¬ r1 = 0) (ij4 : gm_ix a1 j4 2) (h6 : gm_run gM 0 YX11_isBetween 0 [some (.int a2), some (.int 0), some (.int ((S 18 j4) - 1))] [] S (some (.int r5)) S) (c7 : ¬ r5 = 0) (c8 : a3 = 1) (ij9 : gm_ix ((16 * a1) + a2) j9 32) : gm_run gM 1 YX11_kept 0 [some (.ref 0), some (.int a1), some (.int a2), some (.int a3), none] [] S (some (.int (S 21 j9))) S := by
  refine gm_iload_n dX11_kept_0 rfl ?_
  refine gm_callS (r1 := (some (.int r1))) (own := RX11) rfl dX11_kept_1 llX11_211 msX11_isEndpoint [.int a1] [] rfl rfl (Nat.le_of_ble_eq_true rfl) (by decide) rfl h2 rfl ?_
  refine gm_if_eq_f dX11_kept_4 ⟨23, by decide⟩ c3 ?_
  refine gm_iload_n dX11_kept_7 rfl ?_
  refine gm_iconst (v := 0) dX11_kept_8 (by decide) ?_
  refine gm_aload_n dX11_kept_9 rfl ?_
  refine gm_getR (own := RX11) (q := 18) rfl dX11_kept_10 lfX11_71 sM_0 rfl ?_
  refine gm_iload_n dX11_kept_13 rfl ?_
  refine gm_iald (j := j4) (x := (S 18 j4)) dX11_kept_14 sM_18 ij4 rfl ?_
  refine gm_iconst (v := 1) dX11_kept_15 (by decide) ?_
  refine gm_isub dX11_kept_16 rfl ?_
  refine gm_callS (r1 := (some (.int r5))) (own := RX11) rfl dX11_kept_17 llX11_137 msX11_isBetween [.int a2, .int 0, .int ((S 18 j4) - 1)] [] rfl rfl (Nat.le_of_ble_eq_true rfl) (by decide) rfl h6 rfl ?_
  refine gm_if_ne_t (tgt := 26) dX11_kept_20 (by decide) c7 ?_
  refine gm_bipush (v := 16) dX11_kept_26 (by decide) ?_
  refine gm_iload_n dX11_kept_28 rfl ?_
  refine gm_imul dX11_kept_29 rfl ?_
  refine gm_iload_n dX11_kept_30 rfl ?_
  refine gm_iadd dX11_kept_31 rfl ?_
  refine gm_istore (L' := [some (.ref 0), some (.int a1), some (.int a2), some (.int a3), some (.int ((16 * a1) + a2))]) dX11_kept_32 (by decide) rfl ?_
  refine gm_iload_n dX11_kept_34 rfl ?_
  refine gm_tabEq (v := 1) (tgt := 72) dX11_kept_35 c8 (by decide) (by decide) rfl (by decide) ?_
  refine gm_aload_n dX11_kept_72 rfl ?_
  refine gm_getR (own := RX11) (q := 21) rfl dX11_kept_73 lfX11_80 sM_0 rfl ?_
  refine gm_iload dX11_kept_76 rfl ?_
  refine gm_iald (j := j9) (x := (S 21 j9)) dX11_kept_78 sM_21 ij9 rfl ?_
  exact gm_iret dX11_kept_79 rfl
/-- X11_kept 0 [4f 20t 35=2] -> ret  -/
theorem PX11_kept_4 {a1 : Int32} {a2 : Int32} {a3 : Int32} {S : gm_Mem} {r1 : Int32} {j4 : Nat} {r5 : Int32} {j9 : Nat} (h2 : gm_run gM 0 YX11_isEndpoint 0 [some (.int a1)] [] S (some (.int r1)) S) (c3 : ¬ r1 = 0) (ij4 : gm_ix a1 j4 2) (h6 : gm_run gM 0 YX11_isBetween 0 [some (.int a2), some (.int 0), some (.int ((S 18 j4) - 1))] [] S (some (.int r5)) S) (c7 : ¬ r5 = 0) (c8 : a3 = 2) (ij9 : gm_ix ((16 * a1) + a2) j9 32) : gm_run gM 1 YX11_kept 0 [some (.ref 0), some (.int a1), some (.int a2), some (.int a3), none] [] S (some (.int (S 22 j9))) S := by
  refine gm_iload_n dX11_kept_0 rfl ?_
  refine gm_callS (r1 := (some (.int r1))) (own := RX11) rfl dX11_kept_1 llX11_211 msX11_isEndpoint [.int a1] [] rfl rfl (Nat.le_of_ble_eq_true rfl) (by decide) rfl h2 rfl ?_
  refine gm_if_eq_f dX11_kept_4 ⟨23, by decide⟩ c3 ?_
  refine gm_iload_n dX11_kept_7 rfl ?_
  refine gm_iconst (v := 0) dX11_kept_8 (by decide) ?_
  refine gm_aload_n dX11_kept_9 rfl ?_
  refine gm_getR (own := RX11) (q := 18) rfl dX11_kept_10 lfX11_71 sM_0 rfl ?_
  refine gm_iload_n dX11_kept_13 rfl ?_
  refine gm_iald (j := j4) (x := (S 18 j4)) dX11_kept_14 sM_18 ij4 rfl ?_
  refine gm_iconst (v := 1) dX11_kept_15 (by decide) ?_
  refine gm_isub dX11_kept_16 rfl ?_
  refine gm_callS (r1 := (some (.int r5))) (own := RX11) rfl dX11_kept_17 llX11_137 msX11_isBetween [.int a2, .int 0, .int ((S 18 j4) - 1)] [] rfl rfl (Nat.le_of_ble_eq_true rfl) (by decide) rfl h6 rfl ?_
  refine gm_if_ne_t (tgt := 26) dX11_kept_20 (by decide) c7 ?_
  refine gm_bipush (v := 16) dX11_kept_26 (by decide) ?_
  refine gm_iload_n dX11_kept_28 rfl ?_
  refine gm_imul dX11_kept_29 rfl ?_
  refine gm_iload_n dX11_kept_30 rfl ?_
  refine gm_iadd dX11_kept_31 rfl ?_
  refine gm_istore (L' := [some (.ref 0), some (.int a1), some (.int a2), some (.int a3), some (.int ((16 * a1) + a2))]) dX11_kept_32 (by decide) rfl ?_
  refine gm_iload_n dX11_kept_34 rfl ?_
  refine gm_tabEq (v := 2) (tgt := 80) dX11_kept_35 c8 (by decide) (by decide) rfl (by decide) ?_
  refine gm_aload_n dX11_kept_80 rfl ?_
  refine gm_getR (own := RX11) (q := 22) rfl dX11_kept_81 lfX11_83 sM_0 rfl ?_
  refine gm_iload dX11_kept_84 rfl ?_
  refine gm_iald (j := j9) (x := (S 22 j9)) dX11_kept_86 sM_22 ij9 rfl ?_
  exact gm_iret dX11_kept_87 rfl
/-- X11_kept 0 [4f 20t 35=3] -> ret  -/
theorem PX11_kept_5 {a1 : Int32} {a2 : Int32} {a3 : Int32} {S : gm_Mem} {r1 : Int32} {j4 : Nat} {r5 : Int32} {j9 : Nat} (h2 : gm_run gM 0 YX11_isEndpoint 0 [some (.int a1)] [] S (some (.int r1)) S) (c3 : ¬ r1 = 0) (ij4 : gm_ix a1 j4 2) (h6 : gm_run gM 0 YX11_isBetween 0 [some (.int a2), some (.int 0), some (.int ((S 18 j4) - 1))] [] S (some (.int r5)) S) (c7 : ¬ r5 = 0) (c8 : a3 = 3) (ij9 : gm_ix ((16 * a1) + a2) j9 32) : gm_run gM 1 YX11_kept 0 [some (.ref 0), some (.int a1), some (.int a2), some (.int a3), none] [] S (some (.int (S 23 j9))) S := by
  refine gm_iload_n dX11_kept_0 rfl ?_
  refine gm_callS (r1 := (some (.int r1))) (own := RX11) rfl dX11_kept_1 llX11_211 msX11_isEndpoint [.int a1] [] rfl rfl (Nat.le_of_ble_eq_true rfl) (by decide) rfl h2 rfl ?_
  refine gm_if_eq_f dX11_kept_4 ⟨23, by decide⟩ c3 ?_
  refine gm_iload_n dX11_kept_7 rfl ?_
  refine gm_iconst (v := 0) dX11_kept_8 (by decide) ?_
  refine gm_aload_n dX11_kept_9 rfl ?_
  refine gm_getR (own := RX11) (q := 18) rfl dX11_kept_10 lfX11_71 sM_0 rfl ?_
  refine gm_iload_n dX11_kept_13 rfl ?_
  refine gm_iald (j := j4) (x := (S 18 j4)) dX11_kept_14 sM_18 ij4 rfl ?_
  refine gm_iconst (v := 1) dX11_kept_15 (by decide) ?_
  refine gm_isub dX11_kept_16 rfl ?_
  refine gm_callS (r1 := (some (.int r5))) (own := RX11) rfl dX11_kept_17 llX11_137 msX11_isBetween [.int a2, .int 0, .int ((S 18 j4) - 1)] [] rfl rfl (Nat.le_of_ble_eq_true rfl) (by decide) rfl h6 rfl ?_
  refine gm_if_ne_t (tgt := 26) dX11_kept_20 (by decide) c7 ?_
  refine gm_bipush (v := 16) dX11_kept_26 (by decide) ?_
  refine gm_iload_n dX11_kept_28 rfl ?_
  refine gm_imul dX11_kept_29 rfl ?_
  refine gm_iload_n dX11_kept_30 rfl ?_
  refine gm_iadd dX11_kept_31 rfl ?_
  refine gm_istore (L' := [some (.ref 0), some (.int a1), some (.int a2), some (.int a3), some (.int ((16 * a1) + a2))]) dX11_kept_32 (by decide) rfl ?_
  refine gm_iload_n dX11_kept_34 rfl ?_
  refine gm_tabEq (v := 3) (tgt := 88) dX11_kept_35 c8 (by decide) (by decide) rfl (by decide) ?_
  refine gm_aload_n dX11_kept_88 rfl ?_
  refine gm_getR (own := RX11) (q := 23) rfl dX11_kept_89 lfX11_86 sM_0 rfl ?_
  refine gm_iload dX11_kept_92 rfl ?_
  refine gm_iald (j := j9) (x := (S 23 j9)) dX11_kept_94 sM_23 ij9 rfl ?_
  exact gm_iret dX11_kept_95 rfl
/-- X11_kept 0 [4f 20t 35out] -> ret  -/
theorem PX11_kept_6 {a1 : Int32} {a2 : Int32} {a3 : Int32} {S : gm_Mem} {r1 : Int32} {j4 : Nat} {r5 : Int32} (h2 : gm_run gM 0 YX11_isEndpoint 0 [some (.int a1)] [] S (some (.int r1)) S) (c3 : ¬ r1 = 0) (ij4 : gm_ix a1 j4 2) (h6 : gm_run gM 0 YX11_isBetween 0 [some (.int a2), some (.int 0), some (.int ((S 18 j4) - 1))] [] S (some (.int r5)) S) (c7 : ¬ r5 = 0) (c8 : a3.toInt < 0 ∨ 3 < a3.toInt) : gm_run gM 1 YX11_kept 0 [some (.ref 0), some (.int a1), some (.int a2), some (.int a3), none] [] S (some (.int (-1000000002))) S := by
  refine gm_iload_n dX11_kept_0 rfl ?_
  refine gm_callS (r1 := (some (.int r1))) (own := RX11) rfl dX11_kept_1 llX11_211 msX11_isEndpoint [.int a1] [] rfl rfl (Nat.le_of_ble_eq_true rfl) (by decide) rfl h2 rfl ?_
  refine gm_if_eq_f dX11_kept_4 ⟨23, by decide⟩ c3 ?_
  refine gm_iload_n dX11_kept_7 rfl ?_
  refine gm_iconst (v := 0) dX11_kept_8 (by decide) ?_
  refine gm_aload_n dX11_kept_9 rfl ?_
  refine gm_getR (own := RX11) (q := 18) rfl dX11_kept_10 lfX11_71 sM_0 rfl ?_
  refine gm_iload_n dX11_kept_13 rfl ?_
  refine gm_iald (j := j4) (x := (S 18 j4)) dX11_kept_14 sM_18 ij4 rfl ?_
  refine gm_iconst (v := 1) dX11_kept_15 (by decide) ?_
  refine gm_isub dX11_kept_16 rfl ?_
  refine gm_callS (r1 := (some (.int r5))) (own := RX11) rfl dX11_kept_17 llX11_137 msX11_isBetween [.int a2, .int 0, .int ((S 18 j4) - 1)] [] rfl rfl (Nat.le_of_ble_eq_true rfl) (by decide) rfl h6 rfl ?_
  refine gm_if_ne_t (tgt := 26) dX11_kept_20 (by decide) c7 ?_
  refine gm_bipush (v := 16) dX11_kept_26 (by decide) ?_
  refine gm_iload_n dX11_kept_28 rfl ?_
  refine gm_imul dX11_kept_29 rfl ?_
  refine gm_iload_n dX11_kept_30 rfl ?_
  refine gm_iadd dX11_kept_31 rfl ?_
  refine gm_istore (L' := [some (.ref 0), some (.int a1), some (.int a2), some (.int a3), some (.int ((16 * a1) + a2))]) dX11_kept_32 (by decide) rfl ?_
  refine gm_iload_n dX11_kept_34 rfl ?_
  refine gm_tabOut (tgt := 96) dX11_kept_35 c8 (by decide) ?_
  refine gm_ldc (own := RX11) rfl lcX11_141 dX11_kept_96 ?_
  exact gm_iret dX11_kept_98 rfl
/-- X11_kept 0 [4t] -> ret  -/
theorem PX11_kept_7 {a1 : Int32} {a2 : Int32} {a3 : Int32} {S : gm_Mem} {r1 : Int32} (h2 : gm_run gM 0 YX11_isEndpoint 0 [some (.int a1)] [] S (some (.int r1)) S) (c3 : r1 = 0) : gm_run gM 1 YX11_kept 0 [some (.ref 0), some (.int a1), some (.int a2), some (.int a3), none] [] S (some (.int (-1000000001))) S := by
  refine gm_iload_n dX11_kept_0 rfl ?_
  refine gm_callS (r1 := (some (.int r1))) (own := RX11) rfl dX11_kept_1 llX11_211 msX11_isEndpoint [.int a1] [] rfl rfl (Nat.le_of_ble_eq_true rfl) (by decide) rfl h2 rfl ?_
  refine gm_if_eq_t (tgt := 23) dX11_kept_4 (by decide) c3 ?_
  refine gm_ldc (own := RX11) rfl lcX11_204 dX11_kept_23 ?_
  exact gm_iret dX11_kept_25 rfl
/-- X11_results 0 [4f 14f] -> ret  -/
theorem PX11_results_1 {a1 : Int32} {a2 : Int32} {S : gm_Mem} {r1 : Int32} {r4 : Int32} {j7 : Nat} (h2 : gm_run gM 0 YX11_isEndpoint 0 [some (.int a1)] [] S (some (.int r1)) S) (c3 : ¬ r1 = 0) (h5 : gm_run gM 0 YX11_isBetween 0 [some (.int a2), some (.int 0), some (.int 8)] [] S (some (.int r4)) S) (c6 : ¬ r4 = 0) (ij7 : gm_ix ((9 * a1) + a2) j7 18) : gm_run gM 1 YX11_results 0 [some (.ref 0), some (.int a1), some (.int a2)] [] S (some (.int (S 32 j7))) S := by
  refine gm_iload_n dX11_results_0 rfl ?_
  refine gm_callS (r1 := (some (.int r1))) (own := RX11) rfl dX11_results_1 llX11_211 msX11_isEndpoint [.int a1] [] rfl rfl (Nat.le_of_ble_eq_true rfl) (by decide) rfl h2 rfl ?_
  refine gm_if_eq_f dX11_results_4 ⟨31, by decide⟩ c3 ?_
  refine gm_iload_n dX11_results_7 rfl ?_
  refine gm_iconst (v := 0) dX11_results_8 (by decide) ?_
  refine gm_bipush (v := 8) dX11_results_9 (by decide) ?_
  refine gm_callS (r1 := (some (.int r4))) (own := RX11) rfl dX11_results_11 llX11_137 msX11_isBetween [.int a2, .int 0, .int 8] [] rfl rfl (Nat.le_of_ble_eq_true rfl) (by decide) rfl h5 rfl ?_
  refine gm_if_eq_f dX11_results_14 ⟨31, by decide⟩ c6 ?_
  refine gm_aload_n dX11_results_17 rfl ?_
  refine gm_getR (own := RX11) (q := 32) rfl dX11_results_18 lfX11_119 sM_0 rfl ?_
  refine gm_bipush (v := 9) dX11_results_21 (by decide) ?_
  refine gm_iload_n dX11_results_23 rfl ?_
  refine gm_imul dX11_results_24 rfl ?_
  refine gm_iload_n dX11_results_25 rfl ?_
  refine gm_iadd dX11_results_26 rfl ?_
  refine gm_iald (j := j7) (x := (S 32 j7)) dX11_results_27 sM_32 ij7 rfl ?_
  refine gm_goto (tgt := 33) dX11_results_28 (by decide) ?_
  exact gm_iret dX11_results_33 rfl
/-- X11_results 0 [4f 14t] -> ret  -/
theorem PX11_results_2 {a1 : Int32} {a2 : Int32} {S : gm_Mem} {r1 : Int32} {r4 : Int32} (h2 : gm_run gM 0 YX11_isEndpoint 0 [some (.int a1)] [] S (some (.int r1)) S) (c3 : ¬ r1 = 0) (h5 : gm_run gM 0 YX11_isBetween 0 [some (.int a2), some (.int 0), some (.int 8)] [] S (some (.int r4)) S) (c6 : r4 = 0) : gm_run gM 1 YX11_results 0 [some (.ref 0), some (.int a1), some (.int a2)] [] S (some (.int (-1000000002))) S := by
  refine gm_iload_n dX11_results_0 rfl ?_
  refine gm_callS (r1 := (some (.int r1))) (own := RX11) rfl dX11_results_1 llX11_211 msX11_isEndpoint [.int a1] [] rfl rfl (Nat.le_of_ble_eq_true rfl) (by decide) rfl h2 rfl ?_
  refine gm_if_eq_f dX11_results_4 ⟨31, by decide⟩ c3 ?_
  refine gm_iload_n dX11_results_7 rfl ?_
  refine gm_iconst (v := 0) dX11_results_8 (by decide) ?_
  refine gm_bipush (v := 8) dX11_results_9 (by decide) ?_
  refine gm_callS (r1 := (some (.int r4))) (own := RX11) rfl dX11_results_11 llX11_137 msX11_isBetween [.int a2, .int 0, .int 8] [] rfl rfl (Nat.le_of_ble_eq_true rfl) (by decide) rfl h5 rfl ?_
  refine gm_if_eq_t (tgt := 31) dX11_results_14 (by decide) c6 ?_
  refine gm_ldc (own := RX11) rfl lcX11_141 dX11_results_31 ?_
  exact gm_iret dX11_results_33 rfl
/-- X11_results 0 [4t] -> ret  -/
theorem PX11_results_3 {a1 : Int32} {a2 : Int32} {S : gm_Mem} {r1 : Int32} (h2 : gm_run gM 0 YX11_isEndpoint 0 [some (.int a1)] [] S (some (.int r1)) S) (c3 : r1 = 0) : gm_run gM 1 YX11_results 0 [some (.ref 0), some (.int a1), some (.int a2)] [] S (some (.int (-1000000002))) S := by
  refine gm_iload_n dX11_results_0 rfl ?_
  refine gm_callS (r1 := (some (.int r1))) (own := RX11) rfl dX11_results_1 llX11_211 msX11_isEndpoint [.int a1] [] rfl rfl (Nat.le_of_ble_eq_true rfl) (by decide) rfl h2 rfl ?_
  refine gm_if_eq_t (tgt := 31) dX11_results_4 (by decide) c3 ?_
  refine gm_ldc (own := RX11) rfl lcX11_141 dX11_results_31 ?_
  exact gm_iret dX11_results_33 rfl
/-- X11_count 0 [1=0] -> ret  -/
theorem PX11_count_1 {a1 : Int32} {S : gm_Mem} (c1 : a1 = 0) : gm_run gM 0 YX11_count 0 [some (.ref 0), some (.int a1)] [] S (some (.int (S 0 45))) S := by
  refine gm_iload_n dX11_count_0 rfl ?_
  refine gm_tabEq (v := 0) (tgt := 48) dX11_count_1 c1 (by decide) (by decide) rfl (by decide) ?_
  refine gm_aload_n dX11_count_48 rfl ?_
  refine gm_getI (own := RX11) (x := (S 0 45)) rfl dX11_count_49 lfX11_153 sM_0 rfl rfl ?_
  exact gm_iret dX11_count_52 rfl
/-- X11_count 0 [1=1] -> ret  -/
theorem PX11_count_2 {a1 : Int32} {S : gm_Mem} (c1 : a1 = 1) : gm_run gM 0 YX11_count 0 [some (.ref 0), some (.int a1)] [] S (some (.int (S 0 5))) S := by
  refine gm_iload_n dX11_count_0 rfl ?_
  refine gm_tabEq (v := 1) (tgt := 53) dX11_count_1 c1 (by decide) (by decide) rfl (by decide) ?_
  refine gm_aload_n dX11_count_53 rfl ?_
  refine gm_getI (own := RX11) (x := (S 0 5)) rfl dX11_count_54 lfX11_156 sM_0 rfl rfl ?_
  exact gm_iret dX11_count_57 rfl
/-- X11_count 0 [1=2] -> ret  -/
theorem PX11_count_3 {a1 : Int32} {S : gm_Mem} (c1 : a1 = 2) : gm_run gM 0 YX11_count 0 [some (.ref 0), some (.int a1)] [] S (some (.int (S 0 6))) S := by
  refine gm_iload_n dX11_count_0 rfl ?_
  refine gm_tabEq (v := 2) (tgt := 58) dX11_count_1 c1 (by decide) (by decide) rfl (by decide) ?_
  refine gm_aload_n dX11_count_58 rfl ?_
  refine gm_getI (own := RX11) (x := (S 0 6)) rfl dX11_count_59 lfX11_277 sM_0 rfl rfl ?_
  exact gm_iret dX11_count_62 rfl
/-- X11_count 0 [1=3] -> ret  -/
theorem PX11_count_4 {a1 : Int32} {S : gm_Mem} (c1 : a1 = 3) : gm_run gM 0 YX11_count 0 [some (.ref 0), some (.int a1)] [] S (some (.int (S 0 7))) S := by
  refine gm_iload_n dX11_count_0 rfl ?_
  refine gm_tabEq (v := 3) (tgt := 63) dX11_count_1 c1 (by decide) (by decide) rfl (by decide) ?_
  refine gm_aload_n dX11_count_63 rfl ?_
  refine gm_getI (own := RX11) (x := (S 0 7)) rfl dX11_count_64 lfX11_205 sM_0 rfl rfl ?_
  exact gm_iret dX11_count_67 rfl
/-- X11_count 0 [1=4] -> ret  -/
theorem PX11_count_5 {a1 : Int32} {S : gm_Mem} (c1 : a1 = 4) : gm_run gM 0 YX11_count 0 [some (.ref 0), some (.int a1)] [] S (some (.int (S 0 8))) S := by
  refine gm_iload_n dX11_count_0 rfl ?_
  refine gm_tabEq (v := 4) (tgt := 68) dX11_count_1 c1 (by decide) (by decide) rfl (by decide) ?_
  refine gm_aload_n dX11_count_68 rfl ?_
  refine gm_getI (own := RX11) (x := (S 0 8)) rfl dX11_count_69 lfX11_289 sM_0 rfl rfl ?_
  exact gm_iret dX11_count_72 rfl
/-- X11_count 0 [1=5] -> ret  -/
theorem PX11_count_6 {a1 : Int32} {S : gm_Mem} (c1 : a1 = 5) : gm_run gM 0 YX11_count 0 [some (.ref 0), some (.int a1)] [] S (some (.int (S 0 4))) S := by
  refine gm_iload_n dX11_count_0 rfl ?_
  refine gm_tabEq (v := 5) (tgt := 73) dX11_count_1 c1 (by decide) (by decide) rfl (by decide) ?_
  refine gm_aload_n dX11_count_73 rfl ?_
  refine gm_getI (own := RX11) (x := (S 0 4)) rfl dX11_count_74 lfX11_179 sM_0 rfl rfl ?_
  exact gm_iret dX11_count_77 rfl
/-- X11_count 0 [1=6] -> ret  -/
theorem PX11_count_7 {a1 : Int32} {S : gm_Mem} (c1 : a1 = 6) : gm_run gM 0 YX11_count 0 [some (.ref 0), some (.int a1)] [] S (some (.int (S 0 51))) S := by
  refine gm_iload_n dX11_count_0 rfl ?_
  refine gm_tabEq (v := 6) (tgt := 78) dX11_count_1 c1 (by decide) (by decide) rfl (by decide) ?_
  refine gm_aload_n dX11_count_78 rfl ?_
  refine gm_getI (own := RX11) (x := (S 0 51)) rfl dX11_count_79 lfX11_298 sM_0 rfl rfl ?_
  exact gm_iret dX11_count_82 rfl
/-- X11_count 0 [1=7] -> ret  -/
theorem PX11_count_8 {a1 : Int32} {S : gm_Mem} (c1 : a1 = 7) : gm_run gM 0 YX11_count 0 [some (.ref 0), some (.int a1)] [] S (some (.int (S 0 3))) S := by
  refine gm_iload_n dX11_count_0 rfl ?_
  refine gm_tabEq (v := 7) (tgt := 83) dX11_count_1 c1 (by decide) (by decide) rfl (by decide) ?_
  refine gm_aload_n dX11_count_83 rfl ?_
  refine gm_getI (own := RX11) (x := (S 0 3)) rfl dX11_count_84 lfX11_182 sM_0 rfl rfl ?_
  exact gm_iret dX11_count_87 rfl
/-- X11_count 0 [1out] -> ret  -/
theorem PX11_count_9 {a1 : Int32} {S : gm_Mem} (c1 : a1.toInt < 0 ∨ 7 < a1.toInt) : gm_run gM 0 YX11_count 0 [some (.ref 0), some (.int a1)] [] S (some (.int (-1000000002))) S := by
  refine gm_iload_n dX11_count_0 rfl ?_
  refine gm_tabOut (tgt := 88) dX11_count_1 c1 (by decide) ?_
  refine gm_ldc (own := RX11) rfl lcX11_141 dX11_count_88 ?_
  exact gm_iret dX11_count_90 rfl
/-- X11_event 0 [11f] -> ret  -/
theorem PX11_event_1 {a1 : Int32} {a2 : Int32} {S : gm_Mem} {r1 : Int32} (h2 : gm_run gM 0 YX11_isBetween 0 [some (.int a1), some (.int 0), some (.int ((S 0 42) - 1))] [] S (some (.int r1)) S) (c3 : r1 = 0) : gm_run gM 1 YX11_event 0 [some (.ref 0), some (.int a1), some (.int a2)] [] S (some (.int (-1000000001))) S := by
  refine gm_iload_n dX11_event_0 rfl ?_
  refine gm_iconst (v := 0) dX11_event_1 (by decide) ?_
  refine gm_aload_n dX11_event_2 rfl ?_
  refine gm_getI (own := RX11) (x := (S 0 42)) rfl dX11_event_3 lfX11_150 sM_0 rfl rfl ?_
  refine gm_iconst (v := 1) dX11_event_6 (by decide) ?_
  refine gm_isub dX11_event_7 rfl ?_
  refine gm_callS (r1 := (some (.int r1))) (own := RX11) rfl dX11_event_8 llX11_137 msX11_isBetween [.int a1, .int 0, .int ((S 0 42) - 1)] [] rfl rfl (Nat.le_of_ble_eq_true rfl) (by decide) rfl h2 rfl ?_
  refine gm_if_ne_f dX11_event_11 ⟨17, by decide⟩ c3 ?_
  refine gm_ldc (own := RX11) rfl lcX11_204 dX11_event_14 ?_
  exact gm_iret dX11_event_16 rfl
/-- X11_event 0 [11t 23f] -> ret  -/
theorem PX11_event_2 {a1 : Int32} {a2 : Int32} {S : gm_Mem} {r1 : Int32} {r4 : Int32} {j7 : Nat} (h2 : gm_run gM 0 YX11_isBetween 0 [some (.int a1), some (.int 0), some (.int ((S 0 42) - 1))] [] S (some (.int r1)) S) (c3 : ¬ r1 = 0) (h5 : gm_run gM 0 YX11_isBetween 0 [some (.int a2), some (.int 0), some (.int 2)] [] S (some (.int r4)) S) (c6 : ¬ r4 = 0) (ij7 : gm_ix ((3 * (((S 0 42) - 1) - a1)) + a2) j7 90) : gm_run gM 1 YX11_event 0 [some (.ref 0), some (.int a1), some (.int a2)] [] S (some (.int (S 29 j7))) S := by
  refine gm_iload_n dX11_event_0 rfl ?_
  refine gm_iconst (v := 0) dX11_event_1 (by decide) ?_
  refine gm_aload_n dX11_event_2 rfl ?_
  refine gm_getI (own := RX11) (x := (S 0 42)) rfl dX11_event_3 lfX11_150 sM_0 rfl rfl ?_
  refine gm_iconst (v := 1) dX11_event_6 (by decide) ?_
  refine gm_isub dX11_event_7 rfl ?_
  refine gm_callS (r1 := (some (.int r1))) (own := RX11) rfl dX11_event_8 llX11_137 msX11_isBetween [.int a1, .int 0, .int ((S 0 42) - 1)] [] rfl rfl (Nat.le_of_ble_eq_true rfl) (by decide) rfl h2 rfl ?_
  refine gm_if_ne_t (tgt := 17) dX11_event_11 (by decide) c3 ?_
  refine gm_iload_n dX11_event_17 rfl ?_
  refine gm_iconst (v := 0) dX11_event_18 (by decide) ?_
  refine gm_iconst (v := 2) dX11_event_19 (by decide) ?_
  refine gm_callS (r1 := (some (.int r4))) (own := RX11) rfl dX11_event_20 llX11_137 msX11_isBetween [.int a2, .int 0, .int 2] [] rfl rfl (Nat.le_of_ble_eq_true rfl) (by decide) rfl h5 rfl ?_
  refine gm_if_eq_f dX11_event_23 ⟨46, by decide⟩ c6 ?_
  refine gm_aload_n dX11_event_26 rfl ?_
  refine gm_getR (own := RX11) (q := 29) rfl dX11_event_27 lfX11_110 sM_0 rfl ?_
  refine gm_iconst (v := 3) dX11_event_30 (by decide) ?_
  refine gm_aload_n dX11_event_31 rfl ?_
  refine gm_getI (own := RX11) (x := (S 0 42)) rfl dX11_event_32 lfX11_150 sM_0 rfl rfl ?_
  refine gm_iconst (v := 1) dX11_event_35 (by decide) ?_
  refine gm_isub dX11_event_36 rfl ?_
  refine gm_iload_n dX11_event_37 rfl ?_
  refine gm_isub dX11_event_38 rfl ?_
  refine gm_imul dX11_event_39 rfl ?_
  refine gm_iload_n dX11_event_40 rfl ?_
  refine gm_iadd dX11_event_41 rfl ?_
  refine gm_iald (j := j7) (x := (S 29 j7)) dX11_event_42 sM_29 ij7 rfl ?_
  refine gm_goto (tgt := 48) dX11_event_43 (by decide) ?_
  exact gm_iret dX11_event_48 rfl
/-- X11_event 0 [11t 23t] -> ret  -/
theorem PX11_event_3 {a1 : Int32} {a2 : Int32} {S : gm_Mem} {r1 : Int32} {r4 : Int32} (h2 : gm_run gM 0 YX11_isBetween 0 [some (.int a1), some (.int 0), some (.int ((S 0 42) - 1))] [] S (some (.int r1)) S) (c3 : ¬ r1 = 0) (h5 : gm_run gM 0 YX11_isBetween 0 [some (.int a2), some (.int 0), some (.int 2)] [] S (some (.int r4)) S) (c6 : r4 = 0) : gm_run gM 1 YX11_event 0 [some (.ref 0), some (.int a1), some (.int a2)] [] S (some (.int (-1000000002))) S := by
  refine gm_iload_n dX11_event_0 rfl ?_
  refine gm_iconst (v := 0) dX11_event_1 (by decide) ?_
  refine gm_aload_n dX11_event_2 rfl ?_
  refine gm_getI (own := RX11) (x := (S 0 42)) rfl dX11_event_3 lfX11_150 sM_0 rfl rfl ?_
  refine gm_iconst (v := 1) dX11_event_6 (by decide) ?_
  refine gm_isub dX11_event_7 rfl ?_
  refine gm_callS (r1 := (some (.int r1))) (own := RX11) rfl dX11_event_8 llX11_137 msX11_isBetween [.int a1, .int 0, .int ((S 0 42) - 1)] [] rfl rfl (Nat.le_of_ble_eq_true rfl) (by decide) rfl h2 rfl ?_
  refine gm_if_ne_t (tgt := 17) dX11_event_11 (by decide) c3 ?_
  refine gm_iload_n dX11_event_17 rfl ?_
  refine gm_iconst (v := 0) dX11_event_18 (by decide) ?_
  refine gm_iconst (v := 2) dX11_event_19 (by decide) ?_
  refine gm_callS (r1 := (some (.int r4))) (own := RX11) rfl dX11_event_20 llX11_137 msX11_isBetween [.int a2, .int 0, .int 2] [] rfl rfl (Nat.le_of_ble_eq_true rfl) (by decide) rfl h5 rfl ?_
  refine gm_if_eq_t (tgt := 46) dX11_event_23 (by decide) c6 ?_
  refine gm_ldc (own := RX11) rfl lcX11_141 dX11_event_46 ?_
  exact gm_iret dX11_event_48 rfl
/-- X11_agree 0 [7f 17f 32f 47f] -> ret  -/
theorem PX11_agree_1 {S : gm_Mem} (c1 : (S 1 0) = 3) (c2 : (S 1 1) = 3) (c3 : (S 2 0) = (S 2 1)) (c4 : (S 4 0) = (S 4 1)) : gm_run gM 0 YX11_agree 0 [some (.ref 0)] [] S (some (.int 1)) S := by
  refine gm_aload_n dX11_agree_0 rfl ?_
  refine gm_getR (own := RX11) (q := 1) rfl dX11_agree_1 lfX11_19 sM_0 rfl ?_
  refine gm_iconst (v := 0) dX11_agree_4 (by decide) ?_
  refine gm_iald (j := 0) (x := (S 1 0)) dX11_agree_5 sM_1 ⟨by decide, by decide⟩ rfl ?_
  refine gm_iconst (v := 3) dX11_agree_6 (by decide) ?_
  refine gm_icmp_ne_f dX11_agree_7 ⟨54, by decide⟩ c1 ?_
  refine gm_aload_n dX11_agree_10 rfl ?_
  refine gm_getR (own := RX11) (q := 1) rfl dX11_agree_11 lfX11_19 sM_0 rfl ?_
  refine gm_iconst (v := 1) dX11_agree_14 (by decide) ?_
  refine gm_iald (j := 1) (x := (S 1 1)) dX11_agree_15 sM_1 ⟨by decide, by decide⟩ rfl ?_
  refine gm_iconst (v := 3) dX11_agree_16 (by decide) ?_
  refine gm_icmp_ne_f dX11_agree_17 ⟨54, by decide⟩ c2 ?_
  refine gm_aload_n dX11_agree_20 rfl ?_
  refine gm_getR (own := RX11) (q := 2) rfl dX11_agree_21 lfX11_23 sM_0 rfl ?_
  refine gm_iconst (v := 0) dX11_agree_24 (by decide) ?_
  refine gm_iald (j := 0) (x := (S 2 0)) dX11_agree_25 sM_2 ⟨by decide, by decide⟩ rfl ?_
  refine gm_aload_n dX11_agree_26 rfl ?_
  refine gm_getR (own := RX11) (q := 2) rfl dX11_agree_27 lfX11_23 sM_0 rfl ?_
  refine gm_iconst (v := 1) dX11_agree_30 (by decide) ?_
  refine gm_iald (j := 1) (x := (S 2 1)) dX11_agree_31 sM_2 ⟨by decide, by decide⟩ rfl ?_
  refine gm_icmp_ne_f dX11_agree_32 ⟨54, by decide⟩ c3 ?_
  refine gm_aload_n dX11_agree_35 rfl ?_
  refine gm_getR (own := RX11) (q := 4) rfl dX11_agree_36 lfX11_29 sM_0 rfl ?_
  refine gm_iconst (v := 0) dX11_agree_39 (by decide) ?_
  refine gm_iald (j := 0) (x := (S 4 0)) dX11_agree_40 sM_4 ⟨by decide, by decide⟩ rfl ?_
  refine gm_aload_n dX11_agree_41 rfl ?_
  refine gm_getR (own := RX11) (q := 4) rfl dX11_agree_42 lfX11_29 sM_0 rfl ?_
  refine gm_iconst (v := 1) dX11_agree_45 (by decide) ?_
  refine gm_iald (j := 1) (x := (S 4 1)) dX11_agree_46 sM_4 ⟨by decide, by decide⟩ rfl ?_
  refine gm_icmp_ne_f dX11_agree_47 ⟨54, by decide⟩ c4 ?_
  refine gm_iconst (v := 1) dX11_agree_50 (by decide) ?_
  refine gm_goto (tgt := 55) dX11_agree_51 (by decide) ?_
  exact gm_iret dX11_agree_55 rfl
/-- X11_agree 0 [7f 17f 32f 47t] -> ret  -/
theorem PX11_agree_2 {S : gm_Mem} (c1 : (S 1 0) = 3) (c2 : (S 1 1) = 3) (c3 : (S 2 0) = (S 2 1)) (c4 : ¬ (S 4 0) = (S 4 1)) : gm_run gM 0 YX11_agree 0 [some (.ref 0)] [] S (some (.int 0)) S := by
  refine gm_aload_n dX11_agree_0 rfl ?_
  refine gm_getR (own := RX11) (q := 1) rfl dX11_agree_1 lfX11_19 sM_0 rfl ?_
  refine gm_iconst (v := 0) dX11_agree_4 (by decide) ?_
  refine gm_iald (j := 0) (x := (S 1 0)) dX11_agree_5 sM_1 ⟨by decide, by decide⟩ rfl ?_
  refine gm_iconst (v := 3) dX11_agree_6 (by decide) ?_
  refine gm_icmp_ne_f dX11_agree_7 ⟨54, by decide⟩ c1 ?_
  refine gm_aload_n dX11_agree_10 rfl ?_
  refine gm_getR (own := RX11) (q := 1) rfl dX11_agree_11 lfX11_19 sM_0 rfl ?_
  refine gm_iconst (v := 1) dX11_agree_14 (by decide) ?_
  refine gm_iald (j := 1) (x := (S 1 1)) dX11_agree_15 sM_1 ⟨by decide, by decide⟩ rfl ?_
  refine gm_iconst (v := 3) dX11_agree_16 (by decide) ?_
  refine gm_icmp_ne_f dX11_agree_17 ⟨54, by decide⟩ c2 ?_
  refine gm_aload_n dX11_agree_20 rfl ?_
  refine gm_getR (own := RX11) (q := 2) rfl dX11_agree_21 lfX11_23 sM_0 rfl ?_
  refine gm_iconst (v := 0) dX11_agree_24 (by decide) ?_
  refine gm_iald (j := 0) (x := (S 2 0)) dX11_agree_25 sM_2 ⟨by decide, by decide⟩ rfl ?_
  refine gm_aload_n dX11_agree_26 rfl ?_
  refine gm_getR (own := RX11) (q := 2) rfl dX11_agree_27 lfX11_23 sM_0 rfl ?_
  refine gm_iconst (v := 1) dX11_agree_30 (by decide) ?_
  refine gm_iald (j := 1) (x := (S 2 1)) dX11_agree_31 sM_2 ⟨by decide, by decide⟩ rfl ?_
  refine gm_icmp_ne_f dX11_agree_32 ⟨54, by decide⟩ c3 ?_
  refine gm_aload_n dX11_agree_35 rfl ?_
  refine gm_getR (own := RX11) (q := 4) rfl dX11_agree_36 lfX11_29 sM_0 rfl ?_
  refine gm_iconst (v := 0) dX11_agree_39 (by decide) ?_
  refine gm_iald (j := 0) (x := (S 4 0)) dX11_agree_40 sM_4 ⟨by decide, by decide⟩ rfl ?_
  refine gm_aload_n dX11_agree_41 rfl ?_
  refine gm_getR (own := RX11) (q := 4) rfl dX11_agree_42 lfX11_29 sM_0 rfl ?_
  refine gm_iconst (v := 1) dX11_agree_45 (by decide) ?_
  refine gm_iald (j := 1) (x := (S 4 1)) dX11_agree_46 sM_4 ⟨by decide, by decide⟩ rfl ?_
  refine gm_icmp_ne_t (tgt := 54) dX11_agree_47 (by decide) c4 ?_
  refine gm_iconst (v := 0) dX11_agree_54 (by decide) ?_
  exact gm_iret dX11_agree_55 rfl
/-- X11_agree 0 [7f 17f 32t] -> ret  -/
theorem PX11_agree_3 {S : gm_Mem} (c1 : (S 1 0) = 3) (c2 : (S 1 1) = 3) (c3 : ¬ (S 2 0) = (S 2 1)) : gm_run gM 0 YX11_agree 0 [some (.ref 0)] [] S (some (.int 0)) S := by
  refine gm_aload_n dX11_agree_0 rfl ?_
  refine gm_getR (own := RX11) (q := 1) rfl dX11_agree_1 lfX11_19 sM_0 rfl ?_
  refine gm_iconst (v := 0) dX11_agree_4 (by decide) ?_
  refine gm_iald (j := 0) (x := (S 1 0)) dX11_agree_5 sM_1 ⟨by decide, by decide⟩ rfl ?_
  refine gm_iconst (v := 3) dX11_agree_6 (by decide) ?_
  refine gm_icmp_ne_f dX11_agree_7 ⟨54, by decide⟩ c1 ?_
  refine gm_aload_n dX11_agree_10 rfl ?_
  refine gm_getR (own := RX11) (q := 1) rfl dX11_agree_11 lfX11_19 sM_0 rfl ?_
  refine gm_iconst (v := 1) dX11_agree_14 (by decide) ?_
  refine gm_iald (j := 1) (x := (S 1 1)) dX11_agree_15 sM_1 ⟨by decide, by decide⟩ rfl ?_
  refine gm_iconst (v := 3) dX11_agree_16 (by decide) ?_
  refine gm_icmp_ne_f dX11_agree_17 ⟨54, by decide⟩ c2 ?_
  refine gm_aload_n dX11_agree_20 rfl ?_
  refine gm_getR (own := RX11) (q := 2) rfl dX11_agree_21 lfX11_23 sM_0 rfl ?_
  refine gm_iconst (v := 0) dX11_agree_24 (by decide) ?_
  refine gm_iald (j := 0) (x := (S 2 0)) dX11_agree_25 sM_2 ⟨by decide, by decide⟩ rfl ?_
  refine gm_aload_n dX11_agree_26 rfl ?_
  refine gm_getR (own := RX11) (q := 2) rfl dX11_agree_27 lfX11_23 sM_0 rfl ?_
  refine gm_iconst (v := 1) dX11_agree_30 (by decide) ?_
  refine gm_iald (j := 1) (x := (S 2 1)) dX11_agree_31 sM_2 ⟨by decide, by decide⟩ rfl ?_
  refine gm_icmp_ne_t (tgt := 54) dX11_agree_32 (by decide) c3 ?_
  refine gm_iconst (v := 0) dX11_agree_54 (by decide) ?_
  exact gm_iret dX11_agree_55 rfl
/-- X11_agree 0 [7f 17t] -> ret  -/
theorem PX11_agree_4 {S : gm_Mem} (c1 : (S 1 0) = 3) (c2 : ¬ (S 1 1) = 3) : gm_run gM 0 YX11_agree 0 [some (.ref 0)] [] S (some (.int 0)) S := by
  refine gm_aload_n dX11_agree_0 rfl ?_
  refine gm_getR (own := RX11) (q := 1) rfl dX11_agree_1 lfX11_19 sM_0 rfl ?_
  refine gm_iconst (v := 0) dX11_agree_4 (by decide) ?_
  refine gm_iald (j := 0) (x := (S 1 0)) dX11_agree_5 sM_1 ⟨by decide, by decide⟩ rfl ?_
  refine gm_iconst (v := 3) dX11_agree_6 (by decide) ?_
  refine gm_icmp_ne_f dX11_agree_7 ⟨54, by decide⟩ c1 ?_
  refine gm_aload_n dX11_agree_10 rfl ?_
  refine gm_getR (own := RX11) (q := 1) rfl dX11_agree_11 lfX11_19 sM_0 rfl ?_
  refine gm_iconst (v := 1) dX11_agree_14 (by decide) ?_
  refine gm_iald (j := 1) (x := (S 1 1)) dX11_agree_15 sM_1 ⟨by decide, by decide⟩ rfl ?_
  refine gm_iconst (v := 3) dX11_agree_16 (by decide) ?_
  refine gm_icmp_ne_t (tgt := 54) dX11_agree_17 (by decide) c2 ?_
  refine gm_iconst (v := 0) dX11_agree_54 (by decide) ?_
  exact gm_iret dX11_agree_55 rfl
/-- X11_agree 0 [7t] -> ret  -/
theorem PX11_agree_5 {S : gm_Mem} (c1 : ¬ (S 1 0) = 3) : gm_run gM 0 YX11_agree 0 [some (.ref 0)] [] S (some (.int 0)) S := by
  refine gm_aload_n dX11_agree_0 rfl ?_
  refine gm_getR (own := RX11) (q := 1) rfl dX11_agree_1 lfX11_19 sM_0 rfl ?_
  refine gm_iconst (v := 0) dX11_agree_4 (by decide) ?_
  refine gm_iald (j := 0) (x := (S 1 0)) dX11_agree_5 sM_1 ⟨by decide, by decide⟩ rfl ?_
  refine gm_iconst (v := 3) dX11_agree_6 (by decide) ?_
  refine gm_icmp_ne_t (tgt := 54) dX11_agree_7 (by decide) c1 ?_
  refine gm_iconst (v := 0) dX11_agree_54 (by decide) ?_
  exact gm_iret dX11_agree_55 rfl
/-- X11_append 0 [7f 17f] -> ret  -/
theorem PX11_append_1 {a1 : Int32} {a2 : Int32} {S : gm_Mem} {r1 : Int32} {r4 : Int32} (h2 : gm_run gM 0 YX11_isBetween 0 [some (.int a1), some (.int 0), some (.int 127)] [] S (some (.int r1)) S) (c3 : ¬ r1 = 0) (h5 : gm_run gM 0 YX11_isBetween 0 [some (.int a2), some (.int 1), some (.int 40)] [] S (some (.int r4)) S) (c6 : r4 = 0) : gm_run gM 1 YX11_append 0 [some (.ref 0), some (.int a1), some (.int a2), none] [] S (some (.int (-1000000002))) S := by
  refine gm_iload_n dX11_append_0 rfl ?_
  refine gm_iconst (v := 0) dX11_append_1 (by decide) ?_
  refine gm_bipush (v := 127) dX11_append_2 (by decide) ?_
  refine gm_callS (r1 := (some (.int r1))) (own := RX11) rfl dX11_append_4 llX11_137 msX11_isBetween [.int a1, .int 0, .int 127] [] rfl rfl (Nat.le_of_ble_eq_true rfl) (by decide) rfl h2 rfl ?_
  refine gm_if_eq_f dX11_append_7 ⟨20, by decide⟩ c3 ?_
  refine gm_iload_n dX11_append_10 rfl ?_
  refine gm_iconst (v := 1) dX11_append_11 (by decide) ?_
  refine gm_bipush (v := 40) dX11_append_12 (by decide) ?_
  refine gm_callS (r1 := (some (.int r4))) (own := RX11) rfl dX11_append_14 llX11_137 msX11_isBetween [.int a2, .int 1, .int 40] [] rfl rfl (Nat.le_of_ble_eq_true rfl) (by decide) rfl h5 rfl ?_
  refine gm_if_ne_f dX11_append_17 ⟨23, by decide⟩ c6 ?_
  refine gm_ldc (own := RX11) rfl lcX11_141 dX11_append_20 ?_
  exact gm_iret dX11_append_22 rfl
/-- X11_append 0 [7f 17t 31f] -> ret  -/
theorem PX11_append_2 {a1 : Int32} {a2 : Int32} {S : gm_Mem} {r1 : Int32} {r4 : Int32} (h2 : gm_run gM 0 YX11_isBetween 0 [some (.int a1), some (.int 0), some (.int 127)] [] S (some (.int r1)) S) (c3 : ¬ r1 = 0) (h5 : gm_run gM 0 YX11_isBetween 0 [some (.int a2), some (.int 1), some (.int 40)] [] S (some (.int r4)) S) (c6 : ¬ r4 = 0) (c7 : 40 < ((S 0 51) + a2)) : gm_run gM 1 YX11_append 0 [some (.ref 0), some (.int a1), some (.int a2), none] [] S (some (.int (-1000000003))) S := by
  refine gm_iload_n dX11_append_0 rfl ?_
  refine gm_iconst (v := 0) dX11_append_1 (by decide) ?_
  refine gm_bipush (v := 127) dX11_append_2 (by decide) ?_
  refine gm_callS (r1 := (some (.int r1))) (own := RX11) rfl dX11_append_4 llX11_137 msX11_isBetween [.int a1, .int 0, .int 127] [] rfl rfl (Nat.le_of_ble_eq_true rfl) (by decide) rfl h2 rfl ?_
  refine gm_if_eq_f dX11_append_7 ⟨20, by decide⟩ c3 ?_
  refine gm_iload_n dX11_append_10 rfl ?_
  refine gm_iconst (v := 1) dX11_append_11 (by decide) ?_
  refine gm_bipush (v := 40) dX11_append_12 (by decide) ?_
  refine gm_callS (r1 := (some (.int r4))) (own := RX11) rfl dX11_append_14 llX11_137 msX11_isBetween [.int a2, .int 1, .int 40] [] rfl rfl (Nat.le_of_ble_eq_true rfl) (by decide) rfl h5 rfl ?_
  refine gm_if_ne_t (tgt := 23) dX11_append_17 (by decide) c6 ?_
  refine gm_aload_n dX11_append_23 rfl ?_
  refine gm_getI (own := RX11) (x := (S 0 51)) rfl dX11_append_24 lfX11_298 sM_0 rfl rfl ?_
  refine gm_iload_n dX11_append_27 rfl ?_
  refine gm_iadd dX11_append_28 rfl ?_
  refine gm_bipush (v := 40) dX11_append_29 (by decide) ?_
  refine gm_icmp_le_f dX11_append_31 ⟨37, by decide⟩ c7 ?_
  refine gm_ldc (own := RX11) rfl lcX11_197 dX11_append_34 ?_
  exact gm_iret dX11_append_36 rfl
/-- X11_append 0 [7f 17t 31t] -> cut 39 -/
theorem PX11_append_3 {a1 : Int32} {a2 : Int32} {S : gm_Mem} {r1 : Int32} {r4 : Int32} {r : Option Value} {S2 : gm_Mem} (h2 : gm_run gM 0 YX11_isBetween 0 [some (.int a1), some (.int 0), some (.int 127)] [] S (some (.int r1)) S) (c3 : ¬ r1 = 0) (h5 : gm_run gM 0 YX11_isBetween 0 [some (.int a2), some (.int 1), some (.int 40)] [] S (some (.int r4)) S) (c6 : ¬ r4 = 0) (c7 : ¬ 40 < ((S 0 51) + a2)) (K : gm_run gM 1 YX11_append 39 [some (.ref 0), some (.int a1), some (.int a2), some (.int 0)] [] S r S2) : gm_run gM 1 YX11_append 0 [some (.ref 0), some (.int a1), some (.int a2), none] [] S r S2 := by
  refine gm_iload_n dX11_append_0 rfl ?_
  refine gm_iconst (v := 0) dX11_append_1 (by decide) ?_
  refine gm_bipush (v := 127) dX11_append_2 (by decide) ?_
  refine gm_callS (r1 := (some (.int r1))) (own := RX11) rfl dX11_append_4 llX11_137 msX11_isBetween [.int a1, .int 0, .int 127] [] rfl rfl (Nat.le_of_ble_eq_true rfl) (by decide) rfl h2 rfl ?_
  refine gm_if_eq_f dX11_append_7 ⟨20, by decide⟩ c3 ?_
  refine gm_iload_n dX11_append_10 rfl ?_
  refine gm_iconst (v := 1) dX11_append_11 (by decide) ?_
  refine gm_bipush (v := 40) dX11_append_12 (by decide) ?_
  refine gm_callS (r1 := (some (.int r4))) (own := RX11) rfl dX11_append_14 llX11_137 msX11_isBetween [.int a2, .int 1, .int 40] [] rfl rfl (Nat.le_of_ble_eq_true rfl) (by decide) rfl h5 rfl ?_
  refine gm_if_ne_t (tgt := 23) dX11_append_17 (by decide) c6 ?_
  refine gm_aload_n dX11_append_23 rfl ?_
  refine gm_getI (own := RX11) (x := (S 0 51)) rfl dX11_append_24 lfX11_298 sM_0 rfl rfl ?_
  refine gm_iload_n dX11_append_27 rfl ?_
  refine gm_iadd dX11_append_28 rfl ?_
  refine gm_bipush (v := 40) dX11_append_29 (by decide) ?_
  refine gm_icmp_le_t (tgt := 37) dX11_append_31 (by decide) c7 ?_
  refine gm_iconst (v := 0) dX11_append_37 (by decide) ?_
  refine gm_istore_n (L' := [some (.ref 0), some (.int a1), some (.int a2), some (.int 0)]) dX11_append_38 (by decide) rfl ?_
  exact K
/-- X11_append 0 [7t] -> ret  -/
theorem PX11_append_4 {a1 : Int32} {a2 : Int32} {S : gm_Mem} {r1 : Int32} (h2 : gm_run gM 0 YX11_isBetween 0 [some (.int a1), some (.int 0), some (.int 127)] [] S (some (.int r1)) S) (c3 : r1 = 0) : gm_run gM 1 YX11_append 0 [some (.ref 0), some (.int a1), some (.int a2), none] [] S (some (.int (-1000000002))) S := by
  refine gm_iload_n dX11_append_0 rfl ?_
  refine gm_iconst (v := 0) dX11_append_1 (by decide) ?_
  refine gm_bipush (v := 127) dX11_append_2 (by decide) ?_
  refine gm_callS (r1 := (some (.int r1))) (own := RX11) rfl dX11_append_4 llX11_137 msX11_isBetween [.int a1, .int 0, .int 127] [] rfl rfl (Nat.le_of_ble_eq_true rfl) (by decide) rfl h2 rfl ?_
  refine gm_if_eq_t (tgt := 20) dX11_append_7 (by decide) c3 ?_
  refine gm_ldc (own := RX11) rfl lcX11_141 dX11_append_20 ?_
  exact gm_iret dX11_append_22 rfl
/-- X11_append 39 [41f] -> cut 39 -/
theorem PX11_append_5 {x1 : Int32} {x2 : Int32} {x3 : Int32} {S : gm_Mem} {j2 : Nat} {r : Option Value} {S2 : gm_Mem} (c1 : x3 < x2) (ij2 : gm_ix ((S 0 51) + x3) j2 40) (K : gm_run gM 1 YX11_append 39 [some (.ref 0), some (.int x1), some (.int x2), some (.int (x3 + 1))] [] (gm_u S 33 j2 x1) r S2) : gm_run gM 1 YX11_append 39 [some (.ref 0), some (.int x1), some (.int x2), some (.int x3)] [] S r S2 := by
  refine gm_iload_n dX11_append_39 rfl ?_
  refine gm_iload_n dX11_append_40 rfl ?_
  refine gm_icmp_ge_f dX11_append_41 ⟨62, by decide⟩ c1 ?_
  refine gm_aload_n dX11_append_44 rfl ?_
  refine gm_getR (own := RX11) (q := 33) rfl dX11_append_45 lfX11_122 sM_0 rfl ?_
  refine gm_aload_n dX11_append_48 rfl ?_
  refine gm_getI (own := RX11) (x := (S 0 51)) rfl dX11_append_49 lfX11_298 sM_0 rfl rfl ?_
  refine gm_iload_n dX11_append_52 rfl ?_
  refine gm_iadd dX11_append_53 rfl ?_
  refine gm_iload_n dX11_append_54 rfl ?_
  refine gm_iast (j := j2) dX11_append_55 sM_33 ij2 ?_
  refine gm_iinc (L' := [some (.ref 0), some (.int x1), some (.int x2), some (.int (x3 + 1))]) (v := (x3 + 1)) dX11_append_56 rfl rfl (by decide) rfl ?_
  refine gm_goto (tgt := 39) dX11_append_59 (by decide) ?_
  exact K
/-- X11_append 39 [41t] -> ret  -/
theorem PX11_append_6 {x1 : Int32} {x2 : Int32} {x3 : Int32} {S : gm_Mem} (c1 : ¬ x3 < x2) : gm_run gM 1 YX11_append 39 [some (.ref 0), some (.int x1), some (.int x2), some (.int x3)] [] S (some (.int ((S 0 51) + x2))) (gm_u S 0 51 ((S 0 51) + x2)) := by
  refine gm_iload_n dX11_append_39 rfl ?_
  refine gm_iload_n dX11_append_40 rfl ?_
  refine gm_icmp_ge_t (tgt := 62) dX11_append_41 (by decide) c1 ?_
  refine gm_aload_n dX11_append_62 rfl ?_
  refine gm_dup dX11_append_63 ?_
  refine gm_getI (own := RX11) (x := (S 0 51)) rfl dX11_append_64 lfX11_298 sM_0 rfl rfl ?_
  refine gm_iload_n dX11_append_67 rfl ?_
  refine gm_iadd dX11_append_68 rfl ?_
  refine gm_put (own := RX11) rfl dX11_append_69 lfX11_298 sM_0 rfl (gm_fit_int _) ?_
  refine gm_aload_n dX11_append_72 rfl ?_
  refine gm_getI (own := RX11) (x := ((S 0 51) + x2)) rfl dX11_append_73 lfX11_298 sM_0 rfl (gm_rS _ _ _ _) ?_
  exact gm_iret dX11_append_76 rfl
/-- X11_isDigit 0 [8f 27f] -> ret  -/
theorem PX11_isDigit_1 {S : gm_Mem} {j2 : Nat} {r3 : Int32} (c1 : (S 0 52) < (S 0 51)) (ij2 : gm_ix (S 0 52) j2 40) (h4 : gm_run gM 0 YX11_isBetween 0 [some (.int (S 33 j2)), some (.int 48), some (.int 57)] [] S (some (.int r3)) S) (c5 : ¬ r3 = 0) : gm_run gM 1 YX11_isDigit 0 [some (.ref 0)] [] S (some (.int 1)) S := by
  refine gm_aload_n dX11_isDigit_0 rfl ?_
  refine gm_getI (own := RX11) (x := (S 0 52)) rfl dX11_isDigit_1 lfX11_301 sM_0 rfl rfl ?_
  refine gm_aload_n dX11_isDigit_4 rfl ?_
  refine gm_getI (own := RX11) (x := (S 0 51)) rfl dX11_isDigit_5 lfX11_298 sM_0 rfl rfl ?_
  refine gm_icmp_ge_f dX11_isDigit_8 ⟨34, by decide⟩ c1 ?_
  refine gm_aload_n dX11_isDigit_11 rfl ?_
  refine gm_getR (own := RX11) (q := 33) rfl dX11_isDigit_12 lfX11_122 sM_0 rfl ?_
  refine gm_aload_n dX11_isDigit_15 rfl ?_
  refine gm_getI (own := RX11) (x := (S 0 52)) rfl dX11_isDigit_16 lfX11_301 sM_0 rfl rfl ?_
  refine gm_iald (j := j2) (x := (S 33 j2)) dX11_isDigit_19 sM_33 ij2 rfl ?_
  refine gm_bipush (v := 48) dX11_isDigit_20 (by decide) ?_
  refine gm_bipush (v := 57) dX11_isDigit_22 (by decide) ?_
  refine gm_callS (r1 := (some (.int r3))) (own := RX11) rfl dX11_isDigit_24 llX11_137 msX11_isBetween [.int (S 33 j2), .int 48, .int 57] [] rfl rfl (Nat.le_of_ble_eq_true rfl) (by decide) rfl h4 rfl ?_
  refine gm_if_eq_f dX11_isDigit_27 ⟨34, by decide⟩ c5 ?_
  refine gm_iconst (v := 1) dX11_isDigit_30 (by decide) ?_
  refine gm_goto (tgt := 35) dX11_isDigit_31 (by decide) ?_
  exact gm_zret dX11_isDigit_35 rfl gm_fit_1
/-- X11_isDigit 0 [8f 27t] -> ret  -/
theorem PX11_isDigit_2 {S : gm_Mem} {j2 : Nat} {r3 : Int32} (c1 : (S 0 52) < (S 0 51)) (ij2 : gm_ix (S 0 52) j2 40) (h4 : gm_run gM 0 YX11_isBetween 0 [some (.int (S 33 j2)), some (.int 48), some (.int 57)] [] S (some (.int r3)) S) (c5 : r3 = 0) : gm_run gM 1 YX11_isDigit 0 [some (.ref 0)] [] S (some (.int 0)) S := by
  refine gm_aload_n dX11_isDigit_0 rfl ?_
  refine gm_getI (own := RX11) (x := (S 0 52)) rfl dX11_isDigit_1 lfX11_301 sM_0 rfl rfl ?_
  refine gm_aload_n dX11_isDigit_4 rfl ?_
  refine gm_getI (own := RX11) (x := (S 0 51)) rfl dX11_isDigit_5 lfX11_298 sM_0 rfl rfl ?_
  refine gm_icmp_ge_f dX11_isDigit_8 ⟨34, by decide⟩ c1 ?_
  refine gm_aload_n dX11_isDigit_11 rfl ?_
  refine gm_getR (own := RX11) (q := 33) rfl dX11_isDigit_12 lfX11_122 sM_0 rfl ?_
  refine gm_aload_n dX11_isDigit_15 rfl ?_
  refine gm_getI (own := RX11) (x := (S 0 52)) rfl dX11_isDigit_16 lfX11_301 sM_0 rfl rfl ?_
  refine gm_iald (j := j2) (x := (S 33 j2)) dX11_isDigit_19 sM_33 ij2 rfl ?_
  refine gm_bipush (v := 48) dX11_isDigit_20 (by decide) ?_
  refine gm_bipush (v := 57) dX11_isDigit_22 (by decide) ?_
  refine gm_callS (r1 := (some (.int r3))) (own := RX11) rfl dX11_isDigit_24 llX11_137 msX11_isBetween [.int (S 33 j2), .int 48, .int 57] [] rfl rfl (Nat.le_of_ble_eq_true rfl) (by decide) rfl h4 rfl ?_
  refine gm_if_eq_t (tgt := 34) dX11_isDigit_27 (by decide) c5 ?_
  refine gm_iconst (v := 0) dX11_isDigit_34 (by decide) ?_
  exact gm_zret dX11_isDigit_35 rfl gm_fit_0
/-- X11_isDigit 0 [8t] -> ret  -/
theorem PX11_isDigit_3 {S : gm_Mem} (c1 : ¬ (S 0 52) < (S 0 51)) : gm_run gM 1 YX11_isDigit 0 [some (.ref 0)] [] S (some (.int 0)) S := by
  refine gm_aload_n dX11_isDigit_0 rfl ?_
  refine gm_getI (own := RX11) (x := (S 0 52)) rfl dX11_isDigit_1 lfX11_301 sM_0 rfl rfl ?_
  refine gm_aload_n dX11_isDigit_4 rfl ?_
  refine gm_getI (own := RX11) (x := (S 0 51)) rfl dX11_isDigit_5 lfX11_298 sM_0 rfl rfl ?_
  refine gm_icmp_ge_t (tgt := 34) dX11_isDigit_8 (by decide) c1 ?_
  refine gm_iconst (v := 0) dX11_isDigit_34 (by decide) ?_
  exact gm_zret dX11_isDigit_35 rfl gm_fit_0
/-- X11_takesNumber 0 [4f] -> ret  -/
theorem PX11_takesNumber_1 {S : gm_Mem} {r1 : Int32} (h2 : gm_run gM 1 YX11_isDigit 0 [some (.ref 0)] [] S (some (.int r1)) S) (c3 : r1 = 0) : gm_run gM 2 YX11_takesNumber 0 [some (.ref 0)] [] S (some (.int 0)) S := by
  refine gm_aload_n dX11_takesNumber_0 rfl ?_
  refine gm_callV (r1 := (some (.int r1))) (own := RX11) rfl dX11_takesNumber_1 llX11_304 mvX11_isDigit sM_0 rfl [] [] rfl rfl (Nat.le_of_ble_eq_true rfl) (by decide) rfl h2 rfl ?_
  refine gm_if_ne_f dX11_takesNumber_4 ⟨9, by decide⟩ c3 ?_
  refine gm_iconst (v := 0) dX11_takesNumber_7 (by decide) ?_
  exact gm_zret dX11_takesNumber_8 rfl gm_fit_0
/-- X11_takesNumber 0 [4t 44f] -> ret  -/
theorem PX11_takesNumber_2 {S : gm_Mem} {r1 : Int32} {j4 : Nat} {j5 : Nat} {r6 : Int32} (h2 : gm_run gM 1 YX11_isDigit 0 [some (.ref 0)] [] S (some (.int r1)) S) (c3 : ¬ r1 = 0) (ij4 : gm_ix (S 0 52) j4 40) (ij5 : gm_ix (S 0 53) j5 20) (h7 : gm_run gM 1 YX11_isDigit 0 [some (.ref 0)] [] (gm_u (gm_u S 35 j5 ((S 33 j4) - 48)) 0 52 ((S 0 52) + 1)) (some (.int r6)) (gm_u (gm_u S 35 j5 ((S 33 j4) - 48)) 0 52 ((S 0 52) + 1))) (c8 : r6 = 0) : gm_run gM 2 YX11_takesNumber 0 [some (.ref 0)] [] S (some (.int 1)) (gm_u (gm_u S 35 j5 ((S 33 j4) - 48)) 0 52 ((S 0 52) + 1)) := by
  refine gm_aload_n dX11_takesNumber_0 rfl ?_
  refine gm_callV (r1 := (some (.int r1))) (own := RX11) rfl dX11_takesNumber_1 llX11_304 mvX11_isDigit sM_0 rfl [] [] rfl rfl (Nat.le_of_ble_eq_true rfl) (by decide) rfl h2 rfl ?_
  refine gm_if_ne_t (tgt := 9) dX11_takesNumber_4 (by decide) c3 ?_
  refine gm_aload_n dX11_takesNumber_9 rfl ?_
  refine gm_getR (own := RX11) (q := 35) rfl dX11_takesNumber_10 lfX11_128 sM_0 rfl ?_
  refine gm_aload_n dX11_takesNumber_13 rfl ?_
  refine gm_getI (own := RX11) (x := (S 0 53)) rfl dX11_takesNumber_14 lfX11_307 sM_0 rfl rfl ?_
  refine gm_aload_n dX11_takesNumber_17 rfl ?_
  refine gm_getR (own := RX11) (q := 33) rfl dX11_takesNumber_18 lfX11_122 sM_0 rfl ?_
  refine gm_aload_n dX11_takesNumber_21 rfl ?_
  refine gm_getI (own := RX11) (x := (S 0 52)) rfl dX11_takesNumber_22 lfX11_301 sM_0 rfl rfl ?_
  refine gm_iald (j := j4) (x := (S 33 j4)) dX11_takesNumber_25 sM_33 ij4 rfl ?_
  refine gm_bipush (v := 48) dX11_takesNumber_26 (by decide) ?_
  refine gm_isub dX11_takesNumber_28 rfl ?_
  refine gm_iast (j := j5) dX11_takesNumber_29 sM_35 ij5 ?_
  refine gm_aload_n dX11_takesNumber_30 rfl ?_
  refine gm_dup dX11_takesNumber_31 ?_
  refine gm_getI (own := RX11) (x := (S 0 52)) rfl dX11_takesNumber_32 lfX11_301 sM_0 rfl (gm_rp (by omega)) ?_
  refine gm_iconst (v := 1) dX11_takesNumber_35 (by decide) ?_
  refine gm_iadd dX11_takesNumber_36 rfl ?_
  refine gm_put (own := RX11) rfl dX11_takesNumber_37 lfX11_301 sM_0 rfl (gm_fit_int _) ?_
  refine gm_aload_n dX11_takesNumber_40 rfl ?_
  refine gm_callV (r1 := (some (.int r6))) (own := RX11) rfl dX11_takesNumber_41 llX11_304 mvX11_isDigit sM_0 rfl [] [] rfl rfl (Nat.le_of_ble_eq_true rfl) (by decide) rfl h7 rfl ?_
  refine gm_if_ne_f dX11_takesNumber_44 ⟨49, by decide⟩ c8 ?_
  refine gm_iconst (v := 1) dX11_takesNumber_47 (by decide) ?_
  exact gm_zret dX11_takesNumber_48 rfl gm_fit_1
/-- X11_takesNumber 0 [4t 44t] -> ret  -/
theorem PX11_takesNumber_3 {S : gm_Mem} {r1 : Int32} {j4 : Nat} {j5 : Nat} {r6 : Int32} {j9 : Nat} (h2 : gm_run gM 1 YX11_isDigit 0 [some (.ref 0)] [] S (some (.int r1)) S) (c3 : ¬ r1 = 0) (ij4 : gm_ix (S 0 52) j4 40) (ij5 : gm_ix (S 0 53) j5 20) (h7 : gm_run gM 1 YX11_isDigit 0 [some (.ref 0)] [] (gm_u (gm_u S 35 j5 ((S 33 j4) - 48)) 0 52 ((S 0 52) + 1)) (some (.int r6)) (gm_u (gm_u S 35 j5 ((S 33 j4) - 48)) 0 52 ((S 0 52) + 1))) (c8 : ¬ r6 = 0) (ij9 : gm_ix ((S 0 52) + 1) j9 40) : gm_run gM 2 YX11_takesNumber 0 [some (.ref 0)] [] S (some (.int 1)) (gm_u (gm_u (gm_u (gm_u S 35 j5 ((S 33 j4) - 48)) 0 52 ((S 0 52) + 1)) 35 j5 (((10 * ((S 33 j4) - 48)) + (S 33 j9)) - 48)) 0 52 (((S 0 52) + 1) + 1)) := by
  refine gm_aload_n dX11_takesNumber_0 rfl ?_
  refine gm_callV (r1 := (some (.int r1))) (own := RX11) rfl dX11_takesNumber_1 llX11_304 mvX11_isDigit sM_0 rfl [] [] rfl rfl (Nat.le_of_ble_eq_true rfl) (by decide) rfl h2 rfl ?_
  refine gm_if_ne_t (tgt := 9) dX11_takesNumber_4 (by decide) c3 ?_
  refine gm_aload_n dX11_takesNumber_9 rfl ?_
  refine gm_getR (own := RX11) (q := 35) rfl dX11_takesNumber_10 lfX11_128 sM_0 rfl ?_
  refine gm_aload_n dX11_takesNumber_13 rfl ?_
  refine gm_getI (own := RX11) (x := (S 0 53)) rfl dX11_takesNumber_14 lfX11_307 sM_0 rfl rfl ?_
  refine gm_aload_n dX11_takesNumber_17 rfl ?_
  refine gm_getR (own := RX11) (q := 33) rfl dX11_takesNumber_18 lfX11_122 sM_0 rfl ?_
  refine gm_aload_n dX11_takesNumber_21 rfl ?_
  refine gm_getI (own := RX11) (x := (S 0 52)) rfl dX11_takesNumber_22 lfX11_301 sM_0 rfl rfl ?_
  refine gm_iald (j := j4) (x := (S 33 j4)) dX11_takesNumber_25 sM_33 ij4 rfl ?_
  refine gm_bipush (v := 48) dX11_takesNumber_26 (by decide) ?_
  refine gm_isub dX11_takesNumber_28 rfl ?_
  refine gm_iast (j := j5) dX11_takesNumber_29 sM_35 ij5 ?_
  refine gm_aload_n dX11_takesNumber_30 rfl ?_
  refine gm_dup dX11_takesNumber_31 ?_
  refine gm_getI (own := RX11) (x := (S 0 52)) rfl dX11_takesNumber_32 lfX11_301 sM_0 rfl (gm_rp (by omega)) ?_
  refine gm_iconst (v := 1) dX11_takesNumber_35 (by decide) ?_
  refine gm_iadd dX11_takesNumber_36 rfl ?_
  refine gm_put (own := RX11) rfl dX11_takesNumber_37 lfX11_301 sM_0 rfl (gm_fit_int _) ?_
  refine gm_aload_n dX11_takesNumber_40 rfl ?_
  refine gm_callV (r1 := (some (.int r6))) (own := RX11) rfl dX11_takesNumber_41 llX11_304 mvX11_isDigit sM_0 rfl [] [] rfl rfl (Nat.le_of_ble_eq_true rfl) (by decide) rfl h7 rfl ?_
  refine gm_if_ne_t (tgt := 49) dX11_takesNumber_44 (by decide) c8 ?_
  refine gm_aload_n dX11_takesNumber_49 rfl ?_
  refine gm_getR (own := RX11) (q := 35) rfl dX11_takesNumber_50 lfX11_128 sM_0 rfl ?_
  refine gm_aload_n dX11_takesNumber_53 rfl ?_
  refine gm_getI (own := RX11) (x := (S 0 53)) rfl dX11_takesNumber_54 lfX11_307 sM_0 rfl ((gm_rk (by decide)).trans (gm_rp (by omega))) ?_
  refine gm_bipush (v := 10) dX11_takesNumber_57 (by decide) ?_
  refine gm_aload_n dX11_takesNumber_59 rfl ?_
  refine gm_getR (own := RX11) (q := 35) rfl dX11_takesNumber_60 lfX11_128 sM_0 rfl ?_
  refine gm_aload_n dX11_takesNumber_63 rfl ?_
  refine gm_getI (own := RX11) (x := (S 0 53)) rfl dX11_takesNumber_64 lfX11_307 sM_0 rfl ((gm_rk (by decide)).trans (gm_rp (by omega))) ?_
  refine gm_iald (j := j5) (x := ((S 33 j4) - 48)) dX11_takesNumber_67 sM_35 ij5 ((gm_rp (by omega)).trans (gm_rS _ _ _ _)) ?_
  refine gm_imul dX11_takesNumber_68 rfl ?_
  refine gm_aload_n dX11_takesNumber_69 rfl ?_
  refine gm_getR (own := RX11) (q := 33) rfl dX11_takesNumber_70 lfX11_122 sM_0 rfl ?_
  refine gm_aload_n dX11_takesNumber_73 rfl ?_
  refine gm_getI (own := RX11) (x := ((S 0 52) + 1)) rfl dX11_takesNumber_74 lfX11_301 sM_0 rfl (gm_rS _ _ _ _) ?_
  refine gm_iald (j := j9) (x := (S 33 j9)) dX11_takesNumber_77 sM_33 ij9 ((gm_rp (by omega)).trans (gm_rp (by omega))) ?_
  refine gm_iadd dX11_takesNumber_78 rfl ?_
  refine gm_bipush (v := 48) dX11_takesNumber_79 (by decide) ?_
  refine gm_isub dX11_takesNumber_81 rfl ?_
  refine gm_iast (j := j5) dX11_takesNumber_82 sM_35 ij5 ?_
  refine gm_aload_n dX11_takesNumber_83 rfl ?_
  refine gm_dup dX11_takesNumber_84 ?_
  refine gm_getI (own := RX11) (x := ((S 0 52) + 1)) rfl dX11_takesNumber_85 lfX11_301 sM_0 rfl ((gm_rp (by omega)).trans (gm_rS _ _ _ _)) ?_
  refine gm_iconst (v := 1) dX11_takesNumber_88 (by decide) ?_
  refine gm_iadd dX11_takesNumber_89 rfl ?_
  refine gm_put (own := RX11) rfl dX11_takesNumber_90 lfX11_301 sM_0 rfl (gm_fit_int _) ?_
  refine gm_iconst (v := 1) dX11_takesNumber_93 (by decide) ?_
  exact gm_zret dX11_takesNumber_94 rfl gm_fit_1
/-- X11_takesAction 0 [8f] -> cut 24 -/
theorem PX11_takesAction_1 {S : gm_Mem} {j2 : Nat} {r : Option Value} {S2 : gm_Mem} (c1 : (S 0 52) < (S 0 51)) (ij2 : gm_ix (S 0 52) j2 40) (K : gm_run gM 3 YX11_takesAction 24 [some (.ref 0), none] [.int (S 33 j2)] S r S2) : gm_run gM 3 YX11_takesAction 0 [some (.ref 0), none] [] S r S2 := by
  refine gm_aload_n dX11_takesAction_0 rfl ?_
  refine gm_getI (own := RX11) (x := (S 0 52)) rfl dX11_takesAction_1 lfX11_301 sM_0 rfl rfl ?_
  refine gm_aload_n dX11_takesAction_4 rfl ?_
  refine gm_getI (own := RX11) (x := (S 0 51)) rfl dX11_takesAction_5 lfX11_298 sM_0 rfl rfl ?_
  refine gm_icmp_ge_f dX11_takesAction_8 ⟨23, by decide⟩ c1 ?_
  refine gm_aload_n dX11_takesAction_11 rfl ?_
  refine gm_getR (own := RX11) (q := 33) rfl dX11_takesAction_12 lfX11_122 sM_0 rfl ?_
  refine gm_aload_n dX11_takesAction_15 rfl ?_
  refine gm_getI (own := RX11) (x := (S 0 52)) rfl dX11_takesAction_16 lfX11_301 sM_0 rfl rfl ?_
  refine gm_iald (j := j2) (x := (S 33 j2)) dX11_takesAction_19 sM_33 ij2 rfl ?_
  refine gm_goto (tgt := 24) dX11_takesAction_20 (by decide) ?_
  exact K
/-- X11_takesAction 0 [8t] -> cut 24 -/
theorem PX11_takesAction_2 {S : gm_Mem} {r : Option Value} {S2 : gm_Mem} (c1 : ¬ (S 0 52) < (S 0 51)) (K : gm_run gM 3 YX11_takesAction 24 [some (.ref 0), none] [.int (-1)] S r S2) : gm_run gM 3 YX11_takesAction 0 [some (.ref 0), none] [] S r S2 := by
  refine gm_aload_n dX11_takesAction_0 rfl ?_
  refine gm_getI (own := RX11) (x := (S 0 52)) rfl dX11_takesAction_1 lfX11_301 sM_0 rfl rfl ?_
  refine gm_aload_n dX11_takesAction_4 rfl ?_
  refine gm_getI (own := RX11) (x := (S 0 51)) rfl dX11_takesAction_5 lfX11_298 sM_0 rfl rfl ?_
  refine gm_icmp_ge_t (tgt := 23) dX11_takesAction_8 (by decide) c1 ?_
  refine gm_iconst (v := (-1)) dX11_takesAction_23 (by decide) ?_
  exact K
/-- X11_takesAction 24 [28f 34f 40f 46f 52f] -> ret  -/
theorem PX11_takesAction_3 {s0 : Int32} {S : gm_Mem} (c1 : ¬ s0 = 100) (c2 : ¬ s0 = 120) (c3 : ¬ s0 = 117) (c4 : ¬ s0 = 116) (c5 : ¬ s0 = 115) : gm_run gM 3 YX11_takesAction 24 [some (.ref 0), none] [.int s0] S (some (.int 0)) S := by
  refine gm_istore_n (L' := [some (.ref 0), some (.int s0)]) dX11_takesAction_24 (by decide) rfl ?_
  refine gm_iload_n dX11_takesAction_25 rfl ?_
  refine gm_bipush (v := 100) dX11_takesAction_26 (by decide) ?_
  refine gm_icmp_eq_f dX11_takesAction_28 ⟨57, by decide⟩ c1 ?_
  refine gm_iload_n dX11_takesAction_31 rfl ?_
  refine gm_bipush (v := 120) dX11_takesAction_32 (by decide) ?_
  refine gm_icmp_eq_f dX11_takesAction_34 ⟨57, by decide⟩ c2 ?_
  refine gm_iload_n dX11_takesAction_37 rfl ?_
  refine gm_bipush (v := 117) dX11_takesAction_38 (by decide) ?_
  refine gm_icmp_eq_f dX11_takesAction_40 ⟨57, by decide⟩ c3 ?_
  refine gm_iload_n dX11_takesAction_43 rfl ?_
  refine gm_bipush (v := 116) dX11_takesAction_44 (by decide) ?_
  refine gm_icmp_eq_f dX11_takesAction_46 ⟨57, by decide⟩ c4 ?_
  refine gm_iload_n dX11_takesAction_49 rfl ?_
  refine gm_bipush (v := 115) dX11_takesAction_50 (by decide) ?_
  refine gm_icmp_eq_f dX11_takesAction_52 ⟨57, by decide⟩ c5 ?_
  refine gm_iconst (v := 0) dX11_takesAction_55 (by decide) ?_
  exact gm_zret dX11_takesAction_56 rfl gm_fit_0
/-- X11_takesAction 24 [28f 34f 40f 46f 52t] -> cut 57 -/
theorem PX11_takesAction_4 {s0 : Int32} {S : gm_Mem} {r : Option Value} {S2 : gm_Mem} (c1 : ¬ s0 = 100) (c2 : ¬ s0 = 120) (c3 : ¬ s0 = 117) (c4 : ¬ s0 = 116) (c5 : s0 = 115) (K : gm_run gM 3 YX11_takesAction 57 [some (.ref 0), some (.int s0)] [] S r S2) : gm_run gM 3 YX11_takesAction 24 [some (.ref 0), none] [.int s0] S r S2 := by
  refine gm_istore_n (L' := [some (.ref 0), some (.int s0)]) dX11_takesAction_24 (by decide) rfl ?_
  refine gm_iload_n dX11_takesAction_25 rfl ?_
  refine gm_bipush (v := 100) dX11_takesAction_26 (by decide) ?_
  refine gm_icmp_eq_f dX11_takesAction_28 ⟨57, by decide⟩ c1 ?_
  refine gm_iload_n dX11_takesAction_31 rfl ?_
  refine gm_bipush (v := 120) dX11_takesAction_32 (by decide) ?_
  refine gm_icmp_eq_f dX11_takesAction_34 ⟨57, by decide⟩ c2 ?_
  refine gm_iload_n dX11_takesAction_37 rfl ?_
  refine gm_bipush (v := 117) dX11_takesAction_38 (by decide) ?_
  refine gm_icmp_eq_f dX11_takesAction_40 ⟨57, by decide⟩ c3 ?_
  refine gm_iload_n dX11_takesAction_43 rfl ?_
  refine gm_bipush (v := 116) dX11_takesAction_44 (by decide) ?_
  refine gm_icmp_eq_f dX11_takesAction_46 ⟨57, by decide⟩ c4 ?_
  refine gm_iload_n dX11_takesAction_49 rfl ?_
  refine gm_bipush (v := 115) dX11_takesAction_50 (by decide) ?_
  refine gm_icmp_eq_t (tgt := 57) dX11_takesAction_52 (by decide) c5 ?_
  exact K
/-- X11_takesAction 24 [28f 34f 40f 46t] -> cut 57 -/
theorem PX11_takesAction_5 {s0 : Int32} {S : gm_Mem} {r : Option Value} {S2 : gm_Mem} (c1 : ¬ s0 = 100) (c2 : ¬ s0 = 120) (c3 : ¬ s0 = 117) (c4 : s0 = 116) (K : gm_run gM 3 YX11_takesAction 57 [some (.ref 0), some (.int s0)] [] S r S2) : gm_run gM 3 YX11_takesAction 24 [some (.ref 0), none] [.int s0] S r S2 := by
  refine gm_istore_n (L' := [some (.ref 0), some (.int s0)]) dX11_takesAction_24 (by decide) rfl ?_
  refine gm_iload_n dX11_takesAction_25 rfl ?_
  refine gm_bipush (v := 100) dX11_takesAction_26 (by decide) ?_
  refine gm_icmp_eq_f dX11_takesAction_28 ⟨57, by decide⟩ c1 ?_
  refine gm_iload_n dX11_takesAction_31 rfl ?_
  refine gm_bipush (v := 120) dX11_takesAction_32 (by decide) ?_
  refine gm_icmp_eq_f dX11_takesAction_34 ⟨57, by decide⟩ c2 ?_
  refine gm_iload_n dX11_takesAction_37 rfl ?_
  refine gm_bipush (v := 117) dX11_takesAction_38 (by decide) ?_
  refine gm_icmp_eq_f dX11_takesAction_40 ⟨57, by decide⟩ c3 ?_
  refine gm_iload_n dX11_takesAction_43 rfl ?_
  refine gm_bipush (v := 116) dX11_takesAction_44 (by decide) ?_
  refine gm_icmp_eq_t (tgt := 57) dX11_takesAction_46 (by decide) c4 ?_
  exact K
/-- X11_takesAction 24 [28f 34f 40t] -> cut 57 -/
theorem PX11_takesAction_6 {s0 : Int32} {S : gm_Mem} {r : Option Value} {S2 : gm_Mem} (c1 : ¬ s0 = 100) (c2 : ¬ s0 = 120) (c3 : s0 = 117) (K : gm_run gM 3 YX11_takesAction 57 [some (.ref 0), some (.int s0)] [] S r S2) : gm_run gM 3 YX11_takesAction 24 [some (.ref 0), none] [.int s0] S r S2 := by
  refine gm_istore_n (L' := [some (.ref 0), some (.int s0)]) dX11_takesAction_24 (by decide) rfl ?_
  refine gm_iload_n dX11_takesAction_25 rfl ?_
  refine gm_bipush (v := 100) dX11_takesAction_26 (by decide) ?_
  refine gm_icmp_eq_f dX11_takesAction_28 ⟨57, by decide⟩ c1 ?_
  refine gm_iload_n dX11_takesAction_31 rfl ?_
  refine gm_bipush (v := 120) dX11_takesAction_32 (by decide) ?_
  refine gm_icmp_eq_f dX11_takesAction_34 ⟨57, by decide⟩ c2 ?_
  refine gm_iload_n dX11_takesAction_37 rfl ?_
  refine gm_bipush (v := 117) dX11_takesAction_38 (by decide) ?_
  refine gm_icmp_eq_t (tgt := 57) dX11_takesAction_40 (by decide) c3 ?_
  exact K
/-- X11_takesAction 24 [28f 34t] -> cut 57 -/
theorem PX11_takesAction_7 {s0 : Int32} {S : gm_Mem} {r : Option Value} {S2 : gm_Mem} (c1 : ¬ s0 = 100) (c2 : s0 = 120) (K : gm_run gM 3 YX11_takesAction 57 [some (.ref 0), some (.int s0)] [] S r S2) : gm_run gM 3 YX11_takesAction 24 [some (.ref 0), none] [.int s0] S r S2 := by
  refine gm_istore_n (L' := [some (.ref 0), some (.int s0)]) dX11_takesAction_24 (by decide) rfl ?_
  refine gm_iload_n dX11_takesAction_25 rfl ?_
  refine gm_bipush (v := 100) dX11_takesAction_26 (by decide) ?_
  refine gm_icmp_eq_f dX11_takesAction_28 ⟨57, by decide⟩ c1 ?_
  refine gm_iload_n dX11_takesAction_31 rfl ?_
  refine gm_bipush (v := 120) dX11_takesAction_32 (by decide) ?_
  refine gm_icmp_eq_t (tgt := 57) dX11_takesAction_34 (by decide) c2 ?_
  exact K
/-- X11_takesAction 24 [28t] -> cut 57 -/
theorem PX11_takesAction_8 {s0 : Int32} {S : gm_Mem} {r : Option Value} {S2 : gm_Mem} (c1 : s0 = 100) (K : gm_run gM 3 YX11_takesAction 57 [some (.ref 0), some (.int s0)] [] S r S2) : gm_run gM 3 YX11_takesAction 24 [some (.ref 0), none] [.int s0] S r S2 := by
  refine gm_istore_n (L' := [some (.ref 0), some (.int s0)]) dX11_takesAction_24 (by decide) rfl ?_
  refine gm_iload_n dX11_takesAction_25 rfl ?_
  refine gm_bipush (v := 100) dX11_takesAction_26 (by decide) ?_
  refine gm_icmp_eq_t (tgt := 57) dX11_takesAction_28 (by decide) c1 ?_
  exact K
/-- X11_takesAction 57 [90f 101f 120f] -> cut 123 -/
theorem PX11_takesAction_9 {x1 : Int32} {S : gm_Mem} {j1 : Nat} {j4 : Nat} {r5 : Int32} {r : Option Value} {S2 : gm_Mem} (ij1 : gm_ix (S 0 53) j1 20) (c2 : x1 = 115) (c3 : ¬ ((S 0 52) + 1) = (S 0 51)) (ij4 : gm_ix ((S 0 52) + 1) j4 40) (h6 : gm_run gM 0 YX11_isBetween 0 [some (.int (S 33 j4)), some (.int 48), some (.int 49)] [] (gm_u (gm_u (gm_u S 0 52 ((S 0 52) + 1)) 34 j1 x1) 35 j1 1) (some (.int r5)) (gm_u (gm_u (gm_u S 0 52 ((S 0 52) + 1)) 34 j1 x1) 35 j1 1)) (c7 : r5 = 0) (K : gm_run gM 3 YX11_takesAction 123 [some (.ref 0), some (.int x1)] [] (gm_u (gm_u (gm_u S 0 52 ((S 0 52) + 1)) 34 j1 x1) 35 j1 1) r S2) : gm_run gM 3 YX11_takesAction 57 [some (.ref 0), some (.int x1)] [] S r S2 := by
  refine gm_aload_n dX11_takesAction_57 rfl ?_
  refine gm_dup dX11_takesAction_58 ?_
  refine gm_getI (own := RX11) (x := (S 0 52)) rfl dX11_takesAction_59 lfX11_301 sM_0 rfl rfl ?_
  refine gm_iconst (v := 1) dX11_takesAction_62 (by decide) ?_
  refine gm_iadd dX11_takesAction_63 rfl ?_
  refine gm_put (own := RX11) rfl dX11_takesAction_64 lfX11_301 sM_0 rfl (gm_fit_int _) ?_
  refine gm_aload_n dX11_takesAction_67 rfl ?_
  refine gm_getR (own := RX11) (q := 34) rfl dX11_takesAction_68 lfX11_125 sM_0 rfl ?_
  refine gm_aload_n dX11_takesAction_71 rfl ?_
  refine gm_getI (own := RX11) (x := (S 0 53)) rfl dX11_takesAction_72 lfX11_307 sM_0 rfl (gm_rk (by decide)) ?_
  refine gm_iload_n dX11_takesAction_75 rfl ?_
  refine gm_iast (j := j1) dX11_takesAction_76 sM_34 ij1 ?_
  refine gm_aload_n dX11_takesAction_77 rfl ?_
  refine gm_getR (own := RX11) (q := 35) rfl dX11_takesAction_78 lfX11_128 sM_0 rfl ?_
  refine gm_aload_n dX11_takesAction_81 rfl ?_
  refine gm_getI (own := RX11) (x := (S 0 53)) rfl dX11_takesAction_82 lfX11_307 sM_0 rfl ((gm_rp (by omega)).trans (gm_rk (by decide))) ?_
  refine gm_iconst (v := 1) dX11_takesAction_85 (by decide) ?_
  refine gm_iast (j := j1) dX11_takesAction_86 sM_35 ij1 ?_
  refine gm_iload_n dX11_takesAction_87 rfl ?_
  refine gm_bipush (v := 115) dX11_takesAction_88 (by decide) ?_
  refine gm_icmp_ne_f dX11_takesAction_90 ⟨156, by decide⟩ c2 ?_
  refine gm_aload_n dX11_takesAction_93 rfl ?_
  refine gm_getI (own := RX11) (x := ((S 0 52) + 1)) rfl dX11_takesAction_94 lfX11_301 sM_0 rfl ((gm_rp (by omega)).trans ((gm_rp (by omega)).trans (gm_rS _ _ _ _))) ?_
  refine gm_aload_n dX11_takesAction_97 rfl ?_
  refine gm_getI (own := RX11) (x := (S 0 51)) rfl dX11_takesAction_98 lfX11_298 sM_0 rfl ((gm_rp (by omega)).trans ((gm_rp (by omega)).trans (gm_rk (by decide)))) ?_
  refine gm_icmp_eq_f dX11_takesAction_101 ⟨123, by decide⟩ c3 ?_
  refine gm_aload_n dX11_takesAction_104 rfl ?_
  refine gm_getR (own := RX11) (q := 33) rfl dX11_takesAction_105 lfX11_122 sM_0 rfl ?_
  refine gm_aload_n dX11_takesAction_108 rfl ?_
  refine gm_getI (own := RX11) (x := ((S 0 52) + 1)) rfl dX11_takesAction_109 lfX11_301 sM_0 rfl ((gm_rp (by omega)).trans ((gm_rp (by omega)).trans (gm_rS _ _ _ _))) ?_
  refine gm_iald (j := j4) (x := (S 33 j4)) dX11_takesAction_112 sM_33 ij4 ((gm_rp (by omega)).trans ((gm_rp (by omega)).trans (gm_rp (by omega)))) ?_
  refine gm_bipush (v := 48) dX11_takesAction_113 (by decide) ?_
  refine gm_bipush (v := 49) dX11_takesAction_115 (by decide) ?_
  refine gm_callS (r1 := (some (.int r5))) (own := RX11) rfl dX11_takesAction_117 llX11_137 msX11_isBetween [.int (S 33 j4), .int 48, .int 49] [] rfl rfl (Nat.le_of_ble_eq_true rfl) (by decide) rfl h6 rfl ?_
  refine gm_if_ne_f dX11_takesAction_120 ⟨125, by decide⟩ c7 ?_
  exact K
/-- X11_takesAction 57 [90f 101f 120t] -> cut 156 -/
theorem PX11_takesAction_10 {x1 : Int32} {S : gm_Mem} {j1 : Nat} {j4 : Nat} {r5 : Int32} {r : Option Value} {S2 : gm_Mem} (ij1 : gm_ix (S 0 53) j1 20) (c2 : x1 = 115) (c3 : ¬ ((S 0 52) + 1) = (S 0 51)) (ij4 : gm_ix ((S 0 52) + 1) j4 40) (h6 : gm_run gM 0 YX11_isBetween 0 [some (.int (S 33 j4)), some (.int 48), some (.int 49)] [] (gm_u (gm_u (gm_u S 0 52 ((S 0 52) + 1)) 34 j1 x1) 35 j1 1) (some (.int r5)) (gm_u (gm_u (gm_u S 0 52 ((S 0 52) + 1)) 34 j1 x1) 35 j1 1)) (c7 : ¬ r5 = 0) (K : gm_run gM 3 YX11_takesAction 156 [some (.ref 0), some (.int x1)] [] (gm_u (gm_u (gm_u (gm_u (gm_u S 0 52 ((S 0 52) + 1)) 34 j1 x1) 35 j1 1) 36 j1 ((S 33 j4) - 48)) 0 52 (((S 0 52) + 1) + 1)) r S2) : gm_run gM 3 YX11_takesAction 57 [some (.ref 0), some (.int x1)] [] S r S2 := by
  refine gm_aload_n dX11_takesAction_57 rfl ?_
  refine gm_dup dX11_takesAction_58 ?_
  refine gm_getI (own := RX11) (x := (S 0 52)) rfl dX11_takesAction_59 lfX11_301 sM_0 rfl rfl ?_
  refine gm_iconst (v := 1) dX11_takesAction_62 (by decide) ?_
  refine gm_iadd dX11_takesAction_63 rfl ?_
  refine gm_put (own := RX11) rfl dX11_takesAction_64 lfX11_301 sM_0 rfl (gm_fit_int _) ?_
  refine gm_aload_n dX11_takesAction_67 rfl ?_
  refine gm_getR (own := RX11) (q := 34) rfl dX11_takesAction_68 lfX11_125 sM_0 rfl ?_
  refine gm_aload_n dX11_takesAction_71 rfl ?_
  refine gm_getI (own := RX11) (x := (S 0 53)) rfl dX11_takesAction_72 lfX11_307 sM_0 rfl (gm_rk (by decide)) ?_
  refine gm_iload_n dX11_takesAction_75 rfl ?_
  refine gm_iast (j := j1) dX11_takesAction_76 sM_34 ij1 ?_
  refine gm_aload_n dX11_takesAction_77 rfl ?_
  refine gm_getR (own := RX11) (q := 35) rfl dX11_takesAction_78 lfX11_128 sM_0 rfl ?_
  refine gm_aload_n dX11_takesAction_81 rfl ?_
  refine gm_getI (own := RX11) (x := (S 0 53)) rfl dX11_takesAction_82 lfX11_307 sM_0 rfl ((gm_rp (by omega)).trans (gm_rk (by decide))) ?_
  refine gm_iconst (v := 1) dX11_takesAction_85 (by decide) ?_
  refine gm_iast (j := j1) dX11_takesAction_86 sM_35 ij1 ?_
  refine gm_iload_n dX11_takesAction_87 rfl ?_
  refine gm_bipush (v := 115) dX11_takesAction_88 (by decide) ?_
  refine gm_icmp_ne_f dX11_takesAction_90 ⟨156, by decide⟩ c2 ?_
  refine gm_aload_n dX11_takesAction_93 rfl ?_
  refine gm_getI (own := RX11) (x := ((S 0 52) + 1)) rfl dX11_takesAction_94 lfX11_301 sM_0 rfl ((gm_rp (by omega)).trans ((gm_rp (by omega)).trans (gm_rS _ _ _ _))) ?_
  refine gm_aload_n dX11_takesAction_97 rfl ?_
  refine gm_getI (own := RX11) (x := (S 0 51)) rfl dX11_takesAction_98 lfX11_298 sM_0 rfl ((gm_rp (by omega)).trans ((gm_rp (by omega)).trans (gm_rk (by decide)))) ?_
  refine gm_icmp_eq_f dX11_takesAction_101 ⟨123, by decide⟩ c3 ?_
  refine gm_aload_n dX11_takesAction_104 rfl ?_
  refine gm_getR (own := RX11) (q := 33) rfl dX11_takesAction_105 lfX11_122 sM_0 rfl ?_
  refine gm_aload_n dX11_takesAction_108 rfl ?_
  refine gm_getI (own := RX11) (x := ((S 0 52) + 1)) rfl dX11_takesAction_109 lfX11_301 sM_0 rfl ((gm_rp (by omega)).trans ((gm_rp (by omega)).trans (gm_rS _ _ _ _))) ?_
  refine gm_iald (j := j4) (x := (S 33 j4)) dX11_takesAction_112 sM_33 ij4 ((gm_rp (by omega)).trans ((gm_rp (by omega)).trans (gm_rp (by omega)))) ?_
  refine gm_bipush (v := 48) dX11_takesAction_113 (by decide) ?_
  refine gm_bipush (v := 49) dX11_takesAction_115 (by decide) ?_
  refine gm_callS (r1 := (some (.int r5))) (own := RX11) rfl dX11_takesAction_117 llX11_137 msX11_isBetween [.int (S 33 j4), .int 48, .int 49] [] rfl rfl (Nat.le_of_ble_eq_true rfl) (by decide) rfl h6 rfl ?_
  refine gm_if_ne_t (tgt := 125) dX11_takesAction_120 (by decide) c7 ?_
  refine gm_aload_n dX11_takesAction_125 rfl ?_
  refine gm_getR (own := RX11) (q := 36) rfl dX11_takesAction_126 lfX11_131 sM_0 rfl ?_
  refine gm_aload_n dX11_takesAction_129 rfl ?_
  refine gm_getI (own := RX11) (x := (S 0 53)) rfl dX11_takesAction_130 lfX11_307 sM_0 rfl ((gm_rp (by omega)).trans ((gm_rp (by omega)).trans (gm_rk (by decide)))) ?_
  refine gm_aload_n dX11_takesAction_133 rfl ?_
  refine gm_getR (own := RX11) (q := 33) rfl dX11_takesAction_134 lfX11_122 sM_0 rfl ?_
  refine gm_aload_n dX11_takesAction_137 rfl ?_
  refine gm_getI (own := RX11) (x := ((S 0 52) + 1)) rfl dX11_takesAction_138 lfX11_301 sM_0 rfl ((gm_rp (by omega)).trans ((gm_rp (by omega)).trans (gm_rS _ _ _ _))) ?_
  refine gm_iald (j := j4) (x := (S 33 j4)) dX11_takesAction_141 sM_33 ij4 ((gm_rp (by omega)).trans ((gm_rp (by omega)).trans (gm_rp (by omega)))) ?_
  refine gm_bipush (v := 48) dX11_takesAction_142 (by decide) ?_
  refine gm_isub dX11_takesAction_144 rfl ?_
  refine gm_iast (j := j1) dX11_takesAction_145 sM_36 ij1 ?_
  refine gm_aload_n dX11_takesAction_146 rfl ?_
  refine gm_dup dX11_takesAction_147 ?_
  refine gm_getI (own := RX11) (x := ((S 0 52) + 1)) rfl dX11_takesAction_148 lfX11_301 sM_0 rfl ((gm_rp (by omega)).trans ((gm_rp (by omega)).trans ((gm_rp (by omega)).trans (gm_rS _ _ _ _)))) ?_
  refine gm_iconst (v := 1) dX11_takesAction_151 (by decide) ?_
  refine gm_iadd dX11_takesAction_152 rfl ?_
  refine gm_put (own := RX11) rfl dX11_takesAction_153 lfX11_301 sM_0 rfl (gm_fit_int _) ?_
  exact K
/-- X11_takesAction 57 [90f 101t] -> cut 123 -/
theorem PX11_takesAction_11 {x1 : Int32} {S : gm_Mem} {j1 : Nat} {r : Option Value} {S2 : gm_Mem} (ij1 : gm_ix (S 0 53) j1 20) (c2 : x1 = 115) (c3 : ((S 0 52) + 1) = (S 0 51)) (K : gm_run gM 3 YX11_takesAction 123 [some (.ref 0), some (.int x1)] [] (gm_u (gm_u (gm_u S 0 52 ((S 0 52) + 1)) 34 j1 x1) 35 j1 1) r S2) : gm_run gM 3 YX11_takesAction 57 [some (.ref 0), some (.int x1)] [] S r S2 := by
  refine gm_aload_n dX11_takesAction_57 rfl ?_
  refine gm_dup dX11_takesAction_58 ?_
  refine gm_getI (own := RX11) (x := (S 0 52)) rfl dX11_takesAction_59 lfX11_301 sM_0 rfl rfl ?_
  refine gm_iconst (v := 1) dX11_takesAction_62 (by decide) ?_
  refine gm_iadd dX11_takesAction_63 rfl ?_
  refine gm_put (own := RX11) rfl dX11_takesAction_64 lfX11_301 sM_0 rfl (gm_fit_int _) ?_
  refine gm_aload_n dX11_takesAction_67 rfl ?_
  refine gm_getR (own := RX11) (q := 34) rfl dX11_takesAction_68 lfX11_125 sM_0 rfl ?_
  refine gm_aload_n dX11_takesAction_71 rfl ?_
  refine gm_getI (own := RX11) (x := (S 0 53)) rfl dX11_takesAction_72 lfX11_307 sM_0 rfl (gm_rk (by decide)) ?_
  refine gm_iload_n dX11_takesAction_75 rfl ?_
  refine gm_iast (j := j1) dX11_takesAction_76 sM_34 ij1 ?_
  refine gm_aload_n dX11_takesAction_77 rfl ?_
  refine gm_getR (own := RX11) (q := 35) rfl dX11_takesAction_78 lfX11_128 sM_0 rfl ?_
  refine gm_aload_n dX11_takesAction_81 rfl ?_
  refine gm_getI (own := RX11) (x := (S 0 53)) rfl dX11_takesAction_82 lfX11_307 sM_0 rfl ((gm_rp (by omega)).trans (gm_rk (by decide))) ?_
  refine gm_iconst (v := 1) dX11_takesAction_85 (by decide) ?_
  refine gm_iast (j := j1) dX11_takesAction_86 sM_35 ij1 ?_
  refine gm_iload_n dX11_takesAction_87 rfl ?_
  refine gm_bipush (v := 115) dX11_takesAction_88 (by decide) ?_
  refine gm_icmp_ne_f dX11_takesAction_90 ⟨156, by decide⟩ c2 ?_
  refine gm_aload_n dX11_takesAction_93 rfl ?_
  refine gm_getI (own := RX11) (x := ((S 0 52) + 1)) rfl dX11_takesAction_94 lfX11_301 sM_0 rfl ((gm_rp (by omega)).trans ((gm_rp (by omega)).trans (gm_rS _ _ _ _))) ?_
  refine gm_aload_n dX11_takesAction_97 rfl ?_
  refine gm_getI (own := RX11) (x := (S 0 51)) rfl dX11_takesAction_98 lfX11_298 sM_0 rfl ((gm_rp (by omega)).trans ((gm_rp (by omega)).trans (gm_rk (by decide)))) ?_
  refine gm_icmp_eq_t (tgt := 123) dX11_takesAction_101 (by decide) c3 ?_
  exact K
/-- X11_takesAction 57 [90t] -> cut 156 -/
theorem PX11_takesAction_12 {x1 : Int32} {S : gm_Mem} {j1 : Nat} {r : Option Value} {S2 : gm_Mem} (ij1 : gm_ix (S 0 53) j1 20) (c2 : ¬ x1 = 115) (K : gm_run gM 3 YX11_takesAction 156 [some (.ref 0), some (.int x1)] [] (gm_u (gm_u (gm_u S 0 52 ((S 0 52) + 1)) 34 j1 x1) 35 j1 1) r S2) : gm_run gM 3 YX11_takesAction 57 [some (.ref 0), some (.int x1)] [] S r S2 := by
  refine gm_aload_n dX11_takesAction_57 rfl ?_
  refine gm_dup dX11_takesAction_58 ?_
  refine gm_getI (own := RX11) (x := (S 0 52)) rfl dX11_takesAction_59 lfX11_301 sM_0 rfl rfl ?_
  refine gm_iconst (v := 1) dX11_takesAction_62 (by decide) ?_
  refine gm_iadd dX11_takesAction_63 rfl ?_
  refine gm_put (own := RX11) rfl dX11_takesAction_64 lfX11_301 sM_0 rfl (gm_fit_int _) ?_
  refine gm_aload_n dX11_takesAction_67 rfl ?_
  refine gm_getR (own := RX11) (q := 34) rfl dX11_takesAction_68 lfX11_125 sM_0 rfl ?_
  refine gm_aload_n dX11_takesAction_71 rfl ?_
  refine gm_getI (own := RX11) (x := (S 0 53)) rfl dX11_takesAction_72 lfX11_307 sM_0 rfl (gm_rk (by decide)) ?_
  refine gm_iload_n dX11_takesAction_75 rfl ?_
  refine gm_iast (j := j1) dX11_takesAction_76 sM_34 ij1 ?_
  refine gm_aload_n dX11_takesAction_77 rfl ?_
  refine gm_getR (own := RX11) (q := 35) rfl dX11_takesAction_78 lfX11_128 sM_0 rfl ?_
  refine gm_aload_n dX11_takesAction_81 rfl ?_
  refine gm_getI (own := RX11) (x := (S 0 53)) rfl dX11_takesAction_82 lfX11_307 sM_0 rfl ((gm_rp (by omega)).trans (gm_rk (by decide))) ?_
  refine gm_iconst (v := 1) dX11_takesAction_85 (by decide) ?_
  refine gm_iast (j := j1) dX11_takesAction_86 sM_35 ij1 ?_
  refine gm_iload_n dX11_takesAction_87 rfl ?_
  refine gm_bipush (v := 115) dX11_takesAction_88 (by decide) ?_
  refine gm_icmp_ne_t (tgt := 156) dX11_takesAction_90 (by decide) c2 ?_
  exact K
/-- X11_takesAction 123 [] -> ret  -/
theorem PX11_takesAction_13 {x1 : Int32} {S : gm_Mem}  : gm_run gM 3 YX11_takesAction 123 [some (.ref 0), some (.int x1)] [] S (some (.int 0)) S := by
  refine gm_iconst (v := 0) dX11_takesAction_123 (by decide) ?_
  exact gm_zret dX11_takesAction_124 rfl gm_fit_0
/-- X11_takesAction 156 [159f 166f] -> cut 169 -/
theorem PX11_takesAction_14 {x1 : Int32} {S : gm_Mem} {r2 : Int32} {r : Option Value} {S2 : gm_Mem} (c1 : x1 = 116) (h3 : gm_run gM 1 YX11_isDigit 0 [some (.ref 0)] [] S (some (.int r2)) S) (c4 : ¬ r2 = 0) (K : gm_run gM 3 YX11_takesAction 169 [some (.ref 0), some (.int x1)] [] S r S2) : gm_run gM 3 YX11_takesAction 156 [some (.ref 0), some (.int x1)] [] S r S2 := by
  refine gm_iload_n dX11_takesAction_156 rfl ?_
  refine gm_bipush (v := 116) dX11_takesAction_157 (by decide) ?_
  refine gm_icmp_ne_f dX11_takesAction_159 ⟨169, by decide⟩ c1 ?_
  refine gm_aload_n dX11_takesAction_162 rfl ?_
  refine gm_callV (r1 := (some (.int r2))) (own := RX11) rfl dX11_takesAction_163 llX11_304 mvX11_isDigit sM_0 rfl [] [] rfl rfl (Nat.le_of_ble_eq_true rfl) (by decide) rfl h3 rfl ?_
  refine gm_if_eq_f dX11_takesAction_166 ⟨178, by decide⟩ c4 ?_
  exact K
/-- X11_takesAction 156 [159f 166t] -> cut 178 -/
theorem PX11_takesAction_15 {x1 : Int32} {S : gm_Mem} {r2 : Int32} {r : Option Value} {S2 : gm_Mem} (c1 : x1 = 116) (h3 : gm_run gM 1 YX11_isDigit 0 [some (.ref 0)] [] S (some (.int r2)) S) (c4 : r2 = 0) (K : gm_run gM 3 YX11_takesAction 178 [some (.ref 0), some (.int x1)] [] S r S2) : gm_run gM 3 YX11_takesAction 156 [some (.ref 0), some (.int x1)] [] S r S2 := by
  refine gm_iload_n dX11_takesAction_156 rfl ?_
  refine gm_bipush (v := 116) dX11_takesAction_157 (by decide) ?_
  refine gm_icmp_ne_f dX11_takesAction_159 ⟨169, by decide⟩ c1 ?_
  refine gm_aload_n dX11_takesAction_162 rfl ?_
  refine gm_callV (r1 := (some (.int r2))) (own := RX11) rfl dX11_takesAction_163 llX11_304 mvX11_isDigit sM_0 rfl [] [] rfl rfl (Nat.le_of_ble_eq_true rfl) (by decide) rfl h3 rfl ?_
  refine gm_if_eq_t (tgt := 178) dX11_takesAction_166 (by decide) c4 ?_
  exact K
/-- X11_takesAction 156 [159t] -> cut 169 -/
theorem PX11_takesAction_16 {x1 : Int32} {S : gm_Mem} {r : Option Value} {S2 : gm_Mem} (c1 : ¬ x1 = 116) (K : gm_run gM 3 YX11_takesAction 169 [some (.ref 0), some (.int x1)] [] S r S2) : gm_run gM 3 YX11_takesAction 156 [some (.ref 0), some (.int x1)] [] S r S2 := by
  refine gm_iload_n dX11_takesAction_156 rfl ?_
  refine gm_bipush (v := 116) dX11_takesAction_157 (by decide) ?_
  refine gm_icmp_ne_t (tgt := 169) dX11_takesAction_159 (by decide) c1 ?_
  exact K
/-- X11_takesAction 169 [173f] -> ret  -/
theorem PX11_takesAction_17 {x1 : Int32} {S : gm_Mem} {T1 : gm_Mem} {r1 : Int32} (h2 : gm_run gM 2 YX11_takesNumber 0 [some (.ref 0)] [] S (some (.int r1)) T1) (c3 : r1 = 0) : gm_run gM 3 YX11_takesAction 169 [some (.ref 0), some (.int x1)] [] S (some (.int 0)) T1 := by
  refine gm_aload_n dX11_takesAction_169 rfl ?_
  refine gm_callV (r1 := (some (.int r1))) (own := RX11) rfl dX11_takesAction_170 llX11_310 mvX11_takesNumber sM_0 rfl [] [] rfl rfl (Nat.le_of_ble_eq_true rfl) (by decide) rfl h2 rfl ?_
  refine gm_if_ne_f dX11_takesAction_173 ⟨178, by decide⟩ c3 ?_
  refine gm_iconst (v := 0) dX11_takesAction_176 (by decide) ?_
  exact gm_zret dX11_takesAction_177 rfl gm_fit_0
/-- X11_takesAction 169 [173t] -> cut 178 -/
theorem PX11_takesAction_18 {x1 : Int32} {S : gm_Mem} {T1 : gm_Mem} {r1 : Int32} {r : Option Value} {S2 : gm_Mem} (h2 : gm_run gM 2 YX11_takesNumber 0 [some (.ref 0)] [] S (some (.int r1)) T1) (c3 : ¬ r1 = 0) (K : gm_run gM 3 YX11_takesAction 178 [some (.ref 0), some (.int x1)] [] T1 r S2) : gm_run gM 3 YX11_takesAction 169 [some (.ref 0), some (.int x1)] [] S r S2 := by
  refine gm_aload_n dX11_takesAction_169 rfl ?_
  refine gm_callV (r1 := (some (.int r1))) (own := RX11) rfl dX11_takesAction_170 llX11_310 mvX11_takesNumber sM_0 rfl [] [] rfl rfl (Nat.le_of_ble_eq_true rfl) (by decide) rfl h2 rfl ?_
  refine gm_if_ne_t (tgt := 178) dX11_takesAction_173 (by decide) c3 ?_
  exact K
/-- X11_takesAction 178 [] -> ret  -/
theorem PX11_takesAction_19 {x1 : Int32} {S : gm_Mem}  : gm_run gM 3 YX11_takesAction 178 [some (.ref 0), some (.int x1)] [] S (some (.int 1)) (gm_u S 0 53 ((S 0 53) + 1)) := by
  refine gm_aload_n dX11_takesAction_178 rfl ?_
  refine gm_dup dX11_takesAction_179 ?_
  refine gm_getI (own := RX11) (x := (S 0 53)) rfl dX11_takesAction_180 lfX11_307 sM_0 rfl rfl ?_
  refine gm_iconst (v := 1) dX11_takesAction_183 (by decide) ?_
  refine gm_iadd dX11_takesAction_184 rfl ?_
  refine gm_put (own := RX11) rfl dX11_takesAction_185 lfX11_307 sM_0 rfl (gm_fit_int _) ?_
  refine gm_iconst (v := 1) dX11_takesAction_188 (by decide) ?_
  exact gm_zret dX11_takesAction_189 rfl gm_fit_1
/-- X11_takesScript 0 [] -> cut 10 -/
theorem PX11_takesScript_1 {S : gm_Mem} {r : Option Value} {S2 : gm_Mem}  (K : gm_run gM 4 YX11_takesScript 10 [some (.ref 0)] [] (gm_u (gm_u S 0 52 0) 0 53 0) r S2) : gm_run gM 4 YX11_takesScript 0 [some (.ref 0)] [] S r S2 := by
  refine gm_aload_n dX11_takesScript_0 rfl ?_
  refine gm_iconst (v := 0) dX11_takesScript_1 (by decide) ?_
  refine gm_put (own := RX11) rfl dX11_takesScript_2 lfX11_301 sM_0 rfl (gm_fit_int _) ?_
  refine gm_aload_n dX11_takesScript_5 rfl ?_
  refine gm_iconst (v := 0) dX11_takesScript_6 (by decide) ?_
  refine gm_put (own := RX11) rfl dX11_takesScript_7 lfX11_307 sM_0 rfl (gm_fit_int _) ?_
  exact K
/-- X11_takesScript 10 [14f 25f] -> ret  -/
theorem PX11_takesScript_2 {S : gm_Mem} {T1 : gm_Mem} {r1 : Int32} (h2 : gm_run gM 3 YX11_takesAction 0 [some (.ref 0), none] [] S (some (.int r1)) T1) (c3 : ¬ r1 = 0) (c4 : (T1 0 52) = (T1 0 51)) : gm_run gM 4 YX11_takesScript 10 [some (.ref 0)] [] S (some (.int 1)) T1 := by
  refine gm_aload_n dX11_takesScript_10 rfl ?_
  refine gm_callV (r1 := (some (.int r1))) (own := RX11) rfl dX11_takesScript_11 llX11_313 mvX11_takesAction sM_0 rfl [] [] rfl rfl (Nat.le_of_ble_eq_true rfl) (by decide) rfl h2 rfl ?_
  refine gm_if_eq_f dX11_takesScript_14 ⟨59, by decide⟩ c3 ?_
  refine gm_aload_n dX11_takesScript_17 rfl ?_
  refine gm_getI (own := RX11) (x := (T1 0 52)) rfl dX11_takesScript_18 lfX11_301 sM_0 rfl rfl ?_
  refine gm_aload_n dX11_takesScript_21 rfl ?_
  refine gm_getI (own := RX11) (x := (T1 0 51)) rfl dX11_takesScript_22 lfX11_298 sM_0 rfl rfl ?_
  refine gm_icmp_ne_f dX11_takesScript_25 ⟨30, by decide⟩ c4 ?_
  refine gm_iconst (v := 1) dX11_takesScript_28 (by decide) ?_
  exact gm_zret dX11_takesScript_29 rfl gm_fit_1
/-- X11_takesScript 10 [14f 25t 41f] -> ret  -/
theorem PX11_takesScript_3 {S : gm_Mem} {T1 : gm_Mem} {r1 : Int32} {j5 : Nat} (h2 : gm_run gM 3 YX11_takesAction 0 [some (.ref 0), none] [] S (some (.int r1)) T1) (c3 : ¬ r1 = 0) (c4 : ¬ (T1 0 52) = (T1 0 51)) (ij5 : gm_ix (T1 0 52) j5 40) (c6 : ¬ (T1 33 j5) = 59) : gm_run gM 4 YX11_takesScript 10 [some (.ref 0)] [] S (some (.int 0)) T1 := by
  refine gm_aload_n dX11_takesScript_10 rfl ?_
  refine gm_callV (r1 := (some (.int r1))) (own := RX11) rfl dX11_takesScript_11 llX11_313 mvX11_takesAction sM_0 rfl [] [] rfl rfl (Nat.le_of_ble_eq_true rfl) (by decide) rfl h2 rfl ?_
  refine gm_if_eq_f dX11_takesScript_14 ⟨59, by decide⟩ c3 ?_
  refine gm_aload_n dX11_takesScript_17 rfl ?_
  refine gm_getI (own := RX11) (x := (T1 0 52)) rfl dX11_takesScript_18 lfX11_301 sM_0 rfl rfl ?_
  refine gm_aload_n dX11_takesScript_21 rfl ?_
  refine gm_getI (own := RX11) (x := (T1 0 51)) rfl dX11_takesScript_22 lfX11_298 sM_0 rfl rfl ?_
  refine gm_icmp_ne_t (tgt := 30) dX11_takesScript_25 (by decide) c4 ?_
  refine gm_aload_n dX11_takesScript_30 rfl ?_
  refine gm_getR (own := RX11) (q := 33) rfl dX11_takesScript_31 lfX11_122 sM_0 rfl ?_
  refine gm_aload_n dX11_takesScript_34 rfl ?_
  refine gm_getI (own := RX11) (x := (T1 0 52)) rfl dX11_takesScript_35 lfX11_301 sM_0 rfl rfl ?_
  refine gm_iald (j := j5) (x := (T1 33 j5)) dX11_takesScript_38 sM_33 ij5 rfl ?_
  refine gm_bipush (v := 59) dX11_takesScript_39 (by decide) ?_
  refine gm_icmp_eq_f dX11_takesScript_41 ⟨46, by decide⟩ c6 ?_
  refine gm_iconst (v := 0) dX11_takesScript_44 (by decide) ?_
  exact gm_zret dX11_takesScript_45 rfl gm_fit_0
/-- X11_takesScript 10 [14f 25t 41t] -> cut 10 -/
theorem PX11_takesScript_4 {S : gm_Mem} {T1 : gm_Mem} {r1 : Int32} {j5 : Nat} {r : Option Value} {S2 : gm_Mem} (h2 : gm_run gM 3 YX11_takesAction 0 [some (.ref 0), none] [] S (some (.int r1)) T1) (c3 : ¬ r1 = 0) (c4 : ¬ (T1 0 52) = (T1 0 51)) (ij5 : gm_ix (T1 0 52) j5 40) (c6 : (T1 33 j5) = 59) (K : gm_run gM 4 YX11_takesScript 10 [some (.ref 0)] [] (gm_u T1 0 52 ((T1 0 52) + 1)) r S2) : gm_run gM 4 YX11_takesScript 10 [some (.ref 0)] [] S r S2 := by
  refine gm_aload_n dX11_takesScript_10 rfl ?_
  refine gm_callV (r1 := (some (.int r1))) (own := RX11) rfl dX11_takesScript_11 llX11_313 mvX11_takesAction sM_0 rfl [] [] rfl rfl (Nat.le_of_ble_eq_true rfl) (by decide) rfl h2 rfl ?_
  refine gm_if_eq_f dX11_takesScript_14 ⟨59, by decide⟩ c3 ?_
  refine gm_aload_n dX11_takesScript_17 rfl ?_
  refine gm_getI (own := RX11) (x := (T1 0 52)) rfl dX11_takesScript_18 lfX11_301 sM_0 rfl rfl ?_
  refine gm_aload_n dX11_takesScript_21 rfl ?_
  refine gm_getI (own := RX11) (x := (T1 0 51)) rfl dX11_takesScript_22 lfX11_298 sM_0 rfl rfl ?_
  refine gm_icmp_ne_t (tgt := 30) dX11_takesScript_25 (by decide) c4 ?_
  refine gm_aload_n dX11_takesScript_30 rfl ?_
  refine gm_getR (own := RX11) (q := 33) rfl dX11_takesScript_31 lfX11_122 sM_0 rfl ?_
  refine gm_aload_n dX11_takesScript_34 rfl ?_
  refine gm_getI (own := RX11) (x := (T1 0 52)) rfl dX11_takesScript_35 lfX11_301 sM_0 rfl rfl ?_
  refine gm_iald (j := j5) (x := (T1 33 j5)) dX11_takesScript_38 sM_33 ij5 rfl ?_
  refine gm_bipush (v := 59) dX11_takesScript_39 (by decide) ?_
  refine gm_icmp_eq_t (tgt := 46) dX11_takesScript_41 (by decide) c6 ?_
  refine gm_aload_n dX11_takesScript_46 rfl ?_
  refine gm_dup dX11_takesScript_47 ?_
  refine gm_getI (own := RX11) (x := (T1 0 52)) rfl dX11_takesScript_48 lfX11_301 sM_0 rfl rfl ?_
  refine gm_iconst (v := 1) dX11_takesScript_51 (by decide) ?_
  refine gm_iadd dX11_takesScript_52 rfl ?_
  refine gm_put (own := RX11) rfl dX11_takesScript_53 lfX11_301 sM_0 rfl (gm_fit_int _) ?_
  refine gm_goto (tgt := 10) dX11_takesScript_56 (by decide) ?_
  exact K
/-- X11_takesScript 10 [14t] -> ret  -/
theorem PX11_takesScript_5 {S : gm_Mem} {T1 : gm_Mem} {r1 : Int32} (h2 : gm_run gM 3 YX11_takesAction 0 [some (.ref 0), none] [] S (some (.int r1)) T1) (c3 : r1 = 0) : gm_run gM 4 YX11_takesScript 10 [some (.ref 0)] [] S (some (.int 0)) T1 := by
  refine gm_aload_n dX11_takesScript_10 rfl ?_
  refine gm_callV (r1 := (some (.int r1))) (own := RX11) rfl dX11_takesScript_11 llX11_313 mvX11_takesAction sM_0 rfl [] [] rfl rfl (Nat.le_of_ble_eq_true rfl) (by decide) rfl h2 rfl ?_
  refine gm_if_eq_t (tgt := 59) dX11_takesScript_14 (by decide) c3 ?_
  refine gm_iconst (v := 0) dX11_takesScript_59 (by decide) ?_
  exact gm_zret dX11_takesScript_60 rfl gm_fit_0
/-- X11_isError 0 [3f 9f 15f] -> ret  -/
theorem PX11_isError_1 {a1 : Int32} {S : gm_Mem} (c1 : ¬ a1 = (-1000000002)) (c2 : ¬ a1 = (-1000000003)) (c3 : a1 = (-1000000004)) : gm_run gM 0 YX11_isError 0 [some (.int a1)] [] S (some (.int 1)) S := by
  refine gm_iload_n dX11_isError_0 rfl ?_
  refine gm_ldc (own := RX11) rfl lcX11_141 dX11_isError_1 ?_
  refine gm_icmp_eq_f dX11_isError_3 ⟨18, by decide⟩ c1 ?_
  refine gm_iload_n dX11_isError_6 rfl ?_
  refine gm_ldc (own := RX11) rfl lcX11_197 dX11_isError_7 ?_
  refine gm_icmp_eq_f dX11_isError_9 ⟨18, by decide⟩ c2 ?_
  refine gm_iload_n dX11_isError_12 rfl ?_
  refine gm_ldc (own := RX11) rfl lcX11_196 dX11_isError_13 ?_
  refine gm_icmp_ne_f dX11_isError_15 ⟨22, by decide⟩ c3 ?_
  refine gm_iconst (v := 1) dX11_isError_18 (by decide) ?_
  refine gm_goto (tgt := 23) dX11_isError_19 (by decide) ?_
  exact gm_zret dX11_isError_23 rfl gm_fit_1
/-- X11_isError 0 [3f 9f 15t] -> ret  -/
theorem PX11_isError_2 {a1 : Int32} {S : gm_Mem} (c1 : ¬ a1 = (-1000000002)) (c2 : ¬ a1 = (-1000000003)) (c3 : ¬ a1 = (-1000000004)) : gm_run gM 0 YX11_isError 0 [some (.int a1)] [] S (some (.int 0)) S := by
  refine gm_iload_n dX11_isError_0 rfl ?_
  refine gm_ldc (own := RX11) rfl lcX11_141 dX11_isError_1 ?_
  refine gm_icmp_eq_f dX11_isError_3 ⟨18, by decide⟩ c1 ?_
  refine gm_iload_n dX11_isError_6 rfl ?_
  refine gm_ldc (own := RX11) rfl lcX11_197 dX11_isError_7 ?_
  refine gm_icmp_eq_f dX11_isError_9 ⟨18, by decide⟩ c2 ?_
  refine gm_iload_n dX11_isError_12 rfl ?_
  refine gm_ldc (own := RX11) rfl lcX11_196 dX11_isError_13 ?_
  refine gm_icmp_ne_t (tgt := 22) dX11_isError_15 (by decide) c3 ?_
  refine gm_iconst (v := 0) dX11_isError_22 (by decide) ?_
  exact gm_zret dX11_isError_23 rfl gm_fit_0
/-- X11_isError 0 [3f 9t] -> ret  -/
theorem PX11_isError_3 {a1 : Int32} {S : gm_Mem} (c1 : ¬ a1 = (-1000000002)) (c2 : a1 = (-1000000003)) : gm_run gM 0 YX11_isError 0 [some (.int a1)] [] S (some (.int 1)) S := by
  refine gm_iload_n dX11_isError_0 rfl ?_
  refine gm_ldc (own := RX11) rfl lcX11_141 dX11_isError_1 ?_
  refine gm_icmp_eq_f dX11_isError_3 ⟨18, by decide⟩ c1 ?_
  refine gm_iload_n dX11_isError_6 rfl ?_
  refine gm_ldc (own := RX11) rfl lcX11_197 dX11_isError_7 ?_
  refine gm_icmp_eq_t (tgt := 18) dX11_isError_9 (by decide) c2 ?_
  refine gm_iconst (v := 1) dX11_isError_18 (by decide) ?_
  refine gm_goto (tgt := 23) dX11_isError_19 (by decide) ?_
  exact gm_zret dX11_isError_23 rfl gm_fit_1
/-- X11_isError 0 [3t] -> ret  -/
theorem PX11_isError_4 {a1 : Int32} {S : gm_Mem} (c1 : a1 = (-1000000002)) : gm_run gM 0 YX11_isError 0 [some (.int a1)] [] S (some (.int 1)) S := by
  refine gm_iload_n dX11_isError_0 rfl ?_
  refine gm_ldc (own := RX11) rfl lcX11_141 dX11_isError_1 ?_
  refine gm_icmp_eq_t (tgt := 18) dX11_isError_3 (by decide) c1 ?_
  refine gm_iconst (v := 1) dX11_isError_18 (by decide) ?_
  refine gm_goto (tgt := 23) dX11_isError_19 (by decide) ?_
  exact gm_zret dX11_isError_23 rfl gm_fit_1
/-- X11_does 0 [6=100] -> ret  -/
theorem PX11_does_1 {a1 : Int32} {S : gm_Mem} {j1 : Nat} {T1 : gm_Mem} {r3 : Int32} (ij1 : gm_ix a1 j1 20) (c2 : (S 34 j1) = 100) (h4 : gm_run gM 5 YX11_deliver 0 [some (.ref 0), some (.int (S 35 j1)), none, none] [] S (some (.int r3)) T1) : gm_run gM 6 YX11_does 0 [some (.ref 0), some (.int a1)] [] S (some (.int r3)) T1 := by
  refine gm_aload_n dX11_does_0 rfl ?_
  refine gm_getR (own := RX11) (q := 34) rfl dX11_does_1 lfX11_125 sM_0 rfl ?_
  refine gm_iload_n dX11_does_4 rfl ?_
  refine gm_iald (j := j1) (x := (S 34 j1)) dX11_does_5 sM_34 ij1 rfl ?_
  refine gm_lookEq (v := 100) (off := 42) (tgt := 48) dX11_does_6 (by decide) c2 (by decide) (by decide) ?_
  refine gm_aload_n dX11_does_48 rfl ?_
  refine gm_aload_n dX11_does_49 rfl ?_
  refine gm_getR (own := RX11) (q := 35) rfl dX11_does_50 lfX11_128 sM_0 rfl ?_
  refine gm_iload_n dX11_does_53 rfl ?_
  refine gm_iald (j := j1) (x := (S 35 j1)) dX11_does_54 sM_35 ij1 rfl ?_
  refine gm_callV (r1 := (some (.int r3))) (own := RX11) rfl dX11_does_55 llX11_316 mvX11_deliver sM_0 rfl [.int (S 35 j1)] [] rfl rfl (Nat.le_of_ble_eq_true rfl) (by decide) rfl h4 rfl ?_
  exact gm_iret dX11_does_58 rfl
/-- X11_does 0 [6=115] -> ret  -/
theorem PX11_does_2 {a1 : Int32} {S : gm_Mem} {j1 : Nat} {T1 : gm_Mem} {r3 : Int32} (ij1 : gm_ix a1 j1 20) (c2 : (S 34 j1) = 115) (h4 : gm_run gM 5 YX11_send 0 [some (.ref 0), some (.int (S 36 j1)), some (.int (S 35 j1)), none] [] S (some (.int r3)) T1) : gm_run gM 6 YX11_does 0 [some (.ref 0), some (.int a1)] [] S (some (.int r3)) T1 := by
  refine gm_aload_n dX11_does_0 rfl ?_
  refine gm_getR (own := RX11) (q := 34) rfl dX11_does_1 lfX11_125 sM_0 rfl ?_
  refine gm_iload_n dX11_does_4 rfl ?_
  refine gm_iald (j := j1) (x := (S 34 j1)) dX11_does_5 sM_34 ij1 rfl ?_
  refine gm_lookEq (v := 115) (off := 75) (tgt := 81) dX11_does_6 (by decide) c2 (by decide) (by decide) ?_
  refine gm_aload_n dX11_does_81 rfl ?_
  refine gm_aload_n dX11_does_82 rfl ?_
  refine gm_getR (own := RX11) (q := 36) rfl dX11_does_83 lfX11_131 sM_0 rfl ?_
  refine gm_iload_n dX11_does_86 rfl ?_
  refine gm_iald (j := j1) (x := (S 36 j1)) dX11_does_87 sM_36 ij1 rfl ?_
  refine gm_aload_n dX11_does_88 rfl ?_
  refine gm_getR (own := RX11) (q := 35) rfl dX11_does_89 lfX11_128 sM_0 rfl ?_
  refine gm_iload_n dX11_does_92 rfl ?_
  refine gm_iald (j := j1) (x := (S 35 j1)) dX11_does_93 sM_35 ij1 rfl ?_
  refine gm_callV (r1 := (some (.int r3))) (own := RX11) rfl dX11_does_94 llX11_325 mvX11_send sM_0 rfl [.int (S 36 j1), .int (S 35 j1)] [] rfl rfl (Nat.le_of_ble_eq_true rfl) (by decide) rfl h4 rfl ?_
  exact gm_iret dX11_does_97 rfl
/-- X11_does 0 [6=117] -> ret  -/
theorem PX11_does_3 {a1 : Int32} {S : gm_Mem} {j1 : Nat} {T1 : gm_Mem} {r3 : Int32} (ij1 : gm_ix a1 j1 20) (c2 : (S 34 j1) = 117) (h4 : gm_run gM 1 YX11_repeat 0 [some (.ref 0), some (.int (S 35 j1)), none] [] S (some (.int r3)) T1) : gm_run gM 6 YX11_does 0 [some (.ref 0), some (.int a1)] [] S (some (.int r3)) T1 := by
  refine gm_aload_n dX11_does_0 rfl ?_
  refine gm_getR (own := RX11) (q := 34) rfl dX11_does_1 lfX11_125 sM_0 rfl ?_
  refine gm_iload_n dX11_does_4 rfl ?_
  refine gm_iald (j := j1) (x := (S 34 j1)) dX11_does_5 sM_34 ij1 rfl ?_
  refine gm_lookEq (v := 117) (off := 64) (tgt := 70) dX11_does_6 (by decide) c2 (by decide) (by decide) ?_
  refine gm_aload_n dX11_does_70 rfl ?_
  refine gm_aload_n dX11_does_71 rfl ?_
  refine gm_getR (own := RX11) (q := 35) rfl dX11_does_72 lfX11_128 sM_0 rfl ?_
  refine gm_iload_n dX11_does_75 rfl ?_
  refine gm_iald (j := j1) (x := (S 35 j1)) dX11_does_76 sM_35 ij1 rfl ?_
  refine gm_callV (r1 := (some (.int r3))) (own := RX11) rfl dX11_does_77 llX11_322 mvX11_repeat sM_0 rfl [.int (S 35 j1)] [] rfl rfl (Nat.le_of_ble_eq_true rfl) (by decide) rfl h4 rfl ?_
  exact gm_iret dX11_does_80 rfl
/-- X11_does 0 [6=120] -> ret  -/
theorem PX11_does_4 {a1 : Int32} {S : gm_Mem} {j1 : Nat} {T1 : gm_Mem} {r3 : Int32} (ij1 : gm_ix a1 j1 20) (c2 : (S 34 j1) = 120) (h4 : gm_run gM 1 YX11_drop 0 [some (.ref 0), some (.int (S 35 j1))] [] S (some (.int r3)) T1) : gm_run gM 6 YX11_does 0 [some (.ref 0), some (.int a1)] [] S (some (.int r3)) T1 := by
  refine gm_aload_n dX11_does_0 rfl ?_
  refine gm_getR (own := RX11) (q := 34) rfl dX11_does_1 lfX11_125 sM_0 rfl ?_
  refine gm_iload_n dX11_does_4 rfl ?_
  refine gm_iald (j := j1) (x := (S 34 j1)) dX11_does_5 sM_34 ij1 rfl ?_
  refine gm_lookEq (v := 120) (off := 53) (tgt := 59) dX11_does_6 (by decide) c2 (by decide) (by decide) ?_
  refine gm_aload_n dX11_does_59 rfl ?_
  refine gm_aload_n dX11_does_60 rfl ?_
  refine gm_getR (own := RX11) (q := 35) rfl dX11_does_61 lfX11_128 sM_0 rfl ?_
  refine gm_iload_n dX11_does_64 rfl ?_
  refine gm_iald (j := j1) (x := (S 35 j1)) dX11_does_65 sM_35 ij1 rfl ?_
  refine gm_callV (r1 := (some (.int r3))) (own := RX11) rfl dX11_does_66 llX11_319 mvX11_drop sM_0 rfl [.int (S 35 j1)] [] rfl rfl (Nat.le_of_ble_eq_true rfl) (by decide) rfl h4 rfl ?_
  exact gm_iret dX11_does_69 rfl
/-- X11_does 0 [6out 104f] -> ret  -/
theorem PX11_does_5 {a1 : Int32} {S : gm_Mem} {j1 : Nat} (ij1 : gm_ix a1 j1 20) (c2 : Op.lookupswitch.offset [(100, 42), (115, 75), (117, 64), (120, 53)] 92 (S 34 j1).toInt = 92) (c3 : (S 35 j1) = 0) : gm_run gM 6 YX11_does 0 [some (.ref 0), some (.int a1)] [] S (some (.int 0)) S := by
  refine gm_aload_n dX11_does_0 rfl ?_
  refine gm_getR (own := RX11) (q := 34) rfl dX11_does_1 lfX11_125 sM_0 rfl ?_
  refine gm_iload_n dX11_does_4 rfl ?_
  refine gm_iald (j := j1) (x := (S 34 j1)) dX11_does_5 sM_34 ij1 rfl ?_
  refine gm_look (off := 92) (tgt := 98) dX11_does_6 (by decide) c2 (by decide) ?_
  refine gm_aload_n dX11_does_98 rfl ?_
  refine gm_getR (own := RX11) (q := 35) rfl dX11_does_99 lfX11_128 sM_0 rfl ?_
  refine gm_iload_n dX11_does_102 rfl ?_
  refine gm_iald (j := j1) (x := (S 35 j1)) dX11_does_103 sM_35 ij1 rfl ?_
  refine gm_if_ne_f dX11_does_104 ⟨111, by decide⟩ c3 ?_
  refine gm_iconst (v := 0) dX11_does_107 (by decide) ?_
  refine gm_goto (tgt := 121) dX11_does_108 (by decide) ?_
  exact gm_iret dX11_does_121 rfl
/-- X11_does 0 [6out 104t] -> ret  -/
theorem PX11_does_6 {a1 : Int32} {S : gm_Mem} {j1 : Nat} {T1 : gm_Mem} {r4 : Int32} (ij1 : gm_ix a1 j1 20) (c2 : Op.lookupswitch.offset [(100, 42), (115, 75), (117, 64), (120, 53)] 92 (S 34 j1).toInt = 92) (c3 : ¬ (S 35 j1) = 0) (h5 : gm_run gM 5 YX11_tick 0 [some (.ref 0), some (.int (S 35 j1)), none] [] S (some (.int r4)) T1) : gm_run gM 6 YX11_does 0 [some (.ref 0), some (.int a1)] [] S (some (.int r4)) T1 := by
  refine gm_aload_n dX11_does_0 rfl ?_
  refine gm_getR (own := RX11) (q := 34) rfl dX11_does_1 lfX11_125 sM_0 rfl ?_
  refine gm_iload_n dX11_does_4 rfl ?_
  refine gm_iald (j := j1) (x := (S 34 j1)) dX11_does_5 sM_34 ij1 rfl ?_
  refine gm_look (off := 92) (tgt := 98) dX11_does_6 (by decide) c2 (by decide) ?_
  refine gm_aload_n dX11_does_98 rfl ?_
  refine gm_getR (own := RX11) (q := 35) rfl dX11_does_99 lfX11_128 sM_0 rfl ?_
  refine gm_iload_n dX11_does_102 rfl ?_
  refine gm_iald (j := j1) (x := (S 35 j1)) dX11_does_103 sM_35 ij1 rfl ?_
  refine gm_if_ne_t (tgt := 111) dX11_does_104 (by decide) c3 ?_
  refine gm_aload_n dX11_does_111 rfl ?_
  refine gm_aload_n dX11_does_112 rfl ?_
  refine gm_getR (own := RX11) (q := 35) rfl dX11_does_113 lfX11_128 sM_0 rfl ?_
  refine gm_iload_n dX11_does_116 rfl ?_
  refine gm_iald (j := j1) (x := (S 35 j1)) dX11_does_117 sM_35 ij1 rfl ?_
  refine gm_callV (r1 := (some (.int r4))) (own := RX11) rfl dX11_does_118 llX11_328 mvX11_tick sM_0 rfl [.int (S 35 j1)] [] rfl rfl (Nat.le_of_ble_eq_true rfl) (by decide) rfl h5 rfl ?_
  exact gm_iret dX11_does_121 rfl
/-- X11_runScript 0 [11f] -> ret  -/
theorem PX11_runScript_1 {S : gm_Mem} {T1 : gm_Mem} {r1 : Int32} (h2 : gm_run gM 4 YX11_takesScript 0 [some (.ref 0)] [] S (some (.int r1)) T1) (c3 : r1 = 0) : gm_run gM 7 YX11_runScript 0 [some (.ref 0), none, none] [] S (some (.int ((-2000) - (T1 0 52)))) (gm_u T1 0 51 0) := by
  refine gm_aload_n dX11_runScript_0 rfl ?_
  refine gm_callV (r1 := (some (.int r1))) (own := RX11) rfl dX11_runScript_1 llX11_331 mvX11_takesScript sM_0 rfl [] [] rfl rfl (Nat.le_of_ble_eq_true rfl) (by decide) rfl h2 rfl ?_
  refine gm_istore_n (L' := [some (.ref 0), some (.int r1), none]) dX11_runScript_4 (by decide) rfl ?_
  refine gm_aload_n dX11_runScript_5 rfl ?_
  refine gm_iconst (v := 0) dX11_runScript_6 (by decide) ?_
  refine gm_put (own := RX11) rfl dX11_runScript_7 lfX11_298 sM_0 rfl (gm_fit_int _) ?_
  refine gm_iload_n dX11_runScript_10 rfl ?_
  refine gm_if_ne_f dX11_runScript_11 ⟨23, by decide⟩ c3 ?_
  refine gm_sipush (v := (-2000)) dX11_runScript_14 (by decide) ?_
  refine gm_aload_n dX11_runScript_17 rfl ?_
  refine gm_getI (own := RX11) (x := (T1 0 52)) rfl dX11_runScript_18 lfX11_301 sM_0 rfl (gm_rk (by decide)) ?_
  refine gm_isub dX11_runScript_21 rfl ?_
  exact gm_iret dX11_runScript_22 rfl
/-- X11_runScript 0 [11t] -> cut 25 -/
theorem PX11_runScript_2 {S : gm_Mem} {T1 : gm_Mem} {r1 : Int32} {r : Option Value} {S2 : gm_Mem} (h2 : gm_run gM 4 YX11_takesScript 0 [some (.ref 0)] [] S (some (.int r1)) T1) (c3 : ¬ r1 = 0) (K : gm_run gM 7 YX11_runScript 25 [some (.ref 0), some (.int r1), some (.int 0)] [] (gm_u T1 0 51 0) r S2) : gm_run gM 7 YX11_runScript 0 [some (.ref 0), none, none] [] S r S2 := by
  refine gm_aload_n dX11_runScript_0 rfl ?_
  refine gm_callV (r1 := (some (.int r1))) (own := RX11) rfl dX11_runScript_1 llX11_331 mvX11_takesScript sM_0 rfl [] [] rfl rfl (Nat.le_of_ble_eq_true rfl) (by decide) rfl h2 rfl ?_
  refine gm_istore_n (L' := [some (.ref 0), some (.int r1), none]) dX11_runScript_4 (by decide) rfl ?_
  refine gm_aload_n dX11_runScript_5 rfl ?_
  refine gm_iconst (v := 0) dX11_runScript_6 (by decide) ?_
  refine gm_put (own := RX11) rfl dX11_runScript_7 lfX11_298 sM_0 rfl (gm_fit_int _) ?_
  refine gm_iload_n dX11_runScript_10 rfl ?_
  refine gm_if_ne_t (tgt := 23) dX11_runScript_11 (by decide) c3 ?_
  refine gm_iconst (v := 0) dX11_runScript_23 (by decide) ?_
  refine gm_istore_n (L' := [some (.ref 0), some (.int r1), some (.int 0)]) dX11_runScript_24 (by decide) rfl ?_
  exact K
/-- X11_runScript 25 [30f 41f] -> cut 25 -/
theorem PX11_runScript_3 {x1 : Int32} {x2 : Int32} {S : gm_Mem} {T1 : gm_Mem} {r2 : Int32} {r4 : Int32} {r : Option Value} {S2 : gm_Mem} (c1 : x2 < (S 0 53)) (h3 : gm_run gM 6 YX11_does 0 [some (.ref 0), some (.int x2)] [] S (some (.int r2)) T1) (h5 : gm_run gM 0 YX11_isError 0 [some (.int r2)] [] T1 (some (.int r4)) T1) (c6 : r4 = 0) (K : gm_run gM 7 YX11_runScript 25 [some (.ref 0), some (.int x1), some (.int (x2 + 1))] [] T1 r S2) : gm_run gM 7 YX11_runScript 25 [some (.ref 0), some (.int x1), some (.int x2)] [] S r S2 := by
  refine gm_iload_n dX11_runScript_25 rfl ?_
  refine gm_aload_n dX11_runScript_26 rfl ?_
  refine gm_getI (own := RX11) (x := (S 0 53)) rfl dX11_runScript_27 lfX11_307 sM_0 rfl rfl ?_
  refine gm_icmp_ge_f dX11_runScript_30 ⟨50, by decide⟩ c1 ?_
  refine gm_aload_n dX11_runScript_33 rfl ?_
  refine gm_iload_n dX11_runScript_34 rfl ?_
  refine gm_callV (r1 := (some (.int r2))) (own := RX11) rfl dX11_runScript_35 llX11_334 mvX11_does sM_0 rfl [.int x2] [] rfl rfl (Nat.le_of_ble_eq_true rfl) (by decide) rfl h3 rfl ?_
  refine gm_callS (r1 := (some (.int r4))) (own := RX11) rfl dX11_runScript_38 llX11_337 msX11_isError [.int r2] [] rfl rfl (Nat.le_of_ble_eq_true rfl) (by decide) rfl h5 rfl ?_
  refine gm_if_ne_f dX11_runScript_41 ⟨50, by decide⟩ c6 ?_
  refine gm_iinc (L' := [some (.ref 0), some (.int x1), some (.int (x2 + 1))]) (v := (x2 + 1)) dX11_runScript_44 rfl rfl (by decide) rfl ?_
  refine gm_goto (tgt := 25) dX11_runScript_47 (by decide) ?_
  exact K
/-- X11_runScript 25 [30f 41t] -> ret  -/
theorem PX11_runScript_4 {x1 : Int32} {x2 : Int32} {S : gm_Mem} {T1 : gm_Mem} {r2 : Int32} {r4 : Int32} (c1 : x2 < (S 0 53)) (h3 : gm_run gM 6 YX11_does 0 [some (.ref 0), some (.int x2)] [] S (some (.int r2)) T1) (h5 : gm_run gM 0 YX11_isError 0 [some (.int r2)] [] T1 (some (.int r4)) T1) (c6 : ¬ r4 = 0) : gm_run gM 7 YX11_runScript 25 [some (.ref 0), some (.int x1), some (.int x2)] [] S (some (.int x2)) T1 := by
  refine gm_iload_n dX11_runScript_25 rfl ?_
  refine gm_aload_n dX11_runScript_26 rfl ?_
  refine gm_getI (own := RX11) (x := (S 0 53)) rfl dX11_runScript_27 lfX11_307 sM_0 rfl rfl ?_
  refine gm_icmp_ge_f dX11_runScript_30 ⟨50, by decide⟩ c1 ?_
  refine gm_aload_n dX11_runScript_33 rfl ?_
  refine gm_iload_n dX11_runScript_34 rfl ?_
  refine gm_callV (r1 := (some (.int r2))) (own := RX11) rfl dX11_runScript_35 llX11_334 mvX11_does sM_0 rfl [.int x2] [] rfl rfl (Nat.le_of_ble_eq_true rfl) (by decide) rfl h3 rfl ?_
  refine gm_callS (r1 := (some (.int r4))) (own := RX11) rfl dX11_runScript_38 llX11_337 msX11_isError [.int r2] [] rfl rfl (Nat.le_of_ble_eq_true rfl) (by decide) rfl h5 rfl ?_
  refine gm_if_ne_t (tgt := 50) dX11_runScript_41 (by decide) c6 ?_
  refine gm_iload_n dX11_runScript_50 rfl ?_
  exact gm_iret dX11_runScript_51 rfl
/-- X11_runScript 25 [30t] -> ret  -/
theorem PX11_runScript_5 {x1 : Int32} {x2 : Int32} {S : gm_Mem} (c1 : ¬ x2 < (S 0 53)) : gm_run gM 7 YX11_runScript 25 [some (.ref 0), some (.int x1), some (.int x2)] [] S (some (.int x2)) S := by
  refine gm_iload_n dX11_runScript_25 rfl ?_
  refine gm_aload_n dX11_runScript_26 rfl ?_
  refine gm_getI (own := RX11) (x := (S 0 53)) rfl dX11_runScript_27 lfX11_307 sM_0 rfl rfl ?_
  refine gm_icmp_ge_t (tgt := 50) dX11_runScript_30 (by decide) c1 ?_
  refine gm_iload_n dX11_runScript_50 rfl ?_
  exact gm_iret dX11_runScript_51 rfl
/-- X11_hands 0 [] -> cut 2 -/
theorem PX11_hands_1 {p : Nat} {n : Nat} {S : gm_Mem} {r : Option Value} {S2 : gm_Mem} (kp : 1 ≤ p ∧ p < 37) (hs : gM[p]? = some (.inr (0, n))) (K : gm_run gM 0 YX11_hands 2 [some (.ref 0), some (.ref p), some (.int 0)] [] S r S2) : gm_run gM 0 YX11_hands 0 [some (.ref 0), some (.ref p), none] [] S r S2 := by
  refine gm_iconst (v := 0) dX11_hands_0 (by decide) ?_
  refine gm_istore_n (L' := [some (.ref 0), some (.ref p), some (.int 0)]) dX11_hands_1 (by decide) rfl ?_
  exact K
/-- X11_hands 2 [5f 12f] -> cut 2 -/
theorem PX11_hands_2 {p : Nat} {x2 : Int32} {n : Nat} {S : gm_Mem} {j3 : Nat} {j4 : Nat} {r : Option Value} {S2 : gm_Mem} (kp : 1 ≤ p ∧ p < 37) (hs : gM[p]? = some (.inr (0, n))) (c1 : x2 < (Int32.ofNat n)) (c2 : ¬ (S 0 56) = 0) (ij3 : gm_ix x2 j3 n) (ij4 : gm_ix (S 0 57) j4 3400) (K : gm_run gM 0 YX11_hands 2 [some (.ref 0), some (.ref p), some (.int (x2 + 1))] [] (gm_u (gm_u S 37 j4 (S p j3)) 0 57 ((S 0 57) + 1)) r S2) : gm_run gM 0 YX11_hands 2 [some (.ref 0), some (.ref p), some (.int x2)] [] S r S2 := by
  refine gm_iload_n dX11_hands_2 rfl ?_
  refine gm_aload_n dX11_hands_3 rfl ?_
  refine gm_alen (x := (Int32.ofNat n)) dX11_hands_4 hs rfl ?_
  refine gm_icmp_ge_f dX11_hands_5 ⟨58, by decide⟩ c1 ?_
  refine gm_aload_n dX11_hands_8 rfl ?_
  refine gm_getI (own := RX11) (x := (S 0 56)) rfl dX11_hands_9 lfX11_340 sM_0 rfl rfl ?_
  refine gm_if_eq_f dX11_hands_12 ⟨30, by decide⟩ c2 ?_
  refine gm_aload_n dX11_hands_15 rfl ?_
  refine gm_getR (own := RX11) (q := 37) rfl dX11_hands_16 lfX11_134 sM_0 rfl ?_
  refine gm_aload_n dX11_hands_19 rfl ?_
  refine gm_getI (own := RX11) (x := (S 0 57)) rfl dX11_hands_20 lfX11_344 sM_0 rfl rfl ?_
  refine gm_aload_n dX11_hands_23 rfl ?_
  refine gm_iload_n dX11_hands_24 rfl ?_
  refine gm_iald (j := j3) (x := (S p j3)) dX11_hands_25 hs ij3 rfl ?_
  refine gm_iast (j := j4) dX11_hands_26 sM_37 ij4 ?_
  refine gm_goto (tgt := 42) dX11_hands_27 (by decide) ?_
  refine gm_aload_n dX11_hands_42 rfl ?_
  refine gm_dup dX11_hands_43 ?_
  refine gm_getI (own := RX11) (x := (S 0 57)) rfl dX11_hands_44 lfX11_344 sM_0 rfl (gm_rp (by omega)) ?_
  refine gm_iconst (v := 1) dX11_hands_47 (by decide) ?_
  refine gm_iadd dX11_hands_48 rfl ?_
  refine gm_put (own := RX11) rfl dX11_hands_49 lfX11_344 sM_0 rfl (gm_fit_int _) ?_
  refine gm_iinc (L' := [some (.ref 0), some (.ref p), some (.int (x2 + 1))]) (v := (x2 + 1)) dX11_hands_52 rfl rfl (by decide) rfl ?_
  refine gm_goto (tgt := 2) dX11_hands_55 (by decide) ?_
  exact K
/-- X11_hands 2 [5f 12t] -> cut 2 -/
theorem PX11_hands_3 {p : Nat} {x2 : Int32} {n : Nat} {S : gm_Mem} {j3 : Nat} {j4 : Nat} {r : Option Value} {S2 : gm_Mem} (kp : 1 ≤ p ∧ p < 37) (hs : gM[p]? = some (.inr (0, n))) (c1 : x2 < (Int32.ofNat n)) (c2 : (S 0 56) = 0) (ij3 : gm_ix (S 0 57) j3 3400) (ij4 : gm_ix x2 j4 n) (K : gm_run gM 0 YX11_hands 2 [some (.ref 0), some (.ref p), some (.int (x2 + 1))] [] (gm_u (gm_u S p j4 (S 37 j3)) 0 57 ((S 0 57) + 1)) r S2) : gm_run gM 0 YX11_hands 2 [some (.ref 0), some (.ref p), some (.int x2)] [] S r S2 := by
  refine gm_iload_n dX11_hands_2 rfl ?_
  refine gm_aload_n dX11_hands_3 rfl ?_
  refine gm_alen (x := (Int32.ofNat n)) dX11_hands_4 hs rfl ?_
  refine gm_icmp_ge_f dX11_hands_5 ⟨58, by decide⟩ c1 ?_
  refine gm_aload_n dX11_hands_8 rfl ?_
  refine gm_getI (own := RX11) (x := (S 0 56)) rfl dX11_hands_9 lfX11_340 sM_0 rfl rfl ?_
  refine gm_if_eq_t (tgt := 30) dX11_hands_12 (by decide) c2 ?_
  refine gm_aload_n dX11_hands_30 rfl ?_
  refine gm_iload_n dX11_hands_31 rfl ?_
  refine gm_aload_n dX11_hands_32 rfl ?_
  refine gm_getR (own := RX11) (q := 37) rfl dX11_hands_33 lfX11_134 sM_0 rfl ?_
  refine gm_aload_n dX11_hands_36 rfl ?_
  refine gm_getI (own := RX11) (x := (S 0 57)) rfl dX11_hands_37 lfX11_344 sM_0 rfl rfl ?_
  refine gm_iald (j := j3) (x := (S 37 j3)) dX11_hands_40 sM_37 ij3 rfl ?_
  refine gm_iast (j := j4) dX11_hands_41 hs ij4 ?_
  refine gm_aload_n dX11_hands_42 rfl ?_
  refine gm_dup dX11_hands_43 ?_
  refine gm_getI (own := RX11) (x := (S 0 57)) rfl dX11_hands_44 lfX11_344 sM_0 rfl (gm_rp (by omega)) ?_
  refine gm_iconst (v := 1) dX11_hands_47 (by decide) ?_
  refine gm_iadd dX11_hands_48 rfl ?_
  refine gm_put (own := RX11) rfl dX11_hands_49 lfX11_344 sM_0 rfl (gm_fit_int _) ?_
  refine gm_iinc (L' := [some (.ref 0), some (.ref p), some (.int (x2 + 1))]) (v := (x2 + 1)) dX11_hands_52 rfl rfl (by decide) rfl ?_
  refine gm_goto (tgt := 2) dX11_hands_55 (by decide) ?_
  exact K
/-- X11_hands 2 [5t] -> ret  -/
theorem PX11_hands_4 {p : Nat} {x2 : Int32} {n : Nat} {S : gm_Mem} (kp : 1 ≤ p ∧ p < 37) (hs : gM[p]? = some (.inr (0, n))) (c1 : ¬ x2 < (Int32.ofNat n)) : gm_run gM 0 YX11_hands 2 [some (.ref 0), some (.ref p), some (.int x2)] [] S none S := by
  refine gm_iload_n dX11_hands_2 rfl ?_
  refine gm_aload_n dX11_hands_3 rfl ?_
  refine gm_alen (x := (Int32.ofNat n)) dX11_hands_4 hs rfl ?_
  refine gm_icmp_ge_t (tgt := 58) dX11_hands_5 (by decide) c1 ?_
  exact gm_vret dX11_hands_58 rfl
/-- X11_hand 0 [4f] -> ret  -/
theorem PX11_hand_1 {a1 : Int32} {S : gm_Mem} {j2 : Nat} (c1 : ¬ (S 0 56) = 0) (ij2 : gm_ix (S 0 57) j2 3400) : gm_run gM 0 YX11_hand 0 [some (.ref 0), some (.int a1), none] [] S (some (.int a1)) (gm_u (gm_u S 37 j2 a1) 0 57 ((S 0 57) + 1)) := by
  refine gm_aload_n dX11_hand_0 rfl ?_
  refine gm_getI (own := RX11) (x := (S 0 56)) rfl dX11_hand_1 lfX11_340 sM_0 rfl rfl ?_
  refine gm_if_eq_f dX11_hand_4 ⟨11, by decide⟩ c1 ?_
  refine gm_iload_n dX11_hand_7 rfl ?_
  refine gm_goto (tgt := 20) dX11_hand_8 (by decide) ?_
  refine gm_istore_n (L' := [some (.ref 0), some (.int a1), some (.int a1)]) dX11_hand_20 (by decide) rfl ?_
  refine gm_aload_n dX11_hand_21 rfl ?_
  refine gm_getR (own := RX11) (q := 37) rfl dX11_hand_22 lfX11_134 sM_0 rfl ?_
  refine gm_aload_n dX11_hand_25 rfl ?_
  refine gm_getI (own := RX11) (x := (S 0 57)) rfl dX11_hand_26 lfX11_344 sM_0 rfl rfl ?_
  refine gm_iload_n dX11_hand_29 rfl ?_
  refine gm_iast (j := j2) dX11_hand_30 sM_37 ij2 ?_
  refine gm_aload_n dX11_hand_31 rfl ?_
  refine gm_dup dX11_hand_32 ?_
  refine gm_getI (own := RX11) (x := (S 0 57)) rfl dX11_hand_33 lfX11_344 sM_0 rfl (gm_rp (by omega)) ?_
  refine gm_iconst (v := 1) dX11_hand_36 (by decide) ?_
  refine gm_iadd dX11_hand_37 rfl ?_
  refine gm_put (own := RX11) rfl dX11_hand_38 lfX11_344 sM_0 rfl (gm_fit_int _) ?_
  refine gm_iload_n dX11_hand_41 rfl ?_
  exact gm_iret dX11_hand_42 rfl
/-- X11_hand 0 [4t] -> ret  -/
theorem PX11_hand_2 {a1 : Int32} {S : gm_Mem} {j2 : Nat} (c1 : (S 0 56) = 0) (ij2 : gm_ix (S 0 57) j2 3400) : gm_run gM 0 YX11_hand 0 [some (.ref 0), some (.int a1), none] [] S (some (.int (S 37 j2))) (gm_u (gm_u S 37 j2 (S 37 j2)) 0 57 ((S 0 57) + 1)) := by
  refine gm_aload_n dX11_hand_0 rfl ?_
  refine gm_getI (own := RX11) (x := (S 0 56)) rfl dX11_hand_1 lfX11_340 sM_0 rfl rfl ?_
  refine gm_if_eq_t (tgt := 11) dX11_hand_4 (by decide) c1 ?_
  refine gm_aload_n dX11_hand_11 rfl ?_
  refine gm_getR (own := RX11) (q := 37) rfl dX11_hand_12 lfX11_134 sM_0 rfl ?_
  refine gm_aload_n dX11_hand_15 rfl ?_
  refine gm_getI (own := RX11) (x := (S 0 57)) rfl dX11_hand_16 lfX11_344 sM_0 rfl rfl ?_
  refine gm_iald (j := j2) (x := (S 37 j2)) dX11_hand_19 sM_37 ij2 rfl ?_
  refine gm_istore_n (L' := [some (.ref 0), some (.int a1), some (.int (S 37 j2))]) dX11_hand_20 (by decide) rfl ?_
  refine gm_aload_n dX11_hand_21 rfl ?_
  refine gm_getR (own := RX11) (q := 37) rfl dX11_hand_22 lfX11_134 sM_0 rfl ?_
  refine gm_aload_n dX11_hand_25 rfl ?_
  refine gm_getI (own := RX11) (x := (S 0 57)) rfl dX11_hand_26 lfX11_344 sM_0 rfl rfl ?_
  refine gm_iload_n dX11_hand_29 rfl ?_
  refine gm_iast (j := j2) dX11_hand_30 sM_37 ij2 ?_
  refine gm_aload_n dX11_hand_31 rfl ?_
  refine gm_dup dX11_hand_32 ?_
  refine gm_getI (own := RX11) (x := (S 0 57)) rfl dX11_hand_33 lfX11_344 sM_0 rfl (gm_rp (by omega)) ?_
  refine gm_iconst (v := 1) dX11_hand_36 (by decide) ?_
  refine gm_iadd dX11_hand_37 rfl ?_
  refine gm_put (own := RX11) rfl dX11_hand_38 lfX11_344 sM_0 rfl (gm_fit_int _) ?_
  refine gm_iload_n dX11_hand_41 rfl ?_
  exact gm_iret dX11_hand_42 rfl
/-- X11_handsEndpoints 0 [] -> ret  -/
theorem PX11_handsEndpoints_1 {S : gm_Mem} {T1 : gm_Mem} {T2 : gm_Mem} {T3 : gm_Mem} {T4 : gm_Mem} {T5 : gm_Mem} {T6 : gm_Mem} {T7 : gm_Mem} {T8 : gm_Mem} {T9 : gm_Mem} {T10 : gm_Mem} {T11 : gm_Mem} {T12 : gm_Mem} {T13 : gm_Mem} {T14 : gm_Mem} {T15 : gm_Mem} {T16 : gm_Mem} {T17 : gm_Mem} {T18 : gm_Mem} {T19 : gm_Mem} {T20 : gm_Mem} {T21 : gm_Mem} {T22 : gm_Mem} {T23 : gm_Mem} {T24 : gm_Mem} {T25 : gm_Mem} {T26 : gm_Mem} {T27 : gm_Mem} {T28 : gm_Mem} {T29 : gm_Mem} {T30 : gm_Mem} {T31 : gm_Mem} (h1 : gm_run gM 0 YX11_hands 0 [some (.ref 0), some (.ref 1), none] [] S none T1) (h2 : gm_run gM 0 YX11_hands 0 [some (.ref 0), some (.ref 2), none] [] T1 none T2) (h3 : gm_run gM 0 YX11_hands 0 [some (.ref 0), some (.ref 3), none] [] T2 none T3) (h4 : gm_run gM 0 YX11_hands 0 [some (.ref 0), some (.ref 4), none] [] T3 none T4) (h5 : gm_run gM 0 YX11_hands 0 [some (.ref 0), some (.ref 5), none] [] T4 none T5) (h6 : gm_run gM 0 YX11_hands 0 [some (.ref 0), some (.ref 6), none] [] T5 none T6) (h7 : gm_run gM 0 YX11_hands 0 [some (.ref 0), some (.ref 7), none] [] T6 none T7) (h8 : gm_run gM 0 YX11_hands 0 [some (.ref 0), some (.ref 8), none] [] T7 none T8) (h9 : gm_run gM 0 YX11_hands 0 [some (.ref 0), some (.ref 9), none] [] T8 none T9) (h10 : gm_run gM 0 YX11_hands 0 [some (.ref 0), some (.ref 10), none] [] T9 none T10) (h11 : gm_run gM 0 YX11_hands 0 [some (.ref 0), some (.ref 11), none] [] T10 none T11) (h12 : gm_run gM 0 YX11_hands 0 [some (.ref 0), some (.ref 12), none] [] T11 none T12) (h13 : gm_run gM 0 YX11_hands 0 [some (.ref 0), some (.ref 13), none] [] T12 none T13) (h14 : gm_run gM 0 YX11_hands 0 [some (.ref 0), some (.ref 14), none] [] T13 none T14) (h15 : gm_run gM 0 YX11_hands 0 [some (.ref 0), some (.ref 15), none] [] T14 none T15) (h16 : gm_run gM 0 YX11_hands 0 [some (.ref 0), some (.ref 16), none] [] T15 none T16) (h17 : gm_run gM 0 YX11_hands 0 [some (.ref 0), some (.ref 17), none] [] T16 none T17) (h18 : gm_run gM 0 YX11_hands 0 [some (.ref 0), some (.ref 18), none] [] T17 none T18) (h19 : gm_run gM 0 YX11_hands 0 [some (.ref 0), some (.ref 19), none] [] T18 none T19) (h20 : gm_run gM 0 YX11_hands 0 [some (.ref 0), some (.ref 20), none] [] T19 none T20) (h21 : gm_run gM 0 YX11_hands 0 [some (.ref 0), some (.ref 21), none] [] T20 none T21) (h22 : gm_run gM 0 YX11_hands 0 [some (.ref 0), some (.ref 22), none] [] T21 none T22) (h23 : gm_run gM 0 YX11_hands 0 [some (.ref 0), some (.ref 23), none] [] T22 none T23) (h24 : gm_run gM 0 YX11_hands 0 [some (.ref 0), some (.ref 24), none] [] T23 none T24) (h25 : gm_run gM 0 YX11_hands 0 [some (.ref 0), some (.ref 25), none] [] T24 none T25) (h26 : gm_run gM 0 YX11_hands 0 [some (.ref 0), some (.ref 26), none] [] T25 none T26) (h27 : gm_run gM 0 YX11_hands 0 [some (.ref 0), some (.ref 27), none] [] T26 none T27) (h28 : gm_run gM 0 YX11_hands 0 [some (.ref 0), some (.ref 28), none] [] T27 none T28) (h29 : gm_run gM 0 YX11_hands 0 [some (.ref 0), some (.ref 32), none] [] T28 none T29) (h30 : gm_run gM 0 YX11_hands 0 [some (.ref 0), some (.ref 29), none] [] T29 none T30) (h31 : gm_run gM 0 YX11_hands 0 [some (.ref 0), some (.ref 30), none] [] T30 none T31) : gm_run gM 1 YX11_handsEndpoints 0 [some (.ref 0)] [] S none T31 := by
  refine gm_aload_n dX11_handsEndpoints_0 rfl ?_
  refine gm_aload_n dX11_handsEndpoints_1 rfl ?_
  refine gm_getR (own := RX11) (q := 1) rfl dX11_handsEndpoints_2 lfX11_19 sM_0 rfl ?_
  refine gm_callV (r1 := none) (own := RX11) rfl dX11_handsEndpoints_5 llX11_347 mvX11_hands sM_0 rfl [.ref 1] [] rfl rfl (Nat.le_of_ble_eq_true rfl) (by decide) rfl h1 rfl ?_
  refine gm_aload_n dX11_handsEndpoints_8 rfl ?_
  refine gm_aload_n dX11_handsEndpoints_9 rfl ?_
  refine gm_getR (own := RX11) (q := 2) rfl dX11_handsEndpoints_10 lfX11_23 sM_0 rfl ?_
  refine gm_callV (r1 := none) (own := RX11) rfl dX11_handsEndpoints_13 llX11_347 mvX11_hands sM_0 rfl [.ref 2] [] rfl rfl (Nat.le_of_ble_eq_true rfl) (by decide) rfl h2 rfl ?_
  refine gm_aload_n dX11_handsEndpoints_16 rfl ?_
  refine gm_aload_n dX11_handsEndpoints_17 rfl ?_
  refine gm_getR (own := RX11) (q := 3) rfl dX11_handsEndpoints_18 lfX11_26 sM_0 rfl ?_
  refine gm_callV (r1 := none) (own := RX11) rfl dX11_handsEndpoints_21 llX11_347 mvX11_hands sM_0 rfl [.ref 3] [] rfl rfl (Nat.le_of_ble_eq_true rfl) (by decide) rfl h3 rfl ?_
  refine gm_aload_n dX11_handsEndpoints_24 rfl ?_
  refine gm_aload_n dX11_handsEndpoints_25 rfl ?_
  refine gm_getR (own := RX11) (q := 4) rfl dX11_handsEndpoints_26 lfX11_29 sM_0 rfl ?_
  refine gm_callV (r1 := none) (own := RX11) rfl dX11_handsEndpoints_29 llX11_347 mvX11_hands sM_0 rfl [.ref 4] [] rfl rfl (Nat.le_of_ble_eq_true rfl) (by decide) rfl h4 rfl ?_
  refine gm_aload_n dX11_handsEndpoints_32 rfl ?_
  refine gm_aload_n dX11_handsEndpoints_33 rfl ?_
  refine gm_getR (own := RX11) (q := 5) rfl dX11_handsEndpoints_34 lfX11_32 sM_0 rfl ?_
  refine gm_callV (r1 := none) (own := RX11) rfl dX11_handsEndpoints_37 llX11_347 mvX11_hands sM_0 rfl [.ref 5] [] rfl rfl (Nat.le_of_ble_eq_true rfl) (by decide) rfl h5 rfl ?_
  refine gm_aload_n dX11_handsEndpoints_40 rfl ?_
  refine gm_aload_n dX11_handsEndpoints_41 rfl ?_
  refine gm_getR (own := RX11) (q := 6) rfl dX11_handsEndpoints_42 lfX11_35 sM_0 rfl ?_
  refine gm_callV (r1 := none) (own := RX11) rfl dX11_handsEndpoints_45 llX11_347 mvX11_hands sM_0 rfl [.ref 6] [] rfl rfl (Nat.le_of_ble_eq_true rfl) (by decide) rfl h6 rfl ?_
  refine gm_aload_n dX11_handsEndpoints_48 rfl ?_
  refine gm_aload_n dX11_handsEndpoints_49 rfl ?_
  refine gm_getR (own := RX11) (q := 7) rfl dX11_handsEndpoints_50 lfX11_38 sM_0 rfl ?_
  refine gm_callV (r1 := none) (own := RX11) rfl dX11_handsEndpoints_53 llX11_347 mvX11_hands sM_0 rfl [.ref 7] [] rfl rfl (Nat.le_of_ble_eq_true rfl) (by decide) rfl h7 rfl ?_
  refine gm_aload_n dX11_handsEndpoints_56 rfl ?_
  refine gm_aload_n dX11_handsEndpoints_57 rfl ?_
  refine gm_getR (own := RX11) (q := 8) rfl dX11_handsEndpoints_58 lfX11_41 sM_0 rfl ?_
  refine gm_callV (r1 := none) (own := RX11) rfl dX11_handsEndpoints_61 llX11_347 mvX11_hands sM_0 rfl [.ref 8] [] rfl rfl (Nat.le_of_ble_eq_true rfl) (by decide) rfl h8 rfl ?_
  refine gm_aload_n dX11_handsEndpoints_64 rfl ?_
  refine gm_aload_n dX11_handsEndpoints_65 rfl ?_
  refine gm_getR (own := RX11) (q := 9) rfl dX11_handsEndpoints_66 lfX11_44 sM_0 rfl ?_
  refine gm_callV (r1 := none) (own := RX11) rfl dX11_handsEndpoints_69 llX11_347 mvX11_hands sM_0 rfl [.ref 9] [] rfl rfl (Nat.le_of_ble_eq_true rfl) (by decide) rfl h9 rfl ?_
  refine gm_aload_n dX11_handsEndpoints_72 rfl ?_
  refine gm_aload_n dX11_handsEndpoints_73 rfl ?_
  refine gm_getR (own := RX11) (q := 10) rfl dX11_handsEndpoints_74 lfX11_47 sM_0 rfl ?_
  refine gm_callV (r1 := none) (own := RX11) rfl dX11_handsEndpoints_77 llX11_347 mvX11_hands sM_0 rfl [.ref 10] [] rfl rfl (Nat.le_of_ble_eq_true rfl) (by decide) rfl h10 rfl ?_
  refine gm_aload_n dX11_handsEndpoints_80 rfl ?_
  refine gm_aload_n dX11_handsEndpoints_81 rfl ?_
  refine gm_getR (own := RX11) (q := 11) rfl dX11_handsEndpoints_82 lfX11_50 sM_0 rfl ?_
  refine gm_callV (r1 := none) (own := RX11) rfl dX11_handsEndpoints_85 llX11_347 mvX11_hands sM_0 rfl [.ref 11] [] rfl rfl (Nat.le_of_ble_eq_true rfl) (by decide) rfl h11 rfl ?_
  refine gm_aload_n dX11_handsEndpoints_88 rfl ?_
  refine gm_aload_n dX11_handsEndpoints_89 rfl ?_
  refine gm_getR (own := RX11) (q := 12) rfl dX11_handsEndpoints_90 lfX11_53 sM_0 rfl ?_
  refine gm_callV (r1 := none) (own := RX11) rfl dX11_handsEndpoints_93 llX11_347 mvX11_hands sM_0 rfl [.ref 12] [] rfl rfl (Nat.le_of_ble_eq_true rfl) (by decide) rfl h12 rfl ?_
  refine gm_aload_n dX11_handsEndpoints_96 rfl ?_
  refine gm_aload_n dX11_handsEndpoints_97 rfl ?_
  refine gm_getR (own := RX11) (q := 13) rfl dX11_handsEndpoints_98 lfX11_56 sM_0 rfl ?_
  refine gm_callV (r1 := none) (own := RX11) rfl dX11_handsEndpoints_101 llX11_347 mvX11_hands sM_0 rfl [.ref 13] [] rfl rfl (Nat.le_of_ble_eq_true rfl) (by decide) rfl h13 rfl ?_
  refine gm_aload_n dX11_handsEndpoints_104 rfl ?_
  refine gm_aload_n dX11_handsEndpoints_105 rfl ?_
  refine gm_getR (own := RX11) (q := 14) rfl dX11_handsEndpoints_106 lfX11_59 sM_0 rfl ?_
  refine gm_callV (r1 := none) (own := RX11) rfl dX11_handsEndpoints_109 llX11_347 mvX11_hands sM_0 rfl [.ref 14] [] rfl rfl (Nat.le_of_ble_eq_true rfl) (by decide) rfl h14 rfl ?_
  refine gm_aload_n dX11_handsEndpoints_112 rfl ?_
  refine gm_aload_n dX11_handsEndpoints_113 rfl ?_
  refine gm_getR (own := RX11) (q := 15) rfl dX11_handsEndpoints_114 lfX11_62 sM_0 rfl ?_
  refine gm_callV (r1 := none) (own := RX11) rfl dX11_handsEndpoints_117 llX11_347 mvX11_hands sM_0 rfl [.ref 15] [] rfl rfl (Nat.le_of_ble_eq_true rfl) (by decide) rfl h15 rfl ?_
  refine gm_aload_n dX11_handsEndpoints_120 rfl ?_
  refine gm_aload_n dX11_handsEndpoints_121 rfl ?_
  refine gm_getR (own := RX11) (q := 16) rfl dX11_handsEndpoints_122 lfX11_65 sM_0 rfl ?_
  refine gm_callV (r1 := none) (own := RX11) rfl dX11_handsEndpoints_125 llX11_347 mvX11_hands sM_0 rfl [.ref 16] [] rfl rfl (Nat.le_of_ble_eq_true rfl) (by decide) rfl h16 rfl ?_
  refine gm_aload_n dX11_handsEndpoints_128 rfl ?_
  refine gm_aload_n dX11_handsEndpoints_129 rfl ?_
  refine gm_getR (own := RX11) (q := 17) rfl dX11_handsEndpoints_130 lfX11_68 sM_0 rfl ?_
  refine gm_callV (r1 := none) (own := RX11) rfl dX11_handsEndpoints_133 llX11_347 mvX11_hands sM_0 rfl [.ref 17] [] rfl rfl (Nat.le_of_ble_eq_true rfl) (by decide) rfl h17 rfl ?_
  refine gm_aload_n dX11_handsEndpoints_136 rfl ?_
  refine gm_aload_n dX11_handsEndpoints_137 rfl ?_
  refine gm_getR (own := RX11) (q := 18) rfl dX11_handsEndpoints_138 lfX11_71 sM_0 rfl ?_
  refine gm_callV (r1 := none) (own := RX11) rfl dX11_handsEndpoints_141 llX11_347 mvX11_hands sM_0 rfl [.ref 18] [] rfl rfl (Nat.le_of_ble_eq_true rfl) (by decide) rfl h18 rfl ?_
  refine gm_aload_n dX11_handsEndpoints_144 rfl ?_
  refine gm_aload_n dX11_handsEndpoints_145 rfl ?_
  refine gm_getR (own := RX11) (q := 19) rfl dX11_handsEndpoints_146 lfX11_74 sM_0 rfl ?_
  refine gm_callV (r1 := none) (own := RX11) rfl dX11_handsEndpoints_149 llX11_347 mvX11_hands sM_0 rfl [.ref 19] [] rfl rfl (Nat.le_of_ble_eq_true rfl) (by decide) rfl h19 rfl ?_
  refine gm_aload_n dX11_handsEndpoints_152 rfl ?_
  refine gm_aload_n dX11_handsEndpoints_153 rfl ?_
  refine gm_getR (own := RX11) (q := 20) rfl dX11_handsEndpoints_154 lfX11_77 sM_0 rfl ?_
  refine gm_callV (r1 := none) (own := RX11) rfl dX11_handsEndpoints_157 llX11_347 mvX11_hands sM_0 rfl [.ref 20] [] rfl rfl (Nat.le_of_ble_eq_true rfl) (by decide) rfl h20 rfl ?_
  refine gm_aload_n dX11_handsEndpoints_160 rfl ?_
  refine gm_aload_n dX11_handsEndpoints_161 rfl ?_
  refine gm_getR (own := RX11) (q := 21) rfl dX11_handsEndpoints_162 lfX11_80 sM_0 rfl ?_
  refine gm_callV (r1 := none) (own := RX11) rfl dX11_handsEndpoints_165 llX11_347 mvX11_hands sM_0 rfl [.ref 21] [] rfl rfl (Nat.le_of_ble_eq_true rfl) (by decide) rfl h21 rfl ?_
  refine gm_aload_n dX11_handsEndpoints_168 rfl ?_
  refine gm_aload_n dX11_handsEndpoints_169 rfl ?_
  refine gm_getR (own := RX11) (q := 22) rfl dX11_handsEndpoints_170 lfX11_83 sM_0 rfl ?_
  refine gm_callV (r1 := none) (own := RX11) rfl dX11_handsEndpoints_173 llX11_347 mvX11_hands sM_0 rfl [.ref 22] [] rfl rfl (Nat.le_of_ble_eq_true rfl) (by decide) rfl h22 rfl ?_
  refine gm_aload_n dX11_handsEndpoints_176 rfl ?_
  refine gm_aload_n dX11_handsEndpoints_177 rfl ?_
  refine gm_getR (own := RX11) (q := 23) rfl dX11_handsEndpoints_178 lfX11_86 sM_0 rfl ?_
  refine gm_callV (r1 := none) (own := RX11) rfl dX11_handsEndpoints_181 llX11_347 mvX11_hands sM_0 rfl [.ref 23] [] rfl rfl (Nat.le_of_ble_eq_true rfl) (by decide) rfl h23 rfl ?_
  refine gm_aload_n dX11_handsEndpoints_184 rfl ?_
  refine gm_aload_n dX11_handsEndpoints_185 rfl ?_
  refine gm_getR (own := RX11) (q := 24) rfl dX11_handsEndpoints_186 lfX11_89 sM_0 rfl ?_
  refine gm_callV (r1 := none) (own := RX11) rfl dX11_handsEndpoints_189 llX11_347 mvX11_hands sM_0 rfl [.ref 24] [] rfl rfl (Nat.le_of_ble_eq_true rfl) (by decide) rfl h24 rfl ?_
  refine gm_aload_n dX11_handsEndpoints_192 rfl ?_
  refine gm_aload_n dX11_handsEndpoints_193 rfl ?_
  refine gm_getR (own := RX11) (q := 25) rfl dX11_handsEndpoints_194 lfX11_92 sM_0 rfl ?_
  refine gm_callV (r1 := none) (own := RX11) rfl dX11_handsEndpoints_197 llX11_347 mvX11_hands sM_0 rfl [.ref 25] [] rfl rfl (Nat.le_of_ble_eq_true rfl) (by decide) rfl h25 rfl ?_
  refine gm_aload_n dX11_handsEndpoints_200 rfl ?_
  refine gm_aload_n dX11_handsEndpoints_201 rfl ?_
  refine gm_getR (own := RX11) (q := 26) rfl dX11_handsEndpoints_202 lfX11_95 sM_0 rfl ?_
  refine gm_callV (r1 := none) (own := RX11) rfl dX11_handsEndpoints_205 llX11_347 mvX11_hands sM_0 rfl [.ref 26] [] rfl rfl (Nat.le_of_ble_eq_true rfl) (by decide) rfl h26 rfl ?_
  refine gm_aload_n dX11_handsEndpoints_208 rfl ?_
  refine gm_aload_n dX11_handsEndpoints_209 rfl ?_
  refine gm_getR (own := RX11) (q := 27) rfl dX11_handsEndpoints_210 lfX11_104 sM_0 rfl ?_
  refine gm_callV (r1 := none) (own := RX11) rfl dX11_handsEndpoints_213 llX11_347 mvX11_hands sM_0 rfl [.ref 27] [] rfl rfl (Nat.le_of_ble_eq_true rfl) (by decide) rfl h27 rfl ?_
  refine gm_aload_n dX11_handsEndpoints_216 rfl ?_
  refine gm_aload_n dX11_handsEndpoints_217 rfl ?_
  refine gm_getR (own := RX11) (q := 28) rfl dX11_handsEndpoints_218 lfX11_107 sM_0 rfl ?_
  refine gm_callV (r1 := none) (own := RX11) rfl dX11_handsEndpoints_221 llX11_347 mvX11_hands sM_0 rfl [.ref 28] [] rfl rfl (Nat.le_of_ble_eq_true rfl) (by decide) rfl h28 rfl ?_
  refine gm_aload_n dX11_handsEndpoints_224 rfl ?_
  refine gm_aload_n dX11_handsEndpoints_225 rfl ?_
  refine gm_getR (own := RX11) (q := 32) rfl dX11_handsEndpoints_226 lfX11_119 sM_0 rfl ?_
  refine gm_callV (r1 := none) (own := RX11) rfl dX11_handsEndpoints_229 llX11_347 mvX11_hands sM_0 rfl [.ref 32] [] rfl rfl (Nat.le_of_ble_eq_true rfl) (by decide) rfl h29 rfl ?_
  refine gm_aload_n dX11_handsEndpoints_232 rfl ?_
  refine gm_aload_n dX11_handsEndpoints_233 rfl ?_
  refine gm_getR (own := RX11) (q := 29) rfl dX11_handsEndpoints_234 lfX11_110 sM_0 rfl ?_
  refine gm_callV (r1 := none) (own := RX11) rfl dX11_handsEndpoints_237 llX11_347 mvX11_hands sM_0 rfl [.ref 29] [] rfl rfl (Nat.le_of_ble_eq_true rfl) (by decide) rfl h30 rfl ?_
  refine gm_aload_n dX11_handsEndpoints_240 rfl ?_
  refine gm_aload_n dX11_handsEndpoints_241 rfl ?_
  refine gm_getR (own := RX11) (q := 30) rfl dX11_handsEndpoints_242 lfX11_113 sM_0 rfl ?_
  refine gm_callV (r1 := none) (own := RX11) rfl dX11_handsEndpoints_245 llX11_347 mvX11_hands sM_0 rfl [.ref 30] [] rfl rfl (Nat.le_of_ble_eq_true rfl) (by decide) rfl h31 rfl ?_
  exact gm_vret dX11_handsEndpoints_248 rfl
/-- X11_handsAll 0 [] -> ret  -/
theorem PX11_handsAll_1 {a1 : Int32} {S : gm_Mem} {T1 : gm_Mem} {T2 : gm_Mem} {r3 : Int32} {T3 : gm_Mem} {r5 : Int32} {T4 : gm_Mem} {r7 : Int32} {T5 : gm_Mem} {r9 : Int32} {T6 : gm_Mem} {r11 : Int32} {T7 : gm_Mem} {r13 : Int32} {T8 : gm_Mem} {r15 : Int32} {T9 : gm_Mem} {r17 : Int32} {T10 : gm_Mem} {r19 : Int32} {T11 : gm_Mem} {r21 : Int32} {T12 : gm_Mem} {r23 : Int32} {T13 : gm_Mem} {r25 : Int32} {T14 : gm_Mem} {r27 : Int32} {T15 : gm_Mem} {r29 : Int32} {T16 : gm_Mem} {r31 : Int32} (z1 : gm_fit .boolean a1) (h2 : gm_run gM 1 YX11_handsEndpoints 0 [some (.ref 0)] [] (gm_u (gm_u S 0 56 a1) 0 57 0) none T1) (h4 : gm_run gM 0 YX11_hand 0 [some (.ref 0), some (.int (T1 0 0)), none] [] T1 (some (.int r3)) T2) (h6 : gm_run gM 0 YX11_hand 0 [some (.ref 0), some (.int (T2 0 1)), none] [] (gm_u T2 0 0 r3) (some (.int r5)) T3) (h8 : gm_run gM 0 YX11_hand 0 [some (.ref 0), some (.int (T3 0 2)), none] [] (gm_u T3 0 1 r5) (some (.int r7)) T4) (h10 : gm_run gM 0 YX11_hand 0 [some (.ref 0), some (.int (T4 0 3)), none] [] (gm_u T4 0 2 r7) (some (.int r9)) T5) (h12 : gm_run gM 0 YX11_hand 0 [some (.ref 0), some (.int (T5 0 4)), none] [] (gm_u T5 0 3 r9) (some (.int r11)) T6) (h14 : gm_run gM 0 YX11_hand 0 [some (.ref 0), some (.int (T6 0 5)), none] [] (gm_u T6 0 4 r11) (some (.int r13)) T7) (h16 : gm_run gM 0 YX11_hand 0 [some (.ref 0), some (.int (T7 0 6)), none] [] (gm_u T7 0 5 r13) (some (.int r15)) T8) (h18 : gm_run gM 0 YX11_hand 0 [some (.ref 0), some (.int (T8 0 7)), none] [] (gm_u T8 0 6 r15) (some (.int r17)) T9) (h20 : gm_run gM 0 YX11_hand 0 [some (.ref 0), some (.int (T9 0 8)), none] [] (gm_u T9 0 7 r17) (some (.int r19)) T10) (h22 : gm_run gM 0 YX11_hand 0 [some (.ref 0), some (.int (T10 0 35)), none] [] (gm_u T10 0 8 r19) (some (.int r21)) T11) (h24 : gm_run gM 0 YX11_hand 0 [some (.ref 0), some (.int (T11 0 36)), none] [] (gm_u T11 0 35 r21) (some (.int r23)) T12) (h26 : gm_run gM 0 YX11_hand 0 [some (.ref 0), some (.int (T12 0 37)), none] [] (gm_u T12 0 36 r23) (some (.int r25)) T13) (h28 : gm_run gM 0 YX11_hand 0 [some (.ref 0), some (.int (T13 0 38)), none] [] (gm_u T13 0 37 r25) (some (.int r27)) T14) (h30 : gm_run gM 0 YX11_hand 0 [some (.ref 0), some (.int (T14 0 42)), none] [] (gm_u T14 0 38 r27) (some (.int r29)) T15) (h32 : gm_run gM 0 YX11_hand 0 [some (.ref 0), some (.int (T15 0 45)), none] [] (gm_u T15 0 42 r29) (some (.int r31)) T16) : gm_run gM 2 YX11_handsAll 0 [some (.ref 0), some (.int a1)] [] S none (gm_u T16 0 45 r31) := by
  refine gm_aload_n dX11_handsAll_0 rfl ?_
  refine gm_iload_n dX11_handsAll_1 rfl ?_
  refine gm_put (own := RX11) rfl dX11_handsAll_2 lfX11_340 sM_0 rfl z1 ?_
  refine gm_aload_n dX11_handsAll_5 rfl ?_
  refine gm_iconst (v := 0) dX11_handsAll_6 (by decide) ?_
  refine gm_put (own := RX11) rfl dX11_handsAll_7 lfX11_344 sM_0 rfl (gm_fit_int _) ?_
  refine gm_aload_n dX11_handsAll_10 rfl ?_
  refine gm_callV (r1 := none) (own := RX11) rfl dX11_handsAll_11 llX11_351 mvX11_handsEndpoints sM_0 rfl [] [] rfl rfl (Nat.le_of_ble_eq_true rfl) (by decide) rfl h2 rfl ?_
  refine gm_aload_n dX11_handsAll_14 rfl ?_
  refine gm_aload_n dX11_handsAll_15 rfl ?_
  refine gm_aload_n dX11_handsAll_16 rfl ?_
  refine gm_getI (own := RX11) (x := (T1 0 0)) rfl dX11_handsAll_17 lfX11_7 sM_0 rfl rfl ?_
  refine gm_callV (r1 := (some (.int r3))) (own := RX11) rfl dX11_handsAll_20 llX11_354 mvX11_hand sM_0 rfl [.int (T1 0 0)] [.ref 0] rfl rfl (Nat.le_of_ble_eq_true rfl) (by decide) rfl h4 rfl ?_
  refine gm_put (own := RX11) rfl dX11_handsAll_23 lfX11_7 sM_0 rfl (gm_fit_int _) ?_
  refine gm_aload_n dX11_handsAll_26 rfl ?_
  refine gm_aload_n dX11_handsAll_27 rfl ?_
  refine gm_aload_n dX11_handsAll_28 rfl ?_
  refine gm_getI (own := RX11) (x := (T2 0 1)) rfl dX11_handsAll_29 lfX11_13 sM_0 rfl (gm_rk (by decide)) ?_
  refine gm_callV (r1 := (some (.int r5))) (own := RX11) rfl dX11_handsAll_32 llX11_354 mvX11_hand sM_0 rfl [.int (T2 0 1)] [.ref 0] rfl rfl (Nat.le_of_ble_eq_true rfl) (by decide) rfl h6 rfl ?_
  refine gm_put (own := RX11) rfl dX11_handsAll_35 lfX11_13 sM_0 rfl (gm_fit_int _) ?_
  refine gm_aload_n dX11_handsAll_38 rfl ?_
  refine gm_aload_n dX11_handsAll_39 rfl ?_
  refine gm_aload_n dX11_handsAll_40 rfl ?_
  refine gm_getI (own := RX11) (x := (T3 0 2)) rfl dX11_handsAll_41 lfX11_16 sM_0 rfl (gm_rk (by decide)) ?_
  refine gm_callV (r1 := (some (.int r7))) (own := RX11) rfl dX11_handsAll_44 llX11_354 mvX11_hand sM_0 rfl [.int (T3 0 2)] [.ref 0] rfl rfl (Nat.le_of_ble_eq_true rfl) (by decide) rfl h8 rfl ?_
  refine gm_put (own := RX11) rfl dX11_handsAll_47 lfX11_16 sM_0 rfl (gm_fit_int _) ?_
  refine gm_aload_n dX11_handsAll_50 rfl ?_
  refine gm_aload_n dX11_handsAll_51 rfl ?_
  refine gm_aload_n dX11_handsAll_52 rfl ?_
  refine gm_getI (own := RX11) (x := (T4 0 3)) rfl dX11_handsAll_53 lfX11_182 sM_0 rfl (gm_rk (by decide)) ?_
  refine gm_callV (r1 := (some (.int r9))) (own := RX11) rfl dX11_handsAll_56 llX11_354 mvX11_hand sM_0 rfl [.int (T4 0 3)] [.ref 0] rfl rfl (Nat.le_of_ble_eq_true rfl) (by decide) rfl h10 rfl ?_
  refine gm_put (own := RX11) rfl dX11_handsAll_59 lfX11_182 sM_0 rfl (gm_fit_int _) ?_
  refine gm_aload_n dX11_handsAll_62 rfl ?_
  refine gm_aload_n dX11_handsAll_63 rfl ?_
  refine gm_aload_n dX11_handsAll_64 rfl ?_
  refine gm_getI (own := RX11) (x := (T5 0 4)) rfl dX11_handsAll_65 lfX11_179 sM_0 rfl (gm_rk (by decide)) ?_
  refine gm_callV (r1 := (some (.int r11))) (own := RX11) rfl dX11_handsAll_68 llX11_354 mvX11_hand sM_0 rfl [.int (T5 0 4)] [.ref 0] rfl rfl (Nat.le_of_ble_eq_true rfl) (by decide) rfl h12 rfl ?_
  refine gm_put (own := RX11) rfl dX11_handsAll_71 lfX11_179 sM_0 rfl (gm_fit_int _) ?_
  refine gm_aload_n dX11_handsAll_74 rfl ?_
  refine gm_aload_n dX11_handsAll_75 rfl ?_
  refine gm_aload_n dX11_handsAll_76 rfl ?_
  refine gm_getI (own := RX11) (x := (T6 0 5)) rfl dX11_handsAll_77 lfX11_156 sM_0 rfl (gm_rk (by decide)) ?_
  refine gm_callV (r1 := (some (.int r13))) (own := RX11) rfl dX11_handsAll_80 llX11_354 mvX11_hand sM_0 rfl [.int (T6 0 5)] [.ref 0] rfl rfl (Nat.le_of_ble_eq_true rfl) (by decide) rfl h14 rfl ?_
  refine gm_put (own := RX11) rfl dX11_handsAll_83 lfX11_156 sM_0 rfl (gm_fit_int _) ?_
  refine gm_aload_n dX11_handsAll_86 rfl ?_
  refine gm_aload_n dX11_handsAll_87 rfl ?_
  refine gm_aload_n dX11_handsAll_88 rfl ?_
  refine gm_getI (own := RX11) (x := (T7 0 6)) rfl dX11_handsAll_89 lfX11_277 sM_0 rfl (gm_rk (by decide)) ?_
  refine gm_callV (r1 := (some (.int r15))) (own := RX11) rfl dX11_handsAll_92 llX11_354 mvX11_hand sM_0 rfl [.int (T7 0 6)] [.ref 0] rfl rfl (Nat.le_of_ble_eq_true rfl) (by decide) rfl h16 rfl ?_
  refine gm_put (own := RX11) rfl dX11_handsAll_95 lfX11_277 sM_0 rfl (gm_fit_int _) ?_
  refine gm_aload_n dX11_handsAll_98 rfl ?_
  refine gm_aload_n dX11_handsAll_99 rfl ?_
  refine gm_aload_n dX11_handsAll_100 rfl ?_
  refine gm_getI (own := RX11) (x := (T8 0 7)) rfl dX11_handsAll_101 lfX11_205 sM_0 rfl (gm_rk (by decide)) ?_
  refine gm_callV (r1 := (some (.int r17))) (own := RX11) rfl dX11_handsAll_104 llX11_354 mvX11_hand sM_0 rfl [.int (T8 0 7)] [.ref 0] rfl rfl (Nat.le_of_ble_eq_true rfl) (by decide) rfl h18 rfl ?_
  refine gm_put (own := RX11) rfl dX11_handsAll_107 lfX11_205 sM_0 rfl (gm_fit_int _) ?_
  refine gm_aload_n dX11_handsAll_110 rfl ?_
  refine gm_aload_n dX11_handsAll_111 rfl ?_
  refine gm_aload_n dX11_handsAll_112 rfl ?_
  refine gm_getI (own := RX11) (x := (T9 0 8)) rfl dX11_handsAll_113 lfX11_289 sM_0 rfl (gm_rk (by decide)) ?_
  refine gm_callV (r1 := (some (.int r19))) (own := RX11) rfl dX11_handsAll_116 llX11_354 mvX11_hand sM_0 rfl [.int (T9 0 8)] [.ref 0] rfl rfl (Nat.le_of_ble_eq_true rfl) (by decide) rfl h20 rfl ?_
  refine gm_put (own := RX11) rfl dX11_handsAll_119 lfX11_289 sM_0 rfl (gm_fit_int _) ?_
  refine gm_aload_n dX11_handsAll_122 rfl ?_
  refine gm_aload_n dX11_handsAll_123 rfl ?_
  refine gm_aload_n dX11_handsAll_124 rfl ?_
  refine gm_getI (own := RX11) (x := (T10 0 35)) rfl dX11_handsAll_125 lfX11_98 sM_0 rfl (gm_rk (by decide)) ?_
  refine gm_callV (r1 := (some (.int r21))) (own := RX11) rfl dX11_handsAll_128 llX11_354 mvX11_hand sM_0 rfl [.int (T10 0 35)] [.ref 0] rfl rfl (Nat.le_of_ble_eq_true rfl) (by decide) rfl h22 rfl ?_
  refine gm_put (own := RX11) rfl dX11_handsAll_131 lfX11_98 sM_0 rfl (gm_fit_int _) ?_
  refine gm_aload_n dX11_handsAll_134 rfl ?_
  refine gm_aload_n dX11_handsAll_135 rfl ?_
  refine gm_aload_n dX11_handsAll_136 rfl ?_
  refine gm_getI (own := RX11) (x := (T11 0 36)) rfl dX11_handsAll_137 lfX11_101 sM_0 rfl (gm_rk (by decide)) ?_
  refine gm_callV (r1 := (some (.int r23))) (own := RX11) rfl dX11_handsAll_140 llX11_354 mvX11_hand sM_0 rfl [.int (T11 0 36)] [.ref 0] rfl rfl (Nat.le_of_ble_eq_true rfl) (by decide) rfl h24 rfl ?_
  refine gm_put (own := RX11) rfl dX11_handsAll_143 lfX11_101 sM_0 rfl (gm_fit_int _) ?_
  refine gm_aload_n dX11_handsAll_146 rfl ?_
  refine gm_aload_n dX11_handsAll_147 rfl ?_
  refine gm_aload_n dX11_handsAll_148 rfl ?_
  refine gm_getI (own := RX11) (x := (T12 0 37)) rfl dX11_handsAll_149 lfX11_193 sM_0 rfl (gm_rk (by decide)) ?_
  refine gm_callV (r1 := (some (.int r25))) (own := RX11) rfl dX11_handsAll_152 llX11_354 mvX11_hand sM_0 rfl [.int (T12 0 37)] [.ref 0] rfl rfl (Nat.le_of_ble_eq_true rfl) (by decide) rfl h26 rfl ?_
  refine gm_put (own := RX11) rfl dX11_handsAll_155 lfX11_193 sM_0 rfl (gm_fit_int _) ?_
  refine gm_aload_n dX11_handsAll_158 rfl ?_
  refine gm_aload_n dX11_handsAll_159 rfl ?_
  refine gm_aload_n dX11_handsAll_160 rfl ?_
  refine gm_getI (own := RX11) (x := (T13 0 38)) rfl dX11_handsAll_161 lfX11_223 sM_0 rfl (gm_rk (by decide)) ?_
  refine gm_callV (r1 := (some (.int r27))) (own := RX11) rfl dX11_handsAll_164 llX11_354 mvX11_hand sM_0 rfl [.int (T13 0 38)] [.ref 0] rfl rfl (Nat.le_of_ble_eq_true rfl) (by decide) rfl h28 rfl ?_
  refine gm_put (own := RX11) rfl dX11_handsAll_167 lfX11_223 sM_0 rfl (gm_fit_int _) ?_
  refine gm_aload_n dX11_handsAll_170 rfl ?_
  refine gm_aload_n dX11_handsAll_171 rfl ?_
  refine gm_aload_n dX11_handsAll_172 rfl ?_
  refine gm_getI (own := RX11) (x := (T14 0 42)) rfl dX11_handsAll_173 lfX11_150 sM_0 rfl (gm_rk (by decide)) ?_
  refine gm_callV (r1 := (some (.int r29))) (own := RX11) rfl dX11_handsAll_176 llX11_354 mvX11_hand sM_0 rfl [.int (T14 0 42)] [.ref 0] rfl rfl (Nat.le_of_ble_eq_true rfl) (by decide) rfl h30 rfl ?_
  refine gm_put (own := RX11) rfl dX11_handsAll_179 lfX11_150 sM_0 rfl (gm_fit_int _) ?_
  refine gm_aload_n dX11_handsAll_182 rfl ?_
  refine gm_aload_n dX11_handsAll_183 rfl ?_
  refine gm_aload_n dX11_handsAll_184 rfl ?_
  refine gm_getI (own := RX11) (x := (T15 0 45)) rfl dX11_handsAll_185 lfX11_153 sM_0 rfl (gm_rk (by decide)) ?_
  refine gm_callV (r1 := (some (.int r31))) (own := RX11) rfl dX11_handsAll_188 llX11_354 mvX11_hand sM_0 rfl [.int (T15 0 45)] [.ref 0] rfl rfl (Nat.le_of_ble_eq_true rfl) (by decide) rfl h32 rfl ?_
  refine gm_put (own := RX11) rfl dX11_handsAll_191 lfX11_153 sM_0 rfl (gm_fit_int _) ?_
  exact gm_vret dX11_handsAll_194 rfl
/-- X11_save 0 [] -> ret  -/
theorem PX11_save_1 {S : gm_Mem} {T1 : gm_Mem} (h1 : gm_run gM 2 YX11_handsAll 0 [some (.ref 0), some (.int 1)] [] (gm_u S 0 55 1) none T1) : gm_run gM 3 YX11_save 0 [some (.ref 0)] [] S (some (.int (T1 0 45))) T1 := by
  refine gm_aload_n dX11_save_0 rfl ?_
  refine gm_iconst (v := 1) dX11_save_1 (by decide) ?_
  refine gm_put (own := RX11) rfl dX11_save_2 lfX11_357 sM_0 rfl gm_fit_1 ?_
  refine gm_aload_n dX11_save_5 rfl ?_
  refine gm_iconst (v := 1) dX11_save_6 (by decide) ?_
  refine gm_callV (r1 := none) (own := RX11) rfl dX11_save_7 llX11_360 mvX11_handsAll sM_0 rfl [.int 1] [] rfl rfl (Nat.le_of_ble_eq_true rfl) (by decide) rfl h1 rfl ?_
  refine gm_aload_n dX11_save_10 rfl ?_
  refine gm_getI (own := RX11) (x := (T1 0 45)) rfl dX11_save_11 lfX11_153 sM_0 rfl rfl ?_
  exact gm_iret dX11_save_14 rfl
/-- X11_restore 0 [4f] -> ret  -/
theorem PX11_restore_1 {S : gm_Mem} (c1 : (S 0 55) = 0) : gm_run gM 3 YX11_restore 0 [some (.ref 0)] [] S (some (.int (-1000000001))) S := by
  refine gm_aload_n dX11_restore_0 rfl ?_
  refine gm_getI (own := RX11) (x := (S 0 55)) rfl dX11_restore_1 lfX11_357 sM_0 rfl rfl ?_
  refine gm_if_ne_f dX11_restore_4 ⟨10, by decide⟩ c1 ?_
  refine gm_ldc (own := RX11) rfl lcX11_204 dX11_restore_7 ?_
  exact gm_iret dX11_restore_9 rfl
/-- X11_restore 0 [4t] -> ret  -/
theorem PX11_restore_2 {S : gm_Mem} {T1 : gm_Mem} (c1 : ¬ (S 0 55) = 0) (h2 : gm_run gM 2 YX11_handsAll 0 [some (.ref 0), some (.int 0)] [] S none T1) : gm_run gM 3 YX11_restore 0 [some (.ref 0)] [] S (some (.int (T1 0 45))) T1 := by
  refine gm_aload_n dX11_restore_0 rfl ?_
  refine gm_getI (own := RX11) (x := (S 0 55)) rfl dX11_restore_1 lfX11_357 sM_0 rfl rfl ?_
  refine gm_if_ne_t (tgt := 10) dX11_restore_4 (by decide) c1 ?_
  refine gm_aload_n dX11_restore_10 rfl ?_
  refine gm_iconst (v := 0) dX11_restore_11 (by decide) ?_
  refine gm_callV (r1 := none) (own := RX11) rfl dX11_restore_12 llX11_360 mvX11_handsAll sM_0 rfl [.int 0] [] rfl rfl (Nat.le_of_ble_eq_true rfl) (by decide) rfl h2 rfl ?_
  refine gm_aload_n dX11_restore_15 rfl ?_
  refine gm_getI (own := RX11) (x := (T1 0 45)) rfl dX11_restore_16 lfX11_153 sM_0 rfl rfl ?_
  exact gm_iret dX11_restore_19 rfl
