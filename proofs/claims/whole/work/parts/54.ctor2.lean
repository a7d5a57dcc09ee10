/-! THE CONSTRUCTOR of the reference -/
def kmX11_0 (S : gm_Mem) : gm_Mem := gm_u (gm_u (gm_u (gm_u (gm_u (gm_u (gm_u (gm_u (gm_u (gm_u (gm_u (gm_u (gm_u (gm_u (gm_u (gm_u (gm_u (gm_u (gm_u (gm_u (gm_u (gm_u (gm_u (gm_u (gm_u (gm_u (gm_u (gm_u (gm_u (gm_u (gm_u (gm_u (gm_u (gm_u (gm_u (gm_u (gm_u (gm_u (gm_u (gm_u (gm_u (gm_u (gm_u (gm_u (gm_u (gm_u (gm_u (gm_u (gm_u (gm_u S 0 0 (6 : Int32)) 0 1 (3 : Int32)) 0 2 (20 : Int32)) 0 9 1) 0 10 1) 0 11 1) 0 12 1) 0 13 1) 0 14 1) 0 15 1) 8 0 (-1 : Int32)) 8 1 (-1 : Int32)) 0 16 1) 0 17 1) 10 0 (-1 : Int32)) 10 1 (-1 : Int32)) 0 18 1) 0 19 1) 0 20 1) 0 21 1) 0 22 1) 15 0 (-1 : Int32)) 15 1 (-1 : Int32)) 0 23 1) 16 0 (-1 : Int32)) 16 1 (-1 : Int32)) 0 24 1) 0 25 1) 0 26 1) 0 27 1) 0 28 1) 0 29 1) 0 30 1) 0 31 1) 0 32 1) 0 33 1) 0 34 1) 0 35 (-1 : Int32)) 0 36 (-1 : Int32)) 0 39 1) 0 40 1) 0 41 1) 0 43 1) 0 44 1) 0 46 1) 0 47 1) 0 48 1) 0 49 1) 0 50 1) 0 54 1
theorem kcX11_0 (S : gm_Mem) : kn_run gM 1 YX11_init 0 [some (.ref 0)] [] 1 0 0 S 37 6453 (kmX11_0 S) := by
  refine kn_aload_n dX11_init_0 rfl ?_
  refine kn_objInit rfl kn_obX11 dX11_init_1 (by decide) (by decide) ?_
  refine kn_aload_n dX11_init_4 rfl ?_
  refine kn_bipush (v := 6) dX11_init_5 (by decide) ?_
  refine kn_putI (fl := [none, none, none, none, none, none, none, none, none, some 1, some 2, some 3, some 4, some 5, some 6, some 7, some 8, some 9, some 10, some 11, some 12, some 13, some 14, some 15, some 16, some 17, some 18, some 19, some 20, some 21, some 22, some 23, some 24, some 25, some 26, none, none, none, none, some 27, some 28, some 29, none, some 30, some 31, none, some 32, some 33, some 34, some 35, some 36, none, none, none, some 37, none, none, none]) rfl dX11_init_7 lfX11_7 rfl (by decide) rfl (gm_fit_int _) (fun h => absurd h (by decide)) ?_
  refine kn_aload_n dX11_init_10 rfl ?_
  refine kn_iconst (v := 3) dX11_init_11 (by decide) ?_
  refine kn_putI (fl := [none, none, none, none, none, none, none, none, none, some 1, some 2, some 3, some 4, some 5, some 6, some 7, some 8, some 9, some 10, some 11, some 12, some 13, some 14, some 15, some 16, some 17, some 18, some 19, some 20, some 21, some 22, some 23, some 24, some 25, some 26, none, none, none, none, some 27, some 28, some 29, none, some 30, some 31, none, some 32, some 33, some 34, some 35, some 36, none, none, none, some 37, none, none, none]) rfl dX11_init_12 lfX11_13 rfl (by decide) rfl (gm_fit_int _) (fun h => absurd h (by decide)) ?_
  refine kn_aload_n dX11_init_15 rfl ?_
  refine kn_bipush (v := 20) dX11_init_16 (by decide) ?_
  refine kn_putI (fl := [none, none, none, none, none, none, none, none, none, some 1, some 2, some 3, some 4, some 5, some 6, some 7, some 8, some 9, some 10, some 11, some 12, some 13, some 14, some 15, some 16, some 17, some 18, some 19, some 20, some 21, some 22, some 23, some 24, some 25, some 26, none, none, none, none, some 27, some 28, some 29, none, some 30, some 31, none, some 32, some 33, some 34, some 35, some 36, none, none, none, some 37, none, none, none]) rfl dX11_init_18 lfX11_16 rfl (by decide) rfl (gm_fit_int _) (fun h => absurd h (by decide)) ?_
  refine kn_aload_n dX11_init_21 rfl ?_
  refine kn_iconst (v := 2) dX11_init_22 (by decide) ?_
  refine kn_newi (q := 1) (N := 2) dX11_init_23 rfl rfl (by decide) (by decide) (by decide) (by decide) (by decide) (by decide) ?_
  refine kn_putR (fl := [none, none, none, none, none, none, none, none, none, some 1, some 2, some 3, some 4, some 5, some 6, some 7, some 8, some 9, some 10, some 11, some 12, some 13, some 14, some 15, some 16, some 17, some 18, some 19, some 20, some 21, some 22, some 23, some 24, some 25, some 26, none, none, none, none, some 27, some 28, some 29, none, some 30, some 31, none, some 32, some 33, some 34, some 35, some 36, none, none, none, some 37, none, none, none]) rfl dX11_init_25 lfX11_19 rfl (by decide) rfl (fun _ => ⟨rfl, rfl⟩) rfl ?_
  refine kn_aload_n dX11_init_28 rfl ?_
  refine kn_iconst (v := 2) dX11_init_29 (by decide) ?_
  refine kn_newi (q := 2) (N := 2) dX11_init_30 rfl rfl (by decide) (by decide) (by decide) (by decide) (by decide) (by decide) ?_
  refine kn_putR (fl := [none, none, none, none, none, none, none, none, none, some 1, some 2, some 3, some 4, some 5, some 6, some 7, some 8, some 9, some 10, some 11, some 12, some 13, some 14, some 15, some 16, some 17, some 18, some 19, some 20, some 21, some 22, some 23, some 24, some 25, some 26, none, none, none, none, some 27, some 28, some 29, none, some 30, some 31, none, some 32, some 33, some 34, some 35, some 36, none, none, none, some 37, none, none, none]) rfl dX11_init_32 lfX11_23 rfl (by decide) rfl (fun _ => ⟨rfl, rfl⟩) rfl ?_
  refine kn_aload_n dX11_init_35 rfl ?_
  refine kn_iconst (v := 2) dX11_init_36 (by decide) ?_
  refine kn_newi (q := 3) (N := 2) dX11_init_37 rfl rfl (by decide) (by decide) (by decide) (by decide) (by decide) (by decide) ?_
  refine kn_putR (fl := [none, none, none, none, none, none, none, none, none, some 1, some 2, some 3, some 4, some 5, some 6, some 7, some 8, some 9, some 10, some 11, some 12, some 13, some 14, some 15, some 16, some 17, some 18, some 19, some 20, some 21, some 22, some 23, some 24, some 25, some 26, none, none, none, none, some 27, some 28, some 29, none, some 30, some 31, none, some 32, some 33, some 34, some 35, some 36, none, none, none, some 37, none, none, none]) rfl dX11_init_39 lfX11_26 rfl (by decide) rfl (fun _ => ⟨rfl, rfl⟩) rfl ?_
  refine kn_aload_n dX11_init_42 rfl ?_
  refine kn_iconst (v := 2) dX11_init_43 (by decide) ?_
  refine kn_newi (q := 4) (N := 2) dX11_init_44 rfl rfl (by decide) (by decide) (by decide) (by decide) (by decide) (by decide) ?_
  refine kn_putR (fl := [none, none, none, none, none, none, none, none, none, some 1, some 2, some 3, some 4, some 5, some 6, some 7, some 8, some 9, some 10, some 11, some 12, some 13, some 14, some 15, some 16, some 17, some 18, some 19, some 20, some 21, some 22, some 23, some 24, some 25, some 26, none, none, none, none, some 27, some 28, some 29, none, some 30, some 31, none, some 32, some 33, some 34, some 35, some 36, none, none, none, some 37, none, none, none]) rfl dX11_init_46 lfX11_29 rfl (by decide) rfl (fun _ => ⟨rfl, rfl⟩) rfl ?_
  refine kn_aload_n dX11_init_49 rfl ?_
  refine kn_iconst (v := 2) dX11_init_50 (by decide) ?_
  refine kn_newi (q := 5) (N := 2) dX11_init_51 rfl rfl (by decide) (by decide) (by decide) (by decide) (by decide) (by decide) ?_
  refine kn_putR (fl := [none, none, none, none, none, none, none, none, none, some 1, some 2, some 3, some 4, some 5, some 6, some 7, some 8, some 9, some 10, some 11, some 12, some 13, some 14, some 15, some 16, some 17, some 18, some 19, some 20, some 21, some 22, some 23, some 24, some 25, some 26, none, none, none, none, some 27, some 28, some 29, none, some 30, some 31, none, some 32, some 33, some 34, some 35, some 36, none, none, none, some 37, none, none, none]) rfl dX11_init_53 lfX11_32 rfl (by decide) rfl (fun _ => ⟨rfl, rfl⟩) rfl ?_
  refine kn_aload_n dX11_init_56 rfl ?_
  refine kn_iconst (v := 2) dX11_init_57 (by decide) ?_
  refine kn_newi (q := 6) (N := 2) dX11_init_58 rfl rfl (by decide) (by decide) (by decide) (by decide) (by decide) (by decide) ?_
  refine kn_putR (fl := [none, none, none, none, none, none, none, none, none, some 1, some 2, some 3, some 4, some 5, some 6, some 7, some 8, some 9, some 10, some 11, some 12, some 13, some 14, some 15, some 16, some 17, some 18, some 19, some 20, some 21, some 22, some 23, some 24, some 25, some 26, none, none, none, none, some 27, some 28, some 29, none, some 30, some 31, none, some 32, some 33, some 34, some 35, some 36, none, none, none, some 37, none, none, none]) rfl dX11_init_60 lfX11_35 rfl (by decide) rfl (fun _ => ⟨rfl, rfl⟩) rfl ?_
  refine kn_aload_n dX11_init_63 rfl ?_
  refine kn_iconst (v := 2) dX11_init_64 (by decide) ?_
  refine kn_newi (q := 7) (N := 2) dX11_init_65 rfl rfl (by decide) (by decide) (by decide) (by decide) (by decide) (by decide) ?_
  refine kn_putR (fl := [none, none, none, none, none, none, none, none, none, some 1, some 2, some 3, some 4, some 5, some 6, some 7, some 8, some 9, some 10, some 11, some 12, some 13, some 14, some 15, some 16, some 17, some 18, some 19, some 20, some 21, some 22, some 23, some 24, some 25, some 26, none, none, none, none, some 27, some 28, some 29, none, some 30, some 31, none, some 32, some 33, some 34, some 35, some 36, none, none, none, some 37, none, none, none]) rfl dX11_init_67 lfX11_38 rfl (by decide) rfl (fun _ => ⟨rfl, rfl⟩) rfl ?_
  refine kn_aload_n dX11_init_70 rfl ?_
  refine kn_iconst (v := 2) dX11_init_71 (by decide) ?_
  refine kn_newi (q := 8) (N := 2) dX11_init_72 rfl rfl (by decide) (by decide) (by decide) (by decide) (by decide) (by decide) ?_
  refine kn_dup dX11_init_74 ?_
  refine kn_iconst (v := 0) dX11_init_75 (by decide) ?_
  refine kn_iconst (v := -1) dX11_init_76 (by decide) ?_
  refine kn_iast (b := 0) (n := 2) dX11_init_77 rfl (by decide) ⟨by decide, by decide⟩ ?_
  refine kn_dup dX11_init_78 ?_
  refine kn_iconst (v := 1) dX11_init_79 (by decide) ?_
  refine kn_iconst (v := -1) dX11_init_80 (by decide) ?_
  refine kn_iast (b := 1) (n := 2) dX11_init_81 rfl (by decide) ⟨by decide, by decide⟩ ?_
  refine kn_putR (fl := [none, none, none, none, none, none, none, none, none, some 1, some 2, some 3, some 4, some 5, some 6, some 7, some 8, some 9, some 10, some 11, some 12, some 13, some 14, some 15, some 16, some 17, some 18, some 19, some 20, some 21, some 22, some 23, some 24, some 25, some 26, none, none, none, none, some 27, some 28, some 29, none, some 30, some 31, none, some 32, some 33, some 34, some 35, some 36, none, none, none, some 37, none, none, none]) rfl dX11_init_82 lfX11_41 rfl (by decide) rfl (fun _ => ⟨rfl, rfl⟩) rfl ?_
  refine kn_aload_n dX11_init_85 rfl ?_
  refine kn_iconst (v := 2) dX11_init_86 (by decide) ?_
  refine kn_newi (q := 9) (N := 2) dX11_init_87 rfl rfl (by decide) (by decide) (by decide) (by decide) (by decide) (by decide) ?_
  refine kn_putR (fl := [none, none, none, none, none, none, none, none, none, some 1, some 2, some 3, some 4, some 5, some 6, some 7, some 8, some 9, some 10, some 11, some 12, some 13, some 14, some 15, some 16, some 17, some 18, some 19, some 20, some 21, some 22, some 23, some 24, some 25, some 26, none, none, none, none, some 27, some 28, some 29, none, some 30, some 31, none, some 32, some 33, some 34, some 35, some 36, none, none, none, some 37, none, none, none]) rfl dX11_init_89 lfX11_44 rfl (by decide) rfl (fun _ => ⟨rfl, rfl⟩) rfl ?_
  refine kn_aload_n dX11_init_92 rfl ?_
  refine kn_iconst (v := 2) dX11_init_93 (by decide) ?_
  refine kn_newi (q := 10) (N := 2) dX11_init_94 rfl rfl (by decide) (by decide) (by decide) (by decide) (by decide) (by decide) ?_
  refine kn_dup dX11_init_96 ?_
  refine kn_iconst (v := 0) dX11_init_97 (by decide) ?_
  refine kn_iconst (v := -1) dX11_init_98 (by decide) ?_
  refine kn_iast (b := 0) (n := 2) dX11_init_99 rfl (by decide) ⟨by decide, by decide⟩ ?_
  refine kn_dup dX11_init_100 ?_
  refine kn_iconst (v := 1) dX11_init_101 (by decide) ?_
  refine kn_iconst (v := -1) dX11_init_102 (by decide) ?_
  refine kn_iast (b := 1) (n := 2) dX11_init_103 rfl (by decide) ⟨by decide, by decide⟩ ?_
  refine kn_putR (fl := [none, none, none, none, none, none, none, none, none, some 1, some 2, some 3, some 4, some 5, some 6, some 7, some 8, some 9, some 10, some 11, some 12, some 13, some 14, some 15, some 16, some 17, some 18, some 19, some 20, some 21, some 22, some 23, some 24, some 25, some 26, none, none, none, none, some 27, some 28, some 29, none, some 30, some 31, none, some 32, some 33, some 34, some 35, some 36, none, none, none, some 37, none, none, none]) rfl dX11_init_104 lfX11_47 rfl (by decide) rfl (fun _ => ⟨rfl, rfl⟩) rfl ?_
  refine kn_aload_n dX11_init_107 rfl ?_
  refine kn_iconst (v := 2) dX11_init_108 (by decide) ?_
  refine kn_newi (q := 11) (N := 2) dX11_init_109 rfl rfl (by decide) (by decide) (by decide) (by decide) (by decide) (by decide) ?_
  refine kn_putR (fl := [none, none, none, none, none, none, none, none, none, some 1, some 2, some 3, some 4, some 5, some 6, some 7, some 8, some 9, some 10, some 11, some 12, some 13, some 14, some 15, some 16, some 17, some 18, some 19, some 20, some 21, some 22, some 23, some 24, some 25, some 26, none, none, none, none, some 27, some 28, some 29, none, some 30, some 31, none, some 32, some 33, some 34, some 35, some 36, none, none, none, some 37, none, none, none]) rfl dX11_init_111 lfX11_50 rfl (by decide) rfl (fun _ => ⟨rfl, rfl⟩) rfl ?_
  refine kn_aload_n dX11_init_114 rfl ?_
  refine kn_iconst (v := 2) dX11_init_115 (by decide) ?_
  refine kn_newi (q := 12) (N := 2) dX11_init_116 rfl rfl (by decide) (by decide) (by decide) (by decide) (by decide) (by decide) ?_
  refine kn_putR (fl := [none, none, none, none, none, none, none, none, none, some 1, some 2, some 3, some 4, some 5, some 6, some 7, some 8, some 9, some 10, some 11, some 12, some 13, some 14, some 15, some 16, some 17, some 18, some 19, some 20, some 21, some 22, some 23, some 24, some 25, some 26, none, none, none, none, some 27, some 28, some 29, none, some 30, some 31, none, some 32, some 33, some 34, some 35, some 36, none, none, none, some 37, none, none, none]) rfl dX11_init_118 lfX11_53 rfl (by decide) rfl (fun _ => ⟨rfl, rfl⟩) rfl ?_
  refine kn_aload_n dX11_init_121 rfl ?_
  refine kn_iconst (v := 2) dX11_init_122 (by decide) ?_
  refine kn_newi (q := 13) (N := 2) dX11_init_123 rfl rfl (by decide) (by decide) (by decide) (by decide) (by decide) (by decide) ?_
  refine kn_putR (fl := [none, none, none, none, none, none, none, none, none, some 1, some 2, some 3, some 4, some 5, some 6, some 7, some 8, some 9, some 10, some 11, some 12, some 13, some 14, some 15, some 16, some 17, some 18, some 19, some 20, some 21, some 22, some 23, some 24, some 25, some 26, none, none, none, none, some 27, some 28, some 29, none, some 30, some 31, none, some 32, some 33, some 34, some 35, some 36, none, none, none, some 37, none, none, none]) rfl dX11_init_125 lfX11_56 rfl (by decide) rfl (fun _ => ⟨rfl, rfl⟩) rfl ?_
  refine kn_aload_n dX11_init_128 rfl ?_
  refine kn_iconst (v := 2) dX11_init_129 (by decide) ?_
  refine kn_newi (q := 14) (N := 2) dX11_init_130 rfl rfl (by decide) (by decide) (by decide) (by decide) (by decide) (by decide) ?_
  refine kn_putR (fl := [none, none, none, none, none, none, none, none, none, some 1, some 2, some 3, some 4, some 5, some 6, some 7, some 8, some 9, some 10, some 11, some 12, some 13, some 14, some 15, some 16, some 17, some 18, some 19, some 20, some 21, some 22, some 23, some 24, some 25, some 26, none, none, none, none, some 27, some 28, some 29, none, some 30, some 31, none, some 32, some 33, some 34, some 35, some 36, none, none, none, some 37, none, none, none]) rfl dX11_init_132 lfX11_59 rfl (by decide) rfl (fun _ => ⟨rfl, rfl⟩) rfl ?_
  refine kn_aload_n dX11_init_135 rfl ?_
  refine kn_iconst (v := 2) dX11_init_136 (by decide) ?_
  refine kn_newi (q := 15) (N := 2) dX11_init_137 rfl rfl (by decide) (by decide) (by decide) (by decide) (by decide) (by decide) ?_
  refine kn_dup dX11_init_139 ?_
  refine kn_iconst (v := 0) dX11_init_140 (by decide) ?_
  refine kn_iconst (v := -1) dX11_init_141 (by decide) ?_
  refine kn_iast (b := 0) (n := 2) dX11_init_142 rfl (by decide) ⟨by decide, by decide⟩ ?_
  refine kn_dup dX11_init_143 ?_
  refine kn_iconst (v := 1) dX11_init_144 (by decide) ?_
  refine kn_iconst (v := -1) dX11_init_145 (by decide) ?_
  refine kn_iast (b := 1) (n := 2) dX11_init_146 rfl (by decide) ⟨by decide, by decide⟩ ?_
  refine kn_putR (fl := [none, none, none, none, none, none, none, none, none, some 1, some 2, some 3, some 4, some 5, some 6, some 7, some 8, some 9, some 10, some 11, some 12, some 13, some 14, some 15, some 16, some 17, some 18, some 19, some 20, some 21, some 22, some 23, some 24, some 25, some 26, none, none, none, none, some 27, some 28, some 29, none, some 30, some 31, none, some 32, some 33, some 34, some 35, some 36, none, none, none, some 37, none, none, none]) rfl dX11_init_147 lfX11_62 rfl (by decide) rfl (fun _ => ⟨rfl, rfl⟩) rfl ?_
  refine kn_aload_n dX11_init_150 rfl ?_
  refine kn_iconst (v := 2) dX11_init_151 (by decide) ?_
  refine kn_newi (q := 16) (N := 2) dX11_init_152 rfl rfl (by decide) (by decide) (by decide) (by decide) (by decide) (by decide) ?_
  refine kn_dup dX11_init_154 ?_
  refine kn_iconst (v := 0) dX11_init_155 (by decide) ?_
  refine kn_iconst (v := -1) dX11_init_156 (by decide) ?_
  refine kn_iast (b := 0) (n := 2) dX11_init_157 rfl (by decide) ⟨by decide, by decide⟩ ?_
  refine kn_dup dX11_init_158 ?_
  refine kn_iconst (v := 1) dX11_init_159 (by decide) ?_
  refine kn_iconst (v := -1) dX11_init_160 (by decide) ?_
  refine kn_iast (b := 1) (n := 2) dX11_init_161 rfl (by decide) ⟨by decide, by decide⟩ ?_
  refine kn_putR (fl := [none, none, none, none, none, none, none, none, none, some 1, some 2, some 3, some 4, some 5, some 6, some 7, some 8, some 9, some 10, some 11, some 12, some 13, some 14, some 15, some 16, some 17, some 18, some 19, some 20, some 21, some 22, some 23, some 24, some 25, some 26, none, none, none, none, some 27, some 28, some 29, none, some 30, some 31, none, some 32, some 33, some 34, some 35, some 36, none, none, none, some 37, none, none, none]) rfl dX11_init_162 lfX11_65 rfl (by decide) rfl (fun _ => ⟨rfl, rfl⟩) rfl ?_
  refine kn_aload_n dX11_init_165 rfl ?_
  refine kn_iconst (v := 2) dX11_init_166 (by decide) ?_
  refine kn_newi (q := 17) (N := 2) dX11_init_167 rfl rfl (by decide) (by decide) (by decide) (by decide) (by decide) (by decide) ?_
  refine kn_putR (fl := [none, none, none, none, none, none, none, none, none, some 1, some 2, some 3, some 4, some 5, some 6, some 7, some 8, some 9, some 10, some 11, some 12, some 13, some 14, some 15, some 16, some 17, some 18, some 19, some 20, some 21, some 22, some 23, some 24, some 25, some 26, none, none, none, none, some 27, some 28, some 29, none, some 30, some 31, none, some 32, some 33, some 34, some 35, some 36, none, none, none, some 37, none, none, none]) rfl dX11_init_169 lfX11_68 rfl (by decide) rfl (fun _ => ⟨rfl, rfl⟩) rfl ?_
  refine kn_aload_n dX11_init_172 rfl ?_
  refine kn_iconst (v := 2) dX11_init_173 (by decide) ?_
  refine kn_newi (q := 18) (N := 2) dX11_init_174 rfl rfl (by decide) (by decide) (by decide) (by decide) (by decide) (by decide) ?_
  refine kn_putR (fl := [none, none, none, none, none, none, none, none, none, some 1, some 2, some 3, some 4, some 5, some 6, some 7, some 8, some 9, some 10, some 11, some 12, some 13, some 14, some 15, some 16, some 17, some 18, some 19, some 20, some 21, some 22, some 23, some 24, some 25, some 26, none, none, none, none, some 27, some 28, some 29, none, some 30, some 31, none, some 32, some 33, some 34, some 35, some 36, none, none, none, some 37, none, none, none]) rfl dX11_init_176 lfX11_71 rfl (by decide) rfl (fun _ => ⟨rfl, rfl⟩) rfl ?_
  refine kn_aload_n dX11_init_179 rfl ?_
  refine kn_sipush (v := 2400) dX11_init_180 (by decide) ?_
  refine kn_newi (q := 19) (N := 2400) dX11_init_183 rfl rfl (by decide) (by decide) (by decide) (by decide) (by decide) (by decide) ?_
  refine kn_putR (fl := [none, none, none, none, none, none, none, none, none, some 1, some 2, some 3, some 4, some 5, some 6, some 7, some 8, some 9, some 10, some 11, some 12, some 13, some 14, some 15, some 16, some 17, some 18, some 19, some 20, some 21, some 22, some 23, some 24, some 25, some 26, none, none, none, none, some 27, some 28, some 29, none, some 30, some 31, none, some 32, some 33, some 34, some 35, some 36, none, none, none, some 37, none, none, none]) rfl dX11_init_185 lfX11_74 rfl (by decide) rfl (fun _ => ⟨rfl, rfl⟩) rfl ?_
  refine kn_aload_n dX11_init_188 rfl ?_
  refine kn_bipush (v := 32) dX11_init_189 (by decide) ?_
  refine kn_newi (q := 20) (N := 32) dX11_init_191 rfl rfl (by decide) (by decide) (by decide) (by decide) (by decide) (by decide) ?_
  refine kn_putR (fl := [none, none, none, none, none, none, none, none, none, some 1, some 2, some 3, some 4, some 5, some 6, some 7, some 8, some 9, some 10, some 11, some 12, some 13, some 14, some 15, some 16, some 17, some 18, some 19, some 20, some 21, some 22, some 23, some 24, some 25, some 26, none, none, none, none, some 27, some 28, some 29, none, some 30, some 31, none, some 32, some 33, some 34, some 35, some 36, none, none, none, some 37, none, none, none]) rfl dX11_init_193 lfX11_77 rfl (by decide) rfl (fun _ => ⟨rfl, rfl⟩) rfl ?_
  refine kn_aload_n dX11_init_196 rfl ?_
  refine kn_bipush (v := 32) dX11_init_197 (by decide) ?_
  refine kn_newi (q := 21) (N := 32) dX11_init_199 rfl rfl (by decide) (by decide) (by decide) (by decide) (by decide) (by decide) ?_
  refine kn_putR (fl := [none, none, none, none, none, none, none, none, none, some 1, some 2, some 3, some 4, some 5, some 6, some 7, some 8, some 9, some 10, some 11, some 12, some 13, some 14, some 15, some 16, some 17, some 18, some 19, some 20, some 21, some 22, some 23, some 24, some 25, some 26, none, none, none, none, some 27, some 28, some 29, none, some 30, some 31, none, some 32, some 33, some 34, some 35, some 36, none, none, none, some 37, none, none, none]) rfl dX11_init_201 lfX11_80 rfl (by decide) rfl (fun _ => ⟨rfl, rfl⟩) rfl ?_
  refine kn_aload_n dX11_init_204 rfl ?_
  refine kn_bipush (v := 32) dX11_init_205 (by decide) ?_
  refine kn_newi (q := 22) (N := 32) dX11_init_207 rfl rfl (by decide) (by decide) (by decide) (by decide) (by decide) (by decide) ?_
  refine kn_putR (fl := [none, none, none, none, none, none, none, none, none, some 1, some 2, some 3, some 4, some 5, some 6, some 7, some 8, some 9, some 10, some 11, some 12, some 13, some 14, some 15, some 16, some 17, some 18, some 19, some 20, some 21, some 22, some 23, some 24, some 25, some 26, none, none, none, none, some 27, some 28, some 29, none, some 30, some 31, none, some 32, some 33, some 34, some 35, some 36, none, none, none, some 37, none, none, none]) rfl dX11_init_209 lfX11_83 rfl (by decide) rfl (fun _ => ⟨rfl, rfl⟩) rfl ?_
  refine kn_aload_n dX11_init_212 rfl ?_
  refine kn_bipush (v := 32) dX11_init_213 (by decide) ?_
  refine kn_newi (q := 23) (N := 32) dX11_init_215 rfl rfl (by decide) (by decide) (by decide) (by decide) (by decide) (by decide) ?_
  refine kn_putR (fl := [none, none, none, none, none, none, none, none, none, some 1, some 2, some 3, some 4, some 5, some 6, some 7, some 8, some 9, some 10, some 11, some 12, some 13, some 14, some 15, some 16, some 17, some 18, some 19, some 20, some 21, some 22, some 23, some 24, some 25, some 26, none, none, none, none, some 27, some 28, some 29, none, some 30, some 31, none, some 32, some 33, some 34, some 35, some 36, none, none, none, some 37, none, none, none]) rfl dX11_init_217 lfX11_86 rfl (by decide) rfl (fun _ => ⟨rfl, rfl⟩) rfl ?_
  refine kn_aload_n dX11_init_220 rfl ?_
  refine kn_bipush (v := 8) dX11_init_221 (by decide) ?_
  refine kn_newi (q := 24) (N := 8) dX11_init_223 rfl rfl (by decide) (by decide) (by decide) (by decide) (by decide) (by decide) ?_
  refine kn_putR (fl := [none, none, none, none, none, none, none, none, none, some 1, some 2, some 3, some 4, some 5, some 6, some 7, some 8, some 9, some 10, some 11, some 12, some 13, some 14, some 15, some 16, some 17, some 18, some 19, some 20, some 21, some 22, some 23, some 24, some 25, some 26, none, none, none, none, some 27, some 28, some 29, none, some 30, some 31, none, some 32, some 33, some 34, some 35, some 36, none, none, none, some 37, none, none, none]) rfl dX11_init_225 lfX11_89 rfl (by decide) rfl (fun _ => ⟨rfl, rfl⟩) rfl ?_
  refine kn_aload_n dX11_init_228 rfl ?_
  refine kn_bipush (v := 8) dX11_init_229 (by decide) ?_
  refine kn_newi (q := 25) (N := 8) dX11_init_231 rfl rfl (by decide) (by decide) (by decide) (by decide) (by decide) (by decide) ?_
  refine kn_putR (fl := [none, none, none, none, none, none, none, none, none, some 1, some 2, some 3, some 4, some 5, some 6, some 7, some 8, some 9, some 10, some 11, some 12, some 13, some 14, some 15, some 16, some 17, some 18, some 19, some 20, some 21, some 22, some 23, some 24, some 25, some 26, none, none, none, none, some 27, some 28, some 29, none, some 30, some 31, none, some 32, some 33, some 34, some 35, some 36, none, none, none, some 37, none, none, none]) rfl dX11_init_233 lfX11_92 rfl (by decide) rfl (fun _ => ⟨rfl, rfl⟩) rfl ?_
  refine kn_aload_n dX11_init_236 rfl ?_
  refine kn_bipush (v := 8) dX11_init_237 (by decide) ?_
  refine kn_newi (q := 26) (N := 8) dX11_init_239 rfl rfl (by decide) (by decide) (by decide) (by decide) (by decide) (by decide) ?_
  refine kn_putR (fl := [none, none, none, none, none, none, none, none, none, some 1, some 2, some 3, some 4, some 5, some 6, some 7, some 8, some 9, some 10, some 11, some 12, some 13, some 14, some 15, some 16, some 17, some 18, some 19, some 20, some 21, some 22, some 23, some 24, some 25, some 26, none, none, none, none, some 27, some 28, some 29, none, some 30, some 31, none, some 32, some 33, some 34, some 35, some 36, none, none, none, some 37, none, none, none]) rfl dX11_init_241 lfX11_95 rfl (by decide) rfl (fun _ => ⟨rfl, rfl⟩) rfl ?_
  refine kn_aload_n dX11_init_244 rfl ?_
  refine kn_iconst (v := -1) dX11_init_245 (by decide) ?_
  refine kn_putI (fl := [none, none, none, none, none, none, none, none, none, some 1, some 2, some 3, some 4, some 5, some 6, some 7, some 8, some 9, some 10, some 11, some 12, some 13, some 14, some 15, some 16, some 17, some 18, some 19, some 20, some 21, some 22, some 23, some 24, some 25, some 26, none, none, none, none, some 27, some 28, some 29, none, some 30, some 31, none, some 32, some 33, some 34, some 35, some 36, none, none, none, some 37, none, none, none]) rfl dX11_init_246 lfX11_98 rfl (by decide) rfl (gm_fit_int _) (fun h => absurd h (by decide)) ?_
  refine kn_aload_n dX11_init_249 rfl ?_
  refine kn_iconst (v := -1) dX11_init_250 (by decide) ?_
  refine kn_putI (fl := [none, none, none, none, none, none, none, none, none, some 1, some 2, some 3, some 4, some 5, some 6, some 7, some 8, some 9, some 10, some 11, some 12, some 13, some 14, some 15, some 16, some 17, some 18, some 19, some 20, some 21, some 22, some 23, some 24, some 25, some 26, none, none, none, none, some 27, some 28, some 29, none, some 30, some 31, none, some 32, some 33, some 34, some 35, some 36, none, none, none, some 37, none, none, none]) rfl dX11_init_251 lfX11_101 rfl (by decide) rfl (gm_fit_int _) (fun h => absurd h (by decide)) ?_
  refine kn_aload_n dX11_init_254 rfl ?_
  refine kn_bipush (v := 16) dX11_init_255 (by decide) ?_
  refine kn_newi (q := 27) (N := 16) dX11_init_257 rfl rfl (by decide) (by decide) (by decide) (by decide) (by decide) (by decide) ?_
  refine kn_putR (fl := [none, none, none, none, none, none, none, none, none, some 1, some 2, some 3, some 4, some 5, some 6, some 7, some 8, some 9, some 10, some 11, some 12, some 13, some 14, some 15, some 16, some 17, some 18, some 19, some 20, some 21, some 22, some 23, some 24, some 25, some 26, none, none, none, none, some 27, some 28, some 29, none, some 30, some 31, none, some 32, some 33, some 34, some 35, some 36, none, none, none, some 37, none, none, none]) rfl dX11_init_259 lfX11_104 rfl (by decide) rfl (fun _ => ⟨rfl, rfl⟩) rfl ?_
  refine kn_aload_n dX11_init_262 rfl ?_
  refine kn_bipush (v := 16) dX11_init_263 (by decide) ?_
  refine kn_newi (q := 28) (N := 16) dX11_init_265 rfl rfl (by decide) (by decide) (by decide) (by decide) (by decide) (by decide) ?_
  refine kn_putR (fl := [none, none, none, none, none, none, none, none, none, some 1, some 2, some 3, some 4, some 5, some 6, some 7, some 8, some 9, some 10, some 11, some 12, some 13, some 14, some 15, some 16, some 17, some 18, some 19, some 20, some 21, some 22, some 23, some 24, some 25, some 26, none, none, none, none, some 27, some 28, some 29, none, some 30, some 31, none, some 32, some 33, some 34, some 35, some 36, none, none, none, some 37, none, none, none]) rfl dX11_init_267 lfX11_107 rfl (by decide) rfl (fun _ => ⟨rfl, rfl⟩) rfl ?_
  refine kn_aload_n dX11_init_270 rfl ?_
  refine kn_bipush (v := 90) dX11_init_271 (by decide) ?_
  refine kn_newi (q := 29) (N := 90) dX11_init_273 rfl rfl (by decide) (by decide) (by decide) (by decide) (by decide) (by decide) ?_
  refine kn_putR (fl := [none, none, none, none, none, none, none, none, none, some 1, some 2, some 3, some 4, some 5, some 6, some 7, some 8, some 9, some 10, some 11, some 12, some 13, some 14, some 15, some 16, some 17, some 18, some 19, some 20, some 21, some 22, some 23, some 24, some 25, some 26, none, none, none, none, some 27, some 28, some 29, none, some 30, some 31, none, some 32, some 33, some 34, some 35, some 36, none, none, none, some 37, none, none, none]) rfl dX11_init_275 lfX11_110 rfl (by decide) rfl (fun _ => ⟨rfl, rfl⟩) rfl ?_
  refine kn_aload_n dX11_init_278 rfl ?_
  refine kn_sipush (v := 216) dX11_init_279 (by decide) ?_
  refine kn_newi (q := 30) (N := 216) dX11_init_282 rfl rfl (by decide) (by decide) (by decide) (by decide) (by decide) (by decide) ?_
  refine kn_putR (fl := [none, none, none, none, none, none, none, none, none, some 1, some 2, some 3, some 4, some 5, some 6, some 7, some 8, some 9, some 10, some 11, some 12, some 13, some 14, some 15, some 16, some 17, some 18, some 19, some 20, some 21, some 22, some 23, some 24, some 25, some 26, none, none, none, none, some 27, some 28, some 29, none, some 30, some 31, none, some 32, some 33, some 34, some 35, some 36, none, none, none, some 37, none, none, none]) rfl dX11_init_284 lfX11_113 rfl (by decide) rfl (fun _ => ⟨rfl, rfl⟩) rfl ?_
  refine kn_aload_n dX11_init_287 rfl ?_
  refine kn_bipush (v := 9) dX11_init_288 (by decide) ?_
  refine kn_newi (q := 31) (N := 9) dX11_init_290 rfl rfl (by decide) (by decide) (by decide) (by decide) (by decide) (by decide) ?_
  refine kn_putR (fl := [none, none, none, none, none, none, none, none, none, some 1, some 2, some 3, some 4, some 5, some 6, some 7, some 8, some 9, some 10, some 11, some 12, some 13, some 14, some 15, some 16, some 17, some 18, some 19, some 20, some 21, some 22, some 23, some 24, some 25, some 26, none, none, none, none, some 27, some 28, some 29, none, some 30, some 31, none, some 32, some 33, some 34, some 35, some 36, none, none, none, some 37, none, none, none]) rfl dX11_init_292 lfX11_116 rfl (by decide) rfl (fun _ => ⟨rfl, rfl⟩) rfl ?_
  refine kn_aload_n dX11_init_295 rfl ?_
  refine kn_bipush (v := 18) dX11_init_296 (by decide) ?_
  refine kn_newi (q := 32) (N := 18) dX11_init_298 rfl rfl (by decide) (by decide) (by decide) (by decide) (by decide) (by decide) ?_
  refine kn_putR (fl := [none, none, none, none, none, none, none, none, none, some 1, some 2, some 3, some 4, some 5, some 6, some 7, some 8, some 9, some 10, some 11, some 12, some 13, some 14, some 15, some 16, some 17, some 18, some 19, some 20, some 21, some 22, some 23, some 24, some 25, some 26, none, none, none, none, some 27, some 28, some 29, none, some 30, some 31, none, some 32, some 33, some 34, some 35, some 36, none, none, none, some 37, none, none, none]) rfl dX11_init_300 lfX11_119 rfl (by decide) rfl (fun _ => ⟨rfl, rfl⟩) rfl ?_
  refine kn_aload_n dX11_init_303 rfl ?_
  refine kn_bipush (v := 40) dX11_init_304 (by decide) ?_
  refine kn_newi (q := 33) (N := 40) dX11_init_306 rfl rfl (by decide) (by decide) (by decide) (by decide) (by decide) (by decide) ?_
  refine kn_putR (fl := [none, none, none, none, none, none, none, none, none, some 1, some 2, some 3, some 4, some 5, some 6, some 7, some 8, some 9, some 10, some 11, some 12, some 13, some 14, some 15, some 16, some 17, some 18, some 19, some 20, some 21, some 22, some 23, some 24, some 25, some 26, none, none, none, none, some 27, some 28, some 29, none, some 30, some 31, none, some 32, some 33, some 34, some 35, some 36, none, none, none, some 37, none, none, none]) rfl dX11_init_308 lfX11_122 rfl (by decide) rfl (fun _ => ⟨rfl, rfl⟩) rfl ?_
  refine kn_aload_n dX11_init_311 rfl ?_
  refine kn_bipush (v := 20) dX11_init_312 (by decide) ?_
  refine kn_newi (q := 34) (N := 20) dX11_init_314 rfl rfl (by decide) (by decide) (by decide) (by decide) (by decide) (by decide) ?_
  refine kn_putR (fl := [none, none, none, none, none, none, none, none, none, some 1, some 2, some 3, some 4, some 5, some 6, some 7, some 8, some 9, some 10, some 11, some 12, some 13, some 14, some 15, some 16, some 17, some 18, some 19, some 20, some 21, some 22, some 23, some 24, some 25, some 26, none, none, none, none, some 27, some 28, some 29, none, some 30, some 31, none, some 32, some 33, some 34, some 35, some 36, none, none, none, some 37, none, none, none]) rfl dX11_init_316 lfX11_125 rfl (by decide) rfl (fun _ => ⟨rfl, rfl⟩) rfl ?_
  refine kn_aload_n dX11_init_319 rfl ?_
  refine kn_bipush (v := 20) dX11_init_320 (by decide) ?_
  refine kn_newi (q := 35) (N := 20) dX11_init_322 rfl rfl (by decide) (by decide) (by decide) (by decide) (by decide) (by decide) ?_
  refine kn_putR (fl := [none, none, none, none, none, none, none, none, none, some 1, some 2, some 3, some 4, some 5, some 6, some 7, some 8, some 9, some 10, some 11, some 12, some 13, some 14, some 15, some 16, some 17, some 18, some 19, some 20, some 21, some 22, some 23, some 24, some 25, some 26, none, none, none, none, some 27, some 28, some 29, none, some 30, some 31, none, some 32, some 33, some 34, some 35, some 36, none, none, none, some 37, none, none, none]) rfl dX11_init_324 lfX11_128 rfl (by decide) rfl (fun _ => ⟨rfl, rfl⟩) rfl ?_
  refine kn_aload_n dX11_init_327 rfl ?_
  refine kn_bipush (v := 20) dX11_init_328 (by decide) ?_
  refine kn_newi (q := 36) (N := 20) dX11_init_330 rfl rfl (by decide) (by decide) (by decide) (by decide) (by decide) (by decide) ?_
  refine kn_putR (fl := [none, none, none, none, none, none, none, none, none, some 1, some 2, some 3, some 4, some 5, some 6, some 7, some 8, some 9, some 10, some 11, some 12, some 13, some 14, some 15, some 16, some 17, some 18, some 19, some 20, some 21, some 22, some 23, some 24, some 25, some 26, none, none, none, none, some 27, some 28, some 29, none, some 30, some 31, none, some 32, some 33, some 34, some 35, some 36, none, none, none, some 37, none, none, none]) rfl dX11_init_332 lfX11_131 rfl (by decide) rfl (fun _ => ⟨rfl, rfl⟩) rfl ?_
  refine kn_aload_n dX11_init_335 rfl ?_
  refine kn_sipush (v := 3400) dX11_init_336 (by decide) ?_
  refine kn_newi (q := 37) (N := 3400) dX11_init_339 rfl rfl (by decide) (by decide) (by decide) (by decide) (by decide) (by decide) ?_
  refine kn_putR (fl := [none, none, none, none, none, none, none, none, none, some 1, some 2, some 3, some 4, some 5, some 6, some 7, some 8, some 9, some 10, some 11, some 12, some 13, some 14, some 15, some 16, some 17, some 18, some 19, some 20, some 21, some 22, some 23, some 24, some 25, some 26, none, none, none, none, some 27, some 28, some 29, none, some 30, some 31, none, some 32, some 33, some 34, some 35, some 36, none, none, none, some 37, none, none, none]) rfl dX11_init_341 lfX11_134 rfl (by decide) rfl (fun _ => ⟨rfl, rfl⟩) rfl ?_
  exact kn_vret dX11_init_344 rfl rfl rfl rfl
